def tb : List Cond := lw_tbl.filter goodWord
theorem tb_good (w : Cond) (h : w ∈ tb) : (w.onTables && w.keeps) = true ∨ ∃ ty, w = .arrayClass ty := good_of_word (List.mem_filter.mp h).2
theorem mt {w : Cond} (i : Nat) (h : lw_tbl[i]? = some w) (hg : goodWord w = true) : w ∈ tb := List.mem_filter.mpr ⟨List.mem_of_getElem? h, hg⟩
theorem gi_t {c : Cond} (hc : c ∈ tb) : GoodIn tb (c :: tb) := by
  intro w hw
  rcases List.mem_cons.mp hw with rfl | h
  · exact ⟨hc, tb_good _ hc⟩
  · exact ⟨h, tb_good _ h⟩
theorem mk_s {R : Room} {s : State} {args : Array Value} {own : String} {index maxL mc ms : Nat} {y : MethodName} {bytes : ByteArray} {ret : Option FieldType} {rm : Room} (n : Nat) (hk : ∀ w ∈ tb, w.before args s = true) (hc : Cond.code y bytes maxL ret ∈ tb) (hl : Cond.methodLink own index y ∈ tb) (hs : Cond.static y ∈ tb) (hi : Cond.initialized y.cls ∈ tb) (hrc : rm.cells = mc) (hrs : rm.slots = ms)
    (hd : y.cls ≠ "java/lang/invoke/MethodHandle" ∧ y.cls ≠ "java/lang/invoke/VarHandle" ∧ (parseMethodDescriptor y.desc).map (fun d => d.parameters.length) = some n) (hR : rm.frames + 1 ≤ R.frames ∧ 8 + (maxL + 11) + rm.locals ≤ R.locals) :
    CallB R s args own index y bytes maxL ret (Cond.code y bytes maxL ret :: tb) rm mc ms n ∧ (Cond.static y).before args s = true := ⟨callB_of n hk (gi_t hc) rfl hrc hrs (hk _ hi) (hk _ hl) hd hR, hk _ hs⟩
theorem mk_v {R : Room} {s : State} {args : Array Value} {own C : String} {index maxL mc ms : Nat} {y : MethodName} {bytes : ByteArray} {ret : Option FieldType} {rm : Room} (n : Nat) (hk : ∀ w ∈ tb, w.before args s = true) (hc : Cond.code y bytes maxL ret ∈ tb) (hl : Cond.methodLink own index y ∈ tb) (hs : Cond.instanceMethod y ∈ tb) (hse : Cond.selects C y y ∈ tb) (hi : Cond.initialized y.cls ∈ tb) (hrc : rm.cells = mc) (hrs : rm.slots = ms)
    (hd : y.cls ≠ "java/lang/invoke/MethodHandle" ∧ y.cls ≠ "java/lang/invoke/VarHandle" ∧ (parseMethodDescriptor y.desc).map (fun d => d.parameters.length) = some n) (hR : rm.frames + 1 ≤ R.frames ∧ 8 + (maxL + 11) + rm.locals ≤ R.locals) :
    CallW R s args own C index y bytes maxL ret (Cond.code y bytes maxL ret :: tb) rm mc ms n := ⟨callB_of n hk (gi_t hc) rfl hrc hrs (hk _ hi) (hk _ hl) hd hR, hk _ hs, hk _ hse⟩
/-- a truth as the machine's int -/
def bI (b : Bool) : Int32 := if b = true then 1 else 0
theorem nar_bI (b : Bool) : narrow .boolean (.int (bI b)) = .int (bI b) := by cases b <;> rfl
theorem fit_bI (b : Bool) : fits .boolean (.int (bI b)) = true := by cases b <;> rfl
theorem bI_0 {b : Bool} : bI b = 0 ↔ b = false := by cases b <;> simp [bI]
theorem bI_n {b : Bool} : ¬ bI b = 0 ↔ b = true := by cases b <;> simp [bI]
/-- the words of nest mates, which ride beside the world -/
def isN : Cond → Bool
  | .fieldLinkNest .. => true
  | .methodLinkNest .. => true
  | _ => false
def nst : List Cond := lw_tbl.filter isN
theorem nn {w : Cond} (i : Nat) (h : lw_tbl[i]? = some w) (hg : isN w = true) : w ∈ nst := List.mem_filter.mpr ⟨List.mem_of_getElem? h, hg⟩
def F_S : u_T := fun k => match k with
  | 0 => ("SignMachine", "machine", "LSignMachine$Machine;", true)
  | _ => ("SignMachine", "assembler", "LSignMachine$Assembler;", false)
def ft_S : Nat → FieldType := fun k => match k with
  | 0 => .object "SignMachine$Machine"
  | _ => .object "SignMachine$Assembler"
theorem fn_S : ∀ a, a < 2 → ∀ b, b < 2 → a ≠ b → (F_S a).2.1 ≠ (F_S b).2.1 := by decide +kernel
theorem ft_S_ok : ∀ k, k < 2 → parseFieldDescriptor (F_S k).2.2.1 = some (ft_S k) := by decide +kernel
theorem fi_S : ∀ w ∈ u_ws "SignMachine" F_S 2, w ∈ tb := fun w h => List.mem_filter.mpr ((show ∀ w ∈ u_ws "SignMachine" F_S 2, w ∈ lw_tbl ∧ goodWord w = true from by decide +kernel) w h)
def F_M : u_T := fun k => match k with
  | 0 => ("SignMachine$Machine", "memory", "[I", true)
  | 1 => ("SignMachine$Machine", "registers", "[I", true)
  | 2 => ("SignMachine$Machine", "firstTape", "LSignMachine$Tape;", true)
  | 3 => ("SignMachine$Machine", "secondTape", "LSignMachine$Tape;", true)
  | 4 => ("SignMachine$Machine", "toggle", "Z", false)
  | 5 => ("SignMachine$Machine", "indicator", "I", false)
  | 6 => ("SignMachine$Machine", "time", "I", false)
  | 7 => ("SignMachine$Machine", "next", "I", false)
  | 8 => ("SignMachine$Machine", "ending", "I", false)
  | 9 => ("SignMachine$Machine", "code", "I", false)
  | 10 => ("SignMachine$Machine", "field", "I", false)
  | 11 => ("SignMachine$Machine", "index", "I", false)
  | 12 => ("SignMachine$Machine", "m", "I", false)
  | _ => ("SignMachine$Machine", "signOfZero", "I", false)
def ft_M : Nat → FieldType := fun k => match k with
  | 0 => .array .int
  | 1 => .array .int
  | 2 => .object "SignMachine$Tape"
  | 3 => .object "SignMachine$Tape"
  | 4 => .boolean
  | 5 => .int
  | 6 => .int
  | 7 => .int
  | 8 => .int
  | 9 => .int
  | 10 => .int
  | 11 => .int
  | 12 => .int
  | _ => .int
theorem fn_M : ∀ a, a < 14 → ∀ b, b < 14 → a ≠ b → (F_M a).2.1 ≠ (F_M b).2.1 := by decide +kernel
theorem ft_M_ok : ∀ k, k < 14 → parseFieldDescriptor (F_M k).2.2.1 = some (ft_M k) := by decide +kernel
theorem fi_M : ∀ w ∈ u_ws "SignMachine$Machine" F_M 14, w ∈ tb := fun w h => List.mem_filter.mpr ((show ∀ w ∈ u_ws "SignMachine$Machine" F_M 14, w ∈ lw_tbl ∧ goodWord w = true from by decide +kernel) w h)
def F_T : u_T := fun k => match k with
  | 0 => ("SignMachine$Tape", "place", "I", false)
  | _ => ("SignMachine$Tape", "words", "[I", false)
def ft_T : Nat → FieldType := fun k => match k with
  | 0 => .int
  | _ => .array .int
theorem fn_T : ∀ a, a < 2 → ∀ b, b < 2 → a ≠ b → (F_T a).2.1 ≠ (F_T b).2.1 := by decide +kernel
theorem ft_T_ok : ∀ k, k < 2 → parseFieldDescriptor (F_T k).2.2.1 = some (ft_T k) := by decide +kernel
theorem fi_T : ∀ w ∈ u_ws "SignMachine$Tape" F_T 2, w ∈ tb := fun w h => List.mem_filter.mpr ((show ∀ w ∈ u_ws "SignMachine$Tape" F_T 2, w ∈ lw_tbl ∧ goodWord w = true from by decide +kernel) w h)
def F_A : u_T := fun k => match k with
  | 0 => ("SignMachine$Assembler", "source", "LSignMachine$Source;", true)
  | 1 => ("SignMachine$Assembler", "names", "LSignMachine$Names;", true)
  | 2 => ("SignMachine$Assembler", "output", "LSignMachine$Output;", true)
  | 3 => ("SignMachine$Assembler", "fault", "I", false)
  | 4 => ("SignMachine$Assembler", "faultLine", "I", false)
  | 5 => ("SignMachine$Assembler", "firstFree", "I", false)
  | 6 => ("SignMachine$Assembler", "start", "I", false)
  | 7 => ("SignMachine$Assembler", "place", "I", false)
  | 8 => ("SignMachine$Assembler", "ended", "Z", false)
  | 9 => ("SignMachine$Assembler", "label", "J", false)
  | 10 => ("SignMachine$Assembler", "labelValue", "I", false)
  | 11 => ("SignMachine$Assembler", "op", "LSignMachine$Op;", false)
  | 12 => ("SignMachine$Assembler", "code", "I", false)
  | 13 => ("SignMachine$Assembler", "kind", "I", false)
  | _ => ("SignMachine$Assembler", "goal", "I", false)
def ft_A : Nat → FieldType := fun k => match k with
  | 0 => .object "SignMachine$Source"
  | 1 => .object "SignMachine$Names"
  | 2 => .object "SignMachine$Output"
  | 3 => .int
  | 4 => .int
  | 5 => .int
  | 6 => .int
  | 7 => .int
  | 8 => .boolean
  | 9 => .long
  | 10 => .int
  | 11 => .object "SignMachine$Op"
  | 12 => .int
  | 13 => .int
  | _ => .int
theorem fn_A : ∀ a, a < 15 → ∀ b, b < 15 → a ≠ b → (F_A a).2.1 ≠ (F_A b).2.1 := by decide +kernel
theorem ft_A_ok : ∀ k, k < 15 → parseFieldDescriptor (F_A k).2.2.1 = some (ft_A k) := by decide +kernel
theorem fi_A : ∀ w ∈ u_ws "SignMachine$Assembler" F_A 15, w ∈ tb := fun w h => List.mem_filter.mpr ((show ∀ w ∈ u_ws "SignMachine$Assembler" F_A 15, w ∈ lw_tbl ∧ goodWord w = true from by decide +kernel) w h)
def F_R : u_T := fun k => match k with
  | 0 => ("SignMachine$Source", "bytes", "[B", true)
  | 1 => ("SignMachine$Source", "length", "I", false)
  | 2 => ("SignMachine$Source", "line", "I", false)
  | 3 => ("SignMachine$Source", "at", "I", false)
  | 4 => ("SignMachine$Source", "stop", "I", false)
  | 5 => ("SignMachine$Source", "following", "I", false)
  | 6 => ("SignMachine$Source", "kind", "I", false)
  | 7 => ("SignMachine$Source", "name", "J", false)
  | _ => ("SignMachine$Source", "number", "I", false)
def ft_R : Nat → FieldType := fun k => match k with
  | 0 => .array .byte
  | 1 => .int
  | 2 => .int
  | 3 => .int
  | 4 => .int
  | 5 => .int
  | 6 => .int
  | 7 => .long
  | _ => .int
theorem fn_R : ∀ a, a < 9 → ∀ b, b < 9 → a ≠ b → (F_R a).2.1 ≠ (F_R b).2.1 := by decide +kernel
theorem ft_R_ok : ∀ k, k < 9 → parseFieldDescriptor (F_R k).2.2.1 = some (ft_R k) := by decide +kernel
theorem fi_R : ∀ w ∈ u_ws "SignMachine$Source" F_R 9, w ∈ tb := fun w h => List.mem_filter.mpr ((show ∀ w ∈ u_ws "SignMachine$Source" F_R 9, w ∈ lw_tbl ∧ goodWord w = true from by decide +kernel) w h)
def F_N : u_T := fun k => match k with
  | 0 => ("SignMachine$Names", "names", "[J", true)
  | 1 => ("SignMachine$Names", "values", "[I", true)
  | 2 => ("SignMachine$Names", "told", "[Z", true)
  | 3 => ("SignMachine$Names", "localValues", "[I", true)
  | 4 => ("SignMachine$Names", "localTold", "[Z", true)
  | 5 => ("SignMachine$Names", "count", "I", false)
  | _ => ("SignMachine$Names", "symbols", "I", false)
def ft_N : Nat → FieldType := fun k => match k with
  | 0 => .array .long
  | 1 => .array .int
  | 2 => .array .boolean
  | 3 => .array .int
  | 4 => .array .boolean
  | 5 => .int
  | _ => .int
theorem fn_N : ∀ a, a < 7 → ∀ b, b < 7 → a ≠ b → (F_N a).2.1 ≠ (F_N b).2.1 := by decide +kernel
theorem ft_N_ok : ∀ k, k < 7 → parseFieldDescriptor (F_N k).2.2.1 = some (ft_N k) := by decide +kernel
theorem fi_N : ∀ w ∈ u_ws "SignMachine$Names" F_N 7, w ∈ tb := fun w h => List.mem_filter.mpr ((show ∀ w ∈ u_ws "SignMachine$Names" F_N 7, w ∈ lw_tbl ∧ goodWord w = true from by decide +kernel) w h)
def F_O : u_T := fun k => match k with
  | 0 => ("SignMachine$Output", "places", "[I", true)
  | 1 => ("SignMachine$Output", "words", "[I", true)
  | 2 => ("SignMachine$Output", "lines", "[I", true)
  | 3 => ("SignMachine$Output", "kinds", "[B", true)
  | 4 => ("SignMachine$Output", "goals", "[I", true)
  | 5 => ("SignMachine$Output", "lastOpen", "[I", true)
  | _ => ("SignMachine$Output", "count", "I", false)
def ft_O : Nat → FieldType := fun k => match k with
  | 0 => .array .int
  | 1 => .array .int
  | 2 => .array .int
  | 3 => .array .byte
  | 4 => .array .int
  | 5 => .array .int
  | _ => .int
theorem fn_O : ∀ a, a < 7 → ∀ b, b < 7 → a ≠ b → (F_O a).2.1 ≠ (F_O b).2.1 := by decide +kernel
theorem ft_O_ok : ∀ k, k < 7 → parseFieldDescriptor (F_O k).2.2.1 = some (ft_O k) := by decide +kernel
theorem fi_O : ∀ w ∈ u_ws "SignMachine$Output" F_O 7, w ∈ tb := fun w h => List.mem_filter.mpr ((show ∀ w ∈ u_ws "SignMachine$Output" F_O 7, w ∈ lw_tbl ∧ goodWord w = true from by decide +kernel) w h)
abbrev classes : List vw_C := [("SignMachine", F_S, 2), ("SignMachine$Machine", F_M, 14), ("SignMachine$Tape", F_T, 2), ("SignMachine$Assembler", F_A, 15), ("SignMachine$Source", F_R, 9), ("SignMachine$Names", F_N, 7), ("SignMachine$Output", F_O, 7)]
abbrev b_W_isWord : ByteArray := prog_9_method_2_code
abbrev y_W_isWord : MethodName := ⟨"SignMachine$Word", "isWord", "(II)Z"⟩
theorem h_W_isWord : (y_W_isWord).cls ≠ "java/lang/invoke/MethodHandle" ∧ (y_W_isWord).cls ≠ "java/lang/invoke/VarHandle" ∧ (parseMethodDescriptor (y_W_isWord).desc).map (fun d => d.parameters.length) = some 2 := by decide +kernel
theorem d_W_isWord_0 : decode b_W_isWord 0 = .ok (.iload_n 0, 1) := by decide +kernel
theorem d_W_isWord_1 : decode b_W_isWord 1 = .ok (.ifCond .eq 8, 3) := by decide +kernel
theorem d_W_isWord_4 : decode b_W_isWord 4 = .ok (.iload_n 0, 1) := by decide +kernel
theorem d_W_isWord_5 : decode b_W_isWord 5 = .ok (.iconst 1, 1) := by decide +kernel
theorem d_W_isWord_6 : decode b_W_isWord 6 = .ok (.if_icmp .ne 17, 3) := by decide +kernel
theorem d_W_isWord_9 : decode b_W_isWord 9 = .ok (.iload_n 1, 1) := by decide +kernel
theorem d_W_isWord_10 : decode b_W_isWord 10 = .ok (.ifCond .lt 13, 3) := by decide +kernel
theorem d_W_isWord_13 : decode b_W_isWord 13 = .ok (.iload_n 1, 1) := by decide +kernel
theorem d_W_isWord_14 : decode b_W_isWord 14 = .ok (.ldc 9, 2) := by decide +kernel
theorem d_W_isWord_16 : decode b_W_isWord 16 = .ok (.if_icmp .gt 7, 3) := by decide +kernel
theorem d_W_isWord_19 : decode b_W_isWord 19 = .ok (.iconst 1, 1) := by decide +kernel
theorem d_W_isWord_20 : decode b_W_isWord 20 = .ok (.goto 4, 3) := by decide +kernel
theorem d_W_isWord_23 : decode b_W_isWord 23 = .ok (.iconst 0, 1) := by decide +kernel
theorem d_W_isWord_24 : decode b_W_isWord 24 = .ok (.ireturn, 1) := by decide +kernel
abbrev b_W_make : ByteArray := prog_9_method_3_code
abbrev y_W_make : MethodName := ⟨"SignMachine$Word", "make", "(II)I"⟩
theorem h_W_make : (y_W_make).cls ≠ "java/lang/invoke/MethodHandle" ∧ (y_W_make).cls ≠ "java/lang/invoke/VarHandle" ∧ (parseMethodDescriptor (y_W_make).desc).map (fun d => d.parameters.length) = some 2 := by decide +kernel
theorem d_W_make_0 : decode b_W_make 0 = .ok (.iload_n 0, 1) := by decide +kernel
theorem d_W_make_1 : decode b_W_make 1 = .ok (.ifCond .ne 7, 3) := by decide +kernel
theorem d_W_make_4 : decode b_W_make 4 = .ok (.iload_n 1, 1) := by decide +kernel
theorem d_W_make_5 : decode b_W_make 5 = .ok (.goto 7, 3) := by decide +kernel
theorem d_W_make_8 : decode b_W_make 8 = .ok (.iload_n 1, 1) := by decide +kernel
theorem d_W_make_9 : decode b_W_make 9 = .ok (.ldc 10, 2) := by decide +kernel
theorem d_W_make_11 : decode b_W_make 11 = .ok (.ior, 1) := by decide +kernel
theorem d_W_make_12 : decode b_W_make 12 = .ok (.ireturn, 1) := by decide +kernel
abbrev b_W_sign : ByteArray := prog_9_method_4_code
abbrev y_W_sign : MethodName := ⟨"SignMachine$Word", "sign", "(I)I"⟩
theorem h_W_sign : (y_W_sign).cls ≠ "java/lang/invoke/MethodHandle" ∧ (y_W_sign).cls ≠ "java/lang/invoke/VarHandle" ∧ (parseMethodDescriptor (y_W_sign).desc).map (fun d => d.parameters.length) = some 1 := by decide +kernel
theorem d_W_sign_0 : decode b_W_sign 0 = .ok (.iload_n 0, 1) := by decide +kernel
theorem d_W_sign_1 : decode b_W_sign 1 = .ok (.ldc 10, 2) := by decide +kernel
theorem d_W_sign_3 : decode b_W_sign 3 = .ok (.iand, 1) := by decide +kernel
theorem d_W_sign_4 : decode b_W_sign 4 = .ok (.ifCond .ne 7, 3) := by decide +kernel
theorem d_W_sign_7 : decode b_W_sign 7 = .ok (.iconst 0, 1) := by decide +kernel
theorem d_W_sign_8 : decode b_W_sign 8 = .ok (.goto 4, 3) := by decide +kernel
theorem d_W_sign_11 : decode b_W_sign 11 = .ok (.iconst 1, 1) := by decide +kernel
theorem d_W_sign_12 : decode b_W_sign 12 = .ok (.ireturn, 1) := by decide +kernel
abbrev b_W_size : ByteArray := prog_9_method_5_code
abbrev y_W_size : MethodName := ⟨"SignMachine$Word", "size", "(I)I"⟩
theorem h_W_size : (y_W_size).cls ≠ "java/lang/invoke/MethodHandle" ∧ (y_W_size).cls ≠ "java/lang/invoke/VarHandle" ∧ (parseMethodDescriptor (y_W_size).desc).map (fun d => d.parameters.length) = some 1 := by decide +kernel
theorem d_W_size_0 : decode b_W_size 0 = .ok (.iload_n 0, 1) := by decide +kernel
theorem d_W_size_1 : decode b_W_size 1 = .ok (.ldc 9, 2) := by decide +kernel
theorem d_W_size_3 : decode b_W_size 3 = .ok (.iand, 1) := by decide +kernel
theorem d_W_size_4 : decode b_W_size 4 = .ok (.ireturn, 1) := by decide +kernel
abbrev b_W_number : ByteArray := prog_9_method_6_code
abbrev y_W_number : MethodName := ⟨"SignMachine$Word", "number", "(I)I"⟩
theorem h_W_number : (y_W_number).cls ≠ "java/lang/invoke/MethodHandle" ∧ (y_W_number).cls ≠ "java/lang/invoke/VarHandle" ∧ (parseMethodDescriptor (y_W_number).desc).map (fun d => d.parameters.length) = some 1 := by decide +kernel
theorem d_W_number_0 : decode b_W_number 0 = .ok (.iload_n 0, 1) := by decide +kernel
theorem d_W_number_1 : decode b_W_number 1 = .ok (.ldc 10, 2) := by decide +kernel
theorem d_W_number_3 : decode b_W_number 3 = .ok (.iand, 1) := by decide +kernel
theorem d_W_number_4 : decode b_W_number 4 = .ok (.ifCond .ne 10, 3) := by decide +kernel
theorem d_W_number_7 : decode b_W_number 7 = .ok (.iload_n 0, 1) := by decide +kernel
theorem d_W_number_8 : decode b_W_number 8 = .ok (.ldc 9, 2) := by decide +kernel
theorem d_W_number_10 : decode b_W_number 10 = .ok (.iand, 1) := by decide +kernel
theorem d_W_number_11 : decode b_W_number 11 = .ok (.goto 8, 3) := by decide +kernel
theorem d_W_number_14 : decode b_W_number 14 = .ok (.iload_n 0, 1) := by decide +kernel
theorem d_W_number_15 : decode b_W_number 15 = .ok (.ldc 9, 2) := by decide +kernel
theorem d_W_number_17 : decode b_W_number 17 = .ok (.iand, 1) := by decide +kernel
theorem d_W_number_18 : decode b_W_number 18 = .ok (.ineg, 1) := by decide +kernel
theorem d_W_number_19 : decode b_W_number 19 = .ok (.ireturn, 1) := by decide +kernel
abbrev b_W_opposite : ByteArray := prog_9_method_7_code
abbrev y_W_opposite : MethodName := ⟨"SignMachine$Word", "opposite", "(I)I"⟩
theorem h_W_opposite : (y_W_opposite).cls ≠ "java/lang/invoke/MethodHandle" ∧ (y_W_opposite).cls ≠ "java/lang/invoke/VarHandle" ∧ (parseMethodDescriptor (y_W_opposite).desc).map (fun d => d.parameters.length) = some 1 := by decide +kernel
theorem d_W_opposite_0 : decode b_W_opposite 0 = .ok (.iload_n 0, 1) := by decide +kernel
theorem d_W_opposite_1 : decode b_W_opposite 1 = .ok (.ldc 10, 2) := by decide +kernel
theorem d_W_opposite_3 : decode b_W_opposite 3 = .ok (.ixor, 1) := by decide +kernel
theorem d_W_opposite_4 : decode b_W_opposite 4 = .ok (.ireturn, 1) := by decide +kernel
abbrev b_W_of : ByteArray := prog_9_method_8_code
abbrev y_W_of : MethodName := ⟨"SignMachine$Word", "of", "(II)I"⟩
theorem h_W_of : (y_W_of).cls ≠ "java/lang/invoke/MethodHandle" ∧ (y_W_of).cls ≠ "java/lang/invoke/VarHandle" ∧ (parseMethodDescriptor (y_W_of).desc).map (fun d => d.parameters.length) = some 2 := by decide +kernel
theorem d_W_of_0 : decode b_W_of 0 = .ok (.iload_n 0, 1) := by decide +kernel
theorem d_W_of_1 : decode b_W_of 1 = .ok (.ifCond .ne 9, 3) := by decide +kernel
theorem d_W_of_4 : decode b_W_of 4 = .ok (.iload_n 1, 1) := by decide +kernel
theorem d_W_of_5 : decode b_W_of 5 = .ok (.iconst 0, 1) := by decide +kernel
theorem d_W_of_6 : decode b_W_of 6 = .ok (.invokestatic 11, 3) := by decide +kernel
theorem d_W_of_9 : decode b_W_of 9 = .ok (.ireturn, 1) := by decide +kernel
theorem d_W_of_10 : decode b_W_of 10 = .ok (.iload_n 0, 1) := by decide +kernel
theorem d_W_of_11 : decode b_W_of 11 = .ok (.ifCond .le 7, 3) := by decide +kernel
theorem d_W_of_14 : decode b_W_of 14 = .ok (.iload_n 0, 1) := by decide +kernel
theorem d_W_of_15 : decode b_W_of 15 = .ok (.goto 9, 3) := by decide +kernel
theorem d_W_of_18 : decode b_W_of 18 = .ok (.iconst 1, 1) := by decide +kernel
theorem d_W_of_19 : decode b_W_of 19 = .ok (.iload_n 0, 1) := by decide +kernel
theorem d_W_of_20 : decode b_W_of 20 = .ok (.ineg, 1) := by decide +kernel
theorem d_W_of_21 : decode b_W_of 21 = .ok (.invokestatic 11, 3) := by decide +kernel
theorem d_W_of_24 : decode b_W_of 24 = .ok (.ireturn, 1) := by decide +kernel
abbrev b_W_isField : ByteArray := prog_9_method_9_code
abbrev y_W_isField : MethodName := ⟨"SignMachine$Word", "isField", "(I)Z"⟩
theorem h_W_isField : (y_W_isField).cls ≠ "java/lang/invoke/MethodHandle" ∧ (y_W_isField).cls ≠ "java/lang/invoke/VarHandle" ∧ (parseMethodDescriptor (y_W_isField).desc).map (fun d => d.parameters.length) = some 1 := by decide +kernel
theorem d_W_isField_0 : decode b_W_isField 0 = .ok (.iload_n 0, 1) := by decide +kernel
theorem d_W_isField_1 : decode b_W_isField 1 = .ok (.iconst 3, 1) := by decide +kernel
theorem d_W_isField_2 : decode b_W_isField 2 = .ok (.ishr, 1) := by decide +kernel
theorem d_W_isField_3 : decode b_W_isField 3 = .ok (.istore_n 1, 1) := by decide +kernel
theorem d_W_isField_4 : decode b_W_isField 4 = .ok (.iload_n 0, 1) := by decide +kernel
theorem d_W_isField_5 : decode b_W_isField 5 = .ok (.bipush 7, 2) := by decide +kernel
theorem d_W_isField_7 : decode b_W_isField 7 = .ok (.iand, 1) := by decide +kernel
theorem d_W_isField_8 : decode b_W_isField 8 = .ok (.istore_n 2, 1) := by decide +kernel
theorem d_W_isField_9 : decode b_W_isField 9 = .ok (.iload_n 0, 1) := by decide +kernel
theorem d_W_isField_10 : decode b_W_isField 10 = .ok (.ifCond .lt 17, 3) := by decide +kernel
theorem d_W_isField_13 : decode b_W_isField 13 = .ok (.iload_n 1, 1) := by decide +kernel
theorem d_W_isField_14 : decode b_W_isField 14 = .ok (.iload_n 2, 1) := by decide +kernel
theorem d_W_isField_15 : decode b_W_isField 15 = .ok (.if_icmp .gt 12, 3) := by decide +kernel
theorem d_W_isField_18 : decode b_W_isField 18 = .ok (.iload_n 2, 1) := by decide +kernel
theorem d_W_isField_19 : decode b_W_isField 19 = .ok (.iconst 5, 1) := by decide +kernel
theorem d_W_isField_20 : decode b_W_isField 20 = .ok (.if_icmp .gt 7, 3) := by decide +kernel
theorem d_W_isField_23 : decode b_W_isField 23 = .ok (.iconst 1, 1) := by decide +kernel
theorem d_W_isField_24 : decode b_W_isField 24 = .ok (.goto 4, 3) := by decide +kernel
theorem d_W_isField_27 : decode b_W_isField 27 = .ok (.iconst 0, 1) := by decide +kernel
theorem d_W_isField_28 : decode b_W_isField 28 = .ok (.ireturn, 1) := by decide +kernel
abbrev b_W_maskOf : ByteArray := prog_9_method_10_code
abbrev y_W_maskOf : MethodName := ⟨"SignMachine$Word", "maskOf", "(I)I"⟩
theorem h_W_maskOf : (y_W_maskOf).cls ≠ "java/lang/invoke/MethodHandle" ∧ (y_W_maskOf).cls ≠ "java/lang/invoke/VarHandle" ∧ (parseMethodDescriptor (y_W_maskOf).desc).map (fun d => d.parameters.length) = some 1 := by decide +kernel
theorem d_W_maskOf_0 : decode b_W_maskOf 0 = .ok (.iload_n 0, 1) := by decide +kernel
theorem d_W_maskOf_1 : decode b_W_maskOf 1 = .ok (.iconst 3, 1) := by decide +kernel
theorem d_W_maskOf_2 : decode b_W_maskOf 2 = .ok (.ishr, 1) := by decide +kernel
theorem d_W_maskOf_3 : decode b_W_maskOf 3 = .ok (.istore_n 1, 1) := by decide +kernel
theorem d_W_maskOf_4 : decode b_W_maskOf 4 = .ok (.iload_n 0, 1) := by decide +kernel
theorem d_W_maskOf_5 : decode b_W_maskOf 5 = .ok (.bipush 7, 2) := by decide +kernel
theorem d_W_maskOf_7 : decode b_W_maskOf 7 = .ok (.iand, 1) := by decide +kernel
theorem d_W_maskOf_8 : decode b_W_maskOf 8 = .ok (.istore_n 2, 1) := by decide +kernel
theorem d_W_maskOf_9 : decode b_W_maskOf 9 = .ok (.iload_n 1, 1) := by decide +kernel
theorem d_W_maskOf_10 : decode b_W_maskOf 10 = .ok (.ifCond .ne 7, 3) := by decide +kernel
theorem d_W_maskOf_13 : decode b_W_maskOf 13 = .ok (.iload_n 2, 1) := by decide +kernel
theorem d_W_maskOf_14 : decode b_W_maskOf 14 = .ok (.goto 8, 3) := by decide +kernel
theorem d_W_maskOf_17 : decode b_W_maskOf 17 = .ok (.iload_n 2, 1) := by decide +kernel
theorem d_W_maskOf_18 : decode b_W_maskOf 18 = .ok (.iload_n 1, 1) := by decide +kernel
theorem d_W_maskOf_19 : decode b_W_maskOf 19 = .ok (.isub, 1) := by decide +kernel
theorem d_W_maskOf_20 : decode b_W_maskOf 20 = .ok (.iconst 1, 1) := by decide +kernel
theorem d_W_maskOf_21 : decode b_W_maskOf 21 = .ok (.iadd, 1) := by decide +kernel
theorem d_W_maskOf_22 : decode b_W_maskOf 22 = .ok (.istore_n 3, 1) := by decide +kernel
theorem d_W_maskOf_23 : decode b_W_maskOf 23 = .ok (.iconst 1, 1) := by decide +kernel
theorem d_W_maskOf_24 : decode b_W_maskOf 24 = .ok (.bipush 6, 2) := by decide +kernel
theorem d_W_maskOf_26 : decode b_W_maskOf 26 = .ok (.iload_n 3, 1) := by decide +kernel
theorem d_W_maskOf_27 : decode b_W_maskOf 27 = .ok (.imul, 1) := by decide +kernel
theorem d_W_maskOf_28 : decode b_W_maskOf 28 = .ok (.ishl, 1) := by decide +kernel
theorem d_W_maskOf_29 : decode b_W_maskOf 29 = .ok (.iconst 1, 1) := by decide +kernel
theorem d_W_maskOf_30 : decode b_W_maskOf 30 = .ok (.isub, 1) := by decide +kernel
theorem d_W_maskOf_31 : decode b_W_maskOf 31 = .ok (.ireturn, 1) := by decide +kernel
abbrev b_W_bitsBehind : ByteArray := prog_9_method_11_code
abbrev y_W_bitsBehind : MethodName := ⟨"SignMachine$Word", "bitsBehind", "(I)I"⟩
theorem h_W_bitsBehind : (y_W_bitsBehind).cls ≠ "java/lang/invoke/MethodHandle" ∧ (y_W_bitsBehind).cls ≠ "java/lang/invoke/VarHandle" ∧ (parseMethodDescriptor (y_W_bitsBehind).desc).map (fun d => d.parameters.length) = some 1 := by decide +kernel
theorem d_W_bitsBehind_0 : decode b_W_bitsBehind 0 = .ok (.bipush 6, 2) := by decide +kernel
theorem d_W_bitsBehind_2 : decode b_W_bitsBehind 2 = .ok (.iconst 5, 1) := by decide +kernel
theorem d_W_bitsBehind_3 : decode b_W_bitsBehind 3 = .ok (.iload_n 0, 1) := by decide +kernel
theorem d_W_bitsBehind_4 : decode b_W_bitsBehind 4 = .ok (.bipush 7, 2) := by decide +kernel
theorem d_W_bitsBehind_6 : decode b_W_bitsBehind 6 = .ok (.iand, 1) := by decide +kernel
theorem d_W_bitsBehind_7 : decode b_W_bitsBehind 7 = .ok (.isub, 1) := by decide +kernel
theorem d_W_bitsBehind_8 : decode b_W_bitsBehind 8 = .ok (.imul, 1) := by decide +kernel
theorem d_W_bitsBehind_9 : decode b_W_bitsBehind 9 = .ok (.ireturn, 1) := by decide +kernel
abbrev b_W_field : ByteArray := prog_9_method_12_code
abbrev y_W_field : MethodName := ⟨"SignMachine$Word", "field", "(II)I"⟩
theorem h_W_field : (y_W_field).cls ≠ "java/lang/invoke/MethodHandle" ∧ (y_W_field).cls ≠ "java/lang/invoke/VarHandle" ∧ (parseMethodDescriptor (y_W_field).desc).map (fun d => d.parameters.length) = some 2 := by decide +kernel
theorem d_W_field_0 : decode b_W_field 0 = .ok (.iload_n 0, 1) := by decide +kernel
theorem d_W_field_1 : decode b_W_field 1 = .ok (.invokestatic 15, 3) := by decide +kernel
theorem d_W_field_4 : decode b_W_field 4 = .ok (.iload_n 1, 1) := by decide +kernel
theorem d_W_field_5 : decode b_W_field 5 = .ok (.invokestatic 19, 3) := by decide +kernel
theorem d_W_field_8 : decode b_W_field 8 = .ok (.ishr, 1) := by decide +kernel
theorem d_W_field_9 : decode b_W_field 9 = .ok (.iload_n 1, 1) := by decide +kernel
theorem d_W_field_10 : decode b_W_field 10 = .ok (.invokestatic 22, 3) := by decide +kernel
theorem d_W_field_13 : decode b_W_field 13 = .ok (.iand, 1) := by decide +kernel
theorem d_W_field_14 : decode b_W_field 14 = .ok (.istore_n 2, 1) := by decide +kernel
theorem d_W_field_15 : decode b_W_field 15 = .ok (.iload_n 1, 1) := by decide +kernel
theorem d_W_field_16 : decode b_W_field 16 = .ok (.iconst 3, 1) := by decide +kernel
theorem d_W_field_17 : decode b_W_field 17 = .ok (.ishr, 1) := by decide +kernel
theorem d_W_field_18 : decode b_W_field 18 = .ok (.ifCond .ne 14, 3) := by decide +kernel
theorem d_W_field_21 : decode b_W_field 21 = .ok (.iload_n 0, 1) := by decide +kernel
theorem d_W_field_22 : decode b_W_field 22 = .ok (.invokestatic 25, 3) := by decide +kernel
theorem d_W_field_25 : decode b_W_field 25 = .ok (.iload_n 2, 1) := by decide +kernel
theorem d_W_field_26 : decode b_W_field 26 = .ok (.invokestatic 11, 3) := by decide +kernel
theorem d_W_field_29 : decode b_W_field 29 = .ok (.goto 4, 3) := by decide +kernel
theorem d_W_field_32 : decode b_W_field 32 = .ok (.iload_n 2, 1) := by decide +kernel
theorem d_W_field_33 : decode b_W_field 33 = .ok (.ireturn, 1) := by decide +kernel
abbrev b_W_store : ByteArray := prog_9_method_13_code
abbrev y_W_store : MethodName := ⟨"SignMachine$Word", "store", "(III)I"⟩
theorem h_W_store : (y_W_store).cls ≠ "java/lang/invoke/MethodHandle" ∧ (y_W_store).cls ≠ "java/lang/invoke/VarHandle" ∧ (parseMethodDescriptor (y_W_store).desc).map (fun d => d.parameters.length) = some 3 := by decide +kernel
theorem d_W_store_0 : decode b_W_store 0 = .ok (.iload_n 2, 1) := by decide +kernel
theorem d_W_store_1 : decode b_W_store 1 = .ok (.invokestatic 22, 3) := by decide +kernel
theorem d_W_store_4 : decode b_W_store 4 = .ok (.istore_n 3, 1) := by decide +kernel
theorem d_W_store_5 : decode b_W_store 5 = .ok (.iload_n 2, 1) := by decide +kernel
theorem d_W_store_6 : decode b_W_store 6 = .ok (.invokestatic 19, 3) := by decide +kernel
theorem d_W_store_9 : decode b_W_store 9 = .ok (.istore 4, 2) := by decide +kernel
theorem d_W_store_11 : decode b_W_store 11 = .ok (.iload_n 0, 1) := by decide +kernel
theorem d_W_store_12 : decode b_W_store 12 = .ok (.invokestatic 15, 3) := by decide +kernel
theorem d_W_store_15 : decode b_W_store 15 = .ok (.iload_n 3, 1) := by decide +kernel
theorem d_W_store_16 : decode b_W_store 16 = .ok (.iload 4, 2) := by decide +kernel
theorem d_W_store_18 : decode b_W_store 18 = .ok (.ishl, 1) := by decide +kernel
theorem d_W_store_19 : decode b_W_store 19 = .ok (.iconst (-1), 1) := by decide +kernel
theorem d_W_store_20 : decode b_W_store 20 = .ok (.ixor, 1) := by decide +kernel
theorem d_W_store_21 : decode b_W_store 21 = .ok (.iand, 1) := by decide +kernel
theorem d_W_store_22 : decode b_W_store 22 = .ok (.iload_n 1, 1) := by decide +kernel
theorem d_W_store_23 : decode b_W_store 23 = .ok (.iload_n 3, 1) := by decide +kernel
theorem d_W_store_24 : decode b_W_store 24 = .ok (.iand, 1) := by decide +kernel
theorem d_W_store_25 : decode b_W_store 25 = .ok (.iload 4, 2) := by decide +kernel
theorem d_W_store_27 : decode b_W_store 27 = .ok (.ishl, 1) := by decide +kernel
theorem d_W_store_28 : decode b_W_store 28 = .ok (.ior, 1) := by decide +kernel
theorem d_W_store_29 : decode b_W_store 29 = .ok (.istore 5, 2) := by decide +kernel
theorem d_W_store_31 : decode b_W_store 31 = .ok (.iload_n 2, 1) := by decide +kernel
theorem d_W_store_32 : decode b_W_store 32 = .ok (.iconst 3, 1) := by decide +kernel
theorem d_W_store_33 : decode b_W_store 33 = .ok (.ishr, 1) := by decide +kernel
theorem d_W_store_34 : decode b_W_store 34 = .ok (.ifCond .ne 10, 3) := by decide +kernel
theorem d_W_store_37 : decode b_W_store 37 = .ok (.iload_n 1, 1) := by decide +kernel
theorem d_W_store_38 : decode b_W_store 38 = .ok (.invokestatic 25, 3) := by decide +kernel
theorem d_W_store_41 : decode b_W_store 41 = .ok (.goto 7, 3) := by decide +kernel
theorem d_W_store_44 : decode b_W_store 44 = .ok (.iload_n 0, 1) := by decide +kernel
theorem d_W_store_45 : decode b_W_store 45 = .ok (.invokestatic 25, 3) := by decide +kernel
theorem d_W_store_48 : decode b_W_store 48 = .ok (.iload 5, 2) := by decide +kernel
theorem d_W_store_50 : decode b_W_store 50 = .ok (.invokestatic 11, 3) := by decide +kernel
theorem d_W_store_53 : decode b_W_store 53 = .ok (.ireturn, 1) := by decide +kernel
abbrev b_M_isAddress : ByteArray := prog_3_method_2_code
abbrev y_M_isAddress : MethodName := ⟨"SignMachine$Machine", "isAddress", "(I)Z"⟩
theorem h_M_isAddress : (y_M_isAddress).cls ≠ "java/lang/invoke/MethodHandle" ∧ (y_M_isAddress).cls ≠ "java/lang/invoke/VarHandle" ∧ (parseMethodDescriptor (y_M_isAddress).desc).map (fun d => d.parameters.length) = some 1 := by decide +kernel
theorem d_M_isAddress_0 : decode b_M_isAddress 0 = .ok (.iload_n 0, 1) := by decide +kernel
theorem d_M_isAddress_1 : decode b_M_isAddress 1 = .ok (.ifCond .lt 14, 3) := by decide +kernel
theorem d_M_isAddress_4 : decode b_M_isAddress 4 = .ok (.iload_n 0, 1) := by decide +kernel
theorem d_M_isAddress_5 : decode b_M_isAddress 5 = .ok (.sipush 4000, 3) := by decide +kernel
theorem d_M_isAddress_8 : decode b_M_isAddress 8 = .ok (.if_icmp .ge 7, 3) := by decide +kernel
theorem d_M_isAddress_11 : decode b_M_isAddress 11 = .ok (.iconst 1, 1) := by decide +kernel
theorem d_M_isAddress_12 : decode b_M_isAddress 12 = .ok (.goto 4, 3) := by decide +kernel
theorem d_M_isAddress_15 : decode b_M_isAddress 15 = .ok (.iconst 0, 1) := by decide +kernel
theorem d_M_isAddress_16 : decode b_M_isAddress 16 = .ok (.ireturn, 1) := by decide +kernel
abbrev b_M_isRegister : ByteArray := prog_3_method_3_code
abbrev y_M_isRegister : MethodName := ⟨"SignMachine$Machine", "isRegister", "(I)Z"⟩
theorem h_M_isRegister : (y_M_isRegister).cls ≠ "java/lang/invoke/MethodHandle" ∧ (y_M_isRegister).cls ≠ "java/lang/invoke/VarHandle" ∧ (parseMethodDescriptor (y_M_isRegister).desc).map (fun d => d.parameters.length) = some 1 := by decide +kernel
theorem d_M_isRegister_0 : decode b_M_isRegister 0 = .ok (.iload_n 0, 1) := by decide +kernel
theorem d_M_isRegister_1 : decode b_M_isRegister 1 = .ok (.ifCond .lt 13, 3) := by decide +kernel
theorem d_M_isRegister_4 : decode b_M_isRegister 4 = .ok (.iload_n 0, 1) := by decide +kernel
theorem d_M_isRegister_5 : decode b_M_isRegister 5 = .ok (.bipush 9, 2) := by decide +kernel
theorem d_M_isRegister_7 : decode b_M_isRegister 7 = .ok (.if_icmp .ge 7, 3) := by decide +kernel
theorem d_M_isRegister_10 : decode b_M_isRegister 10 = .ok (.iconst 1, 1) := by decide +kernel
theorem d_M_isRegister_11 : decode b_M_isRegister 11 = .ok (.goto 4, 3) := by decide +kernel
theorem d_M_isRegister_14 : decode b_M_isRegister 14 = .ok (.iconst 0, 1) := by decide +kernel
theorem d_M_isRegister_15 : decode b_M_isRegister 15 = .ok (.ireturn, 1) := by decide +kernel
abbrev b_M_isIndex : ByteArray := prog_3_method_4_code
abbrev y_M_isIndex : MethodName := ⟨"SignMachine$Machine", "isIndex", "(I)Z"⟩
theorem h_M_isIndex : (y_M_isIndex).cls ≠ "java/lang/invoke/MethodHandle" ∧ (y_M_isIndex).cls ≠ "java/lang/invoke/VarHandle" ∧ (parseMethodDescriptor (y_M_isIndex).desc).map (fun d => d.parameters.length) = some 1 := by decide +kernel
theorem d_M_isIndex_0 : decode b_M_isIndex 0 = .ok (.iload_n 0, 1) := by decide +kernel
theorem d_M_isIndex_1 : decode b_M_isIndex 1 = .ok (.iconst 1, 1) := by decide +kernel
theorem d_M_isIndex_2 : decode b_M_isIndex 2 = .ok (.if_icmp .lt 13, 3) := by decide +kernel
theorem d_M_isIndex_5 : decode b_M_isIndex 5 = .ok (.iload_n 0, 1) := by decide +kernel
theorem d_M_isIndex_6 : decode b_M_isIndex 6 = .ok (.bipush 6, 2) := by decide +kernel
theorem d_M_isIndex_8 : decode b_M_isIndex 8 = .ok (.if_icmp .gt 7, 3) := by decide +kernel
theorem d_M_isIndex_11 : decode b_M_isIndex 11 = .ok (.iconst 1, 1) := by decide +kernel
theorem d_M_isIndex_12 : decode b_M_isIndex 12 = .ok (.goto 4, 3) := by decide +kernel
theorem d_M_isIndex_15 : decode b_M_isIndex 15 = .ok (.iconst 0, 1) := by decide +kernel
theorem d_M_isIndex_16 : decode b_M_isIndex 16 = .ok (.ireturn, 1) := by decide +kernel
abbrev b_M_isShort : ByteArray := prog_3_method_5_code
abbrev y_M_isShort : MethodName := ⟨"SignMachine$Machine", "isShort", "(I)Z"⟩
theorem h_M_isShort : (y_M_isShort).cls ≠ "java/lang/invoke/MethodHandle" ∧ (y_M_isShort).cls ≠ "java/lang/invoke/VarHandle" ∧ (parseMethodDescriptor (y_M_isShort).desc).map (fun d => d.parameters.length) = some 1 := by decide +kernel
theorem d_M_isShort_0 : decode b_M_isShort 0 = .ok (.iload_n 0, 1) := by decide +kernel
theorem d_M_isShort_1 : decode b_M_isShort 1 = .ok (.invokestatic 28, 3) := by decide +kernel
theorem d_M_isShort_4 : decode b_M_isShort 4 = .ok (.ifCond .ne 9, 3) := by decide +kernel
theorem d_M_isShort_7 : decode b_M_isShort 7 = .ok (.iload_n 0, 1) := by decide +kernel
theorem d_M_isShort_8 : decode b_M_isShort 8 = .ok (.bipush 8, 2) := by decide +kernel
theorem d_M_isShort_10 : decode b_M_isShort 10 = .ok (.if_icmp .ne 7, 3) := by decide +kernel
theorem d_M_isShort_13 : decode b_M_isShort 13 = .ok (.iconst 1, 1) := by decide +kernel
theorem d_M_isShort_14 : decode b_M_isShort 14 = .ok (.goto 4, 3) := by decide +kernel
theorem d_M_isShort_17 : decode b_M_isShort 17 = .ok (.iconst 0, 1) := by decide +kernel
theorem d_M_isShort_18 : decode b_M_isShort 18 = .ok (.ireturn, 1) := by decide +kernel
abbrev b_M_hasWords : ByteArray := prog_3_method_18_code
abbrev y_M_hasWords : MethodName := ⟨"SignMachine$Machine", "hasWords", "(II)Z"⟩
theorem h_M_hasWords : (y_M_hasWords).cls ≠ "java/lang/invoke/MethodHandle" ∧ (y_M_hasWords).cls ≠ "java/lang/invoke/VarHandle" ∧ (parseMethodDescriptor (y_M_hasWords).desc).map (fun d => d.parameters.length) = some 2 := by decide +kernel
theorem d_M_hasWords_0 : decode b_M_hasWords 0 = .ok (.iload_n 0, 1) := by decide +kernel
theorem d_M_hasWords_1 : decode b_M_hasWords 1 = .ok (.ifCond .lt 16, 3) := by decide +kernel
theorem d_M_hasWords_4 : decode b_M_hasWords 4 = .ok (.iload_n 0, 1) := by decide +kernel
theorem d_M_hasWords_5 : decode b_M_hasWords 5 = .ok (.iload_n 1, 1) := by decide +kernel
theorem d_M_hasWords_6 : decode b_M_hasWords 6 = .ok (.iadd, 1) := by decide +kernel
theorem d_M_hasWords_7 : decode b_M_hasWords 7 = .ok (.sipush 4000, 3) := by decide +kernel
theorem d_M_hasWords_10 : decode b_M_hasWords 10 = .ok (.if_icmp .gt 7, 3) := by decide +kernel
theorem d_M_hasWords_13 : decode b_M_hasWords 13 = .ok (.iconst 1, 1) := by decide +kernel
theorem d_M_hasWords_14 : decode b_M_hasWords 14 = .ok (.goto 4, 3) := by decide +kernel
theorem d_M_hasWords_17 : decode b_M_hasWords 17 = .ok (.iconst 0, 1) := by decide +kernel
theorem d_M_hasWords_18 : decode b_M_hasWords 18 = .ok (.ireturn, 1) := by decide +kernel
abbrev b_T_isWord : ByteArray := prog_8_method_2_code
abbrev y_T_isWord : MethodName := ⟨"SignMachine$Tape", "isWord", "(II)Z"⟩
theorem h_T_isWord : (y_T_isWord).cls ≠ "java/lang/invoke/MethodHandle" ∧ (y_T_isWord).cls ≠ "java/lang/invoke/VarHandle" ∧ (parseMethodDescriptor (y_T_isWord).desc).map (fun d => d.parameters.length) = some 2 := by decide +kernel
theorem d_T_isWord_0 : decode b_T_isWord 0 = .ok (.iload_n 0, 1) := by decide +kernel
theorem d_T_isWord_1 : decode b_T_isWord 1 = .ok (.ifCond .lt 23, 3) := by decide +kernel
theorem d_T_isWord_4 : decode b_T_isWord 4 = .ok (.iload_n 0, 1) := by decide +kernel
theorem d_T_isWord_5 : decode b_T_isWord 5 = .ok (.bipush 40, 2) := by decide +kernel
theorem d_T_isWord_7 : decode b_T_isWord 7 = .ok (.if_icmp .ge 17, 3) := by decide +kernel
theorem d_T_isWord_10 : decode b_T_isWord 10 = .ok (.iload_n 1, 1) := by decide +kernel
theorem d_T_isWord_11 : decode b_T_isWord 11 = .ok (.ifCond .lt 13, 3) := by decide +kernel
theorem d_T_isWord_14 : decode b_T_isWord 14 = .ok (.iload_n 1, 1) := by decide +kernel
theorem d_T_isWord_15 : decode b_T_isWord 15 = .ok (.bipush 100, 2) := by decide +kernel
theorem d_T_isWord_17 : decode b_T_isWord 17 = .ok (.if_icmp .ge 7, 3) := by decide +kernel
theorem d_T_isWord_20 : decode b_T_isWord 20 = .ok (.iconst 1, 1) := by decide +kernel
theorem d_T_isWord_21 : decode b_T_isWord 21 = .ok (.goto 4, 3) := by decide +kernel
theorem d_T_isWord_24 : decode b_T_isWord 24 = .ok (.iconst 0, 1) := by decide +kernel
theorem d_T_isWord_25 : decode b_T_isWord 25 = .ok (.ireturn, 1) := by decide +kernel
abbrev b_N_codeOf : ByteArray := prog_4_method_2_code
abbrev y_N_codeOf : MethodName := ⟨"SignMachine$Names", "codeOf", "(I)I"⟩
theorem h_N_codeOf : (y_N_codeOf).cls ≠ "java/lang/invoke/MethodHandle" ∧ (y_N_codeOf).cls ≠ "java/lang/invoke/VarHandle" ∧ (parseMethodDescriptor (y_N_codeOf).desc).map (fun d => d.parameters.length) = some 1 := by decide +kernel
theorem d_N_codeOf_0 : decode b_N_codeOf 0 = .ok (.iload_n 0, 1) := by decide +kernel
theorem d_N_codeOf_1 : decode b_N_codeOf 1 = .ok (.bipush 65, 2) := by decide +kernel
theorem d_N_codeOf_3 : decode b_N_codeOf 3 = .ok (.if_icmp .lt 16, 3) := by decide +kernel
theorem d_N_codeOf_6 : decode b_N_codeOf 6 = .ok (.iload_n 0, 1) := by decide +kernel
theorem d_N_codeOf_7 : decode b_N_codeOf 7 = .ok (.bipush 90, 2) := by decide +kernel
theorem d_N_codeOf_9 : decode b_N_codeOf 9 = .ok (.if_icmp .gt 10, 3) := by decide +kernel
theorem d_N_codeOf_12 : decode b_N_codeOf 12 = .ok (.iload_n 0, 1) := by decide +kernel
theorem d_N_codeOf_13 : decode b_N_codeOf 13 = .ok (.bipush 65, 2) := by decide +kernel
theorem d_N_codeOf_15 : decode b_N_codeOf 15 = .ok (.isub, 1) := by decide +kernel
theorem d_N_codeOf_16 : decode b_N_codeOf 16 = .ok (.iconst 1, 1) := by decide +kernel
theorem d_N_codeOf_17 : decode b_N_codeOf 17 = .ok (.iadd, 1) := by decide +kernel
theorem d_N_codeOf_18 : decode b_N_codeOf 18 = .ok (.ireturn, 1) := by decide +kernel
theorem d_N_codeOf_19 : decode b_N_codeOf 19 = .ok (.iload_n 0, 1) := by decide +kernel
theorem d_N_codeOf_20 : decode b_N_codeOf 20 = .ok (.bipush 48, 2) := by decide +kernel
theorem d_N_codeOf_22 : decode b_N_codeOf 22 = .ok (.if_icmp .lt 19, 3) := by decide +kernel
theorem d_N_codeOf_25 : decode b_N_codeOf 25 = .ok (.iload_n 0, 1) := by decide +kernel
theorem d_N_codeOf_26 : decode b_N_codeOf 26 = .ok (.bipush 57, 2) := by decide +kernel
theorem d_N_codeOf_28 : decode b_N_codeOf 28 = .ok (.if_icmp .gt 13, 3) := by decide +kernel
theorem d_N_codeOf_31 : decode b_N_codeOf 31 = .ok (.iload_n 0, 1) := by decide +kernel
theorem d_N_codeOf_32 : decode b_N_codeOf 32 = .ok (.bipush 48, 2) := by decide +kernel
theorem d_N_codeOf_34 : decode b_N_codeOf 34 = .ok (.isub, 1) := by decide +kernel
theorem d_N_codeOf_35 : decode b_N_codeOf 35 = .ok (.bipush 27, 2) := by decide +kernel
theorem d_N_codeOf_37 : decode b_N_codeOf 37 = .ok (.iadd, 1) := by decide +kernel
theorem d_N_codeOf_38 : decode b_N_codeOf 38 = .ok (.goto 4, 3) := by decide +kernel
theorem d_N_codeOf_41 : decode b_N_codeOf 41 = .ok (.iconst 0, 1) := by decide +kernel
theorem d_N_codeOf_42 : decode b_N_codeOf 42 = .ok (.ireturn, 1) := by decide +kernel
abbrev b_N_isLetter : ByteArray := prog_4_method_3_code
abbrev y_N_isLetter : MethodName := ⟨"SignMachine$Names", "isLetter", "(I)Z"⟩
theorem h_N_isLetter : (y_N_isLetter).cls ≠ "java/lang/invoke/MethodHandle" ∧ (y_N_isLetter).cls ≠ "java/lang/invoke/VarHandle" ∧ (parseMethodDescriptor (y_N_isLetter).desc).map (fun d => d.parameters.length) = some 1 := by decide +kernel
theorem d_N_isLetter_0 : decode b_N_isLetter 0 = .ok (.iload_n 0, 1) := by decide +kernel
theorem d_N_isLetter_1 : decode b_N_isLetter 1 = .ok (.ifCond .le 13, 3) := by decide +kernel
theorem d_N_isLetter_4 : decode b_N_isLetter 4 = .ok (.iload_n 0, 1) := by decide +kernel
theorem d_N_isLetter_5 : decode b_N_isLetter 5 = .ok (.bipush 27, 2) := by decide +kernel
theorem d_N_isLetter_7 : decode b_N_isLetter 7 = .ok (.if_icmp .ge 7, 3) := by decide +kernel
theorem d_N_isLetter_10 : decode b_N_isLetter 10 = .ok (.iconst 1, 1) := by decide +kernel
theorem d_N_isLetter_11 : decode b_N_isLetter 11 = .ok (.goto 4, 3) := by decide +kernel
theorem d_N_isLetter_14 : decode b_N_isLetter 14 = .ok (.iconst 0, 1) := by decide +kernel
theorem d_N_isLetter_15 : decode b_N_isLetter 15 = .ok (.ireturn, 1) := by decide +kernel
abbrev b_N_digitOf : ByteArray := prog_4_method_4_code
abbrev y_N_digitOf : MethodName := ⟨"SignMachine$Names", "digitOf", "(I)I"⟩
theorem h_N_digitOf : (y_N_digitOf).cls ≠ "java/lang/invoke/MethodHandle" ∧ (y_N_digitOf).cls ≠ "java/lang/invoke/VarHandle" ∧ (parseMethodDescriptor (y_N_digitOf).desc).map (fun d => d.parameters.length) = some 1 := by decide +kernel
theorem d_N_digitOf_0 : decode b_N_digitOf 0 = .ok (.iload_n 0, 1) := by decide +kernel
theorem d_N_digitOf_1 : decode b_N_digitOf 1 = .ok (.bipush 27, 2) := by decide +kernel
theorem d_N_digitOf_3 : decode b_N_digitOf 3 = .ok (.isub, 1) := by decide +kernel
theorem d_N_digitOf_4 : decode b_N_digitOf 4 = .ok (.ireturn, 1) := by decide +kernel
abbrev b_N_localDigit : ByteArray := prog_4_method_5_code
abbrev y_N_localDigit : MethodName := ⟨"SignMachine$Names", "localDigit", "(JI)I"⟩
theorem h_N_localDigit : (y_N_localDigit).cls ≠ "java/lang/invoke/MethodHandle" ∧ (y_N_localDigit).cls ≠ "java/lang/invoke/VarHandle" ∧ (parseMethodDescriptor (y_N_localDigit).desc).map (fun d => d.parameters.length) = some 2 := by decide +kernel
theorem d_N_localDigit_0 : decode b_N_localDigit 0 = .ok (.lload_n 0, 1) := by decide +kernel
theorem d_N_localDigit_1 : decode b_N_localDigit 1 = .ok (.bipush 6, 2) := by decide +kernel
theorem d_N_localDigit_3 : decode b_N_localDigit 3 = .ok (.lshr, 1) := by decide +kernel
theorem d_N_localDigit_4 : decode b_N_localDigit 4 = .ok (.ldc2_w 29, 3) := by decide +kernel
theorem d_N_localDigit_7 : decode b_N_localDigit 7 = .ok (.lsub, 1) := by decide +kernel
theorem d_N_localDigit_8 : decode b_N_localDigit 8 = .ok (.lstore_n 3, 1) := by decide +kernel
theorem d_N_localDigit_9 : decode b_N_localDigit 9 = .ok (.lload_n 0, 1) := by decide +kernel
theorem d_N_localDigit_10 : decode b_N_localDigit 10 = .ok (.ldc2_w 31, 3) := by decide +kernel
theorem d_N_localDigit_13 : decode b_N_localDigit 13 = .ok (.land, 1) := by decide +kernel
theorem d_N_localDigit_14 : decode b_N_localDigit 14 = .ok (.iload_n 2, 1) := by decide +kernel
theorem d_N_localDigit_15 : decode b_N_localDigit 15 = .ok (.i2l, 1) := by decide +kernel
theorem d_N_localDigit_16 : decode b_N_localDigit 16 = .ok (.lcmp, 1) := by decide +kernel
theorem d_N_localDigit_17 : decode b_N_localDigit 17 = .ok (.ifCond .ne 21, 3) := by decide +kernel
theorem d_N_localDigit_20 : decode b_N_localDigit 20 = .ok (.lload_n 3, 1) := by decide +kernel
theorem d_N_localDigit_21 : decode b_N_localDigit 21 = .ok (.lconst 0, 1) := by decide +kernel
theorem d_N_localDigit_22 : decode b_N_localDigit 22 = .ok (.lcmp, 1) := by decide +kernel
theorem d_N_localDigit_23 : decode b_N_localDigit 23 = .ok (.ifCond .lt 15, 3) := by decide +kernel
theorem d_N_localDigit_26 : decode b_N_localDigit 26 = .ok (.lload_n 3, 1) := by decide +kernel
theorem d_N_localDigit_27 : decode b_N_localDigit 27 = .ok (.ldc2_w 33, 3) := by decide +kernel
theorem d_N_localDigit_30 : decode b_N_localDigit 30 = .ok (.lcmp, 1) := by decide +kernel
theorem d_N_localDigit_31 : decode b_N_localDigit 31 = .ok (.ifCond .ge 7, 3) := by decide +kernel
theorem d_N_localDigit_34 : decode b_N_localDigit 34 = .ok (.iconst 1, 1) := by decide +kernel
theorem d_N_localDigit_35 : decode b_N_localDigit 35 = .ok (.goto 4, 3) := by decide +kernel
theorem d_N_localDigit_38 : decode b_N_localDigit 38 = .ok (.iconst 0, 1) := by decide +kernel
theorem d_N_localDigit_39 : decode b_N_localDigit 39 = .ok (.istore 5, 2) := by decide +kernel
theorem d_N_localDigit_41 : decode b_N_localDigit 41 = .ok (.iload 5, 2) := by decide +kernel
theorem d_N_localDigit_43 : decode b_N_localDigit 43 = .ok (.ifCond .eq 8, 3) := by decide +kernel
theorem d_N_localDigit_46 : decode b_N_localDigit 46 = .ok (.lload_n 3, 1) := by decide +kernel
theorem d_N_localDigit_47 : decode b_N_localDigit 47 = .ok (.l2i, 1) := by decide +kernel
theorem d_N_localDigit_48 : decode b_N_localDigit 48 = .ok (.goto 5, 3) := by decide +kernel
theorem d_N_localDigit_51 : decode b_N_localDigit 51 = .ok (.bipush (-2), 2) := by decide +kernel
theorem d_N_localDigit_53 : decode b_N_localDigit 53 = .ok (.ireturn, 1) := by decide +kernel
abbrev b_O_isWord : ByteArray := prog_6_method_5_code
abbrev y_O_isWord : MethodName := ⟨"SignMachine$Output", "isWord", "(I)Z"⟩
theorem h_O_isWord : (y_O_isWord).cls ≠ "java/lang/invoke/MethodHandle" ∧ (y_O_isWord).cls ≠ "java/lang/invoke/VarHandle" ∧ (parseMethodDescriptor (y_O_isWord).desc).map (fun d => d.parameters.length) = some 1 := by decide +kernel
theorem d_O_isWord_0 : decode b_O_isWord 0 = .ok (.iload_n 0, 1) := by decide +kernel
theorem d_O_isWord_1 : decode b_O_isWord 1 = .ok (.ifCond .lt 14, 3) := by decide +kernel
theorem d_O_isWord_4 : decode b_O_isWord 4 = .ok (.iload_n 0, 1) := by decide +kernel
theorem d_O_isWord_5 : decode b_O_isWord 5 = .ok (.sipush 1101, 3) := by decide +kernel
theorem d_O_isWord_8 : decode b_O_isWord 8 = .ok (.if_icmp .ge 7, 3) := by decide +kernel
theorem d_O_isWord_11 : decode b_O_isWord 11 = .ok (.iconst 1, 1) := by decide +kernel
theorem d_O_isWord_12 : decode b_O_isWord 12 = .ok (.goto 4, 3) := by decide +kernel
theorem d_O_isWord_15 : decode b_O_isWord 15 = .ok (.iconst 0, 1) := by decide +kernel
theorem d_O_isWord_16 : decode b_O_isWord 16 = .ok (.ireturn, 1) := by decide +kernel
abbrev b_A_addressPart : ByteArray := prog_2_method_9_code
abbrev y_A_addressPart : MethodName := ⟨"SignMachine$Assembler", "addressPart", "(I)I"⟩
theorem h_A_addressPart : (y_A_addressPart).cls ≠ "java/lang/invoke/MethodHandle" ∧ (y_A_addressPart).cls ≠ "java/lang/invoke/VarHandle" ∧ (parseMethodDescriptor (y_A_addressPart).desc).map (fun d => d.parameters.length) = some 1 := by decide +kernel
theorem d_A_addressPart_0 : decode b_A_addressPart 0 = .ok (.iload_n 0, 1) := by decide +kernel
theorem d_A_addressPart_1 : decode b_A_addressPart 1 = .ok (.ifCond .ge 7, 3) := by decide +kernel
theorem d_A_addressPart_4 : decode b_A_addressPart 4 = .ok (.iconst 1, 1) := by decide +kernel
theorem d_A_addressPart_5 : decode b_A_addressPart 5 = .ok (.goto 4, 3) := by decide +kernel
theorem d_A_addressPart_8 : decode b_A_addressPart 8 = .ok (.iconst 0, 1) := by decide +kernel
theorem d_A_addressPart_9 : decode b_A_addressPart 9 = .ok (.iload_n 0, 1) := by decide +kernel
theorem d_A_addressPart_10 : decode b_A_addressPart 10 = .ok (.invokestatic 167, 3) := by decide +kernel
theorem d_A_addressPart_13 : decode b_A_addressPart 13 = .ok (.sipush 4095, 3) := by decide +kernel
theorem d_A_addressPart_16 : decode b_A_addressPart 16 = .ok (.iand, 1) := by decide +kernel
theorem d_A_addressPart_17 : decode b_A_addressPart 17 = .ok (.bipush 18, 2) := by decide +kernel
theorem d_A_addressPart_19 : decode b_A_addressPart 19 = .ok (.ishl, 1) := by decide +kernel
theorem d_A_addressPart_20 : decode b_A_addressPart 20 = .ok (.invokestatic 175, 3) := by decide +kernel
theorem d_A_addressPart_23 : decode b_A_addressPart 23 = .ok (.ireturn, 1) := by decide +kernel
abbrev b_A_isOperator : ByteArray := prog_2_method_30_code
abbrev y_A_isOperator : MethodName := ⟨"SignMachine$Assembler", "isOperator", "(I)Z"⟩
theorem h_A_isOperator : (y_A_isOperator).cls ≠ "java/lang/invoke/MethodHandle" ∧ (y_A_isOperator).cls ≠ "java/lang/invoke/VarHandle" ∧ (parseMethodDescriptor (y_A_isOperator).desc).map (fun d => d.parameters.length) = some 1 := by decide +kernel
theorem d_A_isOperator_0 : decode b_A_isOperator 0 = .ok (.iload_n 0, 1) := by decide +kernel
theorem d_A_isOperator_1 : decode b_A_isOperator 1 = .ok (.bipush 43, 2) := by decide +kernel
theorem d_A_isOperator_3 : decode b_A_isOperator 3 = .ok (.if_icmp .eq 27, 3) := by decide +kernel
theorem d_A_isOperator_6 : decode b_A_isOperator 6 = .ok (.iload_n 0, 1) := by decide +kernel
theorem d_A_isOperator_7 : decode b_A_isOperator 7 = .ok (.bipush 45, 2) := by decide +kernel
theorem d_A_isOperator_9 : decode b_A_isOperator 9 = .ok (.if_icmp .eq 21, 3) := by decide +kernel
theorem d_A_isOperator_12 : decode b_A_isOperator 12 = .ok (.iload_n 0, 1) := by decide +kernel
theorem d_A_isOperator_13 : decode b_A_isOperator 13 = .ok (.bipush 42, 2) := by decide +kernel
theorem d_A_isOperator_15 : decode b_A_isOperator 15 = .ok (.if_icmp .eq 15, 3) := by decide +kernel
theorem d_A_isOperator_18 : decode b_A_isOperator 18 = .ok (.iload_n 0, 1) := by decide +kernel
theorem d_A_isOperator_19 : decode b_A_isOperator 19 = .ok (.bipush 47, 2) := by decide +kernel
theorem d_A_isOperator_21 : decode b_A_isOperator 21 = .ok (.if_icmp .eq 9, 3) := by decide +kernel
theorem d_A_isOperator_24 : decode b_A_isOperator 24 = .ok (.iload_n 0, 1) := by decide +kernel
theorem d_A_isOperator_25 : decode b_A_isOperator 25 = .ok (.bipush 58, 2) := by decide +kernel
theorem d_A_isOperator_27 : decode b_A_isOperator 27 = .ok (.if_icmp .ne 7, 3) := by decide +kernel
theorem d_A_isOperator_30 : decode b_A_isOperator 30 = .ok (.iconst 1, 1) := by decide +kernel
theorem d_A_isOperator_31 : decode b_A_isOperator 31 = .ok (.goto 4, 3) := by decide +kernel
theorem d_A_isOperator_34 : decode b_A_isOperator 34 = .ok (.iconst 0, 1) := by decide +kernel
theorem d_A_isOperator_35 : decode b_A_isOperator 35 = .ok (.ireturn, 1) := by decide +kernel
abbrev b_I_compare : ByteArray := prog_14_method_40_code
abbrev y_I_compare : MethodName := ⟨"java/lang/Integer", "compare", "(II)I"⟩
theorem h_I_compare : (y_I_compare).cls ≠ "java/lang/invoke/MethodHandle" ∧ (y_I_compare).cls ≠ "java/lang/invoke/VarHandle" ∧ (parseMethodDescriptor (y_I_compare).desc).map (fun d => d.parameters.length) = some 2 := by decide +kernel
theorem d_I_compare_0 : decode b_I_compare 0 = .ok (.iload_n 0, 1) := by decide +kernel
theorem d_I_compare_1 : decode b_I_compare 1 = .ok (.iload_n 1, 1) := by decide +kernel
theorem d_I_compare_2 : decode b_I_compare 2 = .ok (.if_icmp .ge 7, 3) := by decide +kernel
theorem d_I_compare_5 : decode b_I_compare 5 = .ok (.iconst (-1), 1) := by decide +kernel
theorem d_I_compare_6 : decode b_I_compare 6 = .ok (.goto 13, 3) := by decide +kernel
theorem d_I_compare_9 : decode b_I_compare 9 = .ok (.iload_n 0, 1) := by decide +kernel
theorem d_I_compare_10 : decode b_I_compare 10 = .ok (.iload_n 1, 1) := by decide +kernel
theorem d_I_compare_11 : decode b_I_compare 11 = .ok (.if_icmp .ne 7, 3) := by decide +kernel
theorem d_I_compare_14 : decode b_I_compare 14 = .ok (.iconst 0, 1) := by decide +kernel
theorem d_I_compare_15 : decode b_I_compare 15 = .ok (.goto 4, 3) := by decide +kernel
theorem d_I_compare_18 : decode b_I_compare 18 = .ok (.iconst 1, 1) := by decide +kernel
theorem d_I_compare_19 : decode b_I_compare 19 = .ok (.ireturn, 1) := by decide +kernel
abbrev b_M_wordAt : ByteArray := prog_3_method_6_code
abbrev y_M_wordAt : MethodName := ⟨"SignMachine$Machine", "wordAt", "(I)I"⟩
theorem h_M_wordAt : (y_M_wordAt).cls ≠ "java/lang/invoke/MethodHandle" ∧ (y_M_wordAt).cls ≠ "java/lang/invoke/VarHandle" ∧ (parseMethodDescriptor (y_M_wordAt).desc).map (fun d => d.parameters.length) = some 1 := by decide +kernel
theorem d_M_wordAt_0 : decode b_M_wordAt 0 = .ok (.iload_n 1, 1) := by decide +kernel
theorem d_M_wordAt_1 : decode b_M_wordAt 1 = .ok (.ifCond .lt 19, 3) := by decide +kernel
theorem d_M_wordAt_4 : decode b_M_wordAt 4 = .ok (.iload_n 1, 1) := by decide +kernel
theorem d_M_wordAt_5 : decode b_M_wordAt 5 = .ok (.sipush 4000, 3) := by decide +kernel
theorem d_M_wordAt_8 : decode b_M_wordAt 8 = .ok (.if_icmp .ge 12, 3) := by decide +kernel
theorem d_M_wordAt_11 : decode b_M_wordAt 11 = .ok (.aload_n 0, 1) := by decide +kernel
theorem d_M_wordAt_12 : decode b_M_wordAt 12 = .ok (.getfield 9, 3) := by decide +kernel
theorem d_M_wordAt_15 : decode b_M_wordAt 15 = .ok (.iload_n 1, 1) := by decide +kernel
theorem d_M_wordAt_16 : decode b_M_wordAt 16 = .ok (.iaload, 1) := by decide +kernel
theorem d_M_wordAt_17 : decode b_M_wordAt 17 = .ok (.goto 4, 3) := by decide +kernel
theorem d_M_wordAt_20 : decode b_M_wordAt 20 = .ok (.iconst 0, 1) := by decide +kernel
theorem d_M_wordAt_21 : decode b_M_wordAt 21 = .ok (.ireturn, 1) := by decide +kernel
abbrev b_M_register : ByteArray := prog_3_method_8_code
abbrev y_M_register : MethodName := ⟨"SignMachine$Machine", "register", "(I)I"⟩
theorem h_M_register : (y_M_register).cls ≠ "java/lang/invoke/MethodHandle" ∧ (y_M_register).cls ≠ "java/lang/invoke/VarHandle" ∧ (parseMethodDescriptor (y_M_register).desc).map (fun d => d.parameters.length) = some 1 := by decide +kernel
theorem d_M_register_0 : decode b_M_register 0 = .ok (.iload_n 1, 1) := by decide +kernel
theorem d_M_register_1 : decode b_M_register 1 = .ok (.ifCond .lt 18, 3) := by decide +kernel
theorem d_M_register_4 : decode b_M_register 4 = .ok (.iload_n 1, 1) := by decide +kernel
theorem d_M_register_5 : decode b_M_register 5 = .ok (.bipush 9, 2) := by decide +kernel
theorem d_M_register_7 : decode b_M_register 7 = .ok (.if_icmp .ge 12, 3) := by decide +kernel
theorem d_M_register_10 : decode b_M_register 10 = .ok (.aload_n 0, 1) := by decide +kernel
theorem d_M_register_11 : decode b_M_register 11 = .ok (.getfield 15, 3) := by decide +kernel
theorem d_M_register_14 : decode b_M_register 14 = .ok (.iload_n 1, 1) := by decide +kernel
theorem d_M_register_15 : decode b_M_register 15 = .ok (.iaload, 1) := by decide +kernel
theorem d_M_register_16 : decode b_M_register 16 = .ok (.goto 4, 3) := by decide +kernel
theorem d_M_register_19 : decode b_M_register 19 = .ok (.iconst 0, 1) := by decide +kernel
theorem d_M_register_20 : decode b_M_register 20 = .ok (.ireturn, 1) := by decide +kernel
abbrev b_M_putWord : ByteArray := prog_3_method_7_code
abbrev y_M_putWord : MethodName := ⟨"SignMachine$Machine", "putWord", "(II)V"⟩
theorem h_M_putWord : (y_M_putWord).cls ≠ "java/lang/invoke/MethodHandle" ∧ (y_M_putWord).cls ≠ "java/lang/invoke/VarHandle" ∧ (parseMethodDescriptor (y_M_putWord).desc).map (fun d => d.parameters.length) = some 2 := by decide +kernel
theorem d_M_putWord_0 : decode b_M_putWord 0 = .ok (.iload_n 1, 1) := by decide +kernel
theorem d_M_putWord_1 : decode b_M_putWord 1 = .ok (.ifCond .lt 17, 3) := by decide +kernel
theorem d_M_putWord_4 : decode b_M_putWord 4 = .ok (.iload_n 1, 1) := by decide +kernel
theorem d_M_putWord_5 : decode b_M_putWord 5 = .ok (.sipush 4000, 3) := by decide +kernel
theorem d_M_putWord_8 : decode b_M_putWord 8 = .ok (.if_icmp .ge 10, 3) := by decide +kernel
theorem d_M_putWord_11 : decode b_M_putWord 11 = .ok (.aload_n 0, 1) := by decide +kernel
theorem d_M_putWord_12 : decode b_M_putWord 12 = .ok (.getfield 9, 3) := by decide +kernel
theorem d_M_putWord_15 : decode b_M_putWord 15 = .ok (.iload_n 1, 1) := by decide +kernel
theorem d_M_putWord_16 : decode b_M_putWord 16 = .ok (.iload_n 2, 1) := by decide +kernel
theorem d_M_putWord_17 : decode b_M_putWord 17 = .ok (.iastore, 1) := by decide +kernel
theorem d_M_putWord_18 : decode b_M_putWord 18 = .ok (.return_, 1) := by decide +kernel
abbrev b_M_putRegister : ByteArray := prog_3_method_9_code
abbrev y_M_putRegister : MethodName := ⟨"SignMachine$Machine", "putRegister", "(II)V"⟩
theorem h_M_putRegister : (y_M_putRegister).cls ≠ "java/lang/invoke/MethodHandle" ∧ (y_M_putRegister).cls ≠ "java/lang/invoke/VarHandle" ∧ (parseMethodDescriptor (y_M_putRegister).desc).map (fun d => d.parameters.length) = some 2 := by decide +kernel
theorem d_M_putRegister_0 : decode b_M_putRegister 0 = .ok (.iload_n 1, 1) := by decide +kernel
theorem d_M_putRegister_1 : decode b_M_putRegister 1 = .ok (.ifCond .lt 16, 3) := by decide +kernel
theorem d_M_putRegister_4 : decode b_M_putRegister 4 = .ok (.iload_n 1, 1) := by decide +kernel
theorem d_M_putRegister_5 : decode b_M_putRegister 5 = .ok (.bipush 9, 2) := by decide +kernel
theorem d_M_putRegister_7 : decode b_M_putRegister 7 = .ok (.if_icmp .ge 10, 3) := by decide +kernel
theorem d_M_putRegister_10 : decode b_M_putRegister 10 = .ok (.aload_n 0, 1) := by decide +kernel
theorem d_M_putRegister_11 : decode b_M_putRegister 11 = .ok (.getfield 15, 3) := by decide +kernel
theorem d_M_putRegister_14 : decode b_M_putRegister 14 = .ok (.iload_n 1, 1) := by decide +kernel
theorem d_M_putRegister_15 : decode b_M_putRegister 15 = .ok (.iload_n 2, 1) := by decide +kernel
theorem d_M_putRegister_16 : decode b_M_putRegister 16 = .ok (.iastore, 1) := by decide +kernel
theorem d_M_putRegister_17 : decode b_M_putRegister 17 = .ok (.return_, 1) := by decide +kernel
abbrev b_M_value : ByteArray := prog_3_method_22_code
abbrev y_M_value : MethodName := ⟨"SignMachine$Machine", "value", "()I"⟩
theorem h_M_value : (y_M_value).cls ≠ "java/lang/invoke/MethodHandle" ∧ (y_M_value).cls ≠ "java/lang/invoke/VarHandle" ∧ (parseMethodDescriptor (y_M_value).desc).map (fun d => d.parameters.length) = some 0 := by decide +kernel
theorem d_M_value_0 : decode b_M_value 0 = .ok (.aload_n 0, 1) := by decide +kernel
theorem d_M_value_1 : decode b_M_value 1 = .ok (.aload_n 0, 1) := by decide +kernel
theorem d_M_value_2 : decode b_M_value 2 = .ok (.getfield 81, 3) := by decide +kernel
theorem d_M_value_5 : decode b_M_value 5 = .ok (.invokevirtual 39, 3) := by decide +kernel
theorem d_M_value_8 : decode b_M_value 8 = .ok (.aload_n 0, 1) := by decide +kernel
theorem d_M_value_9 : decode b_M_value 9 = .ok (.getfield 64, 3) := by decide +kernel
theorem d_M_value_12 : decode b_M_value 12 = .ok (.invokestatic 134, 3) := by decide +kernel
theorem d_M_value_15 : decode b_M_value 15 = .ok (.ireturn, 1) := by decide +kernel
abbrev b_M_storeWord : ByteArray := prog_3_method_36_code
abbrev y_M_storeWord : MethodName := ⟨"SignMachine$Machine", "storeWord", "(I)V"⟩
theorem h_M_storeWord : (y_M_storeWord).cls ≠ "java/lang/invoke/MethodHandle" ∧ (y_M_storeWord).cls ≠ "java/lang/invoke/VarHandle" ∧ (parseMethodDescriptor (y_M_storeWord).desc).map (fun d => d.parameters.length) = some 1 := by decide +kernel
theorem d_M_storeWord_0 : decode b_M_storeWord 0 = .ok (.aload_n 0, 1) := by decide +kernel
theorem d_M_storeWord_1 : decode b_M_storeWord 1 = .ok (.aload_n 0, 1) := by decide +kernel
theorem d_M_storeWord_2 : decode b_M_storeWord 2 = .ok (.getfield 81, 3) := by decide +kernel
theorem d_M_storeWord_5 : decode b_M_storeWord 5 = .ok (.aload_n 0, 1) := by decide +kernel
theorem d_M_storeWord_6 : decode b_M_storeWord 6 = .ok (.aload_n 0, 1) := by decide +kernel
theorem d_M_storeWord_7 : decode b_M_storeWord 7 = .ok (.getfield 81, 3) := by decide +kernel
theorem d_M_storeWord_10 : decode b_M_storeWord 10 = .ok (.invokevirtual 39, 3) := by decide +kernel
theorem d_M_storeWord_13 : decode b_M_storeWord 13 = .ok (.iload_n 1, 1) := by decide +kernel
theorem d_M_storeWord_14 : decode b_M_storeWord 14 = .ok (.aload_n 0, 1) := by decide +kernel
theorem d_M_storeWord_15 : decode b_M_storeWord 15 = .ok (.getfield 64, 3) := by decide +kernel
theorem d_M_storeWord_18 : decode b_M_storeWord 18 = .ok (.invokestatic 235, 3) := by decide +kernel
theorem d_M_storeWord_21 : decode b_M_storeWord 21 = .ok (.invokevirtual 232, 3) := by decide +kernel
theorem d_M_storeWord_24 : decode b_M_storeWord 24 = .ok (.return_, 1) := by decide +kernel
abbrev b_M_goIf : ByteArray := prog_3_method_40_code
abbrev y_M_goIf : MethodName := ⟨"SignMachine$Machine", "goIf", "(Z)V"⟩
theorem h_M_goIf : (y_M_goIf).cls ≠ "java/lang/invoke/MethodHandle" ∧ (y_M_goIf).cls ≠ "java/lang/invoke/VarHandle" ∧ (parseMethodDescriptor (y_M_goIf).desc).map (fun d => d.parameters.length) = some 1 := by decide +kernel
theorem d_M_goIf_0 : decode b_M_goIf 0 = .ok (.iload_n 1, 1) := by decide +kernel
theorem d_M_goIf_1 : decode b_M_goIf 1 = .ok (.ifCond .eq 21, 3) := by decide +kernel
theorem d_M_goIf_4 : decode b_M_goIf 4 = .ok (.aload_n 0, 1) := by decide +kernel
theorem d_M_goIf_5 : decode b_M_goIf 5 = .ok (.bipush 8, 2) := by decide +kernel
theorem d_M_goIf_7 : decode b_M_goIf 7 = .ok (.aload_n 0, 1) := by decide +kernel
theorem d_M_goIf_8 : decode b_M_goIf 8 = .ok (.getfield 32, 3) := by decide +kernel
theorem d_M_goIf_11 : decode b_M_goIf 11 = .ok (.invokevirtual 140, 3) := by decide +kernel
theorem d_M_goIf_14 : decode b_M_goIf 14 = .ok (.aload_n 0, 1) := by decide +kernel
theorem d_M_goIf_15 : decode b_M_goIf 15 = .ok (.aload_n 0, 1) := by decide +kernel
theorem d_M_goIf_16 : decode b_M_goIf 16 = .ok (.getfield 81, 3) := by decide +kernel
theorem d_M_goIf_19 : decode b_M_goIf 19 = .ok (.putfield 32, 3) := by decide +kernel
theorem d_M_goIf_22 : decode b_M_goIf 22 = .ok (.return_, 1) := by decide +kernel
abbrev b_M_decode : ByteArray := prog_3_method_12_code
abbrev y_M_decode : MethodName := ⟨"SignMachine$Machine", "decode", "(I)V"⟩
theorem h_M_decode : (y_M_decode).cls ≠ "java/lang/invoke/MethodHandle" ∧ (y_M_decode).cls ≠ "java/lang/invoke/VarHandle" ∧ (parseMethodDescriptor (y_M_decode).desc).map (fun d => d.parameters.length) = some 1 := by decide +kernel
theorem d_M_decode_0 : decode b_M_decode 0 = .ok (.iload_n 1, 1) := by decide +kernel
theorem d_M_decode_1 : decode b_M_decode 1 = .ok (.invokestatic 67, 3) := by decide +kernel
theorem d_M_decode_4 : decode b_M_decode 4 = .ok (.istore_n 2, 1) := by decide +kernel
theorem d_M_decode_5 : decode b_M_decode 5 = .ok (.aload_n 0, 1) := by decide +kernel
theorem d_M_decode_6 : decode b_M_decode 6 = .ok (.iload_n 2, 1) := by decide +kernel
theorem d_M_decode_7 : decode b_M_decode 7 = .ok (.bipush 63, 2) := by decide +kernel
theorem d_M_decode_9 : decode b_M_decode 9 = .ok (.iand, 1) := by decide +kernel
theorem d_M_decode_10 : decode b_M_decode 10 = .ok (.putfield 61, 3) := by decide +kernel
theorem d_M_decode_13 : decode b_M_decode 13 = .ok (.aload_n 0, 1) := by decide +kernel
theorem d_M_decode_14 : decode b_M_decode 14 = .ok (.iload_n 2, 1) := by decide +kernel
theorem d_M_decode_15 : decode b_M_decode 15 = .ok (.bipush 6, 2) := by decide +kernel
theorem d_M_decode_17 : decode b_M_decode 17 = .ok (.ishr, 1) := by decide +kernel
theorem d_M_decode_18 : decode b_M_decode 18 = .ok (.bipush 63, 2) := by decide +kernel
theorem d_M_decode_20 : decode b_M_decode 20 = .ok (.iand, 1) := by decide +kernel
theorem d_M_decode_21 : decode b_M_decode 21 = .ok (.putfield 64, 3) := by decide +kernel
theorem d_M_decode_24 : decode b_M_decode 24 = .ok (.aload_n 0, 1) := by decide +kernel
theorem d_M_decode_25 : decode b_M_decode 25 = .ok (.iload_n 2, 1) := by decide +kernel
theorem d_M_decode_26 : decode b_M_decode 26 = .ok (.bipush 12, 2) := by decide +kernel
theorem d_M_decode_28 : decode b_M_decode 28 = .ok (.ishr, 1) := by decide +kernel
theorem d_M_decode_29 : decode b_M_decode 29 = .ok (.bipush 63, 2) := by decide +kernel
theorem d_M_decode_31 : decode b_M_decode 31 = .ok (.iand, 1) := by decide +kernel
theorem d_M_decode_32 : decode b_M_decode 32 = .ok (.putfield 72, 3) := by decide +kernel
theorem d_M_decode_35 : decode b_M_decode 35 = .ok (.aload_n 0, 1) := by decide +kernel
theorem d_M_decode_36 : decode b_M_decode 36 = .ok (.iload_n 1, 1) := by decide +kernel
theorem d_M_decode_37 : decode b_M_decode 37 = .ok (.invokestatic 75, 3) := by decide +kernel
theorem d_M_decode_40 : decode b_M_decode 40 = .ok (.putfield 78, 3) := by decide +kernel
theorem d_M_decode_43 : decode b_M_decode 43 = .ok (.iload_n 2, 1) := by decide +kernel
theorem d_M_decode_44 : decode b_M_decode 44 = .ok (.bipush 18, 2) := by decide +kernel
theorem d_M_decode_46 : decode b_M_decode 46 = .ok (.ishr, 1) := by decide +kernel
theorem d_M_decode_47 : decode b_M_decode 47 = .ok (.istore_n 3, 1) := by decide +kernel
theorem d_M_decode_48 : decode b_M_decode 48 = .ok (.aload_n 0, 1) := by decide +kernel
theorem d_M_decode_49 : decode b_M_decode 49 = .ok (.aload_n 0, 1) := by decide +kernel
theorem d_M_decode_50 : decode b_M_decode 50 = .ok (.getfield 78, 3) := by decide +kernel
theorem d_M_decode_53 : decode b_M_decode 53 = .ok (.ifCond .ne 7, 3) := by decide +kernel
theorem d_M_decode_56 : decode b_M_decode 56 = .ok (.iload_n 3, 1) := by decide +kernel
theorem d_M_decode_57 : decode b_M_decode 57 = .ok (.goto 5, 3) := by decide +kernel
theorem d_M_decode_60 : decode b_M_decode 60 = .ok (.iload_n 3, 1) := by decide +kernel
theorem d_M_decode_61 : decode b_M_decode 61 = .ok (.ineg, 1) := by decide +kernel
theorem d_M_decode_62 : decode b_M_decode 62 = .ok (.putfield 81, 3) := by decide +kernel
theorem d_M_decode_65 : decode b_M_decode 65 = .ok (.aload_n 0, 1) := by decide +kernel
theorem d_M_decode_66 : decode b_M_decode 66 = .ok (.getfield 72, 3) := by decide +kernel
theorem d_M_decode_69 : decode b_M_decode 69 = .ok (.invokestatic 28, 3) := by decide +kernel
theorem d_M_decode_72 : decode b_M_decode 72 = .ok (.ifCond .eq 23, 3) := by decide +kernel
theorem d_M_decode_75 : decode b_M_decode 75 = .ok (.aload_n 0, 1) := by decide +kernel
theorem d_M_decode_76 : decode b_M_decode 76 = .ok (.dup, 1) := by decide +kernel
theorem d_M_decode_77 : decode b_M_decode 77 = .ok (.getfield 81, 3) := by decide +kernel
theorem d_M_decode_80 : decode b_M_decode 80 = .ok (.aload_n 0, 1) := by decide +kernel
theorem d_M_decode_81 : decode b_M_decode 81 = .ok (.aload_n 0, 1) := by decide +kernel
theorem d_M_decode_82 : decode b_M_decode 82 = .ok (.getfield 72, 3) := by decide +kernel
theorem d_M_decode_85 : decode b_M_decode 85 = .ok (.invokevirtual 84, 3) := by decide +kernel
theorem d_M_decode_88 : decode b_M_decode 88 = .ok (.invokestatic 87, 3) := by decide +kernel
theorem d_M_decode_91 : decode b_M_decode 91 = .ok (.iadd, 1) := by decide +kernel
theorem d_M_decode_92 : decode b_M_decode 92 = .ok (.putfield 81, 3) := by decide +kernel
theorem d_M_decode_95 : decode b_M_decode 95 = .ok (.return_, 1) := by decide +kernel
abbrev b_M_hasFieldOfWord : ByteArray := prog_3_method_14_code
abbrev y_M_hasFieldOfWord : MethodName := ⟨"SignMachine$Machine", "hasFieldOfWord", "()Z"⟩
theorem h_M_hasFieldOfWord : (y_M_hasFieldOfWord).cls ≠ "java/lang/invoke/MethodHandle" ∧ (y_M_hasFieldOfWord).cls ≠ "java/lang/invoke/VarHandle" ∧ (parseMethodDescriptor (y_M_hasFieldOfWord).desc).map (fun d => d.parameters.length) = some 0 := by decide +kernel
theorem d_M_hasFieldOfWord_0 : decode b_M_hasFieldOfWord 0 = .ok (.aload_n 0, 1) := by decide +kernel
theorem d_M_hasFieldOfWord_1 : decode b_M_hasFieldOfWord 1 = .ok (.getfield 61, 3) := by decide +kernel
theorem d_M_hasFieldOfWord_4 : decode b_M_hasFieldOfWord 4 = .ok (.iconst 1, 1) := by decide +kernel
theorem d_M_hasFieldOfWord_5 : decode b_M_hasFieldOfWord 5 = .ok (.if_icmp .lt 11, 3) := by decide +kernel
theorem d_M_hasFieldOfWord_8 : decode b_M_hasFieldOfWord 8 = .ok (.aload_n 0, 1) := by decide +kernel
theorem d_M_hasFieldOfWord_9 : decode b_M_hasFieldOfWord 9 = .ok (.getfield 61, 3) := by decide +kernel
theorem d_M_hasFieldOfWord_12 : decode b_M_hasFieldOfWord 12 = .ok (.iconst 4, 1) := by decide +kernel
theorem d_M_hasFieldOfWord_13 : decode b_M_hasFieldOfWord 13 = .ok (.if_icmp .le 30, 3) := by decide +kernel
theorem d_M_hasFieldOfWord_16 : decode b_M_hasFieldOfWord 16 = .ok (.aload_n 0, 1) := by decide +kernel
theorem d_M_hasFieldOfWord_17 : decode b_M_hasFieldOfWord 17 = .ok (.getfield 61, 3) := by decide +kernel
theorem d_M_hasFieldOfWord_20 : decode b_M_hasFieldOfWord 20 = .ok (.bipush 8, 2) := by decide +kernel
theorem d_M_hasFieldOfWord_22 : decode b_M_hasFieldOfWord 22 = .ok (.if_icmp .lt 12, 3) := by decide +kernel
theorem d_M_hasFieldOfWord_25 : decode b_M_hasFieldOfWord 25 = .ok (.aload_n 0, 1) := by decide +kernel
theorem d_M_hasFieldOfWord_26 : decode b_M_hasFieldOfWord 26 = .ok (.getfield 61, 3) := by decide +kernel
theorem d_M_hasFieldOfWord_29 : decode b_M_hasFieldOfWord 29 = .ok (.bipush 33, 2) := by decide +kernel
theorem d_M_hasFieldOfWord_31 : decode b_M_hasFieldOfWord 31 = .ok (.if_icmp .le 12, 3) := by decide +kernel
theorem d_M_hasFieldOfWord_34 : decode b_M_hasFieldOfWord 34 = .ok (.aload_n 0, 1) := by decide +kernel
theorem d_M_hasFieldOfWord_35 : decode b_M_hasFieldOfWord 35 = .ok (.getfield 61, 3) := by decide +kernel
theorem d_M_hasFieldOfWord_38 : decode b_M_hasFieldOfWord 38 = .ok (.bipush 56, 2) := by decide +kernel
theorem d_M_hasFieldOfWord_40 : decode b_M_hasFieldOfWord 40 = .ok (.if_icmp .lt 7, 3) := by decide +kernel
theorem d_M_hasFieldOfWord_43 : decode b_M_hasFieldOfWord 43 = .ok (.iconst 1, 1) := by decide +kernel
theorem d_M_hasFieldOfWord_44 : decode b_M_hasFieldOfWord 44 = .ok (.goto 4, 3) := by decide +kernel
theorem d_M_hasFieldOfWord_47 : decode b_M_hasFieldOfWord 47 = .ok (.iconst 0, 1) := by decide +kernel
theorem d_M_hasFieldOfWord_48 : decode b_M_hasFieldOfWord 48 = .ok (.ireturn, 1) := by decide +kernel
abbrev b_M_shapeCanBe : ByteArray := prog_3_method_15_code
abbrev y_M_shapeCanBe : MethodName := ⟨"SignMachine$Machine", "shapeCanBe", "()Z"⟩
theorem h_M_shapeCanBe : (y_M_shapeCanBe).cls ≠ "java/lang/invoke/MethodHandle" ∧ (y_M_shapeCanBe).cls ≠ "java/lang/invoke/VarHandle" ∧ (parseMethodDescriptor (y_M_shapeCanBe).desc).map (fun d => d.parameters.length) = some 0 := by decide +kernel
theorem d_M_shapeCanBe_0 : decode b_M_shapeCanBe 0 = .ok (.aload_n 0, 1) := by decide +kernel
theorem d_M_shapeCanBe_1 : decode b_M_shapeCanBe 1 = .ok (.getfield 72, 3) := by decide +kernel
theorem d_M_shapeCanBe_4 : decode b_M_shapeCanBe 4 = .ok (.bipush 6, 2) := by decide +kernel
theorem d_M_shapeCanBe_6 : decode b_M_shapeCanBe 6 = .ok (.if_icmp .le 5, 3) := by decide +kernel
theorem d_M_shapeCanBe_9 : decode b_M_shapeCanBe 9 = .ok (.iconst 0, 1) := by decide +kernel
theorem d_M_shapeCanBe_10 : decode b_M_shapeCanBe 10 = .ok (.ireturn, 1) := by decide +kernel
theorem d_M_shapeCanBe_11 : decode b_M_shapeCanBe 11 = .ok (.aload_n 0, 1) := by decide +kernel
theorem d_M_shapeCanBe_12 : decode b_M_shapeCanBe 12 = .ok (.invokevirtual 103, 3) := by decide +kernel
theorem d_M_shapeCanBe_15 : decode b_M_shapeCanBe 15 = .ok (.ifCond .eq 11, 3) := by decide +kernel
theorem d_M_shapeCanBe_18 : decode b_M_shapeCanBe 18 = .ok (.aload_n 0, 1) := by decide +kernel
theorem d_M_shapeCanBe_19 : decode b_M_shapeCanBe 19 = .ok (.getfield 64, 3) := by decide +kernel
theorem d_M_shapeCanBe_22 : decode b_M_shapeCanBe 22 = .ok (.invokestatic 106, 3) := by decide +kernel
theorem d_M_shapeCanBe_25 : decode b_M_shapeCanBe 25 = .ok (.ireturn, 1) := by decide +kernel
theorem d_M_shapeCanBe_26 : decode b_M_shapeCanBe 26 = .ok (.aload_n 0, 1) := by decide +kernel
theorem d_M_shapeCanBe_27 : decode b_M_shapeCanBe 27 = .ok (.getfield 61, 3) := by decide +kernel
theorem d_M_shapeCanBe_30 : decode b_M_shapeCanBe 30 = .ok (.tableswitch 233 0 39 #[174, 233, 233, 233, 233, 176, 190, 174, 233, 233, 233, 233, 233, 233, 233, 233, 233, 233, 233, 233, 233, 233, 233, 233, 233, 233, 233, 233, 233, 233, 233, 233, 233, 233, 204, 204, 204, 204, 204, 218], 174) := by decide +kernel
theorem d_M_shapeCanBe_204 : decode b_M_shapeCanBe 204 = .ok (.iconst 1, 1) := by decide +kernel
theorem d_M_shapeCanBe_205 : decode b_M_shapeCanBe 205 = .ok (.ireturn, 1) := by decide +kernel
theorem d_M_shapeCanBe_206 : decode b_M_shapeCanBe 206 = .ok (.aload_n 0, 1) := by decide +kernel
theorem d_M_shapeCanBe_207 : decode b_M_shapeCanBe 207 = .ok (.getfield 64, 3) := by decide +kernel
theorem d_M_shapeCanBe_210 : decode b_M_shapeCanBe 210 = .ok (.iconst 2, 1) := by decide +kernel
theorem d_M_shapeCanBe_211 : decode b_M_shapeCanBe 211 = .ok (.if_icmp .gt 7, 3) := by decide +kernel
theorem d_M_shapeCanBe_214 : decode b_M_shapeCanBe 214 = .ok (.iconst 1, 1) := by decide +kernel
theorem d_M_shapeCanBe_215 : decode b_M_shapeCanBe 215 = .ok (.goto 4, 3) := by decide +kernel
theorem d_M_shapeCanBe_218 : decode b_M_shapeCanBe 218 = .ok (.iconst 0, 1) := by decide +kernel
theorem d_M_shapeCanBe_219 : decode b_M_shapeCanBe 219 = .ok (.ireturn, 1) := by decide +kernel
theorem d_M_shapeCanBe_220 : decode b_M_shapeCanBe 220 = .ok (.aload_n 0, 1) := by decide +kernel
theorem d_M_shapeCanBe_221 : decode b_M_shapeCanBe 221 = .ok (.getfield 64, 3) := by decide +kernel
theorem d_M_shapeCanBe_224 : decode b_M_shapeCanBe 224 = .ok (.iconst 5, 1) := by decide +kernel
theorem d_M_shapeCanBe_225 : decode b_M_shapeCanBe 225 = .ok (.if_icmp .gt 7, 3) := by decide +kernel
theorem d_M_shapeCanBe_228 : decode b_M_shapeCanBe 228 = .ok (.iconst 1, 1) := by decide +kernel
theorem d_M_shapeCanBe_229 : decode b_M_shapeCanBe 229 = .ok (.goto 4, 3) := by decide +kernel
theorem d_M_shapeCanBe_232 : decode b_M_shapeCanBe 232 = .ok (.iconst 0, 1) := by decide +kernel
theorem d_M_shapeCanBe_233 : decode b_M_shapeCanBe 233 = .ok (.ireturn, 1) := by decide +kernel
theorem d_M_shapeCanBe_234 : decode b_M_shapeCanBe 234 = .ok (.aload_n 0, 1) := by decide +kernel
theorem d_M_shapeCanBe_235 : decode b_M_shapeCanBe 235 = .ok (.getfield 64, 3) := by decide +kernel
theorem d_M_shapeCanBe_238 : decode b_M_shapeCanBe 238 = .ok (.iconst 1, 1) := by decide +kernel
theorem d_M_shapeCanBe_239 : decode b_M_shapeCanBe 239 = .ok (.if_icmp .gt 7, 3) := by decide +kernel
theorem d_M_shapeCanBe_242 : decode b_M_shapeCanBe 242 = .ok (.iconst 1, 1) := by decide +kernel
theorem d_M_shapeCanBe_243 : decode b_M_shapeCanBe 243 = .ok (.goto 4, 3) := by decide +kernel
theorem d_M_shapeCanBe_246 : decode b_M_shapeCanBe 246 = .ok (.iconst 0, 1) := by decide +kernel
theorem d_M_shapeCanBe_247 : decode b_M_shapeCanBe 247 = .ok (.ireturn, 1) := by decide +kernel
theorem d_M_shapeCanBe_248 : decode b_M_shapeCanBe 248 = .ok (.aload_n 0, 1) := by decide +kernel
theorem d_M_shapeCanBe_249 : decode b_M_shapeCanBe 249 = .ok (.getfield 64, 3) := by decide +kernel
theorem d_M_shapeCanBe_252 : decode b_M_shapeCanBe 252 = .ok (.bipush 9, 2) := by decide +kernel
theorem d_M_shapeCanBe_254 : decode b_M_shapeCanBe 254 = .ok (.if_icmp .gt 7, 3) := by decide +kernel
theorem d_M_shapeCanBe_257 : decode b_M_shapeCanBe 257 = .ok (.iconst 1, 1) := by decide +kernel
theorem d_M_shapeCanBe_258 : decode b_M_shapeCanBe 258 = .ok (.goto 4, 3) := by decide +kernel
theorem d_M_shapeCanBe_261 : decode b_M_shapeCanBe 261 = .ok (.iconst 0, 1) := by decide +kernel
theorem d_M_shapeCanBe_262 : decode b_M_shapeCanBe 262 = .ok (.ireturn, 1) := by decide +kernel
theorem d_M_shapeCanBe_263 : decode b_M_shapeCanBe 263 = .ok (.aload_n 0, 1) := by decide +kernel
theorem d_M_shapeCanBe_264 : decode b_M_shapeCanBe 264 = .ok (.getfield 64, 3) := by decide +kernel
theorem d_M_shapeCanBe_267 : decode b_M_shapeCanBe 267 = .ok (.aload_n 0, 1) := by decide +kernel
theorem d_M_shapeCanBe_268 : decode b_M_shapeCanBe 268 = .ok (.getfield 61, 3) := by decide +kernel
theorem d_M_shapeCanBe_271 : decode b_M_shapeCanBe 271 = .ok (.bipush 47, 2) := by decide +kernel
theorem d_M_shapeCanBe_273 : decode b_M_shapeCanBe 273 = .ok (.if_icmp .gt 7, 3) := by decide +kernel
theorem d_M_shapeCanBe_276 : decode b_M_shapeCanBe 276 = .ok (.iconst 5, 1) := by decide +kernel
theorem d_M_shapeCanBe_277 : decode b_M_shapeCanBe 277 = .ok (.goto 4, 3) := by decide +kernel
theorem d_M_shapeCanBe_280 : decode b_M_shapeCanBe 280 = .ok (.iconst 3, 1) := by decide +kernel
theorem d_M_shapeCanBe_281 : decode b_M_shapeCanBe 281 = .ok (.if_icmp .gt 7, 3) := by decide +kernel
theorem d_M_shapeCanBe_284 : decode b_M_shapeCanBe 284 = .ok (.iconst 1, 1) := by decide +kernel
theorem d_M_shapeCanBe_285 : decode b_M_shapeCanBe 285 = .ok (.goto 4, 3) := by decide +kernel
theorem d_M_shapeCanBe_288 : decode b_M_shapeCanBe 288 = .ok (.iconst 0, 1) := by decide +kernel
theorem d_M_shapeCanBe_289 : decode b_M_shapeCanBe 289 = .ok (.ireturn, 1) := by decide +kernel
abbrev b_M_canMove : ByteArray := prog_3_method_17_code
abbrev y_M_canMove : MethodName := ⟨"SignMachine$Machine", "canMove", "()Z"⟩
theorem h_M_canMove : (y_M_canMove).cls ≠ "java/lang/invoke/MethodHandle" ∧ (y_M_canMove).cls ≠ "java/lang/invoke/VarHandle" ∧ (parseMethodDescriptor (y_M_canMove).desc).map (fun d => d.parameters.length) = some 0 := by decide +kernel
theorem d_M_canMove_0 : decode b_M_canMove 0 = .ok (.aload_n 0, 1) := by decide +kernel
theorem d_M_canMove_1 : decode b_M_canMove 1 = .ok (.getfield 64, 3) := by decide +kernel
theorem d_M_canMove_4 : decode b_M_canMove 4 = .ok (.ifCond .eq 35, 3) := by decide +kernel
theorem d_M_canMove_7 : decode b_M_canMove 7 = .ok (.aload_n 0, 1) := by decide +kernel
theorem d_M_canMove_8 : decode b_M_canMove 8 = .ok (.getfield 81, 3) := by decide +kernel
theorem d_M_canMove_11 : decode b_M_canMove 11 = .ok (.aload_n 0, 1) := by decide +kernel
theorem d_M_canMove_12 : decode b_M_canMove 12 = .ok (.getfield 64, 3) := by decide +kernel
theorem d_M_canMove_15 : decode b_M_canMove 15 = .ok (.invokestatic 112, 3) := by decide +kernel
theorem d_M_canMove_18 : decode b_M_canMove 18 = .ok (.ifCond .eq 25, 3) := by decide +kernel
theorem d_M_canMove_21 : decode b_M_canMove 21 = .ok (.aload_n 0, 1) := by decide +kernel
theorem d_M_canMove_22 : decode b_M_canMove 22 = .ok (.iconst 1, 1) := by decide +kernel
theorem d_M_canMove_23 : decode b_M_canMove 23 = .ok (.invokevirtual 84, 3) := by decide +kernel
theorem d_M_canMove_26 : decode b_M_canMove 26 = .ok (.invokestatic 87, 3) := by decide +kernel
theorem d_M_canMove_29 : decode b_M_canMove 29 = .ok (.aload_n 0, 1) := by decide +kernel
theorem d_M_canMove_30 : decode b_M_canMove 30 = .ok (.getfield 64, 3) := by decide +kernel
theorem d_M_canMove_33 : decode b_M_canMove 33 = .ok (.invokestatic 112, 3) := by decide +kernel
theorem d_M_canMove_36 : decode b_M_canMove 36 = .ok (.ifCond .eq 7, 3) := by decide +kernel
theorem d_M_canMove_39 : decode b_M_canMove 39 = .ok (.iconst 1, 1) := by decide +kernel
theorem d_M_canMove_40 : decode b_M_canMove 40 = .ok (.goto 4, 3) := by decide +kernel
theorem d_M_canMove_43 : decode b_M_canMove 43 = .ok (.iconst 0, 1) := by decide +kernel
theorem d_M_canMove_44 : decode b_M_canMove 44 = .ok (.ireturn, 1) := by decide +kernel
abbrev b_M_addressCanBe : ByteArray := prog_3_method_16_code
abbrev y_M_addressCanBe : MethodName := ⟨"SignMachine$Machine", "addressCanBe", "()Z"⟩
theorem h_M_addressCanBe : (y_M_addressCanBe).cls ≠ "java/lang/invoke/MethodHandle" ∧ (y_M_addressCanBe).cls ≠ "java/lang/invoke/VarHandle" ∧ (parseMethodDescriptor (y_M_addressCanBe).desc).map (fun d => d.parameters.length) = some 0 := by decide +kernel
theorem d_M_addressCanBe_0 : decode b_M_addressCanBe 0 = .ok (.aload_n 0, 1) := by decide +kernel
theorem d_M_addressCanBe_1 : decode b_M_addressCanBe 1 = .ok (.invokevirtual 103, 3) := by decide +kernel
theorem d_M_addressCanBe_4 : decode b_M_addressCanBe 4 = .ok (.ifCond .eq 11, 3) := by decide +kernel
theorem d_M_addressCanBe_7 : decode b_M_addressCanBe 7 = .ok (.aload_n 0, 1) := by decide +kernel
theorem d_M_addressCanBe_8 : decode b_M_addressCanBe 8 = .ok (.getfield 81, 3) := by decide +kernel
theorem d_M_addressCanBe_11 : decode b_M_addressCanBe 11 = .ok (.invokestatic 36, 3) := by decide +kernel
theorem d_M_addressCanBe_14 : decode b_M_addressCanBe 14 = .ok (.ireturn, 1) := by decide +kernel
theorem d_M_addressCanBe_15 : decode b_M_addressCanBe 15 = .ok (.aload_n 0, 1) := by decide +kernel
theorem d_M_addressCanBe_16 : decode b_M_addressCanBe 16 = .ok (.getfield 61, 3) := by decide +kernel
theorem d_M_addressCanBe_19 : decode b_M_addressCanBe 19 = .ok (.lookupswitch 95 #[(0, 65), (5, 65), (6, 67), (7, 80), (35, 65), (36, 85), (37, 85)], 65) := by decide +kernel
theorem d_M_addressCanBe_84 : decode b_M_addressCanBe 84 = .ok (.iconst 1, 1) := by decide +kernel
theorem d_M_addressCanBe_85 : decode b_M_addressCanBe 85 = .ok (.ireturn, 1) := by decide +kernel
theorem d_M_addressCanBe_86 : decode b_M_addressCanBe 86 = .ok (.aload_n 0, 1) := by decide +kernel
theorem d_M_addressCanBe_87 : decode b_M_addressCanBe 87 = .ok (.getfield 81, 3) := by decide +kernel
theorem d_M_addressCanBe_90 : decode b_M_addressCanBe 90 = .ok (.ifCond .lt 7, 3) := by decide +kernel
theorem d_M_addressCanBe_93 : decode b_M_addressCanBe 93 = .ok (.iconst 1, 1) := by decide +kernel
theorem d_M_addressCanBe_94 : decode b_M_addressCanBe 94 = .ok (.goto 4, 3) := by decide +kernel
theorem d_M_addressCanBe_97 : decode b_M_addressCanBe 97 = .ok (.iconst 0, 1) := by decide +kernel
theorem d_M_addressCanBe_98 : decode b_M_addressCanBe 98 = .ok (.ireturn, 1) := by decide +kernel
theorem d_M_addressCanBe_99 : decode b_M_addressCanBe 99 = .ok (.aload_n 0, 1) := by decide +kernel
theorem d_M_addressCanBe_100 : decode b_M_addressCanBe 100 = .ok (.invokevirtual 109, 3) := by decide +kernel
theorem d_M_addressCanBe_103 : decode b_M_addressCanBe 103 = .ok (.ireturn, 1) := by decide +kernel
theorem d_M_addressCanBe_104 : decode b_M_addressCanBe 104 = .ok (.aload_n 0, 1) := by decide +kernel
theorem d_M_addressCanBe_105 : decode b_M_addressCanBe 105 = .ok (.getfield 81, 3) := by decide +kernel
theorem d_M_addressCanBe_108 : decode b_M_addressCanBe 108 = .ok (.bipush 100, 2) := by decide +kernel
theorem d_M_addressCanBe_110 : decode b_M_addressCanBe 110 = .ok (.invokestatic 112, 3) := by decide +kernel
theorem d_M_addressCanBe_113 : decode b_M_addressCanBe 113 = .ok (.ireturn, 1) := by decide +kernel
theorem d_M_addressCanBe_114 : decode b_M_addressCanBe 114 = .ok (.aload_n 0, 1) := by decide +kernel
theorem d_M_addressCanBe_115 : decode b_M_addressCanBe 115 = .ok (.getfield 61, 3) := by decide +kernel
theorem d_M_addressCanBe_118 : decode b_M_addressCanBe 118 = .ok (.bipush 48, 2) := by decide +kernel
theorem d_M_addressCanBe_120 : decode b_M_addressCanBe 120 = .ok (.if_icmp .ge 13, 3) := by decide +kernel
theorem d_M_addressCanBe_123 : decode b_M_addressCanBe 123 = .ok (.aload_n 0, 1) := by decide +kernel
theorem d_M_addressCanBe_124 : decode b_M_addressCanBe 124 = .ok (.getfield 81, 3) := by decide +kernel
theorem d_M_addressCanBe_127 : decode b_M_addressCanBe 127 = .ok (.invokestatic 36, 3) := by decide +kernel
theorem d_M_addressCanBe_130 : decode b_M_addressCanBe 130 = .ok (.ifCond .eq 7, 3) := by decide +kernel
theorem d_M_addressCanBe_133 : decode b_M_addressCanBe 133 = .ok (.iconst 1, 1) := by decide +kernel
theorem d_M_addressCanBe_134 : decode b_M_addressCanBe 134 = .ok (.goto 4, 3) := by decide +kernel
theorem d_M_addressCanBe_137 : decode b_M_addressCanBe 137 = .ok (.iconst 0, 1) := by decide +kernel
theorem d_M_addressCanBe_138 : decode b_M_addressCanBe 138 = .ok (.ireturn, 1) := by decide +kernel
abbrev b_M_numberByAddress : ByteArray := prog_3_method_43_code
abbrev y_M_numberByAddress : MethodName := ⟨"SignMachine$Machine", "numberByAddress", "()I"⟩
theorem h_M_numberByAddress : (y_M_numberByAddress).cls ≠ "java/lang/invoke/MethodHandle" ∧ (y_M_numberByAddress).cls ≠ "java/lang/invoke/VarHandle" ∧ (parseMethodDescriptor (y_M_numberByAddress).desc).map (fun d => d.parameters.length) = some 0 := by decide +kernel
theorem d_M_numberByAddress_0 : decode b_M_numberByAddress 0 = .ok (.aload_n 0, 1) := by decide +kernel
theorem d_M_numberByAddress_1 : decode b_M_numberByAddress 1 = .ok (.aload_n 0, 1) := by decide +kernel
theorem d_M_numberByAddress_2 : decode b_M_numberByAddress 2 = .ok (.getfield 61, 3) := by decide +kernel
theorem d_M_numberByAddress_5 : decode b_M_numberByAddress 5 = .ok (.bipush 7, 2) := by decide +kernel
theorem d_M_numberByAddress_7 : decode b_M_numberByAddress 7 = .ok (.iand, 1) := by decide +kernel
theorem d_M_numberByAddress_8 : decode b_M_numberByAddress 8 = .ok (.invokevirtual 84, 3) := by decide +kernel
theorem d_M_numberByAddress_11 : decode b_M_numberByAddress 11 = .ok (.invokestatic 87, 3) := by decide +kernel
theorem d_M_numberByAddress_14 : decode b_M_numberByAddress 14 = .ok (.istore_n 1, 1) := by decide +kernel
theorem d_M_numberByAddress_15 : decode b_M_numberByAddress 15 = .ok (.aload_n 0, 1) := by decide +kernel
theorem d_M_numberByAddress_16 : decode b_M_numberByAddress 16 = .ok (.getfield 64, 3) := by decide +kernel
theorem d_M_numberByAddress_19 : decode b_M_numberByAddress 19 = .ok (.tableswitch 44 0 2 #[25, 32, 39], 25) := by decide +kernel
theorem d_M_numberByAddress_44 : decode b_M_numberByAddress 44 = .ok (.iload_n 1, 1) := by decide +kernel
theorem d_M_numberByAddress_45 : decode b_M_numberByAddress 45 = .ok (.aload_n 0, 1) := by decide +kernel
theorem d_M_numberByAddress_46 : decode b_M_numberByAddress 46 = .ok (.getfield 81, 3) := by decide +kernel
theorem d_M_numberByAddress_49 : decode b_M_numberByAddress 49 = .ok (.iadd, 1) := by decide +kernel
theorem d_M_numberByAddress_50 : decode b_M_numberByAddress 50 = .ok (.ireturn, 1) := by decide +kernel
theorem d_M_numberByAddress_51 : decode b_M_numberByAddress 51 = .ok (.iload_n 1, 1) := by decide +kernel
theorem d_M_numberByAddress_52 : decode b_M_numberByAddress 52 = .ok (.aload_n 0, 1) := by decide +kernel
theorem d_M_numberByAddress_53 : decode b_M_numberByAddress 53 = .ok (.getfield 81, 3) := by decide +kernel
theorem d_M_numberByAddress_56 : decode b_M_numberByAddress 56 = .ok (.isub, 1) := by decide +kernel
theorem d_M_numberByAddress_57 : decode b_M_numberByAddress 57 = .ok (.ireturn, 1) := by decide +kernel
theorem d_M_numberByAddress_58 : decode b_M_numberByAddress 58 = .ok (.aload_n 0, 1) := by decide +kernel
theorem d_M_numberByAddress_59 : decode b_M_numberByAddress 59 = .ok (.getfield 81, 3) := by decide +kernel
theorem d_M_numberByAddress_62 : decode b_M_numberByAddress 62 = .ok (.ireturn, 1) := by decide +kernel
theorem d_M_numberByAddress_63 : decode b_M_numberByAddress 63 = .ok (.aload_n 0, 1) := by decide +kernel
theorem d_M_numberByAddress_64 : decode b_M_numberByAddress 64 = .ok (.getfield 81, 3) := by decide +kernel
theorem d_M_numberByAddress_67 : decode b_M_numberByAddress 67 = .ok (.ineg, 1) := by decide +kernel
theorem d_M_numberByAddress_68 : decode b_M_numberByAddress 68 = .ok (.ireturn, 1) := by decide +kernel
abbrev b_M_indexCanBe : ByteArray := prog_3_method_19_code
abbrev y_M_indexCanBe : MethodName := ⟨"SignMachine$Machine", "indexCanBe", "()Z"⟩
theorem h_M_indexCanBe : (y_M_indexCanBe).cls ≠ "java/lang/invoke/MethodHandle" ∧ (y_M_indexCanBe).cls ≠ "java/lang/invoke/VarHandle" ∧ (parseMethodDescriptor (y_M_indexCanBe).desc).map (fun d => d.parameters.length) = some 0 := by decide +kernel
theorem d_M_indexCanBe_0 : decode b_M_indexCanBe 0 = .ok (.aload_n 0, 1) := by decide +kernel
theorem d_M_indexCanBe_1 : decode b_M_indexCanBe 1 = .ok (.getfield 61, 3) := by decide +kernel
theorem d_M_indexCanBe_4 : decode b_M_indexCanBe 4 = .ok (.bipush 7, 2) := by decide +kernel
theorem d_M_indexCanBe_6 : decode b_M_indexCanBe 6 = .ok (.iand, 1) := by decide +kernel
theorem d_M_indexCanBe_7 : decode b_M_indexCanBe 7 = .ok (.invokestatic 28, 3) := by decide +kernel
theorem d_M_indexCanBe_10 : decode b_M_indexCanBe 10 = .ok (.ifCond .ne 5, 3) := by decide +kernel
theorem d_M_indexCanBe_13 : decode b_M_indexCanBe 13 = .ok (.iconst 1, 1) := by decide +kernel
theorem d_M_indexCanBe_14 : decode b_M_indexCanBe 14 = .ok (.ireturn, 1) := by decide +kernel
theorem d_M_indexCanBe_15 : decode b_M_indexCanBe 15 = .ok (.aload_n 0, 1) := by decide +kernel
theorem d_M_indexCanBe_16 : decode b_M_indexCanBe 16 = .ok (.getfield 61, 3) := by decide +kernel
theorem d_M_indexCanBe_19 : decode b_M_indexCanBe 19 = .ok (.iconst 3, 1) := by decide +kernel
theorem d_M_indexCanBe_20 : decode b_M_indexCanBe 20 = .ok (.ishr, 1) := by decide +kernel
theorem d_M_indexCanBe_21 : decode b_M_indexCanBe 21 = .ok (.lookupswitch 73 #[(1, 35), (2, 35), (6, 54)], 35) := by decide +kernel
theorem d_M_indexCanBe_56 : decode b_M_indexCanBe 56 = .ok (.aload_n 0, 1) := by decide +kernel
theorem d_M_indexCanBe_57 : decode b_M_indexCanBe 57 = .ok (.invokevirtual 116, 3) := by decide +kernel
theorem d_M_indexCanBe_60 : decode b_M_indexCanBe 60 = .ok (.invokestatic 67, 3) := by decide +kernel
theorem d_M_indexCanBe_63 : decode b_M_indexCanBe 63 = .ok (.sipush 4095, 3) := by decide +kernel
theorem d_M_indexCanBe_66 : decode b_M_indexCanBe 66 = .ok (.if_icmp .gt 7, 3) := by decide +kernel
theorem d_M_indexCanBe_69 : decode b_M_indexCanBe 69 = .ok (.iconst 1, 1) := by decide +kernel
theorem d_M_indexCanBe_70 : decode b_M_indexCanBe 70 = .ok (.goto 4, 3) := by decide +kernel
theorem d_M_indexCanBe_73 : decode b_M_indexCanBe 73 = .ok (.iconst 0, 1) := by decide +kernel
theorem d_M_indexCanBe_74 : decode b_M_indexCanBe 74 = .ok (.ireturn, 1) := by decide +kernel
theorem d_M_indexCanBe_75 : decode b_M_indexCanBe 75 = .ok (.aload_n 0, 1) := by decide +kernel
theorem d_M_indexCanBe_76 : decode b_M_indexCanBe 76 = .ok (.invokevirtual 119, 3) := by decide +kernel
theorem d_M_indexCanBe_79 : decode b_M_indexCanBe 79 = .ok (.invokestatic 122, 3) := by decide +kernel
theorem d_M_indexCanBe_82 : decode b_M_indexCanBe 82 = .ok (.sipush 4095, 3) := by decide +kernel
theorem d_M_indexCanBe_85 : decode b_M_indexCanBe 85 = .ok (.if_icmp .gt 7, 3) := by decide +kernel
theorem d_M_indexCanBe_88 : decode b_M_indexCanBe 88 = .ok (.iconst 1, 1) := by decide +kernel
theorem d_M_indexCanBe_89 : decode b_M_indexCanBe 89 = .ok (.goto 4, 3) := by decide +kernel
theorem d_M_indexCanBe_92 : decode b_M_indexCanBe 92 = .ok (.iconst 0, 1) := by decide +kernel
theorem d_M_indexCanBe_93 : decode b_M_indexCanBe 93 = .ok (.ireturn, 1) := by decide +kernel
theorem d_M_indexCanBe_94 : decode b_M_indexCanBe 94 = .ok (.iconst 1, 1) := by decide +kernel
theorem d_M_indexCanBe_95 : decode b_M_indexCanBe 95 = .ok (.ireturn, 1) := by decide +kernel
abbrev b_M_duration : ByteArray := prog_3_method_21_code
abbrev y_M_duration : MethodName := ⟨"SignMachine$Machine", "duration", "()I"⟩
theorem h_M_duration : (y_M_duration).cls ≠ "java/lang/invoke/MethodHandle" ∧ (y_M_duration).cls ≠ "java/lang/invoke/VarHandle" ∧ (parseMethodDescriptor (y_M_duration).desc).map (fun d => d.parameters.length) = some 0 := by decide +kernel
theorem d_M_duration_0 : decode b_M_duration 0 = .ok (.aload_n 0, 1) := by decide +kernel
theorem d_M_duration_1 : decode b_M_duration 1 = .ok (.invokevirtual 103, 3) := by decide +kernel
theorem d_M_duration_4 : decode b_M_duration 4 = .ok (.ifCond .eq 31, 3) := by decide +kernel
theorem d_M_duration_7 : decode b_M_duration 7 = .ok (.aload_n 0, 1) := by decide +kernel
theorem d_M_duration_8 : decode b_M_duration 8 = .ok (.getfield 61, 3) := by decide +kernel
theorem d_M_duration_11 : decode b_M_duration 11 = .ok (.iconst 3, 1) := by decide +kernel
theorem d_M_duration_12 : decode b_M_duration 12 = .ok (.if_icmp .ne 8, 3) := by decide +kernel
theorem d_M_duration_15 : decode b_M_duration 15 = .ok (.bipush 10, 2) := by decide +kernel
theorem d_M_duration_17 : decode b_M_duration 17 = .ok (.goto 17, 3) := by decide +kernel
theorem d_M_duration_20 : decode b_M_duration 20 = .ok (.aload_n 0, 1) := by decide +kernel
theorem d_M_duration_21 : decode b_M_duration 21 = .ok (.getfield 61, 3) := by decide +kernel
theorem d_M_duration_24 : decode b_M_duration 24 = .ok (.iconst 4, 1) := by decide +kernel
theorem d_M_duration_25 : decode b_M_duration 25 = .ok (.if_icmp .ne 8, 3) := by decide +kernel
theorem d_M_duration_28 : decode b_M_duration 28 = .ok (.bipush 12, 2) := by decide +kernel
theorem d_M_duration_30 : decode b_M_duration 30 = .ok (.goto 4, 3) := by decide +kernel
theorem d_M_duration_33 : decode b_M_duration 33 = .ok (.iconst 2, 1) := by decide +kernel
theorem d_M_duration_34 : decode b_M_duration 34 = .ok (.ireturn, 1) := by decide +kernel
theorem d_M_duration_35 : decode b_M_duration 35 = .ok (.aload_n 0, 1) := by decide +kernel
theorem d_M_duration_36 : decode b_M_duration 36 = .ok (.getfield 61, 3) := by decide +kernel
theorem d_M_duration_39 : decode b_M_duration 39 = .ok (.tableswitch 39 5 7 #[25, 28, 30], 25) := by decide +kernel
theorem d_M_duration_64 : decode b_M_duration 64 = .ok (.bipush 10, 2) := by decide +kernel
theorem d_M_duration_66 : decode b_M_duration 66 = .ok (.ireturn, 1) := by decide +kernel
theorem d_M_duration_67 : decode b_M_duration 67 = .ok (.iconst 2, 1) := by decide +kernel
theorem d_M_duration_68 : decode b_M_duration 68 = .ok (.ireturn, 1) := by decide +kernel
theorem d_M_duration_69 : decode b_M_duration 69 = .ok (.iconst 1, 1) := by decide +kernel
theorem d_M_duration_70 : decode b_M_duration 70 = .ok (.iconst 2, 1) := by decide +kernel
theorem d_M_duration_71 : decode b_M_duration 71 = .ok (.aload_n 0, 1) := by decide +kernel
theorem d_M_duration_72 : decode b_M_duration 72 = .ok (.getfield 64, 3) := by decide +kernel
theorem d_M_duration_75 : decode b_M_duration 75 = .ok (.imul, 1) := by decide +kernel
theorem d_M_duration_76 : decode b_M_duration 76 = .ok (.iadd, 1) := by decide +kernel
theorem d_M_duration_77 : decode b_M_duration 77 = .ok (.ireturn, 1) := by decide +kernel
theorem d_M_duration_78 : decode b_M_duration 78 = .ok (.iconst 1, 1) := by decide +kernel
theorem d_M_duration_79 : decode b_M_duration 79 = .ok (.ireturn, 1) := by decide +kernel
abbrev b_M_addTo : ByteArray := prog_3_method_26_code
abbrev y_M_addTo : MethodName := ⟨"SignMachine$Machine", "addTo", "(II)V"⟩
theorem h_M_addTo : (y_M_addTo).cls ≠ "java/lang/invoke/MethodHandle" ∧ (y_M_addTo).cls ≠ "java/lang/invoke/VarHandle" ∧ (parseMethodDescriptor (y_M_addTo).desc).map (fun d => d.parameters.length) = some 2 := by decide +kernel
theorem d_M_addTo_0 : decode b_M_addTo 0 = .ok (.aload_n 0, 1) := by decide +kernel
theorem d_M_addTo_1 : decode b_M_addTo 1 = .ok (.iload_n 1, 1) := by decide +kernel
theorem d_M_addTo_2 : decode b_M_addTo 2 = .ok (.invokevirtual 84, 3) := by decide +kernel
theorem d_M_addTo_5 : decode b_M_addTo 5 = .ok (.istore_n 3, 1) := by decide +kernel
theorem d_M_addTo_6 : decode b_M_addTo 6 = .ok (.iload_n 3, 1) := by decide +kernel
theorem d_M_addTo_7 : decode b_M_addTo 7 = .ok (.invokestatic 87, 3) := by decide +kernel
theorem d_M_addTo_10 : decode b_M_addTo 10 = .ok (.iload_n 2, 1) := by decide +kernel
theorem d_M_addTo_11 : decode b_M_addTo 11 = .ok (.iadd, 1) := by decide +kernel
theorem d_M_addTo_12 : decode b_M_addTo 12 = .ok (.istore 4, 2) := by decide +kernel
theorem d_M_addTo_14 : decode b_M_addTo 14 = .ok (.iload 4, 2) := by decide +kernel
theorem d_M_addTo_16 : decode b_M_addTo 16 = .ok (.invokestatic 122, 3) := by decide +kernel
theorem d_M_addTo_19 : decode b_M_addTo 19 = .ok (.ldc 57, 2) := by decide +kernel
theorem d_M_addTo_21 : decode b_M_addTo 21 = .ok (.if_icmp .le 28, 3) := by decide +kernel
theorem d_M_addTo_24 : decode b_M_addTo 24 = .ok (.aload_n 0, 1) := by decide +kernel
theorem d_M_addTo_25 : decode b_M_addTo 25 = .ok (.iconst 1, 1) := by decide +kernel
theorem d_M_addTo_26 : decode b_M_addTo 26 = .ok (.putfield 196, 3) := by decide +kernel
theorem d_M_addTo_29 : decode b_M_addTo 29 = .ok (.iload 4, 2) := by decide +kernel
theorem d_M_addTo_31 : decode b_M_addTo 31 = .ok (.ifCond .le 11, 3) := by decide +kernel
theorem d_M_addTo_34 : decode b_M_addTo 34 = .ok (.iload 4, 2) := by decide +kernel
theorem d_M_addTo_36 : decode b_M_addTo 36 = .ok (.ldc 200, 2) := by decide +kernel
theorem d_M_addTo_38 : decode b_M_addTo 38 = .ok (.isub, 1) := by decide +kernel
theorem d_M_addTo_39 : decode b_M_addTo 39 = .ok (.goto 8, 3) := by decide +kernel
theorem d_M_addTo_42 : decode b_M_addTo 42 = .ok (.iload 4, 2) := by decide +kernel
theorem d_M_addTo_44 : decode b_M_addTo 44 = .ok (.ldc 200, 2) := by decide +kernel
theorem d_M_addTo_46 : decode b_M_addTo 46 = .ok (.iadd, 1) := by decide +kernel
theorem d_M_addTo_47 : decode b_M_addTo 47 = .ok (.istore 4, 2) := by decide +kernel
theorem d_M_addTo_49 : decode b_M_addTo 49 = .ok (.aload_n 0, 1) := by decide +kernel
theorem d_M_addTo_50 : decode b_M_addTo 50 = .ok (.iload_n 1, 1) := by decide +kernel
theorem d_M_addTo_51 : decode b_M_addTo 51 = .ok (.iload 4, 2) := by decide +kernel
theorem d_M_addTo_53 : decode b_M_addTo 53 = .ok (.iload_n 3, 1) := by decide +kernel
theorem d_M_addTo_54 : decode b_M_addTo 54 = .ok (.invokestatic 75, 3) := by decide +kernel
theorem d_M_addTo_57 : decode b_M_addTo 57 = .ok (.invokestatic 201, 3) := by decide +kernel
theorem d_M_addTo_60 : decode b_M_addTo 60 = .ok (.invokevirtual 140, 3) := by decide +kernel
theorem d_M_addTo_63 : decode b_M_addTo 63 = .ok (.return_, 1) := by decide +kernel
abbrev b_M_sizeOfAX : ByteArray := prog_3_method_27_code
abbrev y_M_sizeOfAX : MethodName := ⟨"SignMachine$Machine", "sizeOfAX", "()J"⟩
theorem h_M_sizeOfAX : (y_M_sizeOfAX).cls ≠ "java/lang/invoke/MethodHandle" ∧ (y_M_sizeOfAX).cls ≠ "java/lang/invoke/VarHandle" ∧ (parseMethodDescriptor (y_M_sizeOfAX).desc).map (fun d => d.parameters.length) = some 0 := by decide +kernel
theorem d_M_sizeOfAX_0 : decode b_M_sizeOfAX 0 = .ok (.aload_n 0, 1) := by decide +kernel
theorem d_M_sizeOfAX_1 : decode b_M_sizeOfAX 1 = .ok (.iconst 0, 1) := by decide +kernel
theorem d_M_sizeOfAX_2 : decode b_M_sizeOfAX 2 = .ok (.invokevirtual 84, 3) := by decide +kernel
theorem d_M_sizeOfAX_5 : decode b_M_sizeOfAX 5 = .ok (.invokestatic 67, 3) := by decide +kernel
theorem d_M_sizeOfAX_8 : decode b_M_sizeOfAX 8 = .ok (.i2l, 1) := by decide +kernel
theorem d_M_sizeOfAX_9 : decode b_M_sizeOfAX 9 = .ok (.bipush 30, 2) := by decide +kernel
theorem d_M_sizeOfAX_11 : decode b_M_sizeOfAX 11 = .ok (.lshl, 1) := by decide +kernel
theorem d_M_sizeOfAX_12 : decode b_M_sizeOfAX 12 = .ok (.aload_n 0, 1) := by decide +kernel
theorem d_M_sizeOfAX_13 : decode b_M_sizeOfAX 13 = .ok (.bipush 7, 2) := by decide +kernel
theorem d_M_sizeOfAX_15 : decode b_M_sizeOfAX 15 = .ok (.invokevirtual 84, 3) := by decide +kernel
theorem d_M_sizeOfAX_18 : decode b_M_sizeOfAX 18 = .ok (.invokestatic 67, 3) := by decide +kernel
theorem d_M_sizeOfAX_21 : decode b_M_sizeOfAX 21 = .ok (.i2l, 1) := by decide +kernel
theorem d_M_sizeOfAX_22 : decode b_M_sizeOfAX 22 = .ok (.lor, 1) := by decide +kernel
theorem d_M_sizeOfAX_23 : decode b_M_sizeOfAX 23 = .ok (.lreturn, 1) := by decide +kernel
abbrev b_M_putSizesOfAX : ByteArray := prog_3_method_28_code
abbrev y_M_putSizesOfAX : MethodName := ⟨"SignMachine$Machine", "putSizesOfAX", "(J)V"⟩
theorem h_M_putSizesOfAX : (y_M_putSizesOfAX).cls ≠ "java/lang/invoke/MethodHandle" ∧ (y_M_putSizesOfAX).cls ≠ "java/lang/invoke/VarHandle" ∧ (parseMethodDescriptor (y_M_putSizesOfAX).desc).map (fun d => d.parameters.length) = some 1 := by decide +kernel
theorem d_M_putSizesOfAX_0 : decode b_M_putSizesOfAX 0 = .ok (.lload_n 1, 1) := by decide +kernel
theorem d_M_putSizesOfAX_1 : decode b_M_putSizesOfAX 1 = .ok (.bipush 30, 2) := by decide +kernel
theorem d_M_putSizesOfAX_3 : decode b_M_putSizesOfAX 3 = .ok (.lshr, 1) := by decide +kernel
theorem d_M_putSizesOfAX_4 : decode b_M_putSizesOfAX 4 = .ok (.l2i, 1) := by decide +kernel
theorem d_M_putSizesOfAX_5 : decode b_M_putSizesOfAX 5 = .ok (.ldc 57, 2) := by decide +kernel
theorem d_M_putSizesOfAX_7 : decode b_M_putSizesOfAX 7 = .ok (.iand, 1) := by decide +kernel
theorem d_M_putSizesOfAX_8 : decode b_M_putSizesOfAX 8 = .ok (.istore_n 3, 1) := by decide +kernel
theorem d_M_putSizesOfAX_9 : decode b_M_putSizesOfAX 9 = .ok (.lload_n 1, 1) := by decide +kernel
theorem d_M_putSizesOfAX_10 : decode b_M_putSizesOfAX 10 = .ok (.l2i, 1) := by decide +kernel
theorem d_M_putSizesOfAX_11 : decode b_M_putSizesOfAX 11 = .ok (.ldc 57, 2) := by decide +kernel
theorem d_M_putSizesOfAX_13 : decode b_M_putSizesOfAX 13 = .ok (.iand, 1) := by decide +kernel
theorem d_M_putSizesOfAX_14 : decode b_M_putSizesOfAX 14 = .ok (.istore 4, 2) := by decide +kernel
theorem d_M_putSizesOfAX_16 : decode b_M_putSizesOfAX 16 = .ok (.aload_n 0, 1) := by decide +kernel
theorem d_M_putSizesOfAX_17 : decode b_M_putSizesOfAX 17 = .ok (.iconst 0, 1) := by decide +kernel
theorem d_M_putSizesOfAX_18 : decode b_M_putSizesOfAX 18 = .ok (.aload_n 0, 1) := by decide +kernel
theorem d_M_putSizesOfAX_19 : decode b_M_putSizesOfAX 19 = .ok (.iconst 0, 1) := by decide +kernel
theorem d_M_putSizesOfAX_20 : decode b_M_putSizesOfAX 20 = .ok (.invokevirtual 84, 3) := by decide +kernel
theorem d_M_putSizesOfAX_23 : decode b_M_putSizesOfAX 23 = .ok (.invokestatic 75, 3) := by decide +kernel
theorem d_M_putSizesOfAX_26 : decode b_M_putSizesOfAX 26 = .ok (.iload_n 3, 1) := by decide +kernel
theorem d_M_putSizesOfAX_27 : decode b_M_putSizesOfAX 27 = .ok (.invokestatic 204, 3) := by decide +kernel
theorem d_M_putSizesOfAX_30 : decode b_M_putSizesOfAX 30 = .ok (.invokevirtual 140, 3) := by decide +kernel
theorem d_M_putSizesOfAX_33 : decode b_M_putSizesOfAX 33 = .ok (.aload_n 0, 1) := by decide +kernel
theorem d_M_putSizesOfAX_34 : decode b_M_putSizesOfAX 34 = .ok (.bipush 7, 2) := by decide +kernel
theorem d_M_putSizesOfAX_36 : decode b_M_putSizesOfAX 36 = .ok (.aload_n 0, 1) := by decide +kernel
theorem d_M_putSizesOfAX_37 : decode b_M_putSizesOfAX 37 = .ok (.bipush 7, 2) := by decide +kernel
theorem d_M_putSizesOfAX_39 : decode b_M_putSizesOfAX 39 = .ok (.invokevirtual 84, 3) := by decide +kernel
theorem d_M_putSizesOfAX_42 : decode b_M_putSizesOfAX 42 = .ok (.invokestatic 75, 3) := by decide +kernel
theorem d_M_putSizesOfAX_45 : decode b_M_putSizesOfAX 45 = .ok (.iload 4, 2) := by decide +kernel
theorem d_M_putSizesOfAX_47 : decode b_M_putSizesOfAX 47 = .ok (.invokestatic 204, 3) := by decide +kernel
theorem d_M_putSizesOfAX_50 : decode b_M_putSizesOfAX 50 = .ok (.invokevirtual 140, 3) := by decide +kernel
theorem d_M_putSizesOfAX_53 : decode b_M_putSizesOfAX 53 = .ok (.return_, 1) := by decide +kernel
abbrev b_M_multiply : ByteArray := prog_3_method_29_code
abbrev y_M_multiply : MethodName := ⟨"SignMachine$Machine", "multiply", "(I)V"⟩
theorem h_M_multiply : (y_M_multiply).cls ≠ "java/lang/invoke/MethodHandle" ∧ (y_M_multiply).cls ≠ "java/lang/invoke/VarHandle" ∧ (parseMethodDescriptor (y_M_multiply).desc).map (fun d => d.parameters.length) = some 1 := by decide +kernel
theorem d_M_multiply_0 : decode b_M_multiply 0 = .ok (.aload_n 0, 1) := by decide +kernel
theorem d_M_multiply_1 : decode b_M_multiply 1 = .ok (.iconst 0, 1) := by decide +kernel
theorem d_M_multiply_2 : decode b_M_multiply 2 = .ok (.invokevirtual 84, 3) := by decide +kernel
theorem d_M_multiply_5 : decode b_M_multiply 5 = .ok (.istore_n 2, 1) := by decide +kernel
theorem d_M_multiply_6 : decode b_M_multiply 6 = .ok (.iload_n 2, 1) := by decide +kernel
theorem d_M_multiply_7 : decode b_M_multiply 7 = .ok (.invokestatic 67, 3) := by decide +kernel
theorem d_M_multiply_10 : decode b_M_multiply 10 = .ok (.i2l, 1) := by decide +kernel
theorem d_M_multiply_11 : decode b_M_multiply 11 = .ok (.iload_n 1, 1) := by decide +kernel
theorem d_M_multiply_12 : decode b_M_multiply 12 = .ok (.invokestatic 67, 3) := by decide +kernel
theorem d_M_multiply_15 : decode b_M_multiply 15 = .ok (.i2l, 1) := by decide +kernel
theorem d_M_multiply_16 : decode b_M_multiply 16 = .ok (.lmul, 1) := by decide +kernel
theorem d_M_multiply_17 : decode b_M_multiply 17 = .ok (.lstore_n 3, 1) := by decide +kernel
theorem d_M_multiply_18 : decode b_M_multiply 18 = .ok (.iload_n 2, 1) := by decide +kernel
theorem d_M_multiply_19 : decode b_M_multiply 19 = .ok (.invokestatic 75, 3) := by decide +kernel
theorem d_M_multiply_22 : decode b_M_multiply 22 = .ok (.iload_n 1, 1) := by decide +kernel
theorem d_M_multiply_23 : decode b_M_multiply 23 = .ok (.invokestatic 75, 3) := by decide +kernel
theorem d_M_multiply_26 : decode b_M_multiply 26 = .ok (.ixor, 1) := by decide +kernel
theorem d_M_multiply_27 : decode b_M_multiply 27 = .ok (.istore 5, 2) := by decide +kernel
theorem d_M_multiply_29 : decode b_M_multiply 29 = .ok (.aload_n 0, 1) := by decide +kernel
theorem d_M_multiply_30 : decode b_M_multiply 30 = .ok (.iconst 0, 1) := by decide +kernel
theorem d_M_multiply_31 : decode b_M_multiply 31 = .ok (.iload 5, 2) := by decide +kernel
theorem d_M_multiply_33 : decode b_M_multiply 33 = .ok (.lload_n 3, 1) := by decide +kernel
theorem d_M_multiply_34 : decode b_M_multiply 34 = .ok (.bipush 30, 2) := by decide +kernel
theorem d_M_multiply_36 : decode b_M_multiply 36 = .ok (.lshr, 1) := by decide +kernel
theorem d_M_multiply_37 : decode b_M_multiply 37 = .ok (.l2i, 1) := by decide +kernel
theorem d_M_multiply_38 : decode b_M_multiply 38 = .ok (.invokestatic 204, 3) := by decide +kernel
theorem d_M_multiply_41 : decode b_M_multiply 41 = .ok (.invokevirtual 140, 3) := by decide +kernel
theorem d_M_multiply_44 : decode b_M_multiply 44 = .ok (.aload_n 0, 1) := by decide +kernel
theorem d_M_multiply_45 : decode b_M_multiply 45 = .ok (.bipush 7, 2) := by decide +kernel
theorem d_M_multiply_47 : decode b_M_multiply 47 = .ok (.iload 5, 2) := by decide +kernel
theorem d_M_multiply_49 : decode b_M_multiply 49 = .ok (.lload_n 3, 1) := by decide +kernel
theorem d_M_multiply_50 : decode b_M_multiply 50 = .ok (.l2i, 1) := by decide +kernel
theorem d_M_multiply_51 : decode b_M_multiply 51 = .ok (.ldc 57, 2) := by decide +kernel
theorem d_M_multiply_53 : decode b_M_multiply 53 = .ok (.iand, 1) := by decide +kernel
theorem d_M_multiply_54 : decode b_M_multiply 54 = .ok (.invokestatic 204, 3) := by decide +kernel
theorem d_M_multiply_57 : decode b_M_multiply 57 = .ok (.invokevirtual 140, 3) := by decide +kernel
theorem d_M_multiply_60 : decode b_M_multiply 60 = .ok (.return_, 1) := by decide +kernel
abbrev b_M_divide : ByteArray := prog_3_method_30_code
abbrev y_M_divide : MethodName := ⟨"SignMachine$Machine", "divide", "(I)V"⟩
theorem h_M_divide : (y_M_divide).cls ≠ "java/lang/invoke/MethodHandle" ∧ (y_M_divide).cls ≠ "java/lang/invoke/VarHandle" ∧ (parseMethodDescriptor (y_M_divide).desc).map (fun d => d.parameters.length) = some 1 := by decide +kernel
theorem d_M_divide_0 : decode b_M_divide 0 = .ok (.aload_n 0, 1) := by decide +kernel
theorem d_M_divide_1 : decode b_M_divide 1 = .ok (.iconst 0, 1) := by decide +kernel
theorem d_M_divide_2 : decode b_M_divide 2 = .ok (.invokevirtual 84, 3) := by decide +kernel
theorem d_M_divide_5 : decode b_M_divide 5 = .ok (.istore_n 2, 1) := by decide +kernel
theorem d_M_divide_6 : decode b_M_divide 6 = .ok (.iload_n 1, 1) := by decide +kernel
theorem d_M_divide_7 : decode b_M_divide 7 = .ok (.invokestatic 67, 3) := by decide +kernel
theorem d_M_divide_10 : decode b_M_divide 10 = .ok (.istore_n 3, 1) := by decide +kernel
theorem d_M_divide_11 : decode b_M_divide 11 = .ok (.iload_n 3, 1) := by decide +kernel
theorem d_M_divide_12 : decode b_M_divide 12 = .ok (.ifCond .eq 11, 3) := by decide +kernel
theorem d_M_divide_15 : decode b_M_divide 15 = .ok (.iload_n 2, 1) := by decide +kernel
theorem d_M_divide_16 : decode b_M_divide 16 = .ok (.invokestatic 67, 3) := by decide +kernel
theorem d_M_divide_19 : decode b_M_divide 19 = .ok (.iload_n 3, 1) := by decide +kernel
theorem d_M_divide_20 : decode b_M_divide 20 = .ok (.if_icmp .lt 9, 3) := by decide +kernel
theorem d_M_divide_23 : decode b_M_divide 23 = .ok (.aload_n 0, 1) := by decide +kernel
theorem d_M_divide_24 : decode b_M_divide 24 = .ok (.iconst 1, 1) := by decide +kernel
theorem d_M_divide_25 : decode b_M_divide 25 = .ok (.putfield 196, 3) := by decide +kernel
theorem d_M_divide_28 : decode b_M_divide 28 = .ok (.return_, 1) := by decide +kernel
theorem d_M_divide_29 : decode b_M_divide 29 = .ok (.aload_n 0, 1) := by decide +kernel
theorem d_M_divide_30 : decode b_M_divide 30 = .ok (.invokevirtual 207, 3) := by decide +kernel
theorem d_M_divide_33 : decode b_M_divide 33 = .ok (.lstore 4, 2) := by decide +kernel
theorem d_M_divide_35 : decode b_M_divide 35 = .ok (.aload_n 0, 1) := by decide +kernel
theorem d_M_divide_36 : decode b_M_divide 36 = .ok (.iconst 0, 1) := by decide +kernel
theorem d_M_divide_37 : decode b_M_divide 37 = .ok (.iload_n 2, 1) := by decide +kernel
theorem d_M_divide_38 : decode b_M_divide 38 = .ok (.invokestatic 75, 3) := by decide +kernel
theorem d_M_divide_41 : decode b_M_divide 41 = .ok (.iload_n 1, 1) := by decide +kernel
theorem d_M_divide_42 : decode b_M_divide 42 = .ok (.invokestatic 75, 3) := by decide +kernel
theorem d_M_divide_45 : decode b_M_divide 45 = .ok (.ixor, 1) := by decide +kernel
theorem d_M_divide_46 : decode b_M_divide 46 = .ok (.lload 4, 2) := by decide +kernel
theorem d_M_divide_48 : decode b_M_divide 48 = .ok (.iload_n 3, 1) := by decide +kernel
theorem d_M_divide_49 : decode b_M_divide 49 = .ok (.i2l, 1) := by decide +kernel
theorem d_M_divide_50 : decode b_M_divide 50 = .ok (.ldiv, 1) := by decide +kernel
theorem d_M_divide_51 : decode b_M_divide 51 = .ok (.l2i, 1) := by decide +kernel
theorem d_M_divide_52 : decode b_M_divide 52 = .ok (.invokestatic 204, 3) := by decide +kernel
theorem d_M_divide_55 : decode b_M_divide 55 = .ok (.invokevirtual 140, 3) := by decide +kernel
theorem d_M_divide_58 : decode b_M_divide 58 = .ok (.aload_n 0, 1) := by decide +kernel
theorem d_M_divide_59 : decode b_M_divide 59 = .ok (.bipush 7, 2) := by decide +kernel
theorem d_M_divide_61 : decode b_M_divide 61 = .ok (.iload_n 2, 1) := by decide +kernel
theorem d_M_divide_62 : decode b_M_divide 62 = .ok (.invokestatic 75, 3) := by decide +kernel
theorem d_M_divide_65 : decode b_M_divide 65 = .ok (.lload 4, 2) := by decide +kernel
theorem d_M_divide_67 : decode b_M_divide 67 = .ok (.iload_n 3, 1) := by decide +kernel
theorem d_M_divide_68 : decode b_M_divide 68 = .ok (.i2l, 1) := by decide +kernel
theorem d_M_divide_69 : decode b_M_divide 69 = .ok (.lrem, 1) := by decide +kernel
theorem d_M_divide_70 : decode b_M_divide 70 = .ok (.l2i, 1) := by decide +kernel
theorem d_M_divide_71 : decode b_M_divide 71 = .ok (.invokestatic 204, 3) := by decide +kernel
theorem d_M_divide_74 : decode b_M_divide 74 = .ok (.invokevirtual 140, 3) := by decide +kernel
theorem d_M_divide_77 : decode b_M_divide 77 = .ok (.return_, 1) := by decide +kernel
abbrev b_M_shift : ByteArray := prog_3_method_34_code
abbrev y_M_shift : MethodName := ⟨"SignMachine$Machine", "shift", "()V"⟩
theorem h_M_shift : (y_M_shift).cls ≠ "java/lang/invoke/MethodHandle" ∧ (y_M_shift).cls ≠ "java/lang/invoke/VarHandle" ∧ (parseMethodDescriptor (y_M_shift).desc).map (fun d => d.parameters.length) = some 0 := by decide +kernel
theorem d_M_shift_0 : decode b_M_shift 0 = .ok (.aload_n 0, 1) := by decide +kernel
theorem d_M_shift_1 : decode b_M_shift 1 = .ok (.getfield 64, 3) := by decide +kernel
theorem d_M_shift_4 : decode b_M_shift 4 = .ok (.iconst 1, 1) := by decide +kernel
theorem d_M_shift_5 : decode b_M_shift 5 = .ok (.if_icmp .gt 64, 3) := by decide +kernel
theorem d_M_shift_8 : decode b_M_shift 8 = .ok (.bipush 6, 2) := by decide +kernel
theorem d_M_shift_10 : decode b_M_shift 10 = .ok (.aload_n 0, 1) := by decide +kernel
theorem d_M_shift_11 : decode b_M_shift 11 = .ok (.getfield 81, 3) := by decide +kernel
theorem d_M_shift_14 : decode b_M_shift 14 = .ok (.iconst 5, 1) := by decide +kernel
theorem d_M_shift_15 : decode b_M_shift 15 = .ok (.invokestatic 229, 3) := by decide +kernel
theorem d_M_shift_18 : decode b_M_shift 18 = .ok (.imul, 1) := by decide +kernel
theorem d_M_shift_19 : decode b_M_shift 19 = .ok (.istore_n 1, 1) := by decide +kernel
theorem d_M_shift_20 : decode b_M_shift 20 = .ok (.aload_n 0, 1) := by decide +kernel
theorem d_M_shift_21 : decode b_M_shift 21 = .ok (.iconst 0, 1) := by decide +kernel
theorem d_M_shift_22 : decode b_M_shift 22 = .ok (.invokevirtual 84, 3) := by decide +kernel
theorem d_M_shift_25 : decode b_M_shift 25 = .ok (.invokestatic 67, 3) := by decide +kernel
theorem d_M_shift_28 : decode b_M_shift 28 = .ok (.i2l, 1) := by decide +kernel
theorem d_M_shift_29 : decode b_M_shift 29 = .ok (.lstore_n 2, 1) := by decide +kernel
theorem d_M_shift_30 : decode b_M_shift 30 = .ok (.aload_n 0, 1) := by decide +kernel
theorem d_M_shift_31 : decode b_M_shift 31 = .ok (.getfield 64, 3) := by decide +kernel
theorem d_M_shift_34 : decode b_M_shift 34 = .ok (.ifCond .ne 9, 3) := by decide +kernel
theorem d_M_shift_37 : decode b_M_shift 37 = .ok (.lload_n 2, 1) := by decide +kernel
theorem d_M_shift_38 : decode b_M_shift 38 = .ok (.iload_n 1, 1) := by decide +kernel
theorem d_M_shift_39 : decode b_M_shift 39 = .ok (.lshl, 1) := by decide +kernel
theorem d_M_shift_40 : decode b_M_shift 40 = .ok (.goto 6, 3) := by decide +kernel
theorem d_M_shift_43 : decode b_M_shift 43 = .ok (.lload_n 2, 1) := by decide +kernel
theorem d_M_shift_44 : decode b_M_shift 44 = .ok (.iload_n 1, 1) := by decide +kernel
theorem d_M_shift_45 : decode b_M_shift 45 = .ok (.lshr, 1) := by decide +kernel
theorem d_M_shift_46 : decode b_M_shift 46 = .ok (.lstore_n 2, 1) := by decide +kernel
theorem d_M_shift_47 : decode b_M_shift 47 = .ok (.aload_n 0, 1) := by decide +kernel
theorem d_M_shift_48 : decode b_M_shift 48 = .ok (.iconst 0, 1) := by decide +kernel
theorem d_M_shift_49 : decode b_M_shift 49 = .ok (.aload_n 0, 1) := by decide +kernel
theorem d_M_shift_50 : decode b_M_shift 50 = .ok (.iconst 0, 1) := by decide +kernel
theorem d_M_shift_51 : decode b_M_shift 51 = .ok (.invokevirtual 84, 3) := by decide +kernel
theorem d_M_shift_54 : decode b_M_shift 54 = .ok (.invokestatic 75, 3) := by decide +kernel
theorem d_M_shift_57 : decode b_M_shift 57 = .ok (.lload_n 2, 1) := by decide +kernel
theorem d_M_shift_58 : decode b_M_shift 58 = .ok (.l2i, 1) := by decide +kernel
theorem d_M_shift_59 : decode b_M_shift 59 = .ok (.ldc 57, 2) := by decide +kernel
theorem d_M_shift_61 : decode b_M_shift 61 = .ok (.iand, 1) := by decide +kernel
theorem d_M_shift_62 : decode b_M_shift 62 = .ok (.invokestatic 204, 3) := by decide +kernel
theorem d_M_shift_65 : decode b_M_shift 65 = .ok (.invokevirtual 140, 3) := by decide +kernel
theorem d_M_shift_68 : decode b_M_shift 68 = .ok (.return_, 1) := by decide +kernel
theorem d_M_shift_69 : decode b_M_shift 69 = .ok (.bipush 6, 2) := by decide +kernel
theorem d_M_shift_71 : decode b_M_shift 71 = .ok (.aload_n 0, 1) := by decide +kernel
theorem d_M_shift_72 : decode b_M_shift 72 = .ok (.getfield 81, 3) := by decide +kernel
theorem d_M_shift_75 : decode b_M_shift 75 = .ok (.bipush 10, 2) := by decide +kernel
theorem d_M_shift_77 : decode b_M_shift 77 = .ok (.invokestatic 229, 3) := by decide +kernel
theorem d_M_shift_80 : decode b_M_shift 80 = .ok (.imul, 1) := by decide +kernel
theorem d_M_shift_81 : decode b_M_shift 81 = .ok (.istore_n 1, 1) := by decide +kernel
theorem d_M_shift_82 : decode b_M_shift 82 = .ok (.bipush 6, 2) := by decide +kernel
theorem d_M_shift_84 : decode b_M_shift 84 = .ok (.aload_n 0, 1) := by decide +kernel
theorem d_M_shift_85 : decode b_M_shift 85 = .ok (.getfield 81, 3) := by decide +kernel
theorem d_M_shift_88 : decode b_M_shift 88 = .ok (.bipush 10, 2) := by decide +kernel
theorem d_M_shift_90 : decode b_M_shift 90 = .ok (.irem, 1) := by decide +kernel
theorem d_M_shift_91 : decode b_M_shift 91 = .ok (.imul, 1) := by decide +kernel
theorem d_M_shift_92 : decode b_M_shift 92 = .ok (.istore_n 2, 1) := by decide +kernel
theorem d_M_shift_93 : decode b_M_shift 93 = .ok (.aload_n 0, 1) := by decide +kernel
theorem d_M_shift_94 : decode b_M_shift 94 = .ok (.invokevirtual 207, 3) := by decide +kernel
theorem d_M_shift_97 : decode b_M_shift 97 = .ok (.lstore_n 3, 1) := by decide +kernel
theorem d_M_shift_98 : decode b_M_shift 98 = .ok (.aload_n 0, 1) := by decide +kernel
theorem d_M_shift_99 : decode b_M_shift 99 = .ok (.getfield 64, 3) := by decide +kernel
theorem d_M_shift_102 : decode b_M_shift 102 = .ok (.tableswitch 54 2 4 #[26, 33, 40], 26) := by decide +kernel
theorem d_M_shift_128 : decode b_M_shift 128 = .ok (.lload_n 3, 1) := by decide +kernel
theorem d_M_shift_129 : decode b_M_shift 129 = .ok (.iload_n 1, 1) := by decide +kernel
theorem d_M_shift_130 : decode b_M_shift 130 = .ok (.lshl, 1) := by decide +kernel
theorem d_M_shift_131 : decode b_M_shift 131 = .ok (.lstore_n 3, 1) := by decide +kernel
theorem d_M_shift_132 : decode b_M_shift 132 = .ok (.goto 35, 3) := by decide +kernel
theorem d_M_shift_135 : decode b_M_shift 135 = .ok (.lload_n 3, 1) := by decide +kernel
theorem d_M_shift_136 : decode b_M_shift 136 = .ok (.iload_n 1, 1) := by decide +kernel
theorem d_M_shift_137 : decode b_M_shift 137 = .ok (.lshr, 1) := by decide +kernel
theorem d_M_shift_138 : decode b_M_shift 138 = .ok (.lstore_n 3, 1) := by decide +kernel
theorem d_M_shift_139 : decode b_M_shift 139 = .ok (.goto 28, 3) := by decide +kernel
theorem d_M_shift_142 : decode b_M_shift 142 = .ok (.lload_n 3, 1) := by decide +kernel
theorem d_M_shift_143 : decode b_M_shift 143 = .ok (.iload_n 2, 1) := by decide +kernel
theorem d_M_shift_144 : decode b_M_shift 144 = .ok (.lshl, 1) := by decide +kernel
theorem d_M_shift_145 : decode b_M_shift 145 = .ok (.lload_n 3, 1) := by decide +kernel
theorem d_M_shift_146 : decode b_M_shift 146 = .ok (.bipush 60, 2) := by decide +kernel
theorem d_M_shift_148 : decode b_M_shift 148 = .ok (.iload_n 2, 1) := by decide +kernel
theorem d_M_shift_149 : decode b_M_shift 149 = .ok (.isub, 1) := by decide +kernel
theorem d_M_shift_150 : decode b_M_shift 150 = .ok (.lshr, 1) := by decide +kernel
theorem d_M_shift_151 : decode b_M_shift 151 = .ok (.lor, 1) := by decide +kernel
theorem d_M_shift_152 : decode b_M_shift 152 = .ok (.lstore_n 3, 1) := by decide +kernel
theorem d_M_shift_153 : decode b_M_shift 153 = .ok (.goto 14, 3) := by decide +kernel
theorem d_M_shift_156 : decode b_M_shift 156 = .ok (.lload_n 3, 1) := by decide +kernel
theorem d_M_shift_157 : decode b_M_shift 157 = .ok (.iload_n 2, 1) := by decide +kernel
theorem d_M_shift_158 : decode b_M_shift 158 = .ok (.lshr, 1) := by decide +kernel
theorem d_M_shift_159 : decode b_M_shift 159 = .ok (.lload_n 3, 1) := by decide +kernel
theorem d_M_shift_160 : decode b_M_shift 160 = .ok (.bipush 60, 2) := by decide +kernel
theorem d_M_shift_162 : decode b_M_shift 162 = .ok (.iload_n 2, 1) := by decide +kernel
theorem d_M_shift_163 : decode b_M_shift 163 = .ok (.isub, 1) := by decide +kernel
theorem d_M_shift_164 : decode b_M_shift 164 = .ok (.lshl, 1) := by decide +kernel
theorem d_M_shift_165 : decode b_M_shift 165 = .ok (.lor, 1) := by decide +kernel
theorem d_M_shift_166 : decode b_M_shift 166 = .ok (.lstore_n 3, 1) := by decide +kernel
theorem d_M_shift_167 : decode b_M_shift 167 = .ok (.aload_n 0, 1) := by decide +kernel
theorem d_M_shift_168 : decode b_M_shift 168 = .ok (.lload_n 3, 1) := by decide +kernel
theorem d_M_shift_169 : decode b_M_shift 169 = .ok (.invokevirtual 225, 3) := by decide +kernel
theorem d_M_shift_172 : decode b_M_shift 172 = .ok (.return_, 1) := by decide +kernel
abbrev b_M_goByState : ByteArray := prog_3_method_41_code
abbrev y_M_goByState : MethodName := ⟨"SignMachine$Machine", "goByState", "()V"⟩
theorem h_M_goByState : (y_M_goByState).cls ≠ "java/lang/invoke/MethodHandle" ∧ (y_M_goByState).cls ≠ "java/lang/invoke/VarHandle" ∧ (parseMethodDescriptor (y_M_goByState).desc).map (fun d => d.parameters.length) = some 0 := by decide +kernel
theorem d_M_goByState_0 : decode b_M_goByState 0 = .ok (.aload_n 0, 1) := by decide +kernel
theorem d_M_goByState_1 : decode b_M_goByState 1 = .ok (.getfield 196, 3) := by decide +kernel
theorem d_M_goByState_4 : decode b_M_goByState 4 = .ok (.istore_n 1, 1) := by decide +kernel
theorem d_M_goByState_5 : decode b_M_goByState 5 = .ok (.aload_n 0, 1) := by decide +kernel
theorem d_M_goByState_6 : decode b_M_goByState 6 = .ok (.getfield 64, 3) := by decide +kernel
theorem d_M_goByState_9 : decode b_M_goByState 9 = .ok (.tableswitch 199 0 8 #[51, 59, 70, 83, 104, 123, 142, 161, 180], 51) := by decide +kernel
theorem d_M_goByState_60 : decode b_M_goByState 60 = .ok (.aload_n 0, 1) := by decide +kernel
theorem d_M_goByState_61 : decode b_M_goByState 61 = .ok (.iconst 1, 1) := by decide +kernel
theorem d_M_goByState_62 : decode b_M_goByState 62 = .ok (.invokevirtual 156, 3) := by decide +kernel
theorem d_M_goByState_65 : decode b_M_goByState 65 = .ok (.goto 159, 3) := by decide +kernel
theorem d_M_goByState_68 : decode b_M_goByState 68 = .ok (.aload_n 0, 1) := by decide +kernel
theorem d_M_goByState_69 : decode b_M_goByState 69 = .ok (.aload_n 0, 1) := by decide +kernel
theorem d_M_goByState_70 : decode b_M_goByState 70 = .ok (.getfield 81, 3) := by decide +kernel
theorem d_M_goByState_73 : decode b_M_goByState 73 = .ok (.putfield 32, 3) := by decide +kernel
theorem d_M_goByState_76 : decode b_M_goByState 76 = .ok (.goto 148, 3) := by decide +kernel
theorem d_M_goByState_79 : decode b_M_goByState 79 = .ok (.aload_n 0, 1) := by decide +kernel
theorem d_M_goByState_80 : decode b_M_goByState 80 = .ok (.iconst 0, 1) := by decide +kernel
theorem d_M_goByState_81 : decode b_M_goByState 81 = .ok (.putfield 196, 3) := by decide +kernel
theorem d_M_goByState_84 : decode b_M_goByState 84 = .ok (.aload_n 0, 1) := by decide +kernel
theorem d_M_goByState_85 : decode b_M_goByState 85 = .ok (.iload_n 1, 1) := by decide +kernel
theorem d_M_goByState_86 : decode b_M_goByState 86 = .ok (.invokevirtual 156, 3) := by decide +kernel
theorem d_M_goByState_89 : decode b_M_goByState 89 = .ok (.goto 135, 3) := by decide +kernel
theorem d_M_goByState_92 : decode b_M_goByState 92 = .ok (.aload_n 0, 1) := by decide +kernel
theorem d_M_goByState_93 : decode b_M_goByState 93 = .ok (.iconst 0, 1) := by decide +kernel
theorem d_M_goByState_94 : decode b_M_goByState 94 = .ok (.putfield 196, 3) := by decide +kernel
theorem d_M_goByState_97 : decode b_M_goByState 97 = .ok (.aload_n 0, 1) := by decide +kernel
theorem d_M_goByState_98 : decode b_M_goByState 98 = .ok (.iload_n 1, 1) := by decide +kernel
theorem d_M_goByState_99 : decode b_M_goByState 99 = .ok (.ifCond .ne 7, 3) := by decide +kernel
theorem d_M_goByState_102 : decode b_M_goByState 102 = .ok (.iconst 1, 1) := by decide +kernel
theorem d_M_goByState_103 : decode b_M_goByState 103 = .ok (.goto 4, 3) := by decide +kernel
theorem d_M_goByState_106 : decode b_M_goByState 106 = .ok (.iconst 0, 1) := by decide +kernel
theorem d_M_goByState_107 : decode b_M_goByState 107 = .ok (.invokevirtual 156, 3) := by decide +kernel
theorem d_M_goByState_110 : decode b_M_goByState 110 = .ok (.goto 114, 3) := by decide +kernel
theorem d_M_goByState_113 : decode b_M_goByState 113 = .ok (.aload_n 0, 1) := by decide +kernel
theorem d_M_goByState_114 : decode b_M_goByState 114 = .ok (.aload_n 0, 1) := by decide +kernel
theorem d_M_goByState_115 : decode b_M_goByState 115 = .ok (.getfield 244, 3) := by decide +kernel
theorem d_M_goByState_118 : decode b_M_goByState 118 = .ok (.ifCond .ge 7, 3) := by decide +kernel
theorem d_M_goByState_121 : decode b_M_goByState 121 = .ok (.iconst 1, 1) := by decide +kernel
theorem d_M_goByState_122 : decode b_M_goByState 122 = .ok (.goto 4, 3) := by decide +kernel
theorem d_M_goByState_125 : decode b_M_goByState 125 = .ok (.iconst 0, 1) := by decide +kernel
theorem d_M_goByState_126 : decode b_M_goByState 126 = .ok (.invokevirtual 156, 3) := by decide +kernel
theorem d_M_goByState_129 : decode b_M_goByState 129 = .ok (.goto 95, 3) := by decide +kernel
theorem d_M_goByState_132 : decode b_M_goByState 132 = .ok (.aload_n 0, 1) := by decide +kernel
theorem d_M_goByState_133 : decode b_M_goByState 133 = .ok (.aload_n 0, 1) := by decide +kernel
theorem d_M_goByState_134 : decode b_M_goByState 134 = .ok (.getfield 244, 3) := by decide +kernel
theorem d_M_goByState_137 : decode b_M_goByState 137 = .ok (.ifCond .ne 7, 3) := by decide +kernel
theorem d_M_goByState_140 : decode b_M_goByState 140 = .ok (.iconst 1, 1) := by decide +kernel
theorem d_M_goByState_141 : decode b_M_goByState 141 = .ok (.goto 4, 3) := by decide +kernel
theorem d_M_goByState_144 : decode b_M_goByState 144 = .ok (.iconst 0, 1) := by decide +kernel
theorem d_M_goByState_145 : decode b_M_goByState 145 = .ok (.invokevirtual 156, 3) := by decide +kernel
theorem d_M_goByState_148 : decode b_M_goByState 148 = .ok (.goto 76, 3) := by decide +kernel
theorem d_M_goByState_151 : decode b_M_goByState 151 = .ok (.aload_n 0, 1) := by decide +kernel
theorem d_M_goByState_152 : decode b_M_goByState 152 = .ok (.aload_n 0, 1) := by decide +kernel
theorem d_M_goByState_153 : decode b_M_goByState 153 = .ok (.getfield 244, 3) := by decide +kernel
theorem d_M_goByState_156 : decode b_M_goByState 156 = .ok (.ifCond .le 7, 3) := by decide +kernel
theorem d_M_goByState_159 : decode b_M_goByState 159 = .ok (.iconst 1, 1) := by decide +kernel
theorem d_M_goByState_160 : decode b_M_goByState 160 = .ok (.goto 4, 3) := by decide +kernel
theorem d_M_goByState_163 : decode b_M_goByState 163 = .ok (.iconst 0, 1) := by decide +kernel
theorem d_M_goByState_164 : decode b_M_goByState 164 = .ok (.invokevirtual 156, 3) := by decide +kernel
theorem d_M_goByState_167 : decode b_M_goByState 167 = .ok (.goto 57, 3) := by decide +kernel
theorem d_M_goByState_170 : decode b_M_goByState 170 = .ok (.aload_n 0, 1) := by decide +kernel
theorem d_M_goByState_171 : decode b_M_goByState 171 = .ok (.aload_n 0, 1) := by decide +kernel
theorem d_M_goByState_172 : decode b_M_goByState 172 = .ok (.getfield 244, 3) := by decide +kernel
theorem d_M_goByState_175 : decode b_M_goByState 175 = .ok (.ifCond .lt 7, 3) := by decide +kernel
theorem d_M_goByState_178 : decode b_M_goByState 178 = .ok (.iconst 1, 1) := by decide +kernel
theorem d_M_goByState_179 : decode b_M_goByState 179 = .ok (.goto 4, 3) := by decide +kernel
theorem d_M_goByState_182 : decode b_M_goByState 182 = .ok (.iconst 0, 1) := by decide +kernel
theorem d_M_goByState_183 : decode b_M_goByState 183 = .ok (.invokevirtual 156, 3) := by decide +kernel
theorem d_M_goByState_186 : decode b_M_goByState 186 = .ok (.goto 38, 3) := by decide +kernel
theorem d_M_goByState_189 : decode b_M_goByState 189 = .ok (.aload_n 0, 1) := by decide +kernel
theorem d_M_goByState_190 : decode b_M_goByState 190 = .ok (.aload_n 0, 1) := by decide +kernel
theorem d_M_goByState_191 : decode b_M_goByState 191 = .ok (.getfield 244, 3) := by decide +kernel
theorem d_M_goByState_194 : decode b_M_goByState 194 = .ok (.ifCond .eq 7, 3) := by decide +kernel
theorem d_M_goByState_197 : decode b_M_goByState 197 = .ok (.iconst 1, 1) := by decide +kernel
theorem d_M_goByState_198 : decode b_M_goByState 198 = .ok (.goto 4, 3) := by decide +kernel
theorem d_M_goByState_201 : decode b_M_goByState 201 = .ok (.iconst 0, 1) := by decide +kernel
theorem d_M_goByState_202 : decode b_M_goByState 202 = .ok (.invokevirtual 156, 3) := by decide +kernel
theorem d_M_goByState_205 : decode b_M_goByState 205 = .ok (.goto 19, 3) := by decide +kernel
theorem d_M_goByState_208 : decode b_M_goByState 208 = .ok (.aload_n 0, 1) := by decide +kernel
theorem d_M_goByState_209 : decode b_M_goByState 209 = .ok (.aload_n 0, 1) := by decide +kernel
theorem d_M_goByState_210 : decode b_M_goByState 210 = .ok (.getfield 244, 3) := by decide +kernel
theorem d_M_goByState_213 : decode b_M_goByState 213 = .ok (.ifCond .gt 7, 3) := by decide +kernel
theorem d_M_goByState_216 : decode b_M_goByState 216 = .ok (.iconst 1, 1) := by decide +kernel
theorem d_M_goByState_217 : decode b_M_goByState 217 = .ok (.goto 4, 3) := by decide +kernel
theorem d_M_goByState_220 : decode b_M_goByState 220 = .ok (.iconst 0, 1) := by decide +kernel
theorem d_M_goByState_221 : decode b_M_goByState 221 = .ok (.invokevirtual 156, 3) := by decide +kernel
theorem d_M_goByState_224 : decode b_M_goByState 224 = .ok (.return_, 1) := by decide +kernel
abbrev b_M_registerIs : ByteArray := prog_3_method_42_code
abbrev y_M_registerIs : MethodName := ⟨"SignMachine$Machine", "registerIs", "(I)Z"⟩
theorem h_M_registerIs : (y_M_registerIs).cls ≠ "java/lang/invoke/MethodHandle" ∧ (y_M_registerIs).cls ≠ "java/lang/invoke/VarHandle" ∧ (parseMethodDescriptor (y_M_registerIs).desc).map (fun d => d.parameters.length) = some 1 := by decide +kernel
theorem d_M_registerIs_0 : decode b_M_registerIs 0 = .ok (.aload_n 0, 1) := by decide +kernel
theorem d_M_registerIs_1 : decode b_M_registerIs 1 = .ok (.getfield 64, 3) := by decide +kernel
theorem d_M_registerIs_4 : decode b_M_registerIs 4 = .ok (.tableswitch 86 0 4 #[36, 46, 56, 66, 76], 36) := by decide +kernel
theorem d_M_registerIs_40 : decode b_M_registerIs 40 = .ok (.iload_n 1, 1) := by decide +kernel
theorem d_M_registerIs_41 : decode b_M_registerIs 41 = .ok (.ifCond .ge 7, 3) := by decide +kernel
theorem d_M_registerIs_44 : decode b_M_registerIs 44 = .ok (.iconst 1, 1) := by decide +kernel
theorem d_M_registerIs_45 : decode b_M_registerIs 45 = .ok (.goto 4, 3) := by decide +kernel
theorem d_M_registerIs_48 : decode b_M_registerIs 48 = .ok (.iconst 0, 1) := by decide +kernel
theorem d_M_registerIs_49 : decode b_M_registerIs 49 = .ok (.ireturn, 1) := by decide +kernel
theorem d_M_registerIs_50 : decode b_M_registerIs 50 = .ok (.iload_n 1, 1) := by decide +kernel
theorem d_M_registerIs_51 : decode b_M_registerIs 51 = .ok (.ifCond .ne 7, 3) := by decide +kernel
theorem d_M_registerIs_54 : decode b_M_registerIs 54 = .ok (.iconst 1, 1) := by decide +kernel
theorem d_M_registerIs_55 : decode b_M_registerIs 55 = .ok (.goto 4, 3) := by decide +kernel
theorem d_M_registerIs_58 : decode b_M_registerIs 58 = .ok (.iconst 0, 1) := by decide +kernel
theorem d_M_registerIs_59 : decode b_M_registerIs 59 = .ok (.ireturn, 1) := by decide +kernel
theorem d_M_registerIs_60 : decode b_M_registerIs 60 = .ok (.iload_n 1, 1) := by decide +kernel
theorem d_M_registerIs_61 : decode b_M_registerIs 61 = .ok (.ifCond .le 7, 3) := by decide +kernel
theorem d_M_registerIs_64 : decode b_M_registerIs 64 = .ok (.iconst 1, 1) := by decide +kernel
theorem d_M_registerIs_65 : decode b_M_registerIs 65 = .ok (.goto 4, 3) := by decide +kernel
theorem d_M_registerIs_68 : decode b_M_registerIs 68 = .ok (.iconst 0, 1) := by decide +kernel
theorem d_M_registerIs_69 : decode b_M_registerIs 69 = .ok (.ireturn, 1) := by decide +kernel
theorem d_M_registerIs_70 : decode b_M_registerIs 70 = .ok (.iload_n 1, 1) := by decide +kernel
theorem d_M_registerIs_71 : decode b_M_registerIs 71 = .ok (.ifCond .lt 7, 3) := by decide +kernel
theorem d_M_registerIs_74 : decode b_M_registerIs 74 = .ok (.iconst 1, 1) := by decide +kernel
theorem d_M_registerIs_75 : decode b_M_registerIs 75 = .ok (.goto 4, 3) := by decide +kernel
theorem d_M_registerIs_78 : decode b_M_registerIs 78 = .ok (.iconst 0, 1) := by decide +kernel
theorem d_M_registerIs_79 : decode b_M_registerIs 79 = .ok (.ireturn, 1) := by decide +kernel
theorem d_M_registerIs_80 : decode b_M_registerIs 80 = .ok (.iload_n 1, 1) := by decide +kernel
theorem d_M_registerIs_81 : decode b_M_registerIs 81 = .ok (.ifCond .eq 7, 3) := by decide +kernel
theorem d_M_registerIs_84 : decode b_M_registerIs 84 = .ok (.iconst 1, 1) := by decide +kernel
theorem d_M_registerIs_85 : decode b_M_registerIs 85 = .ok (.goto 4, 3) := by decide +kernel
theorem d_M_registerIs_88 : decode b_M_registerIs 88 = .ok (.iconst 0, 1) := by decide +kernel
theorem d_M_registerIs_89 : decode b_M_registerIs 89 = .ok (.ireturn, 1) := by decide +kernel
theorem d_M_registerIs_90 : decode b_M_registerIs 90 = .ok (.iload_n 1, 1) := by decide +kernel
theorem d_M_registerIs_91 : decode b_M_registerIs 91 = .ok (.ifCond .gt 7, 3) := by decide +kernel
theorem d_M_registerIs_94 : decode b_M_registerIs 94 = .ok (.iconst 1, 1) := by decide +kernel
theorem d_M_registerIs_95 : decode b_M_registerIs 95 = .ok (.goto 4, 3) := by decide +kernel
theorem d_M_registerIs_98 : decode b_M_registerIs 98 = .ok (.iconst 0, 1) := by decide +kernel
theorem d_M_registerIs_99 : decode b_M_registerIs 99 = .ok (.ireturn, 1) := by decide +kernel
abbrev b_M_changeByAddress : ByteArray := prog_3_method_44_code
abbrev y_M_changeByAddress : MethodName := ⟨"SignMachine$Machine", "changeByAddress", "(I)V"⟩
theorem h_M_changeByAddress : (y_M_changeByAddress).cls ≠ "java/lang/invoke/MethodHandle" ∧ (y_M_changeByAddress).cls ≠ "java/lang/invoke/VarHandle" ∧ (parseMethodDescriptor (y_M_changeByAddress).desc).map (fun d => d.parameters.length) = some 1 := by decide +kernel
theorem d_M_changeByAddress_0 : decode b_M_changeByAddress 0 = .ok (.aload_n 0, 1) := by decide +kernel
theorem d_M_changeByAddress_1 : decode b_M_changeByAddress 1 = .ok (.getfield 64, 3) := by decide +kernel
theorem d_M_changeByAddress_4 : decode b_M_changeByAddress 4 = .ok (.tableswitch 72 0 2 #[28, 40, 53], 28) := by decide +kernel
theorem d_M_changeByAddress_32 : decode b_M_changeByAddress 32 = .ok (.aload_n 0, 1) := by decide +kernel
theorem d_M_changeByAddress_33 : decode b_M_changeByAddress 33 = .ok (.iload_n 1, 1) := by decide +kernel
theorem d_M_changeByAddress_34 : decode b_M_changeByAddress 34 = .ok (.aload_n 0, 1) := by decide +kernel
theorem d_M_changeByAddress_35 : decode b_M_changeByAddress 35 = .ok (.getfield 81, 3) := by decide +kernel
theorem d_M_changeByAddress_38 : decode b_M_changeByAddress 38 = .ok (.invokevirtual 166, 3) := by decide +kernel
theorem d_M_changeByAddress_41 : decode b_M_changeByAddress 41 = .ok (.goto 54, 3) := by decide +kernel
theorem d_M_changeByAddress_44 : decode b_M_changeByAddress 44 = .ok (.aload_n 0, 1) := by decide +kernel
theorem d_M_changeByAddress_45 : decode b_M_changeByAddress 45 = .ok (.iload_n 1, 1) := by decide +kernel
theorem d_M_changeByAddress_46 : decode b_M_changeByAddress 46 = .ok (.aload_n 0, 1) := by decide +kernel
theorem d_M_changeByAddress_47 : decode b_M_changeByAddress 47 = .ok (.getfield 81, 3) := by decide +kernel
theorem d_M_changeByAddress_50 : decode b_M_changeByAddress 50 = .ok (.ineg, 1) := by decide +kernel
theorem d_M_changeByAddress_51 : decode b_M_changeByAddress 51 = .ok (.invokevirtual 166, 3) := by decide +kernel
theorem d_M_changeByAddress_54 : decode b_M_changeByAddress 54 = .ok (.goto 41, 3) := by decide +kernel
theorem d_M_changeByAddress_57 : decode b_M_changeByAddress 57 = .ok (.aload_n 0, 1) := by decide +kernel
theorem d_M_changeByAddress_58 : decode b_M_changeByAddress 58 = .ok (.iload_n 1, 1) := by decide +kernel
theorem d_M_changeByAddress_59 : decode b_M_changeByAddress 59 = .ok (.aload_n 0, 1) := by decide +kernel
theorem d_M_changeByAddress_60 : decode b_M_changeByAddress 60 = .ok (.getfield 81, 3) := by decide +kernel
theorem d_M_changeByAddress_63 : decode b_M_changeByAddress 63 = .ok (.aload_n 0, 1) := by decide +kernel
theorem d_M_changeByAddress_64 : decode b_M_changeByAddress 64 = .ok (.getfield 78, 3) := by decide +kernel
theorem d_M_changeByAddress_67 : decode b_M_changeByAddress 67 = .ok (.invokestatic 201, 3) := by decide +kernel
theorem d_M_changeByAddress_70 : decode b_M_changeByAddress 70 = .ok (.invokevirtual 140, 3) := by decide +kernel
theorem d_M_changeByAddress_73 : decode b_M_changeByAddress 73 = .ok (.goto 22, 3) := by decide +kernel
theorem d_M_changeByAddress_76 : decode b_M_changeByAddress 76 = .ok (.aload_n 0, 1) := by decide +kernel
theorem d_M_changeByAddress_77 : decode b_M_changeByAddress 77 = .ok (.iload_n 1, 1) := by decide +kernel
theorem d_M_changeByAddress_78 : decode b_M_changeByAddress 78 = .ok (.aload_n 0, 1) := by decide +kernel
theorem d_M_changeByAddress_79 : decode b_M_changeByAddress 79 = .ok (.getfield 81, 3) := by decide +kernel
theorem d_M_changeByAddress_82 : decode b_M_changeByAddress 82 = .ok (.aload_n 0, 1) := by decide +kernel
theorem d_M_changeByAddress_83 : decode b_M_changeByAddress 83 = .ok (.getfield 78, 3) := by decide +kernel
theorem d_M_changeByAddress_86 : decode b_M_changeByAddress 86 = .ok (.invokestatic 201, 3) := by decide +kernel
theorem d_M_changeByAddress_89 : decode b_M_changeByAddress 89 = .ok (.invokestatic 144, 3) := by decide +kernel
theorem d_M_changeByAddress_92 : decode b_M_changeByAddress 92 = .ok (.invokevirtual 140, 3) := by decide +kernel
theorem d_M_changeByAddress_95 : decode b_M_changeByAddress 95 = .ok (.return_, 1) := by decide +kernel
abbrev b_M_unit : ByteArray := prog_3_method_10_code
abbrev y_M_unit : MethodName := ⟨"SignMachine$Machine", "unit", "(I)LSignMachine$Tape;"⟩
theorem h_M_unit : (y_M_unit).cls ≠ "java/lang/invoke/MethodHandle" ∧ (y_M_unit).cls ≠ "java/lang/invoke/VarHandle" ∧ (parseMethodDescriptor (y_M_unit).desc).map (fun d => d.parameters.length) = some 1 := by decide +kernel
theorem d_M_unit_0 : decode b_M_unit 0 = .ok (.iload_n 1, 1) := by decide +kernel
theorem d_M_unit_1 : decode b_M_unit 1 = .ok (.ifCond .ne 10, 3) := by decide +kernel
theorem d_M_unit_4 : decode b_M_unit 4 = .ok (.aload_n 0, 1) := by decide +kernel
theorem d_M_unit_5 : decode b_M_unit 5 = .ok (.getfield 21, 3) := by decide +kernel
theorem d_M_unit_8 : decode b_M_unit 8 = .ok (.goto 7, 3) := by decide +kernel
theorem d_M_unit_11 : decode b_M_unit 11 = .ok (.aload_n 0, 1) := by decide +kernel
theorem d_M_unit_12 : decode b_M_unit 12 = .ok (.getfield 25, 3) := by decide +kernel
theorem d_M_unit_15 : decode b_M_unit 15 = .ok (.areturn, 1) := by decide +kernel
abbrev b_M_blockCanBe : ByteArray := prog_3_method_20_code
abbrev y_M_blockCanBe : MethodName := ⟨"SignMachine$Machine", "blockCanBe", "()Z"⟩
theorem h_M_blockCanBe : (y_M_blockCanBe).cls ≠ "java/lang/invoke/MethodHandle" ∧ (y_M_blockCanBe).cls ≠ "java/lang/invoke/VarHandle" ∧ (parseMethodDescriptor (y_M_blockCanBe).desc).map (fun d => d.parameters.length) = some 0 := by decide +kernel
theorem d_M_blockCanBe_0 : decode b_M_blockCanBe 0 = .ok (.aload_n 0, 1) := by decide +kernel
theorem d_M_blockCanBe_1 : decode b_M_blockCanBe 1 = .ok (.getfield 61, 3) := by decide +kernel
theorem d_M_blockCanBe_4 : decode b_M_blockCanBe 4 = .ok (.bipush 35, 2) := by decide +kernel
theorem d_M_blockCanBe_6 : decode b_M_blockCanBe 6 = .ok (.if_icmp .lt 12, 3) := by decide +kernel
theorem d_M_blockCanBe_9 : decode b_M_blockCanBe 9 = .ok (.aload_n 0, 1) := by decide +kernel
theorem d_M_blockCanBe_10 : decode b_M_blockCanBe 10 = .ok (.getfield 61, 3) := by decide +kernel
theorem d_M_blockCanBe_13 : decode b_M_blockCanBe 13 = .ok (.bipush 37, 2) := by decide +kernel
theorem d_M_blockCanBe_15 : decode b_M_blockCanBe 15 = .ok (.if_icmp .le 5, 3) := by decide +kernel
theorem d_M_blockCanBe_18 : decode b_M_blockCanBe 18 = .ok (.iconst 1, 1) := by decide +kernel
theorem d_M_blockCanBe_19 : decode b_M_blockCanBe 19 = .ok (.ireturn, 1) := by decide +kernel
theorem d_M_blockCanBe_20 : decode b_M_blockCanBe 20 = .ok (.aload_n 0, 1) := by decide +kernel
theorem d_M_blockCanBe_21 : decode b_M_blockCanBe 21 = .ok (.aload_n 0, 1) := by decide +kernel
theorem d_M_blockCanBe_22 : decode b_M_blockCanBe 22 = .ok (.getfield 64, 3) := by decide +kernel
theorem d_M_blockCanBe_25 : decode b_M_blockCanBe 25 = .ok (.invokevirtual 127, 3) := by decide +kernel
theorem d_M_blockCanBe_28 : decode b_M_blockCanBe 28 = .ok (.getfield 131, 3) := by decide +kernel
theorem d_M_blockCanBe_31 : decode b_M_blockCanBe 31 = .ok (.istore_n 1, 1) := by decide +kernel
theorem d_M_blockCanBe_32 : decode b_M_blockCanBe 32 = .ok (.aload_n 0, 1) := by decide +kernel
theorem d_M_blockCanBe_33 : decode b_M_blockCanBe 33 = .ok (.getfield 61, 3) := by decide +kernel
theorem d_M_blockCanBe_36 : decode b_M_blockCanBe 36 = .ok (.bipush 35, 2) := by decide +kernel
theorem d_M_blockCanBe_38 : decode b_M_blockCanBe 38 = .ok (.if_icmp .eq 15, 3) := by decide +kernel
theorem d_M_blockCanBe_41 : decode b_M_blockCanBe 41 = .ok (.iload_n 1, 1) := by decide +kernel
theorem d_M_blockCanBe_42 : decode b_M_blockCanBe 42 = .ok (.bipush 40, 2) := by decide +kernel
theorem d_M_blockCanBe_44 : decode b_M_blockCanBe 44 = .ok (.if_icmp .ge 7, 3) := by decide +kernel
theorem d_M_blockCanBe_47 : decode b_M_blockCanBe 47 = .ok (.iconst 1, 1) := by decide +kernel
theorem d_M_blockCanBe_48 : decode b_M_blockCanBe 48 = .ok (.goto 4, 3) := by decide +kernel
theorem d_M_blockCanBe_51 : decode b_M_blockCanBe 51 = .ok (.iconst 0, 1) := by decide +kernel
theorem d_M_blockCanBe_52 : decode b_M_blockCanBe 52 = .ok (.ireturn, 1) := by decide +kernel
theorem d_M_blockCanBe_53 : decode b_M_blockCanBe 53 = .ok (.aload_n 0, 1) := by decide +kernel
theorem d_M_blockCanBe_54 : decode b_M_blockCanBe 54 = .ok (.getfield 81, 3) := by decide +kernel
theorem d_M_blockCanBe_57 : decode b_M_blockCanBe 57 = .ok (.ifCond .eq 23, 3) := by decide +kernel
theorem d_M_blockCanBe_60 : decode b_M_blockCanBe 60 = .ok (.iload_n 1, 1) := by decide +kernel
theorem d_M_blockCanBe_61 : decode b_M_blockCanBe 61 = .ok (.aload_n 0, 1) := by decide +kernel
theorem d_M_blockCanBe_62 : decode b_M_blockCanBe 62 = .ok (.getfield 81, 3) := by decide +kernel
theorem d_M_blockCanBe_65 : decode b_M_blockCanBe 65 = .ok (.iadd, 1) := by decide +kernel
theorem d_M_blockCanBe_66 : decode b_M_blockCanBe 66 = .ok (.ifCond .lt 18, 3) := by decide +kernel
theorem d_M_blockCanBe_69 : decode b_M_blockCanBe 69 = .ok (.iload_n 1, 1) := by decide +kernel
theorem d_M_blockCanBe_70 : decode b_M_blockCanBe 70 = .ok (.aload_n 0, 1) := by decide +kernel
theorem d_M_blockCanBe_71 : decode b_M_blockCanBe 71 = .ok (.getfield 81, 3) := by decide +kernel
theorem d_M_blockCanBe_74 : decode b_M_blockCanBe 74 = .ok (.iadd, 1) := by decide +kernel
theorem d_M_blockCanBe_75 : decode b_M_blockCanBe 75 = .ok (.bipush 40, 2) := by decide +kernel
theorem d_M_blockCanBe_77 : decode b_M_blockCanBe 77 = .ok (.if_icmp .gt 7, 3) := by decide +kernel
theorem d_M_blockCanBe_80 : decode b_M_blockCanBe 80 = .ok (.iconst 1, 1) := by decide +kernel
theorem d_M_blockCanBe_81 : decode b_M_blockCanBe 81 = .ok (.goto 4, 3) := by decide +kernel
theorem d_M_blockCanBe_84 : decode b_M_blockCanBe 84 = .ok (.iconst 0, 1) := by decide +kernel
theorem d_M_blockCanBe_85 : decode b_M_blockCanBe 85 = .ok (.ireturn, 1) := by decide +kernel
abbrev b_M_reasonAgainst : ByteArray := prog_3_method_13_code
abbrev y_M_reasonAgainst : MethodName := ⟨"SignMachine$Machine", "reasonAgainst", "()I"⟩
theorem h_M_reasonAgainst : (y_M_reasonAgainst).cls ≠ "java/lang/invoke/MethodHandle" ∧ (y_M_reasonAgainst).cls ≠ "java/lang/invoke/VarHandle" ∧ (parseMethodDescriptor (y_M_reasonAgainst).desc).map (fun d => d.parameters.length) = some 0 := by decide +kernel
theorem d_M_reasonAgainst_0 : decode b_M_reasonAgainst 0 = .ok (.aload_n 0, 1) := by decide +kernel
theorem d_M_reasonAgainst_1 : decode b_M_reasonAgainst 1 = .ok (.invokevirtual 90, 3) := by decide +kernel
theorem d_M_reasonAgainst_4 : decode b_M_reasonAgainst 4 = .ok (.ifCond .ne 5, 3) := by decide +kernel
theorem d_M_reasonAgainst_7 : decode b_M_reasonAgainst 7 = .ok (.iconst 2, 1) := by decide +kernel
theorem d_M_reasonAgainst_8 : decode b_M_reasonAgainst 8 = .ok (.ireturn, 1) := by decide +kernel
theorem d_M_reasonAgainst_9 : decode b_M_reasonAgainst 9 = .ok (.aload_n 0, 1) := by decide +kernel
theorem d_M_reasonAgainst_10 : decode b_M_reasonAgainst 10 = .ok (.invokevirtual 94, 3) := by decide +kernel
theorem d_M_reasonAgainst_13 : decode b_M_reasonAgainst 13 = .ok (.ifCond .ne 5, 3) := by decide +kernel
theorem d_M_reasonAgainst_16 : decode b_M_reasonAgainst 16 = .ok (.iconst 3, 1) := by decide +kernel
theorem d_M_reasonAgainst_17 : decode b_M_reasonAgainst 17 = .ok (.ireturn, 1) := by decide +kernel
theorem d_M_reasonAgainst_18 : decode b_M_reasonAgainst 18 = .ok (.aload_n 0, 1) := by decide +kernel
theorem d_M_reasonAgainst_19 : decode b_M_reasonAgainst 19 = .ok (.invokevirtual 97, 3) := by decide +kernel
theorem d_M_reasonAgainst_22 : decode b_M_reasonAgainst 22 = .ok (.ifCond .ne 5, 3) := by decide +kernel
theorem d_M_reasonAgainst_25 : decode b_M_reasonAgainst 25 = .ok (.iconst 4, 1) := by decide +kernel
theorem d_M_reasonAgainst_26 : decode b_M_reasonAgainst 26 = .ok (.ireturn, 1) := by decide +kernel
theorem d_M_reasonAgainst_27 : decode b_M_reasonAgainst 27 = .ok (.aload_n 0, 1) := by decide +kernel
theorem d_M_reasonAgainst_28 : decode b_M_reasonAgainst 28 = .ok (.invokevirtual 100, 3) := by decide +kernel
theorem d_M_reasonAgainst_31 : decode b_M_reasonAgainst 31 = .ok (.ifCond .eq 7, 3) := by decide +kernel
theorem d_M_reasonAgainst_34 : decode b_M_reasonAgainst 34 = .ok (.iconst 0, 1) := by decide +kernel
theorem d_M_reasonAgainst_35 : decode b_M_reasonAgainst 35 = .ok (.goto 4, 3) := by decide +kernel
theorem d_M_reasonAgainst_38 : decode b_M_reasonAgainst 38 = .ok (.iconst 5, 1) := by decide +kernel
theorem d_M_reasonAgainst_39 : decode b_M_reasonAgainst 39 = .ok (.ireturn, 1) := by decide +kernel
abbrev b_M_wind : ByteArray := prog_3_method_37_code
abbrev y_M_wind : MethodName := ⟨"SignMachine$Machine", "wind", "()V"⟩
theorem h_M_wind : (y_M_wind).cls ≠ "java/lang/invoke/MethodHandle" ∧ (y_M_wind).cls ≠ "java/lang/invoke/VarHandle" ∧ (parseMethodDescriptor (y_M_wind).desc).map (fun d => d.parameters.length) = some 0 := by decide +kernel
theorem d_M_wind_0 : decode b_M_wind 0 = .ok (.aload_n 0, 1) := by decide +kernel
theorem d_M_wind_1 : decode b_M_wind 1 = .ok (.aload_n 0, 1) := by decide +kernel
theorem d_M_wind_2 : decode b_M_wind 2 = .ok (.getfield 64, 3) := by decide +kernel
theorem d_M_wind_5 : decode b_M_wind 5 = .ok (.invokevirtual 127, 3) := by decide +kernel
theorem d_M_wind_8 : decode b_M_wind 8 = .ok (.astore_n 1, 1) := by decide +kernel
theorem d_M_wind_9 : decode b_M_wind 9 = .ok (.aload_n 1, 1) := by decide +kernel
theorem d_M_wind_10 : decode b_M_wind 10 = .ok (.aload_n 0, 1) := by decide +kernel
theorem d_M_wind_11 : decode b_M_wind 11 = .ok (.getfield 81, 3) := by decide +kernel
theorem d_M_wind_14 : decode b_M_wind 14 = .ok (.ifCond .ne 7, 3) := by decide +kernel
theorem d_M_wind_17 : decode b_M_wind 17 = .ok (.iconst 0, 1) := by decide +kernel
theorem d_M_wind_18 : decode b_M_wind 18 = .ok (.goto 12, 3) := by decide +kernel
theorem d_M_wind_21 : decode b_M_wind 21 = .ok (.aload_n 1, 1) := by decide +kernel
theorem d_M_wind_22 : decode b_M_wind 22 = .ok (.getfield 131, 3) := by decide +kernel
theorem d_M_wind_25 : decode b_M_wind 25 = .ok (.aload_n 0, 1) := by decide +kernel
theorem d_M_wind_26 : decode b_M_wind 26 = .ok (.getfield 81, 3) := by decide +kernel
theorem d_M_wind_29 : decode b_M_wind 29 = .ok (.iadd, 1) := by decide +kernel
theorem d_M_wind_30 : decode b_M_wind 30 = .ok (.putfield 131, 3) := by decide +kernel
theorem d_M_wind_33 : decode b_M_wind 33 = .ok (.return_, 1) := by decide +kernel
abbrev b_M_compareField : ByteArray := prog_3_method_45_code
abbrev y_M_compareField : MethodName := ⟨"SignMachine$Machine", "compareField", "(I)V"⟩
theorem h_M_compareField : (y_M_compareField).cls ≠ "java/lang/invoke/MethodHandle" ∧ (y_M_compareField).cls ≠ "java/lang/invoke/VarHandle" ∧ (parseMethodDescriptor (y_M_compareField).desc).map (fun d => d.parameters.length) = some 1 := by decide +kernel
theorem d_M_compareField_0 : decode b_M_compareField 0 = .ok (.aload_n 0, 1) := by decide +kernel
theorem d_M_compareField_1 : decode b_M_compareField 1 = .ok (.iload_n 1, 1) := by decide +kernel
theorem d_M_compareField_2 : decode b_M_compareField 2 = .ok (.aload_n 0, 1) := by decide +kernel
theorem d_M_compareField_3 : decode b_M_compareField 3 = .ok (.getfield 64, 3) := by decide +kernel
theorem d_M_compareField_6 : decode b_M_compareField 6 = .ok (.invokestatic 134, 3) := by decide +kernel
theorem d_M_compareField_9 : decode b_M_compareField 9 = .ok (.invokestatic 87, 3) := by decide +kernel
theorem d_M_compareField_12 : decode b_M_compareField 12 = .ok (.aload_n 0, 1) := by decide +kernel
theorem d_M_compareField_13 : decode b_M_compareField 13 = .ok (.invokevirtual 116, 3) := by decide +kernel
theorem d_M_compareField_16 : decode b_M_compareField 16 = .ok (.invokestatic 87, 3) := by decide +kernel
theorem d_M_compareField_19 : decode b_M_compareField 19 = .ok (.invokestatic 247, 3) := by decide +kernel
theorem d_M_compareField_22 : decode b_M_compareField 22 = .ok (.putfield 244, 3) := by decide +kernel
theorem d_M_compareField_25 : decode b_M_compareField 25 = .ok (.return_, 1) := by decide +kernel
abbrev b_M_becomeNumber : ByteArray := prog_3_method_32_code
abbrev y_M_becomeNumber : MethodName := ⟨"SignMachine$Machine", "becomeNumber", "()V"⟩
theorem h_M_becomeNumber : (y_M_becomeNumber).cls ≠ "java/lang/invoke/MethodHandle" ∧ (y_M_becomeNumber).cls ≠ "java/lang/invoke/VarHandle" ∧ (parseMethodDescriptor (y_M_becomeNumber).desc).map (fun d => d.parameters.length) = some 0 := by decide +kernel
theorem d_M_becomeNumber_0 : decode b_M_becomeNumber 0 = .ok (.aload_n 0, 1) := by decide +kernel
theorem d_M_becomeNumber_1 : decode b_M_becomeNumber 1 = .ok (.invokevirtual 207, 3) := by decide +kernel
theorem d_M_becomeNumber_4 : decode b_M_becomeNumber 4 = .ok (.lstore_n 1, 1) := by decide +kernel
theorem d_M_becomeNumber_5 : decode b_M_becomeNumber 5 = .ok (.lconst 0, 1) := by decide +kernel
theorem d_M_becomeNumber_6 : decode b_M_becomeNumber 6 = .ok (.lstore_n 3, 1) := by decide +kernel
theorem d_M_becomeNumber_7 : decode b_M_becomeNumber 7 = .ok (.bipush 9, 2) := by decide +kernel
theorem d_M_becomeNumber_9 : decode b_M_becomeNumber 9 = .ok (.istore 5, 2) := by decide +kernel
theorem d_M_becomeNumber_11 : decode b_M_becomeNumber 11 = .ok (.iload 5, 2) := by decide +kernel
theorem d_M_becomeNumber_13 : decode b_M_becomeNumber 13 = .ok (.ifCond .lt 31, 3) := by decide +kernel
theorem d_M_becomeNumber_16 : decode b_M_becomeNumber 16 = .ok (.lload_n 3, 1) := by decide +kernel
theorem d_M_becomeNumber_17 : decode b_M_becomeNumber 17 = .ok (.ldc2_w 217, 3) := by decide +kernel
theorem d_M_becomeNumber_20 : decode b_M_becomeNumber 20 = .ok (.lmul, 1) := by decide +kernel
theorem d_M_becomeNumber_21 : decode b_M_becomeNumber 21 = .ok (.lload_n 1, 1) := by decide +kernel
theorem d_M_becomeNumber_22 : decode b_M_becomeNumber 22 = .ok (.bipush 6, 2) := by decide +kernel
theorem d_M_becomeNumber_24 : decode b_M_becomeNumber 24 = .ok (.iload 5, 2) := by decide +kernel
theorem d_M_becomeNumber_26 : decode b_M_becomeNumber 26 = .ok (.imul, 1) := by decide +kernel
theorem d_M_becomeNumber_27 : decode b_M_becomeNumber 27 = .ok (.lshr, 1) := by decide +kernel
theorem d_M_becomeNumber_28 : decode b_M_becomeNumber 28 = .ok (.ldc2_w 219, 3) := by decide +kernel
theorem d_M_becomeNumber_31 : decode b_M_becomeNumber 31 = .ok (.land, 1) := by decide +kernel
theorem d_M_becomeNumber_32 : decode b_M_becomeNumber 32 = .ok (.ldc2_w 217, 3) := by decide +kernel
theorem d_M_becomeNumber_35 : decode b_M_becomeNumber 35 = .ok (.lrem, 1) := by decide +kernel
theorem d_M_becomeNumber_36 : decode b_M_becomeNumber 36 = .ok (.ladd, 1) := by decide +kernel
theorem d_M_becomeNumber_37 : decode b_M_becomeNumber 37 = .ok (.lstore_n 3, 1) := by decide +kernel
theorem d_M_becomeNumber_38 : decode b_M_becomeNumber 38 = .ok (.iinc 5 (-1), 3) := by decide +kernel
theorem d_M_becomeNumber_41 : decode b_M_becomeNumber 41 = .ok (.goto (-30), 3) := by decide +kernel
theorem d_M_becomeNumber_44 : decode b_M_becomeNumber 44 = .ok (.lload_n 3, 1) := by decide +kernel
theorem d_M_becomeNumber_45 : decode b_M_becomeNumber 45 = .ok (.ldc2_w 221, 3) := by decide +kernel
theorem d_M_becomeNumber_48 : decode b_M_becomeNumber 48 = .ok (.lcmp, 1) := by decide +kernel
theorem d_M_becomeNumber_49 : decode b_M_becomeNumber 49 = .ok (.ifCond .le 8, 3) := by decide +kernel
theorem d_M_becomeNumber_52 : decode b_M_becomeNumber 52 = .ok (.aload_n 0, 1) := by decide +kernel
theorem d_M_becomeNumber_53 : decode b_M_becomeNumber 53 = .ok (.iconst 1, 1) := by decide +kernel
theorem d_M_becomeNumber_54 : decode b_M_becomeNumber 54 = .ok (.putfield 196, 3) := by decide +kernel
theorem d_M_becomeNumber_57 : decode b_M_becomeNumber 57 = .ok (.lload_n 3, 1) := by decide +kernel
theorem d_M_becomeNumber_58 : decode b_M_becomeNumber 58 = .ok (.ldc2_w 223, 3) := by decide +kernel
theorem d_M_becomeNumber_61 : decode b_M_becomeNumber 61 = .ok (.lrem, 1) := by decide +kernel
theorem d_M_becomeNumber_62 : decode b_M_becomeNumber 62 = .ok (.l2i, 1) := by decide +kernel
theorem d_M_becomeNumber_63 : decode b_M_becomeNumber 63 = .ok (.istore 5, 2) := by decide +kernel
theorem d_M_becomeNumber_65 : decode b_M_becomeNumber 65 = .ok (.aload_n 0, 1) := by decide +kernel
theorem d_M_becomeNumber_66 : decode b_M_becomeNumber 66 = .ok (.iconst 0, 1) := by decide +kernel
theorem d_M_becomeNumber_67 : decode b_M_becomeNumber 67 = .ok (.aload_n 0, 1) := by decide +kernel
theorem d_M_becomeNumber_68 : decode b_M_becomeNumber 68 = .ok (.iconst 0, 1) := by decide +kernel
theorem d_M_becomeNumber_69 : decode b_M_becomeNumber 69 = .ok (.invokevirtual 84, 3) := by decide +kernel
theorem d_M_becomeNumber_72 : decode b_M_becomeNumber 72 = .ok (.invokestatic 75, 3) := by decide +kernel
theorem d_M_becomeNumber_75 : decode b_M_becomeNumber 75 = .ok (.iload 5, 2) := by decide +kernel
theorem d_M_becomeNumber_77 : decode b_M_becomeNumber 77 = .ok (.invokestatic 204, 3) := by decide +kernel
theorem d_M_becomeNumber_80 : decode b_M_becomeNumber 80 = .ok (.invokevirtual 140, 3) := by decide +kernel
theorem d_M_becomeNumber_83 : decode b_M_becomeNumber 83 = .ok (.return_, 1) := by decide +kernel
abbrev b_M_becomeDigits : ByteArray := prog_3_method_33_code
abbrev y_M_becomeDigits : MethodName := ⟨"SignMachine$Machine", "becomeDigits", "()V"⟩
theorem h_M_becomeDigits : (y_M_becomeDigits).cls ≠ "java/lang/invoke/MethodHandle" ∧ (y_M_becomeDigits).cls ≠ "java/lang/invoke/VarHandle" ∧ (parseMethodDescriptor (y_M_becomeDigits).desc).map (fun d => d.parameters.length) = some 0 := by decide +kernel
theorem d_M_becomeDigits_0 : decode b_M_becomeDigits 0 = .ok (.aload_n 0, 1) := by decide +kernel
theorem d_M_becomeDigits_1 : decode b_M_becomeDigits 1 = .ok (.iconst 0, 1) := by decide +kernel
theorem d_M_becomeDigits_2 : decode b_M_becomeDigits 2 = .ok (.invokevirtual 84, 3) := by decide +kernel
theorem d_M_becomeDigits_5 : decode b_M_becomeDigits 5 = .ok (.invokestatic 67, 3) := by decide +kernel
theorem d_M_becomeDigits_8 : decode b_M_becomeDigits 8 = .ok (.istore_n 1, 1) := by decide +kernel
theorem d_M_becomeDigits_9 : decode b_M_becomeDigits 9 = .ok (.lconst 0, 1) := by decide +kernel
theorem d_M_becomeDigits_10 : decode b_M_becomeDigits 10 = .ok (.lstore_n 2, 1) := by decide +kernel
theorem d_M_becomeDigits_11 : decode b_M_becomeDigits 11 = .ok (.iconst 0, 1) := by decide +kernel
theorem d_M_becomeDigits_12 : decode b_M_becomeDigits 12 = .ok (.istore 4, 2) := by decide +kernel
theorem d_M_becomeDigits_14 : decode b_M_becomeDigits 14 = .ok (.iload 4, 2) := by decide +kernel
theorem d_M_becomeDigits_16 : decode b_M_becomeDigits 16 = .ok (.bipush 10, 2) := by decide +kernel
theorem d_M_becomeDigits_18 : decode b_M_becomeDigits 18 = .ok (.if_icmp .ge 31, 3) := by decide +kernel
theorem d_M_becomeDigits_21 : decode b_M_becomeDigits 21 = .ok (.lload_n 2, 1) := by decide +kernel
theorem d_M_becomeDigits_22 : decode b_M_becomeDigits 22 = .ok (.bipush 30, 2) := by decide +kernel
theorem d_M_becomeDigits_24 : decode b_M_becomeDigits 24 = .ok (.iload_n 1, 1) := by decide +kernel
theorem d_M_becomeDigits_25 : decode b_M_becomeDigits 25 = .ok (.bipush 10, 2) := by decide +kernel
theorem d_M_becomeDigits_27 : decode b_M_becomeDigits 27 = .ok (.irem, 1) := by decide +kernel
theorem d_M_becomeDigits_28 : decode b_M_becomeDigits 28 = .ok (.iadd, 1) := by decide +kernel
theorem d_M_becomeDigits_29 : decode b_M_becomeDigits 29 = .ok (.i2l, 1) := by decide +kernel
theorem d_M_becomeDigits_30 : decode b_M_becomeDigits 30 = .ok (.bipush 6, 2) := by decide +kernel
theorem d_M_becomeDigits_32 : decode b_M_becomeDigits 32 = .ok (.iload 4, 2) := by decide +kernel
theorem d_M_becomeDigits_34 : decode b_M_becomeDigits 34 = .ok (.imul, 1) := by decide +kernel
theorem d_M_becomeDigits_35 : decode b_M_becomeDigits 35 = .ok (.lshl, 1) := by decide +kernel
theorem d_M_becomeDigits_36 : decode b_M_becomeDigits 36 = .ok (.lor, 1) := by decide +kernel
theorem d_M_becomeDigits_37 : decode b_M_becomeDigits 37 = .ok (.lstore_n 2, 1) := by decide +kernel
theorem d_M_becomeDigits_38 : decode b_M_becomeDigits 38 = .ok (.iload_n 1, 1) := by decide +kernel
theorem d_M_becomeDigits_39 : decode b_M_becomeDigits 39 = .ok (.bipush 10, 2) := by decide +kernel
theorem d_M_becomeDigits_41 : decode b_M_becomeDigits 41 = .ok (.idiv, 1) := by decide +kernel
theorem d_M_becomeDigits_42 : decode b_M_becomeDigits 42 = .ok (.istore_n 1, 1) := by decide +kernel
theorem d_M_becomeDigits_43 : decode b_M_becomeDigits 43 = .ok (.iinc 4 1, 3) := by decide +kernel
theorem d_M_becomeDigits_46 : decode b_M_becomeDigits 46 = .ok (.goto (-32), 3) := by decide +kernel
theorem d_M_becomeDigits_49 : decode b_M_becomeDigits 49 = .ok (.aload_n 0, 1) := by decide +kernel
theorem d_M_becomeDigits_50 : decode b_M_becomeDigits 50 = .ok (.lload_n 2, 1) := by decide +kernel
theorem d_M_becomeDigits_51 : decode b_M_becomeDigits 51 = .ok (.invokevirtual 225, 3) := by decide +kernel
theorem d_M_becomeDigits_54 : decode b_M_becomeDigits 54 = .ok (.return_, 1) := by decide +kernel
abbrev b_M_convert : ByteArray := prog_3_method_31_code
abbrev y_M_convert : MethodName := ⟨"SignMachine$Machine", "convert", "()V"⟩
theorem h_M_convert : (y_M_convert).cls ≠ "java/lang/invoke/MethodHandle" ∧ (y_M_convert).cls ≠ "java/lang/invoke/VarHandle" ∧ (parseMethodDescriptor (y_M_convert).desc).map (fun d => d.parameters.length) = some 0 := by decide +kernel
theorem d_M_convert_0 : decode b_M_convert 0 = .ok (.aload_n 0, 1) := by decide +kernel
theorem d_M_convert_1 : decode b_M_convert 1 = .ok (.getfield 64, 3) := by decide +kernel
theorem d_M_convert_4 : decode b_M_convert 4 = .ok (.ifCond .ne 10, 3) := by decide +kernel
theorem d_M_convert_7 : decode b_M_convert 7 = .ok (.aload_n 0, 1) := by decide +kernel
theorem d_M_convert_8 : decode b_M_convert 8 = .ok (.invokevirtual 211, 3) := by decide +kernel
theorem d_M_convert_11 : decode b_M_convert 11 = .ok (.goto 15, 3) := by decide +kernel
theorem d_M_convert_14 : decode b_M_convert 14 = .ok (.aload_n 0, 1) := by decide +kernel
theorem d_M_convert_15 : decode b_M_convert 15 = .ok (.getfield 64, 3) := by decide +kernel
theorem d_M_convert_18 : decode b_M_convert 18 = .ok (.iconst 1, 1) := by decide +kernel
theorem d_M_convert_19 : decode b_M_convert 19 = .ok (.if_icmp .ne 7, 3) := by decide +kernel
theorem d_M_convert_22 : decode b_M_convert 22 = .ok (.aload_n 0, 1) := by decide +kernel
theorem d_M_convert_23 : decode b_M_convert 23 = .ok (.invokevirtual 214, 3) := by decide +kernel
theorem d_M_convert_26 : decode b_M_convert 26 = .ok (.return_, 1) := by decide +kernel
abbrev b_M_moveWords : ByteArray := prog_3_method_35_code
abbrev y_M_moveWords : MethodName := ⟨"SignMachine$Machine", "moveWords", "()V"⟩
theorem h_M_moveWords : (y_M_moveWords).cls ≠ "java/lang/invoke/MethodHandle" ∧ (y_M_moveWords).cls ≠ "java/lang/invoke/VarHandle" ∧ (parseMethodDescriptor (y_M_moveWords).desc).map (fun d => d.parameters.length) = some 0 := by decide +kernel
theorem d_M_moveWords_0 : decode b_M_moveWords 0 = .ok (.aload_n 0, 1) := by decide +kernel
theorem d_M_moveWords_1 : decode b_M_moveWords 1 = .ok (.iconst 1, 1) := by decide +kernel
theorem d_M_moveWords_2 : decode b_M_moveWords 2 = .ok (.invokevirtual 84, 3) := by decide +kernel
theorem d_M_moveWords_5 : decode b_M_moveWords 5 = .ok (.invokestatic 87, 3) := by decide +kernel
theorem d_M_moveWords_8 : decode b_M_moveWords 8 = .ok (.istore_n 1, 1) := by decide +kernel
theorem d_M_moveWords_9 : decode b_M_moveWords 9 = .ok (.iconst 0, 1) := by decide +kernel
theorem d_M_moveWords_10 : decode b_M_moveWords 10 = .ok (.istore_n 2, 1) := by decide +kernel
theorem d_M_moveWords_11 : decode b_M_moveWords 11 = .ok (.iload_n 2, 1) := by decide +kernel
theorem d_M_moveWords_12 : decode b_M_moveWords 12 = .ok (.aload_n 0, 1) := by decide +kernel
theorem d_M_moveWords_13 : decode b_M_moveWords 13 = .ok (.getfield 64, 3) := by decide +kernel
theorem d_M_moveWords_16 : decode b_M_moveWords 16 = .ok (.if_icmp .ge 26, 3) := by decide +kernel
theorem d_M_moveWords_19 : decode b_M_moveWords 19 = .ok (.aload_n 0, 1) := by decide +kernel
theorem d_M_moveWords_20 : decode b_M_moveWords 20 = .ok (.iload_n 1, 1) := by decide +kernel
theorem d_M_moveWords_21 : decode b_M_moveWords 21 = .ok (.iload_n 2, 1) := by decide +kernel
theorem d_M_moveWords_22 : decode b_M_moveWords 22 = .ok (.iadd, 1) := by decide +kernel
theorem d_M_moveWords_23 : decode b_M_moveWords 23 = .ok (.aload_n 0, 1) := by decide +kernel
theorem d_M_moveWords_24 : decode b_M_moveWords 24 = .ok (.aload_n 0, 1) := by decide +kernel
theorem d_M_moveWords_25 : decode b_M_moveWords 25 = .ok (.getfield 81, 3) := by decide +kernel
theorem d_M_moveWords_28 : decode b_M_moveWords 28 = .ok (.iload_n 2, 1) := by decide +kernel
theorem d_M_moveWords_29 : decode b_M_moveWords 29 = .ok (.iadd, 1) := by decide +kernel
theorem d_M_moveWords_30 : decode b_M_moveWords 30 = .ok (.invokevirtual 39, 3) := by decide +kernel
theorem d_M_moveWords_33 : decode b_M_moveWords 33 = .ok (.invokevirtual 232, 3) := by decide +kernel
theorem d_M_moveWords_36 : decode b_M_moveWords 36 = .ok (.iinc 2 1, 3) := by decide +kernel
theorem d_M_moveWords_39 : decode b_M_moveWords 39 = .ok (.goto (-28), 3) := by decide +kernel
theorem d_M_moveWords_42 : decode b_M_moveWords 42 = .ok (.aload_n 0, 1) := by decide +kernel
theorem d_M_moveWords_43 : decode b_M_moveWords 43 = .ok (.iconst 1, 1) := by decide +kernel
theorem d_M_moveWords_44 : decode b_M_moveWords 44 = .ok (.aload_n 0, 1) := by decide +kernel
theorem d_M_moveWords_45 : decode b_M_moveWords 45 = .ok (.getfield 64, 3) := by decide +kernel
theorem d_M_moveWords_48 : decode b_M_moveWords 48 = .ok (.invokevirtual 166, 3) := by decide +kernel
theorem d_M_moveWords_51 : decode b_M_moveWords 51 = .ok (.return_, 1) := by decide +kernel
abbrev b_M_performLow : ByteArray := prog_3_method_24_code
abbrev y_M_performLow : MethodName := ⟨"SignMachine$Machine", "performLow", "()V"⟩
theorem h_M_performLow : (y_M_performLow).cls ≠ "java/lang/invoke/MethodHandle" ∧ (y_M_performLow).cls ≠ "java/lang/invoke/VarHandle" ∧ (parseMethodDescriptor (y_M_performLow).desc).map (fun d => d.parameters.length) = some 0 := by decide +kernel
theorem d_M_performLow_0 : decode b_M_performLow 0 = .ok (.aload_n 0, 1) := by decide +kernel
theorem d_M_performLow_1 : decode b_M_performLow 1 = .ok (.getfield 61, 3) := by decide +kernel
theorem d_M_performLow_4 : decode b_M_performLow 4 = .ok (.tableswitch 118 1 7 #[44, 59, 75, 86, 97, 104, 111], 44) := by decide +kernel
theorem d_M_performLow_48 : decode b_M_performLow 48 = .ok (.aload_n 0, 1) := by decide +kernel
theorem d_M_performLow_49 : decode b_M_performLow 49 = .ok (.iconst 0, 1) := by decide +kernel
theorem d_M_performLow_50 : decode b_M_performLow 50 = .ok (.aload_n 0, 1) := by decide +kernel
theorem d_M_performLow_51 : decode b_M_performLow 51 = .ok (.invokevirtual 116, 3) := by decide +kernel
theorem d_M_performLow_54 : decode b_M_performLow 54 = .ok (.invokestatic 87, 3) := by decide +kernel
theorem d_M_performLow_57 : decode b_M_performLow 57 = .ok (.invokevirtual 166, 3) := by decide +kernel
theorem d_M_performLow_60 : decode b_M_performLow 60 = .ok (.goto 62, 3) := by decide +kernel
theorem d_M_performLow_63 : decode b_M_performLow 63 = .ok (.aload_n 0, 1) := by decide +kernel
theorem d_M_performLow_64 : decode b_M_performLow 64 = .ok (.iconst 0, 1) := by decide +kernel
theorem d_M_performLow_65 : decode b_M_performLow 65 = .ok (.aload_n 0, 1) := by decide +kernel
theorem d_M_performLow_66 : decode b_M_performLow 66 = .ok (.invokevirtual 116, 3) := by decide +kernel
theorem d_M_performLow_69 : decode b_M_performLow 69 = .ok (.invokestatic 87, 3) := by decide +kernel
theorem d_M_performLow_72 : decode b_M_performLow 72 = .ok (.ineg, 1) := by decide +kernel
theorem d_M_performLow_73 : decode b_M_performLow 73 = .ok (.invokevirtual 166, 3) := by decide +kernel
theorem d_M_performLow_76 : decode b_M_performLow 76 = .ok (.goto 46, 3) := by decide +kernel
theorem d_M_performLow_79 : decode b_M_performLow 79 = .ok (.aload_n 0, 1) := by decide +kernel
theorem d_M_performLow_80 : decode b_M_performLow 80 = .ok (.aload_n 0, 1) := by decide +kernel
theorem d_M_performLow_81 : decode b_M_performLow 81 = .ok (.invokevirtual 116, 3) := by decide +kernel
theorem d_M_performLow_84 : decode b_M_performLow 84 = .ok (.invokevirtual 169, 3) := by decide +kernel
theorem d_M_performLow_87 : decode b_M_performLow 87 = .ok (.goto 35, 3) := by decide +kernel
theorem d_M_performLow_90 : decode b_M_performLow 90 = .ok (.aload_n 0, 1) := by decide +kernel
theorem d_M_performLow_91 : decode b_M_performLow 91 = .ok (.aload_n 0, 1) := by decide +kernel
theorem d_M_performLow_92 : decode b_M_performLow 92 = .ok (.invokevirtual 116, 3) := by decide +kernel
theorem d_M_performLow_95 : decode b_M_performLow 95 = .ok (.invokevirtual 172, 3) := by decide +kernel
theorem d_M_performLow_98 : decode b_M_performLow 98 = .ok (.goto 24, 3) := by decide +kernel
theorem d_M_performLow_101 : decode b_M_performLow 101 = .ok (.aload_n 0, 1) := by decide +kernel
theorem d_M_performLow_102 : decode b_M_performLow 102 = .ok (.invokevirtual 175, 3) := by decide +kernel
theorem d_M_performLow_105 : decode b_M_performLow 105 = .ok (.goto 17, 3) := by decide +kernel
theorem d_M_performLow_108 : decode b_M_performLow 108 = .ok (.aload_n 0, 1) := by decide +kernel
theorem d_M_performLow_109 : decode b_M_performLow 109 = .ok (.invokevirtual 178, 3) := by decide +kernel
theorem d_M_performLow_112 : decode b_M_performLow 112 = .ok (.goto 10, 3) := by decide +kernel
theorem d_M_performLow_115 : decode b_M_performLow 115 = .ok (.aload_n 0, 1) := by decide +kernel
theorem d_M_performLow_116 : decode b_M_performLow 116 = .ok (.invokevirtual 181, 3) := by decide +kernel
theorem d_M_performLow_119 : decode b_M_performLow 119 = .ok (.goto 3, 3) := by decide +kernel
theorem d_M_performLow_122 : decode b_M_performLow 122 = .ok (.return_, 1) := by decide +kernel
abbrev b_R_hasRoom : ByteArray := prog_7_method_2_code
abbrev y_R_hasRoom : MethodName := ⟨"SignMachine$Source", "hasRoom", "()Z"⟩
theorem h_R_hasRoom : (y_R_hasRoom).cls ≠ "java/lang/invoke/MethodHandle" ∧ (y_R_hasRoom).cls ≠ "java/lang/invoke/VarHandle" ∧ (parseMethodDescriptor (y_R_hasRoom).desc).map (fun d => d.parameters.length) = some 0 := by decide +kernel
theorem d_R_hasRoom_0 : decode b_R_hasRoom 0 = .ok (.aload_n 0, 1) := by decide +kernel
theorem d_R_hasRoom_1 : decode b_R_hasRoom 1 = .ok (.getfield 13, 3) := by decide +kernel
theorem d_R_hasRoom_4 : decode b_R_hasRoom 4 = .ok (.bipush 20, 2) := by decide +kernel
theorem d_R_hasRoom_6 : decode b_R_hasRoom 6 = .ok (.iadd, 1) := by decide +kernel
theorem d_R_hasRoom_7 : decode b_R_hasRoom 7 = .ok (.sipush 4000, 3) := by decide +kernel
theorem d_R_hasRoom_10 : decode b_R_hasRoom 10 = .ok (.if_icmp .gt 7, 3) := by decide +kernel
theorem d_R_hasRoom_13 : decode b_R_hasRoom 13 = .ok (.iconst 1, 1) := by decide +kernel
theorem d_R_hasRoom_14 : decode b_R_hasRoom 14 = .ok (.goto 4, 3) := by decide +kernel
theorem d_R_hasRoom_17 : decode b_R_hasRoom 17 = .ok (.iconst 0, 1) := by decide +kernel
theorem d_R_hasRoom_18 : decode b_R_hasRoom 18 = .ok (.ireturn, 1) := by decide +kernel
abbrev b_R_begin : ByteArray := prog_7_method_4_code
abbrev y_R_begin : MethodName := ⟨"SignMachine$Source", "begin", "()V"⟩
theorem h_R_begin : (y_R_begin).cls ≠ "java/lang/invoke/MethodHandle" ∧ (y_R_begin).cls ≠ "java/lang/invoke/VarHandle" ∧ (parseMethodDescriptor (y_R_begin).desc).map (fun d => d.parameters.length) = some 0 := by decide +kernel
theorem d_R_begin_0 : decode b_R_begin 0 = .ok (.aload_n 0, 1) := by decide +kernel
theorem d_R_begin_1 : decode b_R_begin 1 = .ok (.iconst 0, 1) := by decide +kernel
theorem d_R_begin_2 : decode b_R_begin 2 = .ok (.putfield 17, 3) := by decide +kernel
theorem d_R_begin_5 : decode b_R_begin 5 = .ok (.aload_n 0, 1) := by decide +kernel
theorem d_R_begin_6 : decode b_R_begin 6 = .ok (.iconst 0, 1) := by decide +kernel
theorem d_R_begin_7 : decode b_R_begin 7 = .ok (.putfield 20, 3) := by decide +kernel
theorem d_R_begin_10 : decode b_R_begin 10 = .ok (.return_, 1) := by decide +kernel
abbrev b_R_hasLine : ByteArray := prog_7_method_5_code
abbrev y_R_hasLine : MethodName := ⟨"SignMachine$Source", "hasLine", "()Z"⟩
theorem h_R_hasLine : (y_R_hasLine).cls ≠ "java/lang/invoke/MethodHandle" ∧ (y_R_hasLine).cls ≠ "java/lang/invoke/VarHandle" ∧ (parseMethodDescriptor (y_R_hasLine).desc).map (fun d => d.parameters.length) = some 0 := by decide +kernel
theorem d_R_hasLine_0 : decode b_R_hasLine 0 = .ok (.aload_n 0, 1) := by decide +kernel
theorem d_R_hasLine_1 : decode b_R_hasLine 1 = .ok (.getfield 20, 3) := by decide +kernel
theorem d_R_hasLine_4 : decode b_R_hasLine 4 = .ok (.aload_n 0, 1) := by decide +kernel
theorem d_R_hasLine_5 : decode b_R_hasLine 5 = .ok (.getfield 13, 3) := by decide +kernel
theorem d_R_hasLine_8 : decode b_R_hasLine 8 = .ok (.if_icmp .ge 7, 3) := by decide +kernel
theorem d_R_hasLine_11 : decode b_R_hasLine 11 = .ok (.iconst 1, 1) := by decide +kernel
theorem d_R_hasLine_12 : decode b_R_hasLine 12 = .ok (.goto 4, 3) := by decide +kernel
theorem d_R_hasLine_15 : decode b_R_hasLine 15 = .ok (.iconst 0, 1) := by decide +kernel
theorem d_R_hasLine_16 : decode b_R_hasLine 16 = .ok (.ireturn, 1) := by decide +kernel
abbrev b_R_byteAt : ByteArray := prog_7_method_7_code
abbrev y_R_byteAt : MethodName := ⟨"SignMachine$Source", "byteAt", "(I)I"⟩
theorem h_R_byteAt : (y_R_byteAt).cls ≠ "java/lang/invoke/MethodHandle" ∧ (y_R_byteAt).cls ≠ "java/lang/invoke/VarHandle" ∧ (parseMethodDescriptor (y_R_byteAt).desc).map (fun d => d.parameters.length) = some 1 := by decide +kernel
theorem d_R_byteAt_0 : decode b_R_byteAt 0 = .ok (.iload_n 1, 1) := by decide +kernel
theorem d_R_byteAt_1 : decode b_R_byteAt 1 = .ok (.ifCond .lt 23, 3) := by decide +kernel
theorem d_R_byteAt_4 : decode b_R_byteAt 4 = .ok (.iload_n 1, 1) := by decide +kernel
theorem d_R_byteAt_5 : decode b_R_byteAt 5 = .ok (.sipush 4000, 3) := by decide +kernel
theorem d_R_byteAt_8 : decode b_R_byteAt 8 = .ok (.if_icmp .ge 16, 3) := by decide +kernel
theorem d_R_byteAt_11 : decode b_R_byteAt 11 = .ok (.aload_n 0, 1) := by decide +kernel
theorem d_R_byteAt_12 : decode b_R_byteAt 12 = .ok (.getfield 9, 3) := by decide +kernel
theorem d_R_byteAt_15 : decode b_R_byteAt 15 = .ok (.iload_n 1, 1) := by decide +kernel
theorem d_R_byteAt_16 : decode b_R_byteAt 16 = .ok (.baload, 1) := by decide +kernel
theorem d_R_byteAt_17 : decode b_R_byteAt 17 = .ok (.sipush 255, 3) := by decide +kernel
theorem d_R_byteAt_20 : decode b_R_byteAt 20 = .ok (.iand, 1) := by decide +kernel
theorem d_R_byteAt_21 : decode b_R_byteAt 21 = .ok (.goto 4, 3) := by decide +kernel
theorem d_R_byteAt_24 : decode b_R_byteAt 24 = .ok (.iconst 0, 1) := by decide +kernel
theorem d_R_byteAt_25 : decode b_R_byteAt 25 = .ok (.ireturn, 1) := by decide +kernel
abbrev b_R_peek : ByteArray := prog_7_method_8_code
abbrev y_R_peek : MethodName := ⟨"SignMachine$Source", "peek", "()I"⟩
theorem h_R_peek : (y_R_peek).cls ≠ "java/lang/invoke/MethodHandle" ∧ (y_R_peek).cls ≠ "java/lang/invoke/VarHandle" ∧ (parseMethodDescriptor (y_R_peek).desc).map (fun d => d.parameters.length) = some 0 := by decide +kernel
theorem d_R_peek_0 : decode b_R_peek 0 = .ok (.aload_n 0, 1) := by decide +kernel
theorem d_R_peek_1 : decode b_R_peek 1 = .ok (.getfield 23, 3) := by decide +kernel
theorem d_R_peek_4 : decode b_R_peek 4 = .ok (.ifCond .lt 40, 3) := by decide +kernel
theorem d_R_peek_7 : decode b_R_peek 7 = .ok (.aload_n 0, 1) := by decide +kernel
theorem d_R_peek_8 : decode b_R_peek 8 = .ok (.getfield 23, 3) := by decide +kernel
theorem d_R_peek_11 : decode b_R_peek 11 = .ok (.aload_n 0, 1) := by decide +kernel
theorem d_R_peek_12 : decode b_R_peek 12 = .ok (.getfield 26, 3) := by decide +kernel
theorem d_R_peek_15 : decode b_R_peek 15 = .ok (.if_icmp .ge 29, 3) := by decide +kernel
theorem d_R_peek_18 : decode b_R_peek 18 = .ok (.aload_n 0, 1) := by decide +kernel
theorem d_R_peek_19 : decode b_R_peek 19 = .ok (.getfield 23, 3) := by decide +kernel
theorem d_R_peek_22 : decode b_R_peek 22 = .ok (.sipush 4000, 3) := by decide +kernel
theorem d_R_peek_25 : decode b_R_peek 25 = .ok (.if_icmp .ge 19, 3) := by decide +kernel
theorem d_R_peek_28 : decode b_R_peek 28 = .ok (.aload_n 0, 1) := by decide +kernel
theorem d_R_peek_29 : decode b_R_peek 29 = .ok (.getfield 9, 3) := by decide +kernel
theorem d_R_peek_32 : decode b_R_peek 32 = .ok (.aload_n 0, 1) := by decide +kernel
theorem d_R_peek_33 : decode b_R_peek 33 = .ok (.getfield 23, 3) := by decide +kernel
theorem d_R_peek_36 : decode b_R_peek 36 = .ok (.baload, 1) := by decide +kernel
theorem d_R_peek_37 : decode b_R_peek 37 = .ok (.sipush 255, 3) := by decide +kernel
theorem d_R_peek_40 : decode b_R_peek 40 = .ok (.iand, 1) := by decide +kernel
theorem d_R_peek_41 : decode b_R_peek 41 = .ok (.goto 4, 3) := by decide +kernel
theorem d_R_peek_44 : decode b_R_peek 44 = .ok (.iconst (-1), 1) := by decide +kernel
theorem d_R_peek_45 : decode b_R_peek 45 = .ok (.ireturn, 1) := by decide +kernel
abbrev b_R_skip : ByteArray := prog_7_method_9_code
abbrev y_R_skip : MethodName := ⟨"SignMachine$Source", "skip", "()V"⟩
theorem h_R_skip : (y_R_skip).cls ≠ "java/lang/invoke/MethodHandle" ∧ (y_R_skip).cls ≠ "java/lang/invoke/VarHandle" ∧ (parseMethodDescriptor (y_R_skip).desc).map (fun d => d.parameters.length) = some 0 := by decide +kernel
theorem d_R_skip_0 : decode b_R_skip 0 = .ok (.aload_n 0, 1) := by decide +kernel
theorem d_R_skip_1 : decode b_R_skip 1 = .ok (.dup, 1) := by decide +kernel
theorem d_R_skip_2 : decode b_R_skip 2 = .ok (.getfield 23, 3) := by decide +kernel
theorem d_R_skip_5 : decode b_R_skip 5 = .ok (.iconst 1, 1) := by decide +kernel
theorem d_R_skip_6 : decode b_R_skip 6 = .ok (.iadd, 1) := by decide +kernel
theorem d_R_skip_7 : decode b_R_skip 7 = .ok (.putfield 23, 3) := by decide +kernel
theorem d_R_skip_10 : decode b_R_skip 10 = .ok (.return_, 1) := by decide +kernel
abbrev b_R_takes : ByteArray := prog_7_method_10_code
abbrev y_R_takes : MethodName := ⟨"SignMachine$Source", "takes", "(I)Z"⟩
theorem h_R_takes : (y_R_takes).cls ≠ "java/lang/invoke/MethodHandle" ∧ (y_R_takes).cls ≠ "java/lang/invoke/VarHandle" ∧ (parseMethodDescriptor (y_R_takes).desc).map (fun d => d.parameters.length) = some 1 := by decide +kernel
theorem d_R_takes_0 : decode b_R_takes 0 = .ok (.aload_n 0, 1) := by decide +kernel
theorem d_R_takes_1 : decode b_R_takes 1 = .ok (.invokevirtual 33, 3) := by decide +kernel
theorem d_R_takes_4 : decode b_R_takes 4 = .ok (.iload_n 1, 1) := by decide +kernel
theorem d_R_takes_5 : decode b_R_takes 5 = .ok (.if_icmp .eq 5, 3) := by decide +kernel
theorem d_R_takes_8 : decode b_R_takes 8 = .ok (.iconst 0, 1) := by decide +kernel
theorem d_R_takes_9 : decode b_R_takes 9 = .ok (.ireturn, 1) := by decide +kernel
theorem d_R_takes_10 : decode b_R_takes 10 = .ok (.aload_n 0, 1) := by decide +kernel
theorem d_R_takes_11 : decode b_R_takes 11 = .ok (.dup, 1) := by decide +kernel
theorem d_R_takes_12 : decode b_R_takes 12 = .ok (.getfield 23, 3) := by decide +kernel
theorem d_R_takes_15 : decode b_R_takes 15 = .ok (.iconst 1, 1) := by decide +kernel
theorem d_R_takes_16 : decode b_R_takes 16 = .ok (.iadd, 1) := by decide +kernel
theorem d_R_takes_17 : decode b_R_takes 17 = .ok (.putfield 23, 3) := by decide +kernel
theorem d_R_takes_20 : decode b_R_takes 20 = .ok (.iconst 1, 1) := by decide +kernel
theorem d_R_takes_21 : decode b_R_takes 21 = .ok (.ireturn, 1) := by decide +kernel
abbrev b_N_valueOf : ByteArray := prog_4_method_11_code
abbrev y_N_valueOf : MethodName := ⟨"SignMachine$Names", "valueOf", "(I)I"⟩
theorem h_N_valueOf : (y_N_valueOf).cls ≠ "java/lang/invoke/MethodHandle" ∧ (y_N_valueOf).cls ≠ "java/lang/invoke/VarHandle" ∧ (parseMethodDescriptor (y_N_valueOf).desc).map (fun d => d.parameters.length) = some 1 := by decide +kernel
theorem d_N_valueOf_0 : decode b_N_valueOf 0 = .ok (.iload_n 1, 1) := by decide +kernel
theorem d_N_valueOf_1 : decode b_N_valueOf 1 = .ok (.ifCond .lt 18, 3) := by decide +kernel
theorem d_N_valueOf_4 : decode b_N_valueOf 4 = .ok (.iload_n 1, 1) := by decide +kernel
theorem d_N_valueOf_5 : decode b_N_valueOf 5 = .ok (.bipush 100, 2) := by decide +kernel
theorem d_N_valueOf_7 : decode b_N_valueOf 7 = .ok (.if_icmp .ge 12, 3) := by decide +kernel
theorem d_N_valueOf_10 : decode b_N_valueOf 10 = .ok (.aload_n 0, 1) := by decide +kernel
theorem d_N_valueOf_11 : decode b_N_valueOf 11 = .ok (.getfield 15, 3) := by decide +kernel
theorem d_N_valueOf_14 : decode b_N_valueOf 14 = .ok (.iload_n 1, 1) := by decide +kernel
theorem d_N_valueOf_15 : decode b_N_valueOf 15 = .ok (.iaload, 1) := by decide +kernel
theorem d_N_valueOf_16 : decode b_N_valueOf 16 = .ok (.goto 4, 3) := by decide +kernel
theorem d_N_valueOf_19 : decode b_N_valueOf 19 = .ok (.iconst 0, 1) := by decide +kernel
theorem d_N_valueOf_20 : decode b_N_valueOf 20 = .ok (.ireturn, 1) := by decide +kernel
abbrev b_N_isTold : ByteArray := prog_4_method_12_code
abbrev y_N_isTold : MethodName := ⟨"SignMachine$Names", "isTold", "(I)Z"⟩
theorem h_N_isTold : (y_N_isTold).cls ≠ "java/lang/invoke/MethodHandle" ∧ (y_N_isTold).cls ≠ "java/lang/invoke/VarHandle" ∧ (parseMethodDescriptor (y_N_isTold).desc).map (fun d => d.parameters.length) = some 1 := by decide +kernel
theorem d_N_isTold_0 : decode b_N_isTold 0 = .ok (.iload_n 1, 1) := by decide +kernel
theorem d_N_isTold_1 : decode b_N_isTold 1 = .ok (.ifCond .lt 22, 3) := by decide +kernel
theorem d_N_isTold_4 : decode b_N_isTold 4 = .ok (.iload_n 1, 1) := by decide +kernel
theorem d_N_isTold_5 : decode b_N_isTold 5 = .ok (.bipush 100, 2) := by decide +kernel
theorem d_N_isTold_7 : decode b_N_isTold 7 = .ok (.if_icmp .ge 16, 3) := by decide +kernel
theorem d_N_isTold_10 : decode b_N_isTold 10 = .ok (.aload_n 0, 1) := by decide +kernel
theorem d_N_isTold_11 : decode b_N_isTold 11 = .ok (.getfield 19, 3) := by decide +kernel
theorem d_N_isTold_14 : decode b_N_isTold 14 = .ok (.iload_n 1, 1) := by decide +kernel
theorem d_N_isTold_15 : decode b_N_isTold 15 = .ok (.baload, 1) := by decide +kernel
theorem d_N_isTold_16 : decode b_N_isTold 16 = .ok (.ifCond .eq 7, 3) := by decide +kernel
theorem d_N_isTold_19 : decode b_N_isTold 19 = .ok (.iconst 1, 1) := by decide +kernel
theorem d_N_isTold_20 : decode b_N_isTold 20 = .ok (.goto 4, 3) := by decide +kernel
theorem d_N_isTold_23 : decode b_N_isTold 23 = .ok (.iconst 0, 1) := by decide +kernel
theorem d_N_isTold_24 : decode b_N_isTold 24 = .ok (.ireturn, 1) := by decide +kernel
abbrev b_N_tell : ByteArray := prog_4_method_13_code
abbrev y_N_tell : MethodName := ⟨"SignMachine$Names", "tell", "(II)V"⟩
theorem h_N_tell : (y_N_tell).cls ≠ "java/lang/invoke/MethodHandle" ∧ (y_N_tell).cls ≠ "java/lang/invoke/VarHandle" ∧ (parseMethodDescriptor (y_N_tell).desc).map (fun d => d.parameters.length) = some 2 := by decide +kernel
theorem d_N_tell_0 : decode b_N_tell 0 = .ok (.iload_n 1, 1) := by decide +kernel
theorem d_N_tell_1 : decode b_N_tell 1 = .ok (.ifCond .lt 23, 3) := by decide +kernel
theorem d_N_tell_4 : decode b_N_tell 4 = .ok (.iload_n 1, 1) := by decide +kernel
theorem d_N_tell_5 : decode b_N_tell 5 = .ok (.bipush 100, 2) := by decide +kernel
theorem d_N_tell_7 : decode b_N_tell 7 = .ok (.if_icmp .ge 17, 3) := by decide +kernel
theorem d_N_tell_10 : decode b_N_tell 10 = .ok (.aload_n 0, 1) := by decide +kernel
theorem d_N_tell_11 : decode b_N_tell 11 = .ok (.getfield 15, 3) := by decide +kernel
theorem d_N_tell_14 : decode b_N_tell 14 = .ok (.iload_n 1, 1) := by decide +kernel
theorem d_N_tell_15 : decode b_N_tell 15 = .ok (.iload_n 2, 1) := by decide +kernel
theorem d_N_tell_16 : decode b_N_tell 16 = .ok (.iastore, 1) := by decide +kernel
theorem d_N_tell_17 : decode b_N_tell 17 = .ok (.aload_n 0, 1) := by decide +kernel
theorem d_N_tell_18 : decode b_N_tell 18 = .ok (.getfield 19, 3) := by decide +kernel
theorem d_N_tell_21 : decode b_N_tell 21 = .ok (.iload_n 1, 1) := by decide +kernel
theorem d_N_tell_22 : decode b_N_tell 22 = .ok (.iconst 1, 1) := by decide +kernel
theorem d_N_tell_23 : decode b_N_tell 23 = .ok (.bastore, 1) := by decide +kernel
theorem d_N_tell_24 : decode b_N_tell 24 = .ok (.return_, 1) := by decide +kernel
abbrev b_N_isLocalTold : ByteArray := prog_4_method_14_code
abbrev y_N_isLocalTold : MethodName := ⟨"SignMachine$Names", "isLocalTold", "(I)Z"⟩
theorem h_N_isLocalTold : (y_N_isLocalTold).cls ≠ "java/lang/invoke/MethodHandle" ∧ (y_N_isLocalTold).cls ≠ "java/lang/invoke/VarHandle" ∧ (parseMethodDescriptor (y_N_isLocalTold).desc).map (fun d => d.parameters.length) = some 1 := by decide +kernel
theorem d_N_isLocalTold_0 : decode b_N_isLocalTold 0 = .ok (.iload_n 1, 1) := by decide +kernel
theorem d_N_isLocalTold_1 : decode b_N_isLocalTold 1 = .ok (.ifCond .lt 22, 3) := by decide +kernel
theorem d_N_isLocalTold_4 : decode b_N_isLocalTold 4 = .ok (.iload_n 1, 1) := by decide +kernel
theorem d_N_isLocalTold_5 : decode b_N_isLocalTold 5 = .ok (.bipush 10, 2) := by decide +kernel
theorem d_N_isLocalTold_7 : decode b_N_isLocalTold 7 = .ok (.if_icmp .ge 16, 3) := by decide +kernel
theorem d_N_isLocalTold_10 : decode b_N_isLocalTold 10 = .ok (.aload_n 0, 1) := by decide +kernel
theorem d_N_isLocalTold_11 : decode b_N_isLocalTold 11 = .ok (.getfield 26, 3) := by decide +kernel
theorem d_N_isLocalTold_14 : decode b_N_isLocalTold 14 = .ok (.iload_n 1, 1) := by decide +kernel
theorem d_N_isLocalTold_15 : decode b_N_isLocalTold 15 = .ok (.baload, 1) := by decide +kernel
theorem d_N_isLocalTold_16 : decode b_N_isLocalTold 16 = .ok (.ifCond .eq 7, 3) := by decide +kernel
theorem d_N_isLocalTold_19 : decode b_N_isLocalTold 19 = .ok (.iconst 1, 1) := by decide +kernel
theorem d_N_isLocalTold_20 : decode b_N_isLocalTold 20 = .ok (.goto 4, 3) := by decide +kernel
theorem d_N_isLocalTold_23 : decode b_N_isLocalTold 23 = .ok (.iconst 0, 1) := by decide +kernel
theorem d_N_isLocalTold_24 : decode b_N_isLocalTold 24 = .ok (.ireturn, 1) := by decide +kernel
abbrev b_N_localValue : ByteArray := prog_4_method_15_code
abbrev y_N_localValue : MethodName := ⟨"SignMachine$Names", "localValue", "(I)I"⟩
theorem h_N_localValue : (y_N_localValue).cls ≠ "java/lang/invoke/MethodHandle" ∧ (y_N_localValue).cls ≠ "java/lang/invoke/VarHandle" ∧ (parseMethodDescriptor (y_N_localValue).desc).map (fun d => d.parameters.length) = some 1 := by decide +kernel
theorem d_N_localValue_0 : decode b_N_localValue 0 = .ok (.iload_n 1, 1) := by decide +kernel
theorem d_N_localValue_1 : decode b_N_localValue 1 = .ok (.ifCond .lt 18, 3) := by decide +kernel
theorem d_N_localValue_4 : decode b_N_localValue 4 = .ok (.iload_n 1, 1) := by decide +kernel
theorem d_N_localValue_5 : decode b_N_localValue 5 = .ok (.bipush 10, 2) := by decide +kernel
theorem d_N_localValue_7 : decode b_N_localValue 7 = .ok (.if_icmp .ge 12, 3) := by decide +kernel
theorem d_N_localValue_10 : decode b_N_localValue 10 = .ok (.aload_n 0, 1) := by decide +kernel
theorem d_N_localValue_11 : decode b_N_localValue 11 = .ok (.getfield 23, 3) := by decide +kernel
theorem d_N_localValue_14 : decode b_N_localValue 14 = .ok (.iload_n 1, 1) := by decide +kernel
theorem d_N_localValue_15 : decode b_N_localValue 15 = .ok (.iaload, 1) := by decide +kernel
theorem d_N_localValue_16 : decode b_N_localValue 16 = .ok (.goto 4, 3) := by decide +kernel
theorem d_N_localValue_19 : decode b_N_localValue 19 = .ok (.iconst 0, 1) := by decide +kernel
theorem d_N_localValue_20 : decode b_N_localValue 20 = .ok (.ireturn, 1) := by decide +kernel
abbrev b_N_tellLocal : ByteArray := prog_4_method_16_code
abbrev y_N_tellLocal : MethodName := ⟨"SignMachine$Names", "tellLocal", "(II)V"⟩
theorem h_N_tellLocal : (y_N_tellLocal).cls ≠ "java/lang/invoke/MethodHandle" ∧ (y_N_tellLocal).cls ≠ "java/lang/invoke/VarHandle" ∧ (parseMethodDescriptor (y_N_tellLocal).desc).map (fun d => d.parameters.length) = some 2 := by decide +kernel
theorem d_N_tellLocal_0 : decode b_N_tellLocal 0 = .ok (.iload_n 1, 1) := by decide +kernel
theorem d_N_tellLocal_1 : decode b_N_tellLocal 1 = .ok (.ifCond .lt 23, 3) := by decide +kernel
theorem d_N_tellLocal_4 : decode b_N_tellLocal 4 = .ok (.iload_n 1, 1) := by decide +kernel
theorem d_N_tellLocal_5 : decode b_N_tellLocal 5 = .ok (.bipush 10, 2) := by decide +kernel
theorem d_N_tellLocal_7 : decode b_N_tellLocal 7 = .ok (.if_icmp .ge 17, 3) := by decide +kernel
theorem d_N_tellLocal_10 : decode b_N_tellLocal 10 = .ok (.aload_n 0, 1) := by decide +kernel
theorem d_N_tellLocal_11 : decode b_N_tellLocal 11 = .ok (.getfield 23, 3) := by decide +kernel
theorem d_N_tellLocal_14 : decode b_N_tellLocal 14 = .ok (.iload_n 1, 1) := by decide +kernel
theorem d_N_tellLocal_15 : decode b_N_tellLocal 15 = .ok (.iload_n 2, 1) := by decide +kernel
theorem d_N_tellLocal_16 : decode b_N_tellLocal 16 = .ok (.iastore, 1) := by decide +kernel
theorem d_N_tellLocal_17 : decode b_N_tellLocal 17 = .ok (.aload_n 0, 1) := by decide +kernel
theorem d_N_tellLocal_18 : decode b_N_tellLocal 18 = .ok (.getfield 26, 3) := by decide +kernel
theorem d_N_tellLocal_21 : decode b_N_tellLocal 21 = .ok (.iload_n 1, 1) := by decide +kernel
theorem d_N_tellLocal_22 : decode b_N_tellLocal 22 = .ok (.iconst 1, 1) := by decide +kernel
theorem d_N_tellLocal_23 : decode b_N_tellLocal 23 = .ok (.bastore, 1) := by decide +kernel
theorem d_N_tellLocal_24 : decode b_N_tellLocal 24 = .ok (.return_, 1) := by decide +kernel
abbrev b_N_add : ByteArray := prog_4_method_10_code
abbrev y_N_add : MethodName := ⟨"SignMachine$Names", "add", "(JI)I"⟩
theorem h_N_add : (y_N_add).cls ≠ "java/lang/invoke/MethodHandle" ∧ (y_N_add).cls ≠ "java/lang/invoke/VarHandle" ∧ (parseMethodDescriptor (y_N_add).desc).map (fun d => d.parameters.length) = some 2 := by decide +kernel
theorem d_N_add_0 : decode b_N_add 0 = .ok (.aload_n 0, 1) := by decide +kernel
theorem d_N_add_1 : decode b_N_add 1 = .ok (.getfield 35, 3) := by decide +kernel
theorem d_N_add_4 : decode b_N_add 4 = .ok (.ifCond .lt 12, 3) := by decide +kernel
theorem d_N_add_7 : decode b_N_add 7 = .ok (.aload_n 0, 1) := by decide +kernel
theorem d_N_add_8 : decode b_N_add 8 = .ok (.getfield 35, 3) := by decide +kernel
theorem d_N_add_11 : decode b_N_add 11 = .ok (.bipush 100, 2) := by decide +kernel
theorem d_N_add_13 : decode b_N_add 13 = .ok (.if_icmp .lt 6, 3) := by decide +kernel
theorem d_N_add_16 : decode b_N_add 16 = .ok (.bipush (-2), 2) := by decide +kernel
theorem d_N_add_18 : decode b_N_add 18 = .ok (.ireturn, 1) := by decide +kernel
theorem d_N_add_19 : decode b_N_add 19 = .ok (.aload_n 0, 1) := by decide +kernel
theorem d_N_add_20 : decode b_N_add 20 = .ok (.getfield 11, 3) := by decide +kernel
theorem d_N_add_23 : decode b_N_add 23 = .ok (.aload_n 0, 1) := by decide +kernel
theorem d_N_add_24 : decode b_N_add 24 = .ok (.getfield 35, 3) := by decide +kernel
theorem d_N_add_27 : decode b_N_add 27 = .ok (.lload_n 1, 1) := by decide +kernel
theorem d_N_add_28 : decode b_N_add 28 = .ok (.lastore, 1) := by decide +kernel
theorem d_N_add_29 : decode b_N_add 29 = .ok (.aload_n 0, 1) := by decide +kernel
theorem d_N_add_30 : decode b_N_add 30 = .ok (.getfield 15, 3) := by decide +kernel
theorem d_N_add_33 : decode b_N_add 33 = .ok (.aload_n 0, 1) := by decide +kernel
theorem d_N_add_34 : decode b_N_add 34 = .ok (.getfield 35, 3) := by decide +kernel
theorem d_N_add_37 : decode b_N_add 37 = .ok (.iload_n 3, 1) := by decide +kernel
theorem d_N_add_38 : decode b_N_add 38 = .ok (.iastore, 1) := by decide +kernel
theorem d_N_add_39 : decode b_N_add 39 = .ok (.aload_n 0, 1) := by decide +kernel
theorem d_N_add_40 : decode b_N_add 40 = .ok (.getfield 19, 3) := by decide +kernel
theorem d_N_add_43 : decode b_N_add 43 = .ok (.aload_n 0, 1) := by decide +kernel
theorem d_N_add_44 : decode b_N_add 44 = .ok (.getfield 35, 3) := by decide +kernel
theorem d_N_add_47 : decode b_N_add 47 = .ok (.iconst 0, 1) := by decide +kernel
theorem d_N_add_48 : decode b_N_add 48 = .ok (.bastore, 1) := by decide +kernel
theorem d_N_add_49 : decode b_N_add 49 = .ok (.aload_n 0, 1) := by decide +kernel
theorem d_N_add_50 : decode b_N_add 50 = .ok (.dup, 1) := by decide +kernel
theorem d_N_add_51 : decode b_N_add 51 = .ok (.getfield 35, 3) := by decide +kernel
theorem d_N_add_54 : decode b_N_add 54 = .ok (.iconst 1, 1) := by decide +kernel
theorem d_N_add_55 : decode b_N_add 55 = .ok (.iadd, 1) := by decide +kernel
theorem d_N_add_56 : decode b_N_add 56 = .ok (.putfield 35, 3) := by decide +kernel
theorem d_N_add_59 : decode b_N_add 59 = .ok (.aload_n 0, 1) := by decide +kernel
theorem d_N_add_60 : decode b_N_add 60 = .ok (.getfield 35, 3) := by decide +kernel
theorem d_N_add_63 : decode b_N_add 63 = .ok (.iconst 1, 1) := by decide +kernel
theorem d_N_add_64 : decode b_N_add 64 = .ok (.isub, 1) := by decide +kernel
theorem d_N_add_65 : decode b_N_add 65 = .ok (.ireturn, 1) := by decide +kernel
abbrev b_N_addSymbol : ByteArray := prog_4_method_8_code
abbrev y_N_addSymbol : MethodName := ⟨"SignMachine$Names", "addSymbol", "(J)I"⟩
theorem h_N_addSymbol : (y_N_addSymbol).cls ≠ "java/lang/invoke/MethodHandle" ∧ (y_N_addSymbol).cls ≠ "java/lang/invoke/VarHandle" ∧ (parseMethodDescriptor (y_N_addSymbol).desc).map (fun d => d.parameters.length) = some 1 := by decide +kernel
theorem d_N_addSymbol_0 : decode b_N_addSymbol 0 = .ok (.aload_n 0, 1) := by decide +kernel
theorem d_N_addSymbol_1 : decode b_N_addSymbol 1 = .ok (.getfield 39, 3) := by decide +kernel
theorem d_N_addSymbol_4 : decode b_N_addSymbol 4 = .ok (.bipush 60, 2) := by decide +kernel
theorem d_N_addSymbol_6 : decode b_N_addSymbol 6 = .ok (.if_icmp .lt 6, 3) := by decide +kernel
theorem d_N_addSymbol_9 : decode b_N_addSymbol 9 = .ok (.bipush (-2), 2) := by decide +kernel
theorem d_N_addSymbol_11 : decode b_N_addSymbol 11 = .ok (.ireturn, 1) := by decide +kernel
theorem d_N_addSymbol_12 : decode b_N_addSymbol 12 = .ok (.aload_n 0, 1) := by decide +kernel
theorem d_N_addSymbol_13 : decode b_N_addSymbol 13 = .ok (.dup, 1) := by decide +kernel
theorem d_N_addSymbol_14 : decode b_N_addSymbol 14 = .ok (.getfield 39, 3) := by decide +kernel
theorem d_N_addSymbol_17 : decode b_N_addSymbol 17 = .ok (.iconst 1, 1) := by decide +kernel
theorem d_N_addSymbol_18 : decode b_N_addSymbol 18 = .ok (.iadd, 1) := by decide +kernel
theorem d_N_addSymbol_19 : decode b_N_addSymbol 19 = .ok (.putfield 39, 3) := by decide +kernel
theorem d_N_addSymbol_22 : decode b_N_addSymbol 22 = .ok (.aload_n 0, 1) := by decide +kernel
theorem d_N_addSymbol_23 : decode b_N_addSymbol 23 = .ok (.lload_n 1, 1) := by decide +kernel
theorem d_N_addSymbol_24 : decode b_N_addSymbol 24 = .ok (.iconst 0, 1) := by decide +kernel
theorem d_N_addSymbol_25 : decode b_N_addSymbol 25 = .ok (.invokevirtual 42, 3) := by decide +kernel
theorem d_N_addSymbol_28 : decode b_N_addSymbol 28 = .ok (.ireturn, 1) := by decide +kernel
abbrev b_N_addLiteral : ByteArray := prog_4_method_9_code
abbrev y_N_addLiteral : MethodName := ⟨"SignMachine$Names", "addLiteral", "(I)I"⟩
theorem h_N_addLiteral : (y_N_addLiteral).cls ≠ "java/lang/invoke/MethodHandle" ∧ (y_N_addLiteral).cls ≠ "java/lang/invoke/VarHandle" ∧ (parseMethodDescriptor (y_N_addLiteral).desc).map (fun d => d.parameters.length) = some 1 := by decide +kernel
theorem d_N_addLiteral_0 : decode b_N_addLiteral 0 = .ok (.aload_n 0, 1) := by decide +kernel
theorem d_N_addLiteral_1 : decode b_N_addLiteral 1 = .ok (.getfield 35, 3) := by decide +kernel
theorem d_N_addLiteral_4 : decode b_N_addLiteral 4 = .ok (.aload_n 0, 1) := by decide +kernel
theorem d_N_addLiteral_5 : decode b_N_addLiteral 5 = .ok (.getfield 39, 3) := by decide +kernel
theorem d_N_addLiteral_8 : decode b_N_addLiteral 8 = .ok (.isub, 1) := by decide +kernel
theorem d_N_addLiteral_9 : decode b_N_addLiteral 9 = .ok (.bipush 40, 2) := by decide +kernel
theorem d_N_addLiteral_11 : decode b_N_addLiteral 11 = .ok (.if_icmp .lt 8, 3) := by decide +kernel
theorem d_N_addLiteral_14 : decode b_N_addLiteral 14 = .ok (.bipush (-2), 2) := by decide +kernel
theorem d_N_addLiteral_16 : decode b_N_addLiteral 16 = .ok (.goto 9, 3) := by decide +kernel
theorem d_N_addLiteral_19 : decode b_N_addLiteral 19 = .ok (.aload_n 0, 1) := by decide +kernel
theorem d_N_addLiteral_20 : decode b_N_addLiteral 20 = .ok (.lconst 0, 1) := by decide +kernel
theorem d_N_addLiteral_21 : decode b_N_addLiteral 21 = .ok (.iload_n 1, 1) := by decide +kernel
theorem d_N_addLiteral_22 : decode b_N_addLiteral 22 = .ok (.invokevirtual 42, 3) := by decide +kernel
theorem d_N_addLiteral_25 : decode b_N_addLiteral 25 = .ok (.ireturn, 1) := by decide +kernel
abbrev b_O_placeOf : ByteArray := prog_6_method_6_code
abbrev y_O_placeOf : MethodName := ⟨"SignMachine$Output", "placeOf", "(I)I"⟩
theorem h_O_placeOf : (y_O_placeOf).cls ≠ "java/lang/invoke/MethodHandle" ∧ (y_O_placeOf).cls ≠ "java/lang/invoke/VarHandle" ∧ (parseMethodDescriptor (y_O_placeOf).desc).map (fun d => d.parameters.length) = some 1 := by decide +kernel
theorem d_O_placeOf_0 : decode b_O_placeOf 0 = .ok (.iload_n 1, 1) := by decide +kernel
theorem d_O_placeOf_1 : decode b_O_placeOf 1 = .ok (.invokestatic 39, 3) := by decide +kernel
theorem d_O_placeOf_4 : decode b_O_placeOf 4 = .ok (.ifCond .eq 12, 3) := by decide +kernel
theorem d_O_placeOf_7 : decode b_O_placeOf 7 = .ok (.aload_n 0, 1) := by decide +kernel
theorem d_O_placeOf_8 : decode b_O_placeOf 8 = .ok (.getfield 15, 3) := by decide +kernel
theorem d_O_placeOf_11 : decode b_O_placeOf 11 = .ok (.iload_n 1, 1) := by decide +kernel
theorem d_O_placeOf_12 : decode b_O_placeOf 12 = .ok (.iaload, 1) := by decide +kernel
theorem d_O_placeOf_13 : decode b_O_placeOf 13 = .ok (.goto 5, 3) := by decide +kernel
theorem d_O_placeOf_16 : decode b_O_placeOf 16 = .ok (.bipush (-2), 2) := by decide +kernel
theorem d_O_placeOf_18 : decode b_O_placeOf 18 = .ok (.ireturn, 1) := by decide +kernel
abbrev b_O_wordOf : ByteArray := prog_6_method_7_code
abbrev y_O_wordOf : MethodName := ⟨"SignMachine$Output", "wordOf", "(I)I"⟩
theorem h_O_wordOf : (y_O_wordOf).cls ≠ "java/lang/invoke/MethodHandle" ∧ (y_O_wordOf).cls ≠ "java/lang/invoke/VarHandle" ∧ (parseMethodDescriptor (y_O_wordOf).desc).map (fun d => d.parameters.length) = some 1 := by decide +kernel
theorem d_O_wordOf_0 : decode b_O_wordOf 0 = .ok (.iload_n 1, 1) := by decide +kernel
theorem d_O_wordOf_1 : decode b_O_wordOf 1 = .ok (.invokestatic 39, 3) := by decide +kernel
theorem d_O_wordOf_4 : decode b_O_wordOf 4 = .ok (.ifCond .eq 12, 3) := by decide +kernel
theorem d_O_wordOf_7 : decode b_O_wordOf 7 = .ok (.aload_n 0, 1) := by decide +kernel
theorem d_O_wordOf_8 : decode b_O_wordOf 8 = .ok (.getfield 19, 3) := by decide +kernel
theorem d_O_wordOf_11 : decode b_O_wordOf 11 = .ok (.iload_n 1, 1) := by decide +kernel
theorem d_O_wordOf_12 : decode b_O_wordOf 12 = .ok (.iaload, 1) := by decide +kernel
theorem d_O_wordOf_13 : decode b_O_wordOf 13 = .ok (.goto 4, 3) := by decide +kernel
theorem d_O_wordOf_16 : decode b_O_wordOf 16 = .ok (.iconst 0, 1) := by decide +kernel
theorem d_O_wordOf_17 : decode b_O_wordOf 17 = .ok (.ireturn, 1) := by decide +kernel
abbrev b_O_lineOf : ByteArray := prog_6_method_8_code
abbrev y_O_lineOf : MethodName := ⟨"SignMachine$Output", "lineOf", "(I)I"⟩
theorem h_O_lineOf : (y_O_lineOf).cls ≠ "java/lang/invoke/MethodHandle" ∧ (y_O_lineOf).cls ≠ "java/lang/invoke/VarHandle" ∧ (parseMethodDescriptor (y_O_lineOf).desc).map (fun d => d.parameters.length) = some 1 := by decide +kernel
theorem d_O_lineOf_0 : decode b_O_lineOf 0 = .ok (.iload_n 1, 1) := by decide +kernel
theorem d_O_lineOf_1 : decode b_O_lineOf 1 = .ok (.invokestatic 39, 3) := by decide +kernel
theorem d_O_lineOf_4 : decode b_O_lineOf 4 = .ok (.ifCond .eq 12, 3) := by decide +kernel
theorem d_O_lineOf_7 : decode b_O_lineOf 7 = .ok (.aload_n 0, 1) := by decide +kernel
theorem d_O_lineOf_8 : decode b_O_lineOf 8 = .ok (.getfield 22, 3) := by decide +kernel
theorem d_O_lineOf_11 : decode b_O_lineOf 11 = .ok (.iload_n 1, 1) := by decide +kernel
theorem d_O_lineOf_12 : decode b_O_lineOf 12 = .ok (.iaload, 1) := by decide +kernel
theorem d_O_lineOf_13 : decode b_O_lineOf 13 = .ok (.goto 4, 3) := by decide +kernel
theorem d_O_lineOf_16 : decode b_O_lineOf 16 = .ok (.iconst 0, 1) := by decide +kernel
theorem d_O_lineOf_17 : decode b_O_lineOf 17 = .ok (.ireturn, 1) := by decide +kernel
abbrev b_O_kindOf : ByteArray := prog_6_method_9_code
abbrev y_O_kindOf : MethodName := ⟨"SignMachine$Output", "kindOf", "(I)I"⟩
theorem h_O_kindOf : (y_O_kindOf).cls ≠ "java/lang/invoke/MethodHandle" ∧ (y_O_kindOf).cls ≠ "java/lang/invoke/VarHandle" ∧ (parseMethodDescriptor (y_O_kindOf).desc).map (fun d => d.parameters.length) = some 1 := by decide +kernel
theorem d_O_kindOf_0 : decode b_O_kindOf 0 = .ok (.iload_n 1, 1) := by decide +kernel
theorem d_O_kindOf_1 : decode b_O_kindOf 1 = .ok (.invokestatic 39, 3) := by decide +kernel
theorem d_O_kindOf_4 : decode b_O_kindOf 4 = .ok (.ifCond .eq 12, 3) := by decide +kernel
theorem d_O_kindOf_7 : decode b_O_kindOf 7 = .ok (.aload_n 0, 1) := by decide +kernel
theorem d_O_kindOf_8 : decode b_O_kindOf 8 = .ok (.getfield 25, 3) := by decide +kernel
theorem d_O_kindOf_11 : decode b_O_kindOf 11 = .ok (.iload_n 1, 1) := by decide +kernel
theorem d_O_kindOf_12 : decode b_O_kindOf 12 = .ok (.baload, 1) := by decide +kernel
theorem d_O_kindOf_13 : decode b_O_kindOf 13 = .ok (.goto 4, 3) := by decide +kernel
theorem d_O_kindOf_16 : decode b_O_kindOf 16 = .ok (.iconst 0, 1) := by decide +kernel
theorem d_O_kindOf_17 : decode b_O_kindOf 17 = .ok (.ireturn, 1) := by decide +kernel
abbrev b_O_goalOf : ByteArray := prog_6_method_10_code
abbrev y_O_goalOf : MethodName := ⟨"SignMachine$Output", "goalOf", "(I)I"⟩
theorem h_O_goalOf : (y_O_goalOf).cls ≠ "java/lang/invoke/MethodHandle" ∧ (y_O_goalOf).cls ≠ "java/lang/invoke/VarHandle" ∧ (parseMethodDescriptor (y_O_goalOf).desc).map (fun d => d.parameters.length) = some 1 := by decide +kernel
theorem d_O_goalOf_0 : decode b_O_goalOf 0 = .ok (.iload_n 1, 1) := by decide +kernel
theorem d_O_goalOf_1 : decode b_O_goalOf 1 = .ok (.invokestatic 39, 3) := by decide +kernel
theorem d_O_goalOf_4 : decode b_O_goalOf 4 = .ok (.ifCond .eq 12, 3) := by decide +kernel
theorem d_O_goalOf_7 : decode b_O_goalOf 7 = .ok (.aload_n 0, 1) := by decide +kernel
theorem d_O_goalOf_8 : decode b_O_goalOf 8 = .ok (.getfield 29, 3) := by decide +kernel
theorem d_O_goalOf_11 : decode b_O_goalOf 11 = .ok (.iload_n 1, 1) := by decide +kernel
theorem d_O_goalOf_12 : decode b_O_goalOf 12 = .ok (.iaload, 1) := by decide +kernel
theorem d_O_goalOf_13 : decode b_O_goalOf 13 = .ok (.goto 5, 3) := by decide +kernel
theorem d_O_goalOf_16 : decode b_O_goalOf 16 = .ok (.bipush (-2), 2) := by decide +kernel
theorem d_O_goalOf_18 : decode b_O_goalOf 18 = .ok (.ireturn, 1) := by decide +kernel
abbrev b_O_putAddress : ByteArray := prog_6_method_11_code
abbrev y_O_putAddress : MethodName := ⟨"SignMachine$Output", "putAddress", "(II)V"⟩
theorem h_O_putAddress : (y_O_putAddress).cls ≠ "java/lang/invoke/MethodHandle" ∧ (y_O_putAddress).cls ≠ "java/lang/invoke/VarHandle" ∧ (parseMethodDescriptor (y_O_putAddress).desc).map (fun d => d.parameters.length) = some 2 := by decide +kernel
theorem d_O_putAddress_0 : decode b_O_putAddress 0 = .ok (.iload_n 1, 1) := by decide +kernel
theorem d_O_putAddress_1 : decode b_O_putAddress 1 = .ok (.invokestatic 39, 3) := by decide +kernel
theorem d_O_putAddress_4 : decode b_O_putAddress 4 = .ok (.ifCond .eq 16, 3) := by decide +kernel
theorem d_O_putAddress_7 : decode b_O_putAddress 7 = .ok (.aload_n 0, 1) := by decide +kernel
theorem d_O_putAddress_8 : decode b_O_putAddress 8 = .ok (.getfield 19, 3) := by decide +kernel
theorem d_O_putAddress_11 : decode b_O_putAddress 11 = .ok (.iload_n 1, 1) := by decide +kernel
theorem d_O_putAddress_12 : decode b_O_putAddress 12 = .ok (.dup2, 1) := by decide +kernel
theorem d_O_putAddress_13 : decode b_O_putAddress 13 = .ok (.iaload, 1) := by decide +kernel
theorem d_O_putAddress_14 : decode b_O_putAddress 14 = .ok (.iload_n 2, 1) := by decide +kernel
theorem d_O_putAddress_15 : decode b_O_putAddress 15 = .ok (.invokestatic 43, 3) := by decide +kernel
theorem d_O_putAddress_18 : decode b_O_putAddress 18 = .ok (.ior, 1) := by decide +kernel
theorem d_O_putAddress_19 : decode b_O_putAddress 19 = .ok (.iastore, 1) := by decide +kernel
theorem d_O_putAddress_20 : decode b_O_putAddress 20 = .ok (.return_, 1) := by decide +kernel
abbrev b_O_add : ByteArray := prog_6_method_3_code
abbrev y_O_add : MethodName := ⟨"SignMachine$Output", "add", "(IIIII)V"⟩
theorem h_O_add : (y_O_add).cls ≠ "java/lang/invoke/MethodHandle" ∧ (y_O_add).cls ≠ "java/lang/invoke/VarHandle" ∧ (parseMethodDescriptor (y_O_add).desc).map (fun d => d.parameters.length) = some 5 := by decide +kernel
theorem d_O_add_0 : decode b_O_add 0 = .ok (.aload_n 0, 1) := by decide +kernel
theorem d_O_add_1 : decode b_O_add 1 = .ok (.getfield 35, 3) := by decide +kernel
theorem d_O_add_4 : decode b_O_add 4 = .ok (.ifCond .lt 13, 3) := by decide +kernel
theorem d_O_add_7 : decode b_O_add 7 = .ok (.aload_n 0, 1) := by decide +kernel
theorem d_O_add_8 : decode b_O_add 8 = .ok (.getfield 35, 3) := by decide +kernel
theorem d_O_add_11 : decode b_O_add 11 = .ok (.sipush 1101, 3) := by decide +kernel
theorem d_O_add_14 : decode b_O_add 14 = .ok (.if_icmp .lt 4, 3) := by decide +kernel
theorem d_O_add_17 : decode b_O_add 17 = .ok (.return_, 1) := by decide +kernel
theorem d_O_add_18 : decode b_O_add 18 = .ok (.aload_n 0, 1) := by decide +kernel
theorem d_O_add_19 : decode b_O_add 19 = .ok (.getfield 15, 3) := by decide +kernel
theorem d_O_add_22 : decode b_O_add 22 = .ok (.aload_n 0, 1) := by decide +kernel
theorem d_O_add_23 : decode b_O_add 23 = .ok (.getfield 35, 3) := by decide +kernel
theorem d_O_add_26 : decode b_O_add 26 = .ok (.iload_n 1, 1) := by decide +kernel
theorem d_O_add_27 : decode b_O_add 27 = .ok (.iastore, 1) := by decide +kernel
theorem d_O_add_28 : decode b_O_add 28 = .ok (.aload_n 0, 1) := by decide +kernel
theorem d_O_add_29 : decode b_O_add 29 = .ok (.getfield 19, 3) := by decide +kernel
theorem d_O_add_32 : decode b_O_add 32 = .ok (.aload_n 0, 1) := by decide +kernel
theorem d_O_add_33 : decode b_O_add 33 = .ok (.getfield 35, 3) := by decide +kernel
theorem d_O_add_36 : decode b_O_add 36 = .ok (.iload_n 2, 1) := by decide +kernel
theorem d_O_add_37 : decode b_O_add 37 = .ok (.iastore, 1) := by decide +kernel
theorem d_O_add_38 : decode b_O_add 38 = .ok (.aload_n 0, 1) := by decide +kernel
theorem d_O_add_39 : decode b_O_add 39 = .ok (.getfield 22, 3) := by decide +kernel
theorem d_O_add_42 : decode b_O_add 42 = .ok (.aload_n 0, 1) := by decide +kernel
theorem d_O_add_43 : decode b_O_add 43 = .ok (.getfield 35, 3) := by decide +kernel
theorem d_O_add_46 : decode b_O_add 46 = .ok (.iload_n 3, 1) := by decide +kernel
theorem d_O_add_47 : decode b_O_add 47 = .ok (.iastore, 1) := by decide +kernel
theorem d_O_add_48 : decode b_O_add 48 = .ok (.aload_n 0, 1) := by decide +kernel
theorem d_O_add_49 : decode b_O_add 49 = .ok (.getfield 25, 3) := by decide +kernel
theorem d_O_add_52 : decode b_O_add 52 = .ok (.aload_n 0, 1) := by decide +kernel
theorem d_O_add_53 : decode b_O_add 53 = .ok (.getfield 35, 3) := by decide +kernel
theorem d_O_add_56 : decode b_O_add 56 = .ok (.iload 4, 2) := by decide +kernel
theorem d_O_add_58 : decode b_O_add 58 = .ok (.i2b, 1) := by decide +kernel
theorem d_O_add_59 : decode b_O_add 59 = .ok (.bastore, 1) := by decide +kernel
theorem d_O_add_60 : decode b_O_add 60 = .ok (.aload_n 0, 1) := by decide +kernel
theorem d_O_add_61 : decode b_O_add 61 = .ok (.getfield 29, 3) := by decide +kernel
theorem d_O_add_64 : decode b_O_add 64 = .ok (.aload_n 0, 1) := by decide +kernel
theorem d_O_add_65 : decode b_O_add 65 = .ok (.getfield 35, 3) := by decide +kernel
theorem d_O_add_68 : decode b_O_add 68 = .ok (.iload 5, 2) := by decide +kernel
theorem d_O_add_70 : decode b_O_add 70 = .ok (.iastore, 1) := by decide +kernel
theorem d_O_add_71 : decode b_O_add 71 = .ok (.iload 4, 2) := by decide +kernel
theorem d_O_add_73 : decode b_O_add 73 = .ok (.iconst 2, 1) := by decide +kernel
theorem d_O_add_74 : decode b_O_add 74 = .ok (.if_icmp .ne 45, 3) := by decide +kernel
theorem d_O_add_77 : decode b_O_add 77 = .ok (.iload 5, 2) := by decide +kernel
theorem d_O_add_79 : decode b_O_add 79 = .ok (.ifCond .lt 40, 3) := by decide +kernel
theorem d_O_add_82 : decode b_O_add 82 = .ok (.iload 5, 2) := by decide +kernel
theorem d_O_add_84 : decode b_O_add 84 = .ok (.aload_n 0, 1) := by decide +kernel
theorem d_O_add_85 : decode b_O_add 85 = .ok (.getfield 32, 3) := by decide +kernel
theorem d_O_add_88 : decode b_O_add 88 = .ok (.arraylength, 1) := by decide +kernel
theorem d_O_add_89 : decode b_O_add 89 = .ok (.if_icmp .ge 30, 3) := by decide +kernel
theorem d_O_add_92 : decode b_O_add 92 = .ok (.aload_n 0, 1) := by decide +kernel
theorem d_O_add_93 : decode b_O_add 93 = .ok (.getfield 29, 3) := by decide +kernel
theorem d_O_add_96 : decode b_O_add 96 = .ok (.aload_n 0, 1) := by decide +kernel
theorem d_O_add_97 : decode b_O_add 97 = .ok (.getfield 35, 3) := by decide +kernel
theorem d_O_add_100 : decode b_O_add 100 = .ok (.aload_n 0, 1) := by decide +kernel
theorem d_O_add_101 : decode b_O_add 101 = .ok (.getfield 32, 3) := by decide +kernel
theorem d_O_add_104 : decode b_O_add 104 = .ok (.iload 5, 2) := by decide +kernel
theorem d_O_add_106 : decode b_O_add 106 = .ok (.iaload, 1) := by decide +kernel
theorem d_O_add_107 : decode b_O_add 107 = .ok (.iastore, 1) := by decide +kernel
theorem d_O_add_108 : decode b_O_add 108 = .ok (.aload_n 0, 1) := by decide +kernel
theorem d_O_add_109 : decode b_O_add 109 = .ok (.getfield 32, 3) := by decide +kernel
theorem d_O_add_112 : decode b_O_add 112 = .ok (.iload 5, 2) := by decide +kernel
theorem d_O_add_114 : decode b_O_add 114 = .ok (.aload_n 0, 1) := by decide +kernel
theorem d_O_add_115 : decode b_O_add 115 = .ok (.getfield 35, 3) := by decide +kernel
theorem d_O_add_118 : decode b_O_add 118 = .ok (.iastore, 1) := by decide +kernel
theorem d_O_add_119 : decode b_O_add 119 = .ok (.aload_n 0, 1) := by decide +kernel
theorem d_O_add_120 : decode b_O_add 120 = .ok (.dup, 1) := by decide +kernel
theorem d_O_add_121 : decode b_O_add 121 = .ok (.getfield 35, 3) := by decide +kernel
theorem d_O_add_124 : decode b_O_add 124 = .ok (.iconst 1, 1) := by decide +kernel
theorem d_O_add_125 : decode b_O_add 125 = .ok (.iadd, 1) := by decide +kernel
theorem d_O_add_126 : decode b_O_add 126 = .ok (.putfield 35, 3) := by decide +kernel
theorem d_O_add_129 : decode b_O_add 129 = .ok (.return_, 1) := by decide +kernel
abbrev b_N_clear : ByteArray := prog_4_method_6_code
abbrev y_N_clear : MethodName := ⟨"SignMachine$Names", "clear", "()V"⟩
theorem h_N_clear : (y_N_clear).cls ≠ "java/lang/invoke/MethodHandle" ∧ (y_N_clear).cls ≠ "java/lang/invoke/VarHandle" ∧ (parseMethodDescriptor (y_N_clear).desc).map (fun d => d.parameters.length) = some 0 := by decide +kernel
theorem d_N_clear_0 : decode b_N_clear 0 = .ok (.aload_n 0, 1) := by decide +kernel
theorem d_N_clear_1 : decode b_N_clear 1 = .ok (.iconst 0, 1) := by decide +kernel
theorem d_N_clear_2 : decode b_N_clear 2 = .ok (.putfield 35, 3) := by decide +kernel
theorem d_N_clear_5 : decode b_N_clear 5 = .ok (.aload_n 0, 1) := by decide +kernel
theorem d_N_clear_6 : decode b_N_clear 6 = .ok (.iconst 0, 1) := by decide +kernel
theorem d_N_clear_7 : decode b_N_clear 7 = .ok (.putfield 39, 3) := by decide +kernel
theorem d_N_clear_10 : decode b_N_clear 10 = .ok (.iconst 0, 1) := by decide +kernel
theorem d_N_clear_11 : decode b_N_clear 11 = .ok (.istore_n 1, 1) := by decide +kernel
theorem d_N_clear_12 : decode b_N_clear 12 = .ok (.iload_n 1, 1) := by decide +kernel
theorem d_N_clear_13 : decode b_N_clear 13 = .ok (.bipush 10, 2) := by decide +kernel
theorem d_N_clear_15 : decode b_N_clear 15 = .ok (.if_icmp .ge 16, 3) := by decide +kernel
theorem d_N_clear_18 : decode b_N_clear 18 = .ok (.aload_n 0, 1) := by decide +kernel
theorem d_N_clear_19 : decode b_N_clear 19 = .ok (.getfield 26, 3) := by decide +kernel
theorem d_N_clear_22 : decode b_N_clear 22 = .ok (.iload_n 1, 1) := by decide +kernel
theorem d_N_clear_23 : decode b_N_clear 23 = .ok (.iconst 0, 1) := by decide +kernel
theorem d_N_clear_24 : decode b_N_clear 24 = .ok (.bastore, 1) := by decide +kernel
theorem d_N_clear_25 : decode b_N_clear 25 = .ok (.iinc 1 1, 3) := by decide +kernel
theorem d_N_clear_28 : decode b_N_clear 28 = .ok (.goto (-16), 3) := by decide +kernel
theorem d_N_clear_31 : decode b_N_clear 31 = .ok (.return_, 1) := by decide +kernel
abbrev b_O_clear : ByteArray := prog_6_method_2_code
abbrev y_O_clear : MethodName := ⟨"SignMachine$Output", "clear", "()V"⟩
theorem h_O_clear : (y_O_clear).cls ≠ "java/lang/invoke/MethodHandle" ∧ (y_O_clear).cls ≠ "java/lang/invoke/VarHandle" ∧ (parseMethodDescriptor (y_O_clear).desc).map (fun d => d.parameters.length) = some 0 := by decide +kernel
theorem d_O_clear_0 : decode b_O_clear 0 = .ok (.aload_n 0, 1) := by decide +kernel
theorem d_O_clear_1 : decode b_O_clear 1 = .ok (.iconst 0, 1) := by decide +kernel
theorem d_O_clear_2 : decode b_O_clear 2 = .ok (.putfield 35, 3) := by decide +kernel
theorem d_O_clear_5 : decode b_O_clear 5 = .ok (.iconst 0, 1) := by decide +kernel
theorem d_O_clear_6 : decode b_O_clear 6 = .ok (.istore_n 1, 1) := by decide +kernel
theorem d_O_clear_7 : decode b_O_clear 7 = .ok (.iload_n 1, 1) := by decide +kernel
theorem d_O_clear_8 : decode b_O_clear 8 = .ok (.aload_n 0, 1) := by decide +kernel
theorem d_O_clear_9 : decode b_O_clear 9 = .ok (.getfield 32, 3) := by decide +kernel
theorem d_O_clear_12 : decode b_O_clear 12 = .ok (.arraylength, 1) := by decide +kernel
theorem d_O_clear_13 : decode b_O_clear 13 = .ok (.if_icmp .ge 17, 3) := by decide +kernel
theorem d_O_clear_16 : decode b_O_clear 16 = .ok (.aload_n 0, 1) := by decide +kernel
theorem d_O_clear_17 : decode b_O_clear 17 = .ok (.getfield 32, 3) := by decide +kernel
theorem d_O_clear_20 : decode b_O_clear 20 = .ok (.iload_n 1, 1) := by decide +kernel
theorem d_O_clear_21 : decode b_O_clear 21 = .ok (.bipush (-2), 2) := by decide +kernel
theorem d_O_clear_23 : decode b_O_clear 23 = .ok (.iastore, 1) := by decide +kernel
theorem d_O_clear_24 : decode b_O_clear 24 = .ok (.iinc 1 1, 3) := by decide +kernel
theorem d_O_clear_27 : decode b_O_clear 27 = .ok (.goto (-20), 3) := by decide +kernel
theorem d_O_clear_30 : decode b_O_clear 30 = .ok (.return_, 1) := by decide +kernel
abbrev b_N_find : ByteArray := prog_4_method_7_code
abbrev y_N_find : MethodName := ⟨"SignMachine$Names", "find", "(J)I"⟩
theorem h_N_find : (y_N_find).cls ≠ "java/lang/invoke/MethodHandle" ∧ (y_N_find).cls ≠ "java/lang/invoke/VarHandle" ∧ (parseMethodDescriptor (y_N_find).desc).map (fun d => d.parameters.length) = some 1 := by decide +kernel
theorem d_N_find_0 : decode b_N_find 0 = .ok (.iconst 0, 1) := by decide +kernel
theorem d_N_find_1 : decode b_N_find 1 = .ok (.istore_n 3, 1) := by decide +kernel
theorem d_N_find_2 : decode b_N_find 2 = .ok (.iload_n 3, 1) := by decide +kernel
theorem d_N_find_3 : decode b_N_find 3 = .ok (.aload_n 0, 1) := by decide +kernel
theorem d_N_find_4 : decode b_N_find 4 = .ok (.getfield 35, 3) := by decide +kernel
theorem d_N_find_7 : decode b_N_find 7 = .ok (.if_icmp .ge 28, 3) := by decide +kernel
theorem d_N_find_10 : decode b_N_find 10 = .ok (.iload_n 3, 1) := by decide +kernel
theorem d_N_find_11 : decode b_N_find 11 = .ok (.bipush 100, 2) := by decide +kernel
theorem d_N_find_13 : decode b_N_find 13 = .ok (.if_icmp .ge 22, 3) := by decide +kernel
theorem d_N_find_16 : decode b_N_find 16 = .ok (.aload_n 0, 1) := by decide +kernel
theorem d_N_find_17 : decode b_N_find 17 = .ok (.getfield 11, 3) := by decide +kernel
theorem d_N_find_20 : decode b_N_find 20 = .ok (.iload_n 3, 1) := by decide +kernel
theorem d_N_find_21 : decode b_N_find 21 = .ok (.laload, 1) := by decide +kernel
theorem d_N_find_22 : decode b_N_find 22 = .ok (.lload_n 1, 1) := by decide +kernel
theorem d_N_find_23 : decode b_N_find 23 = .ok (.lcmp, 1) := by decide +kernel
theorem d_N_find_24 : decode b_N_find 24 = .ok (.ifCond .ne 5, 3) := by decide +kernel
theorem d_N_find_27 : decode b_N_find 27 = .ok (.iload_n 3, 1) := by decide +kernel
theorem d_N_find_28 : decode b_N_find 28 = .ok (.ireturn, 1) := by decide +kernel
theorem d_N_find_29 : decode b_N_find 29 = .ok (.iinc 3 1, 3) := by decide +kernel
theorem d_N_find_32 : decode b_N_find 32 = .ok (.goto (-30), 3) := by decide +kernel
theorem d_N_find_35 : decode b_N_find 35 = .ok (.bipush (-2), 2) := by decide +kernel
theorem d_N_find_37 : decode b_N_find 37 = .ok (.ireturn, 1) := by decide +kernel
abbrev b_R_skipBlanks : ByteArray := prog_7_method_11_code
abbrev y_R_skipBlanks : MethodName := ⟨"SignMachine$Source", "skipBlanks", "()V"⟩
theorem h_R_skipBlanks : (y_R_skipBlanks).cls ≠ "java/lang/invoke/MethodHandle" ∧ (y_R_skipBlanks).cls ≠ "java/lang/invoke/VarHandle" ∧ (parseMethodDescriptor (y_R_skipBlanks).desc).map (fun d => d.parameters.length) = some 0 := by decide +kernel
theorem d_R_skipBlanks_0 : decode b_R_skipBlanks 0 = .ok (.iconst 0, 1) := by decide +kernel
theorem d_R_skipBlanks_1 : decode b_R_skipBlanks 1 = .ok (.istore_n 1, 1) := by decide +kernel
theorem d_R_skipBlanks_2 : decode b_R_skipBlanks 2 = .ok (.iload_n 1, 1) := by decide +kernel
theorem d_R_skipBlanks_3 : decode b_R_skipBlanks 3 = .ok (.sipush 4000, 3) := by decide +kernel
theorem d_R_skipBlanks_6 : decode b_R_skipBlanks 6 = .ok (.if_icmp .ge 28, 3) := by decide +kernel
theorem d_R_skipBlanks_9 : decode b_R_skipBlanks 9 = .ok (.aload_n 0, 1) := by decide +kernel
theorem d_R_skipBlanks_10 : decode b_R_skipBlanks 10 = .ok (.invokevirtual 33, 3) := by decide +kernel
theorem d_R_skipBlanks_13 : decode b_R_skipBlanks 13 = .ok (.bipush 32, 2) := by decide +kernel
theorem d_R_skipBlanks_15 : decode b_R_skipBlanks 15 = .ok (.if_icmp .ne 19, 3) := by decide +kernel
theorem d_R_skipBlanks_18 : decode b_R_skipBlanks 18 = .ok (.aload_n 0, 1) := by decide +kernel
theorem d_R_skipBlanks_19 : decode b_R_skipBlanks 19 = .ok (.dup, 1) := by decide +kernel
theorem d_R_skipBlanks_20 : decode b_R_skipBlanks 20 = .ok (.getfield 23, 3) := by decide +kernel
theorem d_R_skipBlanks_23 : decode b_R_skipBlanks 23 = .ok (.iconst 1, 1) := by decide +kernel
theorem d_R_skipBlanks_24 : decode b_R_skipBlanks 24 = .ok (.iadd, 1) := by decide +kernel
theorem d_R_skipBlanks_25 : decode b_R_skipBlanks 25 = .ok (.putfield 23, 3) := by decide +kernel
theorem d_R_skipBlanks_28 : decode b_R_skipBlanks 28 = .ok (.iinc 1 1, 3) := by decide +kernel
theorem d_R_skipBlanks_31 : decode b_R_skipBlanks 31 = .ok (.goto (-29), 3) := by decide +kernel
theorem d_R_skipBlanks_34 : decode b_R_skipBlanks 34 = .ok (.return_, 1) := by decide +kernel
abbrev b_R_skipToBlank : ByteArray := prog_7_method_12_code
abbrev y_R_skipToBlank : MethodName := ⟨"SignMachine$Source", "skipToBlank", "()V"⟩
theorem h_R_skipToBlank : (y_R_skipToBlank).cls ≠ "java/lang/invoke/MethodHandle" ∧ (y_R_skipToBlank).cls ≠ "java/lang/invoke/VarHandle" ∧ (parseMethodDescriptor (y_R_skipToBlank).desc).map (fun d => d.parameters.length) = some 0 := by decide +kernel
theorem d_R_skipToBlank_0 : decode b_R_skipToBlank 0 = .ok (.iconst 0, 1) := by decide +kernel
theorem d_R_skipToBlank_1 : decode b_R_skipToBlank 1 = .ok (.istore_n 1, 1) := by decide +kernel
theorem d_R_skipToBlank_2 : decode b_R_skipToBlank 2 = .ok (.iload_n 1, 1) := by decide +kernel
theorem d_R_skipToBlank_3 : decode b_R_skipToBlank 3 = .ok (.sipush 4000, 3) := by decide +kernel
theorem d_R_skipToBlank_6 : decode b_R_skipToBlank 6 = .ok (.if_icmp .ge 36, 3) := by decide +kernel
theorem d_R_skipToBlank_9 : decode b_R_skipToBlank 9 = .ok (.aload_n 0, 1) := by decide +kernel
theorem d_R_skipToBlank_10 : decode b_R_skipToBlank 10 = .ok (.invokevirtual 33, 3) := by decide +kernel
theorem d_R_skipToBlank_13 : decode b_R_skipToBlank 13 = .ok (.bipush 32, 2) := by decide +kernel
theorem d_R_skipToBlank_15 : decode b_R_skipToBlank 15 = .ok (.if_icmp .eq 27, 3) := by decide +kernel
theorem d_R_skipToBlank_18 : decode b_R_skipToBlank 18 = .ok (.aload_n 0, 1) := by decide +kernel
theorem d_R_skipToBlank_19 : decode b_R_skipToBlank 19 = .ok (.invokevirtual 33, 3) := by decide +kernel
theorem d_R_skipToBlank_22 : decode b_R_skipToBlank 22 = .ok (.iconst (-1), 1) := by decide +kernel
theorem d_R_skipToBlank_23 : decode b_R_skipToBlank 23 = .ok (.if_icmp .eq 19, 3) := by decide +kernel
theorem d_R_skipToBlank_26 : decode b_R_skipToBlank 26 = .ok (.aload_n 0, 1) := by decide +kernel
theorem d_R_skipToBlank_27 : decode b_R_skipToBlank 27 = .ok (.dup, 1) := by decide +kernel
theorem d_R_skipToBlank_28 : decode b_R_skipToBlank 28 = .ok (.getfield 23, 3) := by decide +kernel
theorem d_R_skipToBlank_31 : decode b_R_skipToBlank 31 = .ok (.iconst 1, 1) := by decide +kernel
theorem d_R_skipToBlank_32 : decode b_R_skipToBlank 32 = .ok (.iadd, 1) := by decide +kernel
theorem d_R_skipToBlank_33 : decode b_R_skipToBlank 33 = .ok (.putfield 23, 3) := by decide +kernel
theorem d_R_skipToBlank_36 : decode b_R_skipToBlank 36 = .ok (.iinc 1 1, 3) := by decide +kernel
theorem d_R_skipToBlank_39 : decode b_R_skipToBlank 39 = .ok (.goto (-37), 3) := by decide +kernel
theorem d_R_skipToBlank_42 : decode b_R_skipToBlank 42 = .ok (.return_, 1) := by decide +kernel
abbrev b_R_nextLine : ByteArray := prog_7_method_6_code
abbrev y_R_nextLine : MethodName := ⟨"SignMachine$Source", "nextLine", "()V"⟩
theorem h_R_nextLine : (y_R_nextLine).cls ≠ "java/lang/invoke/MethodHandle" ∧ (y_R_nextLine).cls ≠ "java/lang/invoke/VarHandle" ∧ (parseMethodDescriptor (y_R_nextLine).desc).map (fun d => d.parameters.length) = some 0 := by decide +kernel
theorem d_R_nextLine_0 : decode b_R_nextLine 0 = .ok (.aload_n 0, 1) := by decide +kernel
theorem d_R_nextLine_1 : decode b_R_nextLine 1 = .ok (.dup, 1) := by decide +kernel
theorem d_R_nextLine_2 : decode b_R_nextLine 2 = .ok (.getfield 17, 3) := by decide +kernel
theorem d_R_nextLine_5 : decode b_R_nextLine 5 = .ok (.iconst 1, 1) := by decide +kernel
theorem d_R_nextLine_6 : decode b_R_nextLine 6 = .ok (.iadd, 1) := by decide +kernel
theorem d_R_nextLine_7 : decode b_R_nextLine 7 = .ok (.putfield 17, 3) := by decide +kernel
theorem d_R_nextLine_10 : decode b_R_nextLine 10 = .ok (.aload_n 0, 1) := by decide +kernel
theorem d_R_nextLine_11 : decode b_R_nextLine 11 = .ok (.aload_n 0, 1) := by decide +kernel
theorem d_R_nextLine_12 : decode b_R_nextLine 12 = .ok (.getfield 20, 3) := by decide +kernel
theorem d_R_nextLine_15 : decode b_R_nextLine 15 = .ok (.putfield 23, 3) := by decide +kernel
theorem d_R_nextLine_18 : decode b_R_nextLine 18 = .ok (.aload_n 0, 1) := by decide +kernel
theorem d_R_nextLine_19 : decode b_R_nextLine 19 = .ok (.aload_n 0, 1) := by decide +kernel
theorem d_R_nextLine_20 : decode b_R_nextLine 20 = .ok (.getfield 23, 3) := by decide +kernel
theorem d_R_nextLine_23 : decode b_R_nextLine 23 = .ok (.putfield 26, 3) := by decide +kernel
theorem d_R_nextLine_26 : decode b_R_nextLine 26 = .ok (.iconst 0, 1) := by decide +kernel
theorem d_R_nextLine_27 : decode b_R_nextLine 27 = .ok (.istore_n 1, 1) := by decide +kernel
theorem d_R_nextLine_28 : decode b_R_nextLine 28 = .ok (.iload_n 1, 1) := by decide +kernel
theorem d_R_nextLine_29 : decode b_R_nextLine 29 = .ok (.sipush 4000, 3) := by decide +kernel
theorem d_R_nextLine_32 : decode b_R_nextLine 32 = .ok (.if_icmp .ge 43, 3) := by decide +kernel
theorem d_R_nextLine_35 : decode b_R_nextLine 35 = .ok (.aload_n 0, 1) := by decide +kernel
theorem d_R_nextLine_36 : decode b_R_nextLine 36 = .ok (.getfield 26, 3) := by decide +kernel
theorem d_R_nextLine_39 : decode b_R_nextLine 39 = .ok (.aload_n 0, 1) := by decide +kernel
theorem d_R_nextLine_40 : decode b_R_nextLine 40 = .ok (.getfield 13, 3) := by decide +kernel
theorem d_R_nextLine_43 : decode b_R_nextLine 43 = .ok (.if_icmp .ge 32, 3) := by decide +kernel
theorem d_R_nextLine_46 : decode b_R_nextLine 46 = .ok (.aload_n 0, 1) := by decide +kernel
theorem d_R_nextLine_47 : decode b_R_nextLine 47 = .ok (.aload_n 0, 1) := by decide +kernel
theorem d_R_nextLine_48 : decode b_R_nextLine 48 = .ok (.getfield 26, 3) := by decide +kernel
theorem d_R_nextLine_51 : decode b_R_nextLine 51 = .ok (.invokevirtual 29, 3) := by decide +kernel
theorem d_R_nextLine_54 : decode b_R_nextLine 54 = .ok (.bipush 10, 2) := by decide +kernel
theorem d_R_nextLine_56 : decode b_R_nextLine 56 = .ok (.if_icmp .eq 19, 3) := by decide +kernel
theorem d_R_nextLine_59 : decode b_R_nextLine 59 = .ok (.aload_n 0, 1) := by decide +kernel
theorem d_R_nextLine_60 : decode b_R_nextLine 60 = .ok (.dup, 1) := by decide +kernel
theorem d_R_nextLine_61 : decode b_R_nextLine 61 = .ok (.getfield 26, 3) := by decide +kernel
theorem d_R_nextLine_64 : decode b_R_nextLine 64 = .ok (.iconst 1, 1) := by decide +kernel
theorem d_R_nextLine_65 : decode b_R_nextLine 65 = .ok (.iadd, 1) := by decide +kernel
theorem d_R_nextLine_66 : decode b_R_nextLine 66 = .ok (.putfield 26, 3) := by decide +kernel
theorem d_R_nextLine_69 : decode b_R_nextLine 69 = .ok (.iinc 1 1, 3) := by decide +kernel
theorem d_R_nextLine_72 : decode b_R_nextLine 72 = .ok (.goto (-44), 3) := by decide +kernel
theorem d_R_nextLine_75 : decode b_R_nextLine 75 = .ok (.aload_n 0, 1) := by decide +kernel
theorem d_R_nextLine_76 : decode b_R_nextLine 76 = .ok (.aload_n 0, 1) := by decide +kernel
theorem d_R_nextLine_77 : decode b_R_nextLine 77 = .ok (.getfield 26, 3) := by decide +kernel
theorem d_R_nextLine_80 : decode b_R_nextLine 80 = .ok (.iconst 1, 1) := by decide +kernel
theorem d_R_nextLine_81 : decode b_R_nextLine 81 = .ok (.iadd, 1) := by decide +kernel
theorem d_R_nextLine_82 : decode b_R_nextLine 82 = .ok (.putfield 20, 3) := by decide +kernel
theorem d_R_nextLine_85 : decode b_R_nextLine 85 = .ok (.return_, 1) := by decide +kernel
abbrev b_O_closeLocal : ByteArray := prog_6_method_4_code
abbrev y_O_closeLocal : MethodName := ⟨"SignMachine$Output", "closeLocal", "(II)V"⟩
theorem h_O_closeLocal : (y_O_closeLocal).cls ≠ "java/lang/invoke/MethodHandle" ∧ (y_O_closeLocal).cls ≠ "java/lang/invoke/VarHandle" ∧ (parseMethodDescriptor (y_O_closeLocal).desc).map (fun d => d.parameters.length) = some 2 := by decide +kernel
theorem d_O_closeLocal_0 : decode b_O_closeLocal 0 = .ok (.iload_n 1, 1) := by decide +kernel
theorem d_O_closeLocal_1 : decode b_O_closeLocal 1 = .ok (.ifCond .lt 12, 3) := by decide +kernel
theorem d_O_closeLocal_4 : decode b_O_closeLocal 4 = .ok (.iload_n 1, 1) := by decide +kernel
theorem d_O_closeLocal_5 : decode b_O_closeLocal 5 = .ok (.aload_n 0, 1) := by decide +kernel
theorem d_O_closeLocal_6 : decode b_O_closeLocal 6 = .ok (.getfield 32, 3) := by decide +kernel
theorem d_O_closeLocal_9 : decode b_O_closeLocal 9 = .ok (.arraylength, 1) := by decide +kernel
theorem d_O_closeLocal_10 : decode b_O_closeLocal 10 = .ok (.if_icmp .lt 4, 3) := by decide +kernel
theorem d_O_closeLocal_13 : decode b_O_closeLocal 13 = .ok (.return_, 1) := by decide +kernel
theorem d_O_closeLocal_14 : decode b_O_closeLocal 14 = .ok (.aload_n 0, 1) := by decide +kernel
theorem d_O_closeLocal_15 : decode b_O_closeLocal 15 = .ok (.getfield 32, 3) := by decide +kernel
theorem d_O_closeLocal_18 : decode b_O_closeLocal 18 = .ok (.iload_n 1, 1) := by decide +kernel
theorem d_O_closeLocal_19 : decode b_O_closeLocal 19 = .ok (.iaload, 1) := by decide +kernel
theorem d_O_closeLocal_20 : decode b_O_closeLocal 20 = .ok (.istore_n 3, 1) := by decide +kernel
theorem d_O_closeLocal_21 : decode b_O_closeLocal 21 = .ok (.iconst 0, 1) := by decide +kernel
theorem d_O_closeLocal_22 : decode b_O_closeLocal 22 = .ok (.istore 4, 2) := by decide +kernel
theorem d_O_closeLocal_24 : decode b_O_closeLocal 24 = .ok (.iload 4, 2) := by decide +kernel
theorem d_O_closeLocal_26 : decode b_O_closeLocal 26 = .ok (.sipush 1101, 3) := by decide +kernel
theorem d_O_closeLocal_29 : decode b_O_closeLocal 29 = .ok (.if_icmp .ge 41, 3) := by decide +kernel
theorem d_O_closeLocal_32 : decode b_O_closeLocal 32 = .ok (.iload_n 3, 1) := by decide +kernel
theorem d_O_closeLocal_33 : decode b_O_closeLocal 33 = .ok (.invokestatic 39, 3) := by decide +kernel
theorem d_O_closeLocal_36 : decode b_O_closeLocal 36 = .ok (.ifCond .eq 34, 3) := by decide +kernel
theorem d_O_closeLocal_39 : decode b_O_closeLocal 39 = .ok (.aload_n 0, 1) := by decide +kernel
theorem d_O_closeLocal_40 : decode b_O_closeLocal 40 = .ok (.getfield 29, 3) := by decide +kernel
theorem d_O_closeLocal_43 : decode b_O_closeLocal 43 = .ok (.iload_n 3, 1) := by decide +kernel
theorem d_O_closeLocal_44 : decode b_O_closeLocal 44 = .ok (.iaload, 1) := by decide +kernel
theorem d_O_closeLocal_45 : decode b_O_closeLocal 45 = .ok (.istore 5, 2) := by decide +kernel
theorem d_O_closeLocal_47 : decode b_O_closeLocal 47 = .ok (.aload_n 0, 1) := by decide +kernel
theorem d_O_closeLocal_48 : decode b_O_closeLocal 48 = .ok (.getfield 25, 3) := by decide +kernel
theorem d_O_closeLocal_51 : decode b_O_closeLocal 51 = .ok (.iload_n 3, 1) := by decide +kernel
theorem d_O_closeLocal_52 : decode b_O_closeLocal 52 = .ok (.iconst 3, 1) := by decide +kernel
theorem d_O_closeLocal_53 : decode b_O_closeLocal 53 = .ok (.bastore, 1) := by decide +kernel
theorem d_O_closeLocal_54 : decode b_O_closeLocal 54 = .ok (.aload_n 0, 1) := by decide +kernel
theorem d_O_closeLocal_55 : decode b_O_closeLocal 55 = .ok (.getfield 29, 3) := by decide +kernel
theorem d_O_closeLocal_58 : decode b_O_closeLocal 58 = .ok (.iload_n 3, 1) := by decide +kernel
theorem d_O_closeLocal_59 : decode b_O_closeLocal 59 = .ok (.iload_n 2, 1) := by decide +kernel
theorem d_O_closeLocal_60 : decode b_O_closeLocal 60 = .ok (.iastore, 1) := by decide +kernel
theorem d_O_closeLocal_61 : decode b_O_closeLocal 61 = .ok (.iload 5, 2) := by decide +kernel
theorem d_O_closeLocal_63 : decode b_O_closeLocal 63 = .ok (.istore_n 3, 1) := by decide +kernel
theorem d_O_closeLocal_64 : decode b_O_closeLocal 64 = .ok (.iinc 4 1, 3) := by decide +kernel
theorem d_O_closeLocal_67 : decode b_O_closeLocal 67 = .ok (.goto (-43), 3) := by decide +kernel
theorem d_O_closeLocal_70 : decode b_O_closeLocal 70 = .ok (.aload_n 0, 1) := by decide +kernel
theorem d_O_closeLocal_71 : decode b_O_closeLocal 71 = .ok (.getfield 32, 3) := by decide +kernel
theorem d_O_closeLocal_74 : decode b_O_closeLocal 74 = .ok (.iload_n 1, 1) := by decide +kernel
theorem d_O_closeLocal_75 : decode b_O_closeLocal 75 = .ok (.bipush (-2), 2) := by decide +kernel
theorem d_O_closeLocal_77 : decode b_O_closeLocal 77 = .ok (.iastore, 1) := by decide +kernel
theorem d_O_closeLocal_78 : decode b_O_closeLocal 78 = .ok (.return_, 1) := by decide +kernel
abbrev b_R_readToken : ByteArray := prog_7_method_13_code
abbrev y_R_readToken : MethodName := ⟨"SignMachine$Source", "readToken", "()V"⟩
theorem h_R_readToken : (y_R_readToken).cls ≠ "java/lang/invoke/MethodHandle" ∧ (y_R_readToken).cls ≠ "java/lang/invoke/VarHandle" ∧ (parseMethodDescriptor (y_R_readToken).desc).map (fun d => d.parameters.length) = some 0 := by decide +kernel
theorem d_R_readToken_0 : decode b_R_readToken 0 = .ok (.aload_n 0, 1) := by decide +kernel
theorem d_R_readToken_1 : decode b_R_readToken 1 = .ok (.invokevirtual 33, 3) := by decide +kernel
theorem d_R_readToken_4 : decode b_R_readToken 4 = .ok (.bipush 42, 2) := by decide +kernel
theorem d_R_readToken_6 : decode b_R_readToken 6 = .ok (.if_icmp .ne 19, 3) := by decide +kernel
theorem d_R_readToken_9 : decode b_R_readToken 9 = .ok (.aload_n 0, 1) := by decide +kernel
theorem d_R_readToken_10 : decode b_R_readToken 10 = .ok (.dup, 1) := by decide +kernel
theorem d_R_readToken_11 : decode b_R_readToken 11 = .ok (.getfield 23, 3) := by decide +kernel
theorem d_R_readToken_14 : decode b_R_readToken 14 = .ok (.iconst 1, 1) := by decide +kernel
theorem d_R_readToken_15 : decode b_R_readToken 15 = .ok (.iadd, 1) := by decide +kernel
theorem d_R_readToken_16 : decode b_R_readToken 16 = .ok (.putfield 23, 3) := by decide +kernel
theorem d_R_readToken_19 : decode b_R_readToken 19 = .ok (.aload_n 0, 1) := by decide +kernel
theorem d_R_readToken_20 : decode b_R_readToken 20 = .ok (.iconst 3, 1) := by decide +kernel
theorem d_R_readToken_21 : decode b_R_readToken 21 = .ok (.putfield 37, 3) := by decide +kernel
theorem d_R_readToken_24 : decode b_R_readToken 24 = .ok (.return_, 1) := by decide +kernel
theorem d_R_readToken_25 : decode b_R_readToken 25 = .ok (.iconst 0, 1) := by decide +kernel
theorem d_R_readToken_26 : decode b_R_readToken 26 = .ok (.istore_n 1, 1) := by decide +kernel
theorem d_R_readToken_27 : decode b_R_readToken 27 = .ok (.lconst 0, 1) := by decide +kernel
theorem d_R_readToken_28 : decode b_R_readToken 28 = .ok (.lstore_n 2, 1) := by decide +kernel
theorem d_R_readToken_29 : decode b_R_readToken 29 = .ok (.lconst 0, 1) := by decide +kernel
theorem d_R_readToken_30 : decode b_R_readToken 30 = .ok (.lstore 4, 2) := by decide +kernel
theorem d_R_readToken_32 : decode b_R_readToken 32 = .ok (.iconst 0, 1) := by decide +kernel
theorem d_R_readToken_33 : decode b_R_readToken 33 = .ok (.istore 6, 2) := by decide +kernel
theorem d_R_readToken_35 : decode b_R_readToken 35 = .ok (.aload_n 0, 1) := by decide +kernel
theorem d_R_readToken_36 : decode b_R_readToken 36 = .ok (.invokevirtual 33, 3) := by decide +kernel
theorem d_R_readToken_39 : decode b_R_readToken 39 = .ok (.invokestatic 40, 3) := by decide +kernel
theorem d_R_readToken_42 : decode b_R_readToken 42 = .ok (.istore 7, 2) := by decide +kernel
theorem d_R_readToken_44 : decode b_R_readToken 44 = .ok (.iconst 0, 1) := by decide +kernel
theorem d_R_readToken_45 : decode b_R_readToken 45 = .ok (.istore 8, 2) := by decide +kernel
theorem d_R_readToken_47 : decode b_R_readToken 47 = .ok (.iload 8, 2) := by decide +kernel
theorem d_R_readToken_49 : decode b_R_readToken 49 = .ok (.bipush 10, 2) := by decide +kernel
theorem d_R_readToken_51 : decode b_R_readToken 51 = .ok (.if_icmp .gt 92, 3) := by decide +kernel
theorem d_R_readToken_54 : decode b_R_readToken 54 = .ok (.iload 7, 2) := by decide +kernel
theorem d_R_readToken_56 : decode b_R_readToken 56 = .ok (.ifCond .eq 87, 3) := by decide +kernel
theorem d_R_readToken_59 : decode b_R_readToken 59 = .ok (.iinc 1 1, 3) := by decide +kernel
theorem d_R_readToken_62 : decode b_R_readToken 62 = .ok (.lload_n 2, 1) := by decide +kernel
theorem d_R_readToken_63 : decode b_R_readToken 63 = .ok (.bipush 6, 2) := by decide +kernel
theorem d_R_readToken_65 : decode b_R_readToken 65 = .ok (.lshl, 1) := by decide +kernel
theorem d_R_readToken_66 : decode b_R_readToken 66 = .ok (.iload 7, 2) := by decide +kernel
theorem d_R_readToken_68 : decode b_R_readToken 68 = .ok (.i2l, 1) := by decide +kernel
theorem d_R_readToken_69 : decode b_R_readToken 69 = .ok (.lor, 1) := by decide +kernel
theorem d_R_readToken_70 : decode b_R_readToken 70 = .ok (.lstore_n 2, 1) := by decide +kernel
theorem d_R_readToken_71 : decode b_R_readToken 71 = .ok (.iload 6, 2) := by decide +kernel
theorem d_R_readToken_73 : decode b_R_readToken 73 = .ok (.ifCond .ne 11, 3) := by decide +kernel
theorem d_R_readToken_76 : decode b_R_readToken 76 = .ok (.iload 7, 2) := by decide +kernel
theorem d_R_readToken_78 : decode b_R_readToken 78 = .ok (.invokestatic 45, 3) := by decide +kernel
theorem d_R_readToken_81 : decode b_R_readToken 81 = .ok (.ifCond .eq 7, 3) := by decide +kernel
theorem d_R_readToken_84 : decode b_R_readToken 84 = .ok (.iconst 1, 1) := by decide +kernel
theorem d_R_readToken_85 : decode b_R_readToken 85 = .ok (.goto 4, 3) := by decide +kernel
theorem d_R_readToken_88 : decode b_R_readToken 88 = .ok (.iconst 0, 1) := by decide +kernel
theorem d_R_readToken_89 : decode b_R_readToken 89 = .ok (.istore 6, 2) := by decide +kernel
theorem d_R_readToken_91 : decode b_R_readToken 91 = .ok (.lload 4, 2) := by decide +kernel
theorem d_R_readToken_93 : decode b_R_readToken 93 = .ok (.ldc2_w 49, 3) := by decide +kernel
theorem d_R_readToken_96 : decode b_R_readToken 96 = .ok (.lmul, 1) := by decide +kernel
theorem d_R_readToken_97 : decode b_R_readToken 97 = .ok (.iload 7, 2) := by decide +kernel
theorem d_R_readToken_99 : decode b_R_readToken 99 = .ok (.invokestatic 45, 3) := by decide +kernel
theorem d_R_readToken_102 : decode b_R_readToken 102 = .ok (.ifCond .eq 7, 3) := by decide +kernel
theorem d_R_readToken_105 : decode b_R_readToken 105 = .ok (.iconst 0, 1) := by decide +kernel
theorem d_R_readToken_106 : decode b_R_readToken 106 = .ok (.goto 8, 3) := by decide +kernel
theorem d_R_readToken_109 : decode b_R_readToken 109 = .ok (.iload 7, 2) := by decide +kernel
theorem d_R_readToken_111 : decode b_R_readToken 111 = .ok (.invokestatic 51, 3) := by decide +kernel
theorem d_R_readToken_114 : decode b_R_readToken 114 = .ok (.i2l, 1) := by decide +kernel
theorem d_R_readToken_115 : decode b_R_readToken 115 = .ok (.ladd, 1) := by decide +kernel
theorem d_R_readToken_116 : decode b_R_readToken 116 = .ok (.lstore 4, 2) := by decide +kernel
theorem d_R_readToken_118 : decode b_R_readToken 118 = .ok (.aload_n 0, 1) := by decide +kernel
theorem d_R_readToken_119 : decode b_R_readToken 119 = .ok (.dup, 1) := by decide +kernel
theorem d_R_readToken_120 : decode b_R_readToken 120 = .ok (.getfield 23, 3) := by decide +kernel
theorem d_R_readToken_123 : decode b_R_readToken 123 = .ok (.iconst 1, 1) := by decide +kernel
theorem d_R_readToken_124 : decode b_R_readToken 124 = .ok (.iadd, 1) := by decide +kernel
theorem d_R_readToken_125 : decode b_R_readToken 125 = .ok (.putfield 23, 3) := by decide +kernel
theorem d_R_readToken_128 : decode b_R_readToken 128 = .ok (.aload_n 0, 1) := by decide +kernel
theorem d_R_readToken_129 : decode b_R_readToken 129 = .ok (.invokevirtual 33, 3) := by decide +kernel
theorem d_R_readToken_132 : decode b_R_readToken 132 = .ok (.invokestatic 40, 3) := by decide +kernel
theorem d_R_readToken_135 : decode b_R_readToken 135 = .ok (.istore 7, 2) := by decide +kernel
theorem d_R_readToken_137 : decode b_R_readToken 137 = .ok (.iinc 8 1, 3) := by decide +kernel
theorem d_R_readToken_140 : decode b_R_readToken 140 = .ok (.goto (-93), 3) := by decide +kernel
theorem d_R_readToken_143 : decode b_R_readToken 143 = .ok (.aload_n 0, 1) := by decide +kernel
theorem d_R_readToken_144 : decode b_R_readToken 144 = .ok (.iload_n 1, 1) := by decide +kernel
theorem d_R_readToken_145 : decode b_R_readToken 145 = .ok (.ifCond .ne 7, 3) := by decide +kernel
theorem d_R_readToken_148 : decode b_R_readToken 148 = .ok (.iconst 0, 1) := by decide +kernel
theorem d_R_readToken_149 : decode b_R_readToken 149 = .ok (.goto 13, 3) := by decide +kernel
theorem d_R_readToken_152 : decode b_R_readToken 152 = .ok (.iload 6, 2) := by decide +kernel
theorem d_R_readToken_154 : decode b_R_readToken 154 = .ok (.ifCond .eq 7, 3) := by decide +kernel
theorem d_R_readToken_157 : decode b_R_readToken 157 = .ok (.iconst 2, 1) := by decide +kernel
theorem d_R_readToken_158 : decode b_R_readToken 158 = .ok (.goto 4, 3) := by decide +kernel
theorem d_R_readToken_161 : decode b_R_readToken 161 = .ok (.iconst 1, 1) := by decide +kernel
theorem d_R_readToken_162 : decode b_R_readToken 162 = .ok (.putfield 37, 3) := by decide +kernel
theorem d_R_readToken_165 : decode b_R_readToken 165 = .ok (.iload_n 1, 1) := by decide +kernel
theorem d_R_readToken_166 : decode b_R_readToken 166 = .ok (.iload 6, 2) := by decide +kernel
theorem d_R_readToken_168 : decode b_R_readToken 168 = .ok (.ifCond .eq 8, 3) := by decide +kernel
theorem d_R_readToken_171 : decode b_R_readToken 171 = .ok (.bipush 8, 2) := by decide +kernel
theorem d_R_readToken_173 : decode b_R_readToken 173 = .ok (.goto 5, 3) := by decide +kernel
theorem d_R_readToken_176 : decode b_R_readToken 176 = .ok (.bipush 10, 2) := by decide +kernel
theorem d_R_readToken_178 : decode b_R_readToken 178 = .ok (.if_icmp .le 8, 3) := by decide +kernel
theorem d_R_readToken_181 : decode b_R_readToken 181 = .ok (.aload_n 0, 1) := by decide +kernel
theorem d_R_readToken_182 : decode b_R_readToken 182 = .ok (.iconst 4, 1) := by decide +kernel
theorem d_R_readToken_183 : decode b_R_readToken 183 = .ok (.putfield 37, 3) := by decide +kernel
theorem d_R_readToken_186 : decode b_R_readToken 186 = .ok (.aload_n 0, 1) := by decide +kernel
theorem d_R_readToken_187 : decode b_R_readToken 187 = .ok (.lload_n 2, 1) := by decide +kernel
theorem d_R_readToken_188 : decode b_R_readToken 188 = .ok (.putfield 54, 3) := by decide +kernel
theorem d_R_readToken_191 : decode b_R_readToken 191 = .ok (.aload_n 0, 1) := by decide +kernel
theorem d_R_readToken_192 : decode b_R_readToken 192 = .ok (.lload 4, 2) := by decide +kernel
theorem d_R_readToken_194 : decode b_R_readToken 194 = .ok (.ldc2_w 60, 3) := by decide +kernel
theorem d_R_readToken_197 : decode b_R_readToken 197 = .ok (.land, 1) := by decide +kernel
theorem d_R_readToken_198 : decode b_R_readToken 198 = .ok (.l2i, 1) := by decide +kernel
theorem d_R_readToken_199 : decode b_R_readToken 199 = .ok (.putfield 62, 3) := by decide +kernel
theorem d_R_readToken_202 : decode b_R_readToken 202 = .ok (.return_, 1) := by decide +kernel
abbrev b_A_begin : ByteArray := prog_2_method_2_code
abbrev y_A_begin : MethodName := ⟨"SignMachine$Assembler", "begin", "()V"⟩
theorem h_A_begin : (y_A_begin).cls ≠ "java/lang/invoke/MethodHandle" ∧ (y_A_begin).cls ≠ "java/lang/invoke/VarHandle" ∧ (parseMethodDescriptor (y_A_begin).desc).map (fun d => d.parameters.length) = some 0 := by decide +kernel
theorem d_A_begin_0 : decode b_A_begin 0 = .ok (.aload_n 0, 1) := by decide +kernel
theorem d_A_begin_1 : decode b_A_begin 1 = .ok (.getfield 12, 3) := by decide +kernel
theorem d_A_begin_4 : decode b_A_begin 4 = .ok (.invokevirtual 36, 3) := by decide +kernel
theorem d_A_begin_7 : decode b_A_begin 7 = .ok (.aload_n 0, 1) := by decide +kernel
theorem d_A_begin_8 : decode b_A_begin 8 = .ok (.getfield 21, 3) := by decide +kernel
theorem d_A_begin_11 : decode b_A_begin 11 = .ok (.invokevirtual 39, 3) := by decide +kernel
theorem d_A_begin_14 : decode b_A_begin 14 = .ok (.aload_n 0, 1) := by decide +kernel
theorem d_A_begin_15 : decode b_A_begin 15 = .ok (.getfield 28, 3) := by decide +kernel
theorem d_A_begin_18 : decode b_A_begin 18 = .ok (.invokevirtual 42, 3) := by decide +kernel
theorem d_A_begin_21 : decode b_A_begin 21 = .ok (.aload_n 0, 1) := by decide +kernel
theorem d_A_begin_22 : decode b_A_begin 22 = .ok (.iconst 0, 1) := by decide +kernel
theorem d_A_begin_23 : decode b_A_begin 23 = .ok (.putfield 43, 3) := by decide +kernel
theorem d_A_begin_26 : decode b_A_begin 26 = .ok (.aload_n 0, 1) := by decide +kernel
theorem d_A_begin_27 : decode b_A_begin 27 = .ok (.iconst 0, 1) := by decide +kernel
theorem d_A_begin_28 : decode b_A_begin 28 = .ok (.putfield 46, 3) := by decide +kernel
theorem d_A_begin_31 : decode b_A_begin 31 = .ok (.aload_n 0, 1) := by decide +kernel
theorem d_A_begin_32 : decode b_A_begin 32 = .ok (.iconst 0, 1) := by decide +kernel
theorem d_A_begin_33 : decode b_A_begin 33 = .ok (.putfield 49, 3) := by decide +kernel
theorem d_A_begin_36 : decode b_A_begin 36 = .ok (.aload_n 0, 1) := by decide +kernel
theorem d_A_begin_37 : decode b_A_begin 37 = .ok (.iconst 0, 1) := by decide +kernel
theorem d_A_begin_38 : decode b_A_begin 38 = .ok (.putfield 52, 3) := by decide +kernel
theorem d_A_begin_41 : decode b_A_begin 41 = .ok (.return_, 1) := by decide +kernel
abbrev b_A_hasLine : ByteArray := prog_2_method_3_code
abbrev y_A_hasLine : MethodName := ⟨"SignMachine$Assembler", "hasLine", "()Z"⟩
theorem h_A_hasLine : (y_A_hasLine).cls ≠ "java/lang/invoke/MethodHandle" ∧ (y_A_hasLine).cls ≠ "java/lang/invoke/VarHandle" ∧ (parseMethodDescriptor (y_A_hasLine).desc).map (fun d => d.parameters.length) = some 0 := by decide +kernel
theorem d_A_hasLine_0 : decode b_A_hasLine 0 = .ok (.aload_n 0, 1) := by decide +kernel
theorem d_A_hasLine_1 : decode b_A_hasLine 1 = .ok (.getfield 43, 3) := by decide +kernel
theorem d_A_hasLine_4 : decode b_A_hasLine 4 = .ok (.ifCond .ne 24, 3) := by decide +kernel
theorem d_A_hasLine_7 : decode b_A_hasLine 7 = .ok (.aload_n 0, 1) := by decide +kernel
theorem d_A_hasLine_8 : decode b_A_hasLine 8 = .ok (.getfield 52, 3) := by decide +kernel
theorem d_A_hasLine_11 : decode b_A_hasLine 11 = .ok (.ifCond .ne 17, 3) := by decide +kernel
theorem d_A_hasLine_14 : decode b_A_hasLine 14 = .ok (.aload_n 0, 1) := by decide +kernel
theorem d_A_hasLine_15 : decode b_A_hasLine 15 = .ok (.getfield 12, 3) := by decide +kernel
theorem d_A_hasLine_18 : decode b_A_hasLine 18 = .ok (.invokevirtual 56, 3) := by decide +kernel
theorem d_A_hasLine_21 : decode b_A_hasLine 21 = .ok (.ifCond .eq 7, 3) := by decide +kernel
theorem d_A_hasLine_24 : decode b_A_hasLine 24 = .ok (.iconst 1, 1) := by decide +kernel
theorem d_A_hasLine_25 : decode b_A_hasLine 25 = .ok (.goto 4, 3) := by decide +kernel
theorem d_A_hasLine_28 : decode b_A_hasLine 28 = .ok (.iconst 0, 1) := by decide +kernel
theorem d_A_hasLine_29 : decode b_A_hasLine 29 = .ok (.ireturn, 1) := by decide +kernel
abbrev b_A_fail : ByteArray := prog_2_method_10_code
abbrev y_A_fail : MethodName := ⟨"SignMachine$Assembler", "fail", "(I)I"⟩
theorem h_A_fail : (y_A_fail).cls ≠ "java/lang/invoke/MethodHandle" ∧ (y_A_fail).cls ≠ "java/lang/invoke/VarHandle" ∧ (parseMethodDescriptor (y_A_fail).desc).map (fun d => d.parameters.length) = some 1 := by decide +kernel
theorem d_A_fail_0 : decode b_A_fail 0 = .ok (.aload_n 0, 1) := by decide +kernel
theorem d_A_fail_1 : decode b_A_fail 1 = .ok (.getfield 43, 3) := by decide +kernel
theorem d_A_fail_4 : decode b_A_fail 4 = .ok (.ifCond .ne 19, 3) := by decide +kernel
theorem d_A_fail_7 : decode b_A_fail 7 = .ok (.aload_n 0, 1) := by decide +kernel
theorem d_A_fail_8 : decode b_A_fail 8 = .ok (.iload_n 1, 1) := by decide +kernel
theorem d_A_fail_9 : decode b_A_fail 9 = .ok (.putfield 43, 3) := by decide +kernel
theorem d_A_fail_12 : decode b_A_fail 12 = .ok (.aload_n 0, 1) := by decide +kernel
theorem d_A_fail_13 : decode b_A_fail 13 = .ok (.aload_n 0, 1) := by decide +kernel
theorem d_A_fail_14 : decode b_A_fail 14 = .ok (.getfield 12, 3) := by decide +kernel
theorem d_A_fail_17 : decode b_A_fail 17 = .ok (.getfield 179, 3) := by decide +kernel
theorem d_A_fail_20 : decode b_A_fail 20 = .ok (.putfield 46, 3) := by decide +kernel
theorem d_A_fail_23 : decode b_A_fail 23 = .ok (.iconst 0, 1) := by decide +kernel
theorem d_A_fail_24 : decode b_A_fail 24 = .ok (.ireturn, 1) := by decide +kernel
abbrev b_A_expectEnd : ByteArray := prog_2_method_26_code
abbrev y_A_expectEnd : MethodName := ⟨"SignMachine$Assembler", "expectEnd", "()V"⟩
theorem h_A_expectEnd : (y_A_expectEnd).cls ≠ "java/lang/invoke/MethodHandle" ∧ (y_A_expectEnd).cls ≠ "java/lang/invoke/VarHandle" ∧ (parseMethodDescriptor (y_A_expectEnd).desc).map (fun d => d.parameters.length) = some 0 := by decide +kernel
theorem d_A_expectEnd_0 : decode b_A_expectEnd 0 = .ok (.aload_n 0, 1) := by decide +kernel
theorem d_A_expectEnd_1 : decode b_A_expectEnd 1 = .ok (.getfield 12, 3) := by decide +kernel
theorem d_A_expectEnd_4 : decode b_A_expectEnd 4 = .ok (.invokevirtual 80, 3) := by decide +kernel
theorem d_A_expectEnd_7 : decode b_A_expectEnd 7 = .ok (.istore_n 1, 1) := by decide +kernel
theorem d_A_expectEnd_8 : decode b_A_expectEnd 8 = .ok (.iload_n 1, 1) := by decide +kernel
theorem d_A_expectEnd_9 : decode b_A_expectEnd 9 = .ok (.iconst (-1), 1) := by decide +kernel
theorem d_A_expectEnd_10 : decode b_A_expectEnd 10 = .ok (.if_icmp .eq 15, 3) := by decide +kernel
theorem d_A_expectEnd_13 : decode b_A_expectEnd 13 = .ok (.iload_n 1, 1) := by decide +kernel
theorem d_A_expectEnd_14 : decode b_A_expectEnd 14 = .ok (.bipush 32, 2) := by decide +kernel
theorem d_A_expectEnd_16 : decode b_A_expectEnd 16 = .ok (.if_icmp .eq 9, 3) := by decide +kernel
theorem d_A_expectEnd_19 : decode b_A_expectEnd 19 = .ok (.aload_n 0, 1) := by decide +kernel
theorem d_A_expectEnd_20 : decode b_A_expectEnd 20 = .ok (.iconst 1, 1) := by decide +kernel
theorem d_A_expectEnd_21 : decode b_A_expectEnd 21 = .ok (.invokevirtual 84, 3) := by decide +kernel
theorem d_A_expectEnd_24 : decode b_A_expectEnd 24 = .ok (.pop, 1) := by decide +kernel
theorem d_A_expectEnd_25 : decode b_A_expectEnd 25 = .ok (.return_, 1) := by decide +kernel
abbrev b_A_expectBracket : ByteArray := prog_2_method_27_code
abbrev y_A_expectBracket : MethodName := ⟨"SignMachine$Assembler", "expectBracket", "()V"⟩
theorem h_A_expectBracket : (y_A_expectBracket).cls ≠ "java/lang/invoke/MethodHandle" ∧ (y_A_expectBracket).cls ≠ "java/lang/invoke/VarHandle" ∧ (parseMethodDescriptor (y_A_expectBracket).desc).map (fun d => d.parameters.length) = some 0 := by decide +kernel
theorem d_A_expectBracket_0 : decode b_A_expectBracket 0 = .ok (.aload_n 0, 1) := by decide +kernel
theorem d_A_expectBracket_1 : decode b_A_expectBracket 1 = .ok (.getfield 12, 3) := by decide +kernel
theorem d_A_expectBracket_4 : decode b_A_expectBracket 4 = .ok (.bipush 41, 2) := by decide +kernel
theorem d_A_expectBracket_6 : decode b_A_expectBracket 6 = .ok (.invokevirtual 240, 3) := by decide +kernel
theorem d_A_expectBracket_9 : decode b_A_expectBracket 9 = .ok (.ifCond .ne 9, 3) := by decide +kernel
theorem d_A_expectBracket_12 : decode b_A_expectBracket 12 = .ok (.aload_n 0, 1) := by decide +kernel
theorem d_A_expectBracket_13 : decode b_A_expectBracket 13 = .ok (.iconst 1, 1) := by decide +kernel
theorem d_A_expectBracket_14 : decode b_A_expectBracket 14 = .ok (.invokevirtual 84, 3) := by decide +kernel
theorem d_A_expectBracket_17 : decode b_A_expectBracket 17 = .ok (.pop, 1) := by decide +kernel
theorem d_A_expectBracket_18 : decode b_A_expectBracket 18 = .ok (.return_, 1) := by decide +kernel
abbrev b_A_isNothing : ByteArray := prog_2_method_11_code
abbrev y_A_isNothing : MethodName := ⟨"SignMachine$Assembler", "isNothing", "()Z"⟩
theorem h_A_isNothing : (y_A_isNothing).cls ≠ "java/lang/invoke/MethodHandle" ∧ (y_A_isNothing).cls ≠ "java/lang/invoke/VarHandle" ∧ (parseMethodDescriptor (y_A_isNothing).desc).map (fun d => d.parameters.length) = some 0 := by decide +kernel
theorem d_A_isNothing_0 : decode b_A_isNothing 0 = .ok (.aload_n 0, 1) := by decide +kernel
theorem d_A_isNothing_1 : decode b_A_isNothing 1 = .ok (.getfield 12, 3) := by decide +kernel
theorem d_A_isNothing_4 : decode b_A_isNothing 4 = .ok (.invokevirtual 80, 3) := by decide +kernel
theorem d_A_isNothing_7 : decode b_A_isNothing 7 = .ok (.bipush 59, 2) := by decide +kernel
theorem d_A_isNothing_9 : decode b_A_isNothing 9 = .ok (.if_icmp .ne 5, 3) := by decide +kernel
theorem d_A_isNothing_12 : decode b_A_isNothing 12 = .ok (.iconst 1, 1) := by decide +kernel
theorem d_A_isNothing_13 : decode b_A_isNothing 13 = .ok (.ireturn, 1) := by decide +kernel
theorem d_A_isNothing_14 : decode b_A_isNothing 14 = .ok (.aload_n 0, 1) := by decide +kernel
theorem d_A_isNothing_15 : decode b_A_isNothing 15 = .ok (.getfield 12, 3) := by decide +kernel
theorem d_A_isNothing_18 : decode b_A_isNothing 18 = .ok (.getfield 182, 3) := by decide +kernel
theorem d_A_isNothing_21 : decode b_A_isNothing 21 = .ok (.istore_n 1, 1) := by decide +kernel
theorem d_A_isNothing_22 : decode b_A_isNothing 22 = .ok (.aload_n 0, 1) := by decide +kernel
theorem d_A_isNothing_23 : decode b_A_isNothing 23 = .ok (.getfield 12, 3) := by decide +kernel
theorem d_A_isNothing_26 : decode b_A_isNothing 26 = .ok (.invokevirtual 77, 3) := by decide +kernel
theorem d_A_isNothing_29 : decode b_A_isNothing 29 = .ok (.aload_n 0, 1) := by decide +kernel
theorem d_A_isNothing_30 : decode b_A_isNothing 30 = .ok (.getfield 12, 3) := by decide +kernel
theorem d_A_isNothing_33 : decode b_A_isNothing 33 = .ok (.invokevirtual 80, 3) := by decide +kernel
theorem d_A_isNothing_36 : decode b_A_isNothing 36 = .ok (.iconst (-1), 1) := by decide +kernel
theorem d_A_isNothing_37 : decode b_A_isNothing 37 = .ok (.if_icmp .ne 7, 3) := by decide +kernel
theorem d_A_isNothing_40 : decode b_A_isNothing 40 = .ok (.iconst 1, 1) := by decide +kernel
theorem d_A_isNothing_41 : decode b_A_isNothing 41 = .ok (.goto 4, 3) := by decide +kernel
theorem d_A_isNothing_44 : decode b_A_isNothing 44 = .ok (.iconst 0, 1) := by decide +kernel
theorem d_A_isNothing_45 : decode b_A_isNothing 45 = .ok (.istore_n 2, 1) := by decide +kernel
theorem d_A_isNothing_46 : decode b_A_isNothing 46 = .ok (.aload_n 0, 1) := by decide +kernel
theorem d_A_isNothing_47 : decode b_A_isNothing 47 = .ok (.getfield 12, 3) := by decide +kernel
theorem d_A_isNothing_50 : decode b_A_isNothing 50 = .ok (.iload_n 1, 1) := by decide +kernel
theorem d_A_isNothing_51 : decode b_A_isNothing 51 = .ok (.putfield 182, 3) := by decide +kernel
theorem d_A_isNothing_54 : decode b_A_isNothing 54 = .ok (.iload_n 2, 1) := by decide +kernel
theorem d_A_isNothing_55 : decode b_A_isNothing 55 = .ok (.ireturn, 1) := by decide +kernel
abbrev b_A_readLabel : ByteArray := prog_2_method_12_code
abbrev y_A_readLabel : MethodName := ⟨"SignMachine$Assembler", "readLabel", "()V"⟩
theorem h_A_readLabel : (y_A_readLabel).cls ≠ "java/lang/invoke/MethodHandle" ∧ (y_A_readLabel).cls ≠ "java/lang/invoke/VarHandle" ∧ (parseMethodDescriptor (y_A_readLabel).desc).map (fun d => d.parameters.length) = some 0 := by decide +kernel
theorem d_A_readLabel_0 : decode b_A_readLabel 0 = .ok (.aload_n 0, 1) := by decide +kernel
theorem d_A_readLabel_1 : decode b_A_readLabel 1 = .ok (.getfield 12, 3) := by decide +kernel
theorem d_A_readLabel_4 : decode b_A_readLabel 4 = .ok (.invokevirtual 80, 3) := by decide +kernel
theorem d_A_readLabel_7 : decode b_A_readLabel 7 = .ok (.bipush 32, 2) := by decide +kernel
theorem d_A_readLabel_9 : decode b_A_readLabel 9 = .ok (.if_icmp .ne 4, 3) := by decide +kernel
theorem d_A_readLabel_12 : decode b_A_readLabel 12 = .ok (.return_, 1) := by decide +kernel
theorem d_A_readLabel_13 : decode b_A_readLabel 13 = .ok (.aload_n 0, 1) := by decide +kernel
theorem d_A_readLabel_14 : decode b_A_readLabel 14 = .ok (.getfield 12, 3) := by decide +kernel
theorem d_A_readLabel_17 : decode b_A_readLabel 17 = .ok (.invokevirtual 185, 3) := by decide +kernel
theorem d_A_readLabel_20 : decode b_A_readLabel 20 = .ok (.aload_n 0, 1) := by decide +kernel
theorem d_A_readLabel_21 : decode b_A_readLabel 21 = .ok (.getfield 12, 3) := by decide +kernel
theorem d_A_readLabel_24 : decode b_A_readLabel 24 = .ok (.getfield 188, 3) := by decide +kernel
theorem d_A_readLabel_27 : decode b_A_readLabel 27 = .ok (.iconst 2, 1) := by decide +kernel
theorem d_A_readLabel_28 : decode b_A_readLabel 28 = .ok (.if_icmp .ne 15, 3) := by decide +kernel
theorem d_A_readLabel_31 : decode b_A_readLabel 31 = .ok (.aload_n 0, 1) := by decide +kernel
theorem d_A_readLabel_32 : decode b_A_readLabel 32 = .ok (.getfield 12, 3) := by decide +kernel
theorem d_A_readLabel_35 : decode b_A_readLabel 35 = .ok (.invokevirtual 80, 3) := by decide +kernel
theorem d_A_readLabel_38 : decode b_A_readLabel 38 = .ok (.bipush 32, 2) := by decide +kernel
theorem d_A_readLabel_40 : decode b_A_readLabel 40 = .ok (.if_icmp .eq 10, 3) := by decide +kernel
theorem d_A_readLabel_43 : decode b_A_readLabel 43 = .ok (.aload_n 0, 1) := by decide +kernel
theorem d_A_readLabel_44 : decode b_A_readLabel 44 = .ok (.iconst 1, 1) := by decide +kernel
theorem d_A_readLabel_45 : decode b_A_readLabel 45 = .ok (.invokevirtual 84, 3) := by decide +kernel
theorem d_A_readLabel_48 : decode b_A_readLabel 48 = .ok (.pop, 1) := by decide +kernel
theorem d_A_readLabel_49 : decode b_A_readLabel 49 = .ok (.return_, 1) := by decide +kernel
theorem d_A_readLabel_50 : decode b_A_readLabel 50 = .ok (.aload_n 0, 1) := by decide +kernel
theorem d_A_readLabel_51 : decode b_A_readLabel 51 = .ok (.aload_n 0, 1) := by decide +kernel
theorem d_A_readLabel_52 : decode b_A_readLabel 52 = .ok (.getfield 12, 3) := by decide +kernel
theorem d_A_readLabel_55 : decode b_A_readLabel 55 = .ok (.getfield 191, 3) := by decide +kernel
theorem d_A_readLabel_58 : decode b_A_readLabel 58 = .ok (.putfield 64, 3) := by decide +kernel
theorem d_A_readLabel_61 : decode b_A_readLabel 61 = .ok (.aload_n 0, 1) := by decide +kernel
theorem d_A_readLabel_62 : decode b_A_readLabel 62 = .ok (.getfield 64, 3) := by decide +kernel
theorem d_A_readLabel_65 : decode b_A_readLabel 65 = .ok (.iconst 2, 1) := by decide +kernel
theorem d_A_readLabel_66 : decode b_A_readLabel 66 = .ok (.invokestatic 135, 3) := by decide +kernel
theorem d_A_readLabel_69 : decode b_A_readLabel 69 = .ok (.ifCond .ge 15, 3) := by decide +kernel
theorem d_A_readLabel_72 : decode b_A_readLabel 72 = .ok (.aload_n 0, 1) := by decide +kernel
theorem d_A_readLabel_73 : decode b_A_readLabel 73 = .ok (.getfield 64, 3) := by decide +kernel
theorem d_A_readLabel_76 : decode b_A_readLabel 76 = .ok (.bipush 6, 2) := by decide +kernel
theorem d_A_readLabel_78 : decode b_A_readLabel 78 = .ok (.invokestatic 135, 3) := by decide +kernel
theorem d_A_readLabel_81 : decode b_A_readLabel 81 = .ok (.ifCond .lt 9, 3) := by decide +kernel
theorem d_A_readLabel_84 : decode b_A_readLabel 84 = .ok (.aload_n 0, 1) := by decide +kernel
theorem d_A_readLabel_85 : decode b_A_readLabel 85 = .ok (.iconst 3, 1) := by decide +kernel
theorem d_A_readLabel_86 : decode b_A_readLabel 86 = .ok (.invokevirtual 84, 3) := by decide +kernel
theorem d_A_readLabel_89 : decode b_A_readLabel 89 = .ok (.pop, 1) := by decide +kernel
theorem d_A_readLabel_90 : decode b_A_readLabel 90 = .ok (.return_, 1) := by decide +kernel
abbrev b_A_putInstruction : ByteArray := prog_2_method_21_code
abbrev y_A_putInstruction : MethodName := ⟨"SignMachine$Assembler", "putInstruction", "(I)V"⟩
theorem h_A_putInstruction : (y_A_putInstruction).cls ≠ "java/lang/invoke/MethodHandle" ∧ (y_A_putInstruction).cls ≠ "java/lang/invoke/VarHandle" ∧ (parseMethodDescriptor (y_A_putInstruction).desc).map (fun d => d.parameters.length) = some 1 := by decide +kernel
theorem d_A_putInstruction_0 : decode b_A_putInstruction 0 = .ok (.aload_n 0, 1) := by decide +kernel
theorem d_A_putInstruction_1 : decode b_A_putInstruction 1 = .ok (.getfield 49, 3) := by decide +kernel
theorem d_A_putInstruction_4 : decode b_A_putInstruction 4 = .ok (.invokestatic 225, 3) := by decide +kernel
theorem d_A_putInstruction_7 : decode b_A_putInstruction 7 = .ok (.ifCond .ne 10, 3) := by decide +kernel
theorem d_A_putInstruction_10 : decode b_A_putInstruction 10 = .ok (.aload_n 0, 1) := by decide +kernel
theorem d_A_putInstruction_11 : decode b_A_putInstruction 11 = .ok (.iconst 4, 1) := by decide +kernel
theorem d_A_putInstruction_12 : decode b_A_putInstruction 12 = .ok (.invokevirtual 84, 3) := by decide +kernel
theorem d_A_putInstruction_15 : decode b_A_putInstruction 15 = .ok (.pop, 1) := by decide +kernel
theorem d_A_putInstruction_16 : decode b_A_putInstruction 16 = .ok (.return_, 1) := by decide +kernel
theorem d_A_putInstruction_17 : decode b_A_putInstruction 17 = .ok (.aload_n 0, 1) := by decide +kernel
theorem d_A_putInstruction_18 : decode b_A_putInstruction 18 = .ok (.getfield 28, 3) := by decide +kernel
theorem d_A_putInstruction_21 : decode b_A_putInstruction 21 = .ok (.aload_n 0, 1) := by decide +kernel
theorem d_A_putInstruction_22 : decode b_A_putInstruction 22 = .ok (.getfield 49, 3) := by decide +kernel
theorem d_A_putInstruction_25 : decode b_A_putInstruction 25 = .ok (.iload_n 1, 1) := by decide +kernel
theorem d_A_putInstruction_26 : decode b_A_putInstruction 26 = .ok (.aload_n 0, 1) := by decide +kernel
theorem d_A_putInstruction_27 : decode b_A_putInstruction 27 = .ok (.getfield 12, 3) := by decide +kernel
theorem d_A_putInstruction_30 : decode b_A_putInstruction 30 = .ok (.getfield 179, 3) := by decide +kernel
theorem d_A_putInstruction_33 : decode b_A_putInstruction 33 = .ok (.aload_n 0, 1) := by decide +kernel
theorem d_A_putInstruction_34 : decode b_A_putInstruction 34 = .ok (.getfield 268, 3) := by decide +kernel
theorem d_A_putInstruction_37 : decode b_A_putInstruction 37 = .ok (.aload_n 0, 1) := by decide +kernel
theorem d_A_putInstruction_38 : decode b_A_putInstruction 38 = .ok (.getfield 269, 3) := by decide +kernel
theorem d_A_putInstruction_41 : decode b_A_putInstruction 41 = .ok (.invokevirtual 272, 3) := by decide +kernel
theorem d_A_putInstruction_44 : decode b_A_putInstruction 44 = .ok (.aload_n 0, 1) := by decide +kernel
theorem d_A_putInstruction_45 : decode b_A_putInstruction 45 = .ok (.dup, 1) := by decide +kernel
theorem d_A_putInstruction_46 : decode b_A_putInstruction 46 = .ok (.getfield 49, 3) := by decide +kernel
theorem d_A_putInstruction_49 : decode b_A_putInstruction 49 = .ok (.iconst 1, 1) := by decide +kernel
theorem d_A_putInstruction_50 : decode b_A_putInstruction 50 = .ok (.iadd, 1) := by decide +kernel
theorem d_A_putInstruction_51 : decode b_A_putInstruction 51 = .ok (.putfield 49, 3) := by decide +kernel
theorem d_A_putInstruction_54 : decode b_A_putInstruction 54 = .ok (.return_, 1) := by decide +kernel
abbrev b_A_putWord : ByteArray := prog_2_method_20_code
abbrev y_A_putWord : MethodName := ⟨"SignMachine$Assembler", "putWord", "(I)V"⟩
theorem h_A_putWord : (y_A_putWord).cls ≠ "java/lang/invoke/MethodHandle" ∧ (y_A_putWord).cls ≠ "java/lang/invoke/VarHandle" ∧ (parseMethodDescriptor (y_A_putWord).desc).map (fun d => d.parameters.length) = some 1 := by decide +kernel
theorem d_A_putWord_0 : decode b_A_putWord 0 = .ok (.aload_n 0, 1) := by decide +kernel
theorem d_A_putWord_1 : decode b_A_putWord 1 = .ok (.iconst 0, 1) := by decide +kernel
theorem d_A_putWord_2 : decode b_A_putWord 2 = .ok (.putfield 268, 3) := by decide +kernel
theorem d_A_putWord_5 : decode b_A_putWord 5 = .ok (.aload_n 0, 1) := by decide +kernel
theorem d_A_putWord_6 : decode b_A_putWord 6 = .ok (.iload_n 1, 1) := by decide +kernel
theorem d_A_putWord_7 : decode b_A_putWord 7 = .ok (.invokevirtual 265, 3) := by decide +kernel
theorem d_A_putWord_10 : decode b_A_putWord 10 = .ok (.return_, 1) := by decide +kernel
abbrev b_A_tellSymbol : ByteArray := prog_2_method_15_code
abbrev y_A_tellSymbol : MethodName := ⟨"SignMachine$Assembler", "tellSymbol", "(I)V"⟩
theorem h_A_tellSymbol : (y_A_tellSymbol).cls ≠ "java/lang/invoke/MethodHandle" ∧ (y_A_tellSymbol).cls ≠ "java/lang/invoke/VarHandle" ∧ (parseMethodDescriptor (y_A_tellSymbol).desc).map (fun d => d.parameters.length) = some 1 := by decide +kernel
theorem d_A_tellSymbol_0 : decode b_A_tellSymbol 0 = .ok (.aload_n 0, 1) := by decide +kernel
theorem d_A_tellSymbol_1 : decode b_A_tellSymbol 1 = .ok (.getfield 21, 3) := by decide +kernel
theorem d_A_tellSymbol_4 : decode b_A_tellSymbol 4 = .ok (.aload_n 0, 1) := by decide +kernel
theorem d_A_tellSymbol_5 : decode b_A_tellSymbol 5 = .ok (.getfield 64, 3) := by decide +kernel
theorem d_A_tellSymbol_8 : decode b_A_tellSymbol 8 = .ok (.invokevirtual 212, 3) := by decide +kernel
theorem d_A_tellSymbol_11 : decode b_A_tellSymbol 11 = .ok (.istore_n 2, 1) := by decide +kernel
theorem d_A_tellSymbol_12 : decode b_A_tellSymbol 12 = .ok (.aload_n 0, 1) := by decide +kernel
theorem d_A_tellSymbol_13 : decode b_A_tellSymbol 13 = .ok (.getfield 21, 3) := by decide +kernel
theorem d_A_tellSymbol_16 : decode b_A_tellSymbol 16 = .ok (.iload_n 2, 1) := by decide +kernel
theorem d_A_tellSymbol_17 : decode b_A_tellSymbol 17 = .ok (.invokevirtual 215, 3) := by decide +kernel
theorem d_A_tellSymbol_20 : decode b_A_tellSymbol 20 = .ok (.ifCond .eq 10, 3) := by decide +kernel
theorem d_A_tellSymbol_23 : decode b_A_tellSymbol 23 = .ok (.aload_n 0, 1) := by decide +kernel
theorem d_A_tellSymbol_24 : decode b_A_tellSymbol 24 = .ok (.iconst 3, 1) := by decide +kernel
theorem d_A_tellSymbol_25 : decode b_A_tellSymbol 25 = .ok (.invokevirtual 84, 3) := by decide +kernel
theorem d_A_tellSymbol_28 : decode b_A_tellSymbol 28 = .ok (.pop, 1) := by decide +kernel
theorem d_A_tellSymbol_29 : decode b_A_tellSymbol 29 = .ok (.return_, 1) := by decide +kernel
theorem d_A_tellSymbol_30 : decode b_A_tellSymbol 30 = .ok (.iload_n 2, 1) := by decide +kernel
theorem d_A_tellSymbol_31 : decode b_A_tellSymbol 31 = .ok (.ifCond .ge 15, 3) := by decide +kernel
theorem d_A_tellSymbol_34 : decode b_A_tellSymbol 34 = .ok (.aload_n 0, 1) := by decide +kernel
theorem d_A_tellSymbol_35 : decode b_A_tellSymbol 35 = .ok (.getfield 21, 3) := by decide +kernel
theorem d_A_tellSymbol_38 : decode b_A_tellSymbol 38 = .ok (.aload_n 0, 1) := by decide +kernel
theorem d_A_tellSymbol_39 : decode b_A_tellSymbol 39 = .ok (.getfield 64, 3) := by decide +kernel
theorem d_A_tellSymbol_42 : decode b_A_tellSymbol 42 = .ok (.invokevirtual 219, 3) := by decide +kernel
theorem d_A_tellSymbol_45 : decode b_A_tellSymbol 45 = .ok (.istore_n 2, 1) := by decide +kernel
theorem d_A_tellSymbol_46 : decode b_A_tellSymbol 46 = .ok (.iload_n 2, 1) := by decide +kernel
theorem d_A_tellSymbol_47 : decode b_A_tellSymbol 47 = .ok (.ifCond .ge 10, 3) := by decide +kernel
theorem d_A_tellSymbol_50 : decode b_A_tellSymbol 50 = .ok (.aload_n 0, 1) := by decide +kernel
theorem d_A_tellSymbol_51 : decode b_A_tellSymbol 51 = .ok (.iconst 5, 1) := by decide +kernel
theorem d_A_tellSymbol_52 : decode b_A_tellSymbol 52 = .ok (.invokevirtual 84, 3) := by decide +kernel
theorem d_A_tellSymbol_55 : decode b_A_tellSymbol 55 = .ok (.pop, 1) := by decide +kernel
theorem d_A_tellSymbol_56 : decode b_A_tellSymbol 56 = .ok (.return_, 1) := by decide +kernel
theorem d_A_tellSymbol_57 : decode b_A_tellSymbol 57 = .ok (.aload_n 0, 1) := by decide +kernel
theorem d_A_tellSymbol_58 : decode b_A_tellSymbol 58 = .ok (.getfield 21, 3) := by decide +kernel
theorem d_A_tellSymbol_61 : decode b_A_tellSymbol 61 = .ok (.iload_n 2, 1) := by decide +kernel
theorem d_A_tellSymbol_62 : decode b_A_tellSymbol 62 = .ok (.iload_n 1, 1) := by decide +kernel
theorem d_A_tellSymbol_63 : decode b_A_tellSymbol 63 = .ok (.invokevirtual 222, 3) := by decide +kernel
theorem d_A_tellSymbol_66 : decode b_A_tellSymbol 66 = .ok (.return_, 1) := by decide +kernel
abbrev b_A_tellLabel : ByteArray := prog_2_method_14_code
abbrev y_A_tellLabel : MethodName := ⟨"SignMachine$Assembler", "tellLabel", "(I)V"⟩
theorem h_A_tellLabel : (y_A_tellLabel).cls ≠ "java/lang/invoke/MethodHandle" ∧ (y_A_tellLabel).cls ≠ "java/lang/invoke/VarHandle" ∧ (parseMethodDescriptor (y_A_tellLabel).desc).map (fun d => d.parameters.length) = some 1 := by decide +kernel
theorem d_A_tellLabel_0 : decode b_A_tellLabel 0 = .ok (.aload_n 0, 1) := by decide +kernel
theorem d_A_tellLabel_1 : decode b_A_tellLabel 1 = .ok (.iload_n 1, 1) := by decide +kernel
theorem d_A_tellLabel_2 : decode b_A_tellLabel 2 = .ok (.putfield 139, 3) := by decide +kernel
theorem d_A_tellLabel_5 : decode b_A_tellLabel 5 = .ok (.aload_n 0, 1) := by decide +kernel
theorem d_A_tellLabel_6 : decode b_A_tellLabel 6 = .ok (.getfield 64, 3) := by decide +kernel
theorem d_A_tellLabel_9 : decode b_A_tellLabel 9 = .ok (.bipush 8, 2) := by decide +kernel
theorem d_A_tellLabel_11 : decode b_A_tellLabel 11 = .ok (.invokestatic 135, 3) := by decide +kernel
theorem d_A_tellLabel_14 : decode b_A_tellLabel 14 = .ok (.istore_n 2, 1) := by decide +kernel
theorem d_A_tellLabel_15 : decode b_A_tellLabel 15 = .ok (.iload_n 2, 1) := by decide +kernel
theorem d_A_tellLabel_16 : decode b_A_tellLabel 16 = .ok (.ifCond .lt 15, 3) := by decide +kernel
theorem d_A_tellLabel_19 : decode b_A_tellLabel 19 = .ok (.aload_n 0, 1) := by decide +kernel
theorem d_A_tellLabel_20 : decode b_A_tellLabel 20 = .ok (.getfield 28, 3) := by decide +kernel
theorem d_A_tellLabel_23 : decode b_A_tellLabel 23 = .ok (.iload_n 2, 1) := by decide +kernel
theorem d_A_tellLabel_24 : decode b_A_tellLabel 24 = .ok (.iload_n 1, 1) := by decide +kernel
theorem d_A_tellLabel_25 : decode b_A_tellLabel 25 = .ok (.invokevirtual 206, 3) := by decide +kernel
theorem d_A_tellLabel_28 : decode b_A_tellLabel 28 = .ok (.goto 17, 3) := by decide +kernel
theorem d_A_tellLabel_31 : decode b_A_tellLabel 31 = .ok (.aload_n 0, 1) := by decide +kernel
theorem d_A_tellLabel_32 : decode b_A_tellLabel 32 = .ok (.getfield 64, 3) := by decide +kernel
theorem d_A_tellLabel_35 : decode b_A_tellLabel 35 = .ok (.lconst 0, 1) := by decide +kernel
theorem d_A_tellLabel_36 : decode b_A_tellLabel 36 = .ok (.lcmp, 1) := by decide +kernel
theorem d_A_tellLabel_37 : decode b_A_tellLabel 37 = .ok (.ifCond .eq 8, 3) := by decide +kernel
theorem d_A_tellLabel_40 : decode b_A_tellLabel 40 = .ok (.aload_n 0, 1) := by decide +kernel
theorem d_A_tellLabel_41 : decode b_A_tellLabel 41 = .ok (.iload_n 1, 1) := by decide +kernel
theorem d_A_tellLabel_42 : decode b_A_tellLabel 42 = .ok (.invokevirtual 209, 3) := by decide +kernel
theorem d_A_tellLabel_45 : decode b_A_tellLabel 45 = .ok (.return_, 1) := by decide +kernel
abbrev b_A_leaveLine : ByteArray := prog_2_method_6_code
abbrev y_A_leaveLine : MethodName := ⟨"SignMachine$Assembler", "leaveLine", "()V"⟩
theorem h_A_leaveLine : (y_A_leaveLine).cls ≠ "java/lang/invoke/MethodHandle" ∧ (y_A_leaveLine).cls ≠ "java/lang/invoke/VarHandle" ∧ (parseMethodDescriptor (y_A_leaveLine).desc).map (fun d => d.parameters.length) = some 0 := by decide +kernel
theorem d_A_leaveLine_0 : decode b_A_leaveLine 0 = .ok (.aload_n 0, 1) := by decide +kernel
theorem d_A_leaveLine_1 : decode b_A_leaveLine 1 = .ok (.getfield 21, 3) := by decide +kernel
theorem d_A_leaveLine_4 : decode b_A_leaveLine 4 = .ok (.aload_n 0, 1) := by decide +kernel
theorem d_A_leaveLine_5 : decode b_A_leaveLine 5 = .ok (.getfield 64, 3) := by decide +kernel
theorem d_A_leaveLine_8 : decode b_A_leaveLine 8 = .ok (.bipush 8, 2) := by decide +kernel
theorem d_A_leaveLine_10 : decode b_A_leaveLine 10 = .ok (.invokestatic 135, 3) := by decide +kernel
theorem d_A_leaveLine_13 : decode b_A_leaveLine 13 = .ok (.aload_n 0, 1) := by decide +kernel
theorem d_A_leaveLine_14 : decode b_A_leaveLine 14 = .ok (.getfield 139, 3) := by decide +kernel
theorem d_A_leaveLine_17 : decode b_A_leaveLine 17 = .ok (.invokevirtual 142, 3) := by decide +kernel
theorem d_A_leaveLine_20 : decode b_A_leaveLine 20 = .ok (.return_, 1) := by decide +kernel
abbrev b_A_takeLiteral : ByteArray := prog_2_method_23_code
abbrev y_A_takeLiteral : MethodName := ⟨"SignMachine$Assembler", "takeLiteral", "(I)V"⟩
theorem h_A_takeLiteral : (y_A_takeLiteral).cls ≠ "java/lang/invoke/MethodHandle" ∧ (y_A_takeLiteral).cls ≠ "java/lang/invoke/VarHandle" ∧ (parseMethodDescriptor (y_A_takeLiteral).desc).map (fun d => d.parameters.length) = some 1 := by decide +kernel
theorem d_A_takeLiteral_0 : decode b_A_takeLiteral 0 = .ok (.aload_n 0, 1) := by decide +kernel
theorem d_A_takeLiteral_1 : decode b_A_takeLiteral 1 = .ok (.getfield 12, 3) := by decide +kernel
theorem d_A_takeLiteral_4 : decode b_A_takeLiteral 4 = .ok (.bipush 61, 2) := by decide +kernel
theorem d_A_takeLiteral_6 : decode b_A_takeLiteral 6 = .ok (.invokevirtual 240, 3) := by decide +kernel
theorem d_A_takeLiteral_9 : decode b_A_takeLiteral 9 = .ok (.ifCond .ne 9, 3) := by decide +kernel
theorem d_A_takeLiteral_12 : decode b_A_takeLiteral 12 = .ok (.aload_n 0, 1) := by decide +kernel
theorem d_A_takeLiteral_13 : decode b_A_takeLiteral 13 = .ok (.iconst 1, 1) := by decide +kernel
theorem d_A_takeLiteral_14 : decode b_A_takeLiteral 14 = .ok (.invokevirtual 84, 3) := by decide +kernel
theorem d_A_takeLiteral_17 : decode b_A_takeLiteral 17 = .ok (.pop, 1) := by decide +kernel
theorem d_A_takeLiteral_18 : decode b_A_takeLiteral 18 = .ok (.aload_n 0, 1) := by decide +kernel
theorem d_A_takeLiteral_19 : decode b_A_takeLiteral 19 = .ok (.getfield 43, 3) := by decide +kernel
theorem d_A_takeLiteral_22 : decode b_A_takeLiteral 22 = .ok (.ifCond .eq 4, 3) := by decide +kernel
theorem d_A_takeLiteral_25 : decode b_A_takeLiteral 25 = .ok (.return_, 1) := by decide +kernel
theorem d_A_takeLiteral_26 : decode b_A_takeLiteral 26 = .ok (.aload_n 0, 1) := by decide +kernel
theorem d_A_takeLiteral_27 : decode b_A_takeLiteral 27 = .ok (.iconst 1, 1) := by decide +kernel
theorem d_A_takeLiteral_28 : decode b_A_takeLiteral 28 = .ok (.putfield 268, 3) := by decide +kernel
theorem d_A_takeLiteral_31 : decode b_A_takeLiteral 31 = .ok (.aload_n 0, 1) := by decide +kernel
theorem d_A_takeLiteral_32 : decode b_A_takeLiteral 32 = .ok (.aload_n 0, 1) := by decide +kernel
theorem d_A_takeLiteral_33 : decode b_A_takeLiteral 33 = .ok (.getfield 21, 3) := by decide +kernel
theorem d_A_takeLiteral_36 : decode b_A_takeLiteral 36 = .ok (.iload_n 1, 1) := by decide +kernel
theorem d_A_takeLiteral_37 : decode b_A_takeLiteral 37 = .ok (.invokevirtual 282, 3) := by decide +kernel
theorem d_A_takeLiteral_40 : decode b_A_takeLiteral 40 = .ok (.putfield 269, 3) := by decide +kernel
theorem d_A_takeLiteral_43 : decode b_A_takeLiteral 43 = .ok (.aload_n 0, 1) := by decide +kernel
theorem d_A_takeLiteral_44 : decode b_A_takeLiteral 44 = .ok (.getfield 269, 3) := by decide +kernel
theorem d_A_takeLiteral_47 : decode b_A_takeLiteral 47 = .ok (.ifCond .ge 9, 3) := by decide +kernel
theorem d_A_takeLiteral_50 : decode b_A_takeLiteral 50 = .ok (.aload_n 0, 1) := by decide +kernel
theorem d_A_takeLiteral_51 : decode b_A_takeLiteral 51 = .ok (.iconst 5, 1) := by decide +kernel
theorem d_A_takeLiteral_52 : decode b_A_takeLiteral 52 = .ok (.invokevirtual 84, 3) := by decide +kernel
theorem d_A_takeLiteral_55 : decode b_A_takeLiteral 55 = .ok (.pop, 1) := by decide +kernel
theorem d_A_takeLiteral_56 : decode b_A_takeLiteral 56 = .ok (.return_, 1) := by decide +kernel
abbrev b_A_isLaterSymbol : ByteArray := prog_2_method_25_code
abbrev y_A_isLaterSymbol : MethodName := ⟨"SignMachine$Assembler", "isLaterSymbol", "(J)Z"⟩
theorem h_A_isLaterSymbol : (y_A_isLaterSymbol).cls ≠ "java/lang/invoke/MethodHandle" ∧ (y_A_isLaterSymbol).cls ≠ "java/lang/invoke/VarHandle" ∧ (parseMethodDescriptor (y_A_isLaterSymbol).desc).map (fun d => d.parameters.length) = some 1 := by decide +kernel
theorem d_A_isLaterSymbol_0 : decode b_A_isLaterSymbol 0 = .ok (.lload_n 1, 1) := by decide +kernel
theorem d_A_isLaterSymbol_1 : decode b_A_isLaterSymbol 1 = .ok (.iconst 2, 1) := by decide +kernel
theorem d_A_isLaterSymbol_2 : decode b_A_isLaterSymbol 2 = .ok (.invokestatic 135, 3) := by decide +kernel
theorem d_A_isLaterSymbol_5 : decode b_A_isLaterSymbol 5 = .ok (.ifCond .ge 12, 3) := by decide +kernel
theorem d_A_isLaterSymbol_8 : decode b_A_isLaterSymbol 8 = .ok (.lload_n 1, 1) := by decide +kernel
theorem d_A_isLaterSymbol_9 : decode b_A_isLaterSymbol 9 = .ok (.bipush 8, 2) := by decide +kernel
theorem d_A_isLaterSymbol_11 : decode b_A_isLaterSymbol 11 = .ok (.invokestatic 135, 3) := by decide +kernel
theorem d_A_isLaterSymbol_14 : decode b_A_isLaterSymbol 14 = .ok (.ifCond .lt 5, 3) := by decide +kernel
theorem d_A_isLaterSymbol_17 : decode b_A_isLaterSymbol 17 = .ok (.iconst 0, 1) := by decide +kernel
theorem d_A_isLaterSymbol_18 : decode b_A_isLaterSymbol 18 = .ok (.ireturn, 1) := by decide +kernel
theorem d_A_isLaterSymbol_19 : decode b_A_isLaterSymbol 19 = .ok (.aload_n 0, 1) := by decide +kernel
theorem d_A_isLaterSymbol_20 : decode b_A_isLaterSymbol 20 = .ok (.aload_n 0, 1) := by decide +kernel
theorem d_A_isLaterSymbol_21 : decode b_A_isLaterSymbol 21 = .ok (.getfield 21, 3) := by decide +kernel
theorem d_A_isLaterSymbol_24 : decode b_A_isLaterSymbol 24 = .ok (.lload_n 1, 1) := by decide +kernel
theorem d_A_isLaterSymbol_25 : decode b_A_isLaterSymbol 25 = .ok (.invokevirtual 212, 3) := by decide +kernel
theorem d_A_isLaterSymbol_28 : decode b_A_isLaterSymbol 28 = .ok (.putfield 269, 3) := by decide +kernel
theorem d_A_isLaterSymbol_31 : decode b_A_isLaterSymbol 31 = .ok (.aload_n 0, 1) := by decide +kernel
theorem d_A_isLaterSymbol_32 : decode b_A_isLaterSymbol 32 = .ok (.getfield 21, 3) := by decide +kernel
theorem d_A_isLaterSymbol_35 : decode b_A_isLaterSymbol 35 = .ok (.aload_n 0, 1) := by decide +kernel
theorem d_A_isLaterSymbol_36 : decode b_A_isLaterSymbol 36 = .ok (.getfield 269, 3) := by decide +kernel
theorem d_A_isLaterSymbol_39 : decode b_A_isLaterSymbol 39 = .ok (.invokevirtual 215, 3) := by decide +kernel
theorem d_A_isLaterSymbol_42 : decode b_A_isLaterSymbol 42 = .ok (.ifCond .eq 5, 3) := by decide +kernel
theorem d_A_isLaterSymbol_45 : decode b_A_isLaterSymbol 45 = .ok (.iconst 0, 1) := by decide +kernel
theorem d_A_isLaterSymbol_46 : decode b_A_isLaterSymbol 46 = .ok (.ireturn, 1) := by decide +kernel
theorem d_A_isLaterSymbol_47 : decode b_A_isLaterSymbol 47 = .ok (.aload_n 0, 1) := by decide +kernel
theorem d_A_isLaterSymbol_48 : decode b_A_isLaterSymbol 48 = .ok (.getfield 269, 3) := by decide +kernel
theorem d_A_isLaterSymbol_51 : decode b_A_isLaterSymbol 51 = .ok (.ifCond .ge 15, 3) := by decide +kernel
theorem d_A_isLaterSymbol_54 : decode b_A_isLaterSymbol 54 = .ok (.aload_n 0, 1) := by decide +kernel
theorem d_A_isLaterSymbol_55 : decode b_A_isLaterSymbol 55 = .ok (.aload_n 0, 1) := by decide +kernel
theorem d_A_isLaterSymbol_56 : decode b_A_isLaterSymbol 56 = .ok (.getfield 21, 3) := by decide +kernel
theorem d_A_isLaterSymbol_59 : decode b_A_isLaterSymbol 59 = .ok (.lload_n 1, 1) := by decide +kernel
theorem d_A_isLaterSymbol_60 : decode b_A_isLaterSymbol 60 = .ok (.invokevirtual 219, 3) := by decide +kernel
theorem d_A_isLaterSymbol_63 : decode b_A_isLaterSymbol 63 = .ok (.putfield 269, 3) := by decide +kernel
theorem d_A_isLaterSymbol_66 : decode b_A_isLaterSymbol 66 = .ok (.aload_n 0, 1) := by decide +kernel
theorem d_A_isLaterSymbol_67 : decode b_A_isLaterSymbol 67 = .ok (.getfield 269, 3) := by decide +kernel
theorem d_A_isLaterSymbol_70 : decode b_A_isLaterSymbol 70 = .ok (.ifCond .ge 9, 3) := by decide +kernel
theorem d_A_isLaterSymbol_73 : decode b_A_isLaterSymbol 73 = .ok (.aload_n 0, 1) := by decide +kernel
theorem d_A_isLaterSymbol_74 : decode b_A_isLaterSymbol 74 = .ok (.iconst 5, 1) := by decide +kernel
theorem d_A_isLaterSymbol_75 : decode b_A_isLaterSymbol 75 = .ok (.invokevirtual 84, 3) := by decide +kernel
theorem d_A_isLaterSymbol_78 : decode b_A_isLaterSymbol 78 = .ok (.pop, 1) := by decide +kernel
theorem d_A_isLaterSymbol_79 : decode b_A_isLaterSymbol 79 = .ok (.iconst 1, 1) := by decide +kernel
theorem d_A_isLaterSymbol_80 : decode b_A_isLaterSymbol 80 = .ok (.ireturn, 1) := by decide +kernel
abbrev b_A_readLaterName : ByteArray := prog_2_method_24_code
abbrev y_A_readLaterName : MethodName := ⟨"SignMachine$Assembler", "readLaterName", "()Z"⟩
theorem h_A_readLaterName : (y_A_readLaterName).cls ≠ "java/lang/invoke/MethodHandle" ∧ (y_A_readLaterName).cls ≠ "java/lang/invoke/VarHandle" ∧ (parseMethodDescriptor (y_A_readLaterName).desc).map (fun d => d.parameters.length) = some 0 := by decide +kernel
theorem d_A_readLaterName_0 : decode b_A_readLaterName 0 = .ok (.aload_n 0, 1) := by decide +kernel
theorem d_A_readLaterName_1 : decode b_A_readLaterName 1 = .ok (.getfield 12, 3) := by decide +kernel
theorem d_A_readLaterName_4 : decode b_A_readLaterName 4 = .ok (.getfield 182, 3) := by decide +kernel
theorem d_A_readLaterName_7 : decode b_A_readLaterName 7 = .ok (.istore_n 1, 1) := by decide +kernel
theorem d_A_readLaterName_8 : decode b_A_readLaterName 8 = .ok (.aload_n 0, 1) := by decide +kernel
theorem d_A_readLaterName_9 : decode b_A_readLaterName 9 = .ok (.getfield 12, 3) := by decide +kernel
theorem d_A_readLaterName_12 : decode b_A_readLaterName 12 = .ok (.invokevirtual 185, 3) := by decide +kernel
theorem d_A_readLaterName_15 : decode b_A_readLaterName 15 = .ok (.aload_n 0, 1) := by decide +kernel
theorem d_A_readLaterName_16 : decode b_A_readLaterName 16 = .ok (.getfield 12, 3) := by decide +kernel
theorem d_A_readLaterName_19 : decode b_A_readLaterName 19 = .ok (.getfield 188, 3) := by decide +kernel
theorem d_A_readLaterName_22 : decode b_A_readLaterName 22 = .ok (.iconst 2, 1) := by decide +kernel
theorem d_A_readLaterName_23 : decode b_A_readLaterName 23 = .ok (.if_icmp .ne 66, 3) := by decide +kernel
theorem d_A_readLaterName_26 : decode b_A_readLaterName 26 = .ok (.aload_n 0, 1) := by decide +kernel
theorem d_A_readLaterName_27 : decode b_A_readLaterName 27 = .ok (.getfield 12, 3) := by decide +kernel
theorem d_A_readLaterName_30 : decode b_A_readLaterName 30 = .ok (.invokevirtual 80, 3) := by decide +kernel
theorem d_A_readLaterName_33 : decode b_A_readLaterName 33 = .ok (.invokestatic 285, 3) := by decide +kernel
theorem d_A_readLaterName_36 : decode b_A_readLaterName 36 = .ok (.ifCond .ne 53, 3) := by decide +kernel
theorem d_A_readLaterName_39 : decode b_A_readLaterName 39 = .ok (.aload_n 0, 1) := by decide +kernel
theorem d_A_readLaterName_40 : decode b_A_readLaterName 40 = .ok (.getfield 12, 3) := by decide +kernel
theorem d_A_readLaterName_43 : decode b_A_readLaterName 43 = .ok (.getfield 191, 3) := by decide +kernel
theorem d_A_readLaterName_46 : decode b_A_readLaterName 46 = .ok (.bipush 6, 2) := by decide +kernel
theorem d_A_readLaterName_48 : decode b_A_readLaterName 48 = .ok (.invokestatic 135, 3) := by decide +kernel
theorem d_A_readLaterName_51 : decode b_A_readLaterName 51 = .ok (.istore_n 2, 1) := by decide +kernel
theorem d_A_readLaterName_52 : decode b_A_readLaterName 52 = .ok (.iload_n 2, 1) := by decide +kernel
theorem d_A_readLaterName_53 : decode b_A_readLaterName 53 = .ok (.ifCond .lt 15, 3) := by decide +kernel
theorem d_A_readLaterName_56 : decode b_A_readLaterName 56 = .ok (.aload_n 0, 1) := by decide +kernel
theorem d_A_readLaterName_57 : decode b_A_readLaterName 57 = .ok (.iconst 2, 1) := by decide +kernel
theorem d_A_readLaterName_58 : decode b_A_readLaterName 58 = .ok (.putfield 268, 3) := by decide +kernel
theorem d_A_readLaterName_61 : decode b_A_readLaterName 61 = .ok (.aload_n 0, 1) := by decide +kernel
theorem d_A_readLaterName_62 : decode b_A_readLaterName 62 = .ok (.iload_n 2, 1) := by decide +kernel
theorem d_A_readLaterName_63 : decode b_A_readLaterName 63 = .ok (.putfield 269, 3) := by decide +kernel
theorem d_A_readLaterName_66 : decode b_A_readLaterName 66 = .ok (.iconst 1, 1) := by decide +kernel
theorem d_A_readLaterName_67 : decode b_A_readLaterName 67 = .ok (.ireturn, 1) := by decide +kernel
theorem d_A_readLaterName_68 : decode b_A_readLaterName 68 = .ok (.aload_n 0, 1) := by decide +kernel
theorem d_A_readLaterName_69 : decode b_A_readLaterName 69 = .ok (.aload_n 0, 1) := by decide +kernel
theorem d_A_readLaterName_70 : decode b_A_readLaterName 70 = .ok (.getfield 12, 3) := by decide +kernel
theorem d_A_readLaterName_73 : decode b_A_readLaterName 73 = .ok (.getfield 191, 3) := by decide +kernel
theorem d_A_readLaterName_76 : decode b_A_readLaterName 76 = .ok (.invokevirtual 288, 3) := by decide +kernel
theorem d_A_readLaterName_79 : decode b_A_readLaterName 79 = .ok (.ifCond .eq 10, 3) := by decide +kernel
theorem d_A_readLaterName_82 : decode b_A_readLaterName 82 = .ok (.aload_n 0, 1) := by decide +kernel
theorem d_A_readLaterName_83 : decode b_A_readLaterName 83 = .ok (.iconst 1, 1) := by decide +kernel
theorem d_A_readLaterName_84 : decode b_A_readLaterName 84 = .ok (.putfield 268, 3) := by decide +kernel
theorem d_A_readLaterName_87 : decode b_A_readLaterName 87 = .ok (.iconst 1, 1) := by decide +kernel
theorem d_A_readLaterName_88 : decode b_A_readLaterName 88 = .ok (.ireturn, 1) := by decide +kernel
theorem d_A_readLaterName_89 : decode b_A_readLaterName 89 = .ok (.aload_n 0, 1) := by decide +kernel
theorem d_A_readLaterName_90 : decode b_A_readLaterName 90 = .ok (.getfield 12, 3) := by decide +kernel
theorem d_A_readLaterName_93 : decode b_A_readLaterName 93 = .ok (.iload_n 1, 1) := by decide +kernel
theorem d_A_readLaterName_94 : decode b_A_readLaterName 94 = .ok (.putfield 182, 3) := by decide +kernel
theorem d_A_readLaterName_97 : decode b_A_readLaterName 97 = .ok (.iconst 0, 1) := by decide +kernel
theorem d_A_readLaterName_98 : decode b_A_readLaterName 98 = .ok (.ireturn, 1) := by decide +kernel
abbrev b_A_close : ByteArray := prog_2_method_8_code
abbrev y_A_close : MethodName := ⟨"SignMachine$Assembler", "close", "(I)V"⟩
theorem h_A_close : (y_A_close).cls ≠ "java/lang/invoke/MethodHandle" ∧ (y_A_close).cls ≠ "java/lang/invoke/VarHandle" ∧ (parseMethodDescriptor (y_A_close).desc).map (fun d => d.parameters.length) = some 1 := by decide +kernel
theorem d_A_close_0 : decode b_A_close 0 = .ok (.aload_n 0, 1) := by decide +kernel
theorem d_A_close_1 : decode b_A_close 1 = .ok (.getfield 28, 3) := by decide +kernel
theorem d_A_close_4 : decode b_A_close 4 = .ok (.iload_n 1, 1) := by decide +kernel
theorem d_A_close_5 : decode b_A_close 5 = .ok (.invokevirtual 155, 3) := by decide +kernel
theorem d_A_close_8 : decode b_A_close 8 = .ok (.istore_n 2, 1) := by decide +kernel
theorem d_A_close_9 : decode b_A_close 9 = .ok (.iload_n 2, 1) := by decide +kernel
theorem d_A_close_10 : decode b_A_close 10 = .ok (.ifCond .ne 4, 3) := by decide +kernel
theorem d_A_close_13 : decode b_A_close 13 = .ok (.return_, 1) := by decide +kernel
theorem d_A_close_14 : decode b_A_close 14 = .ok (.aload_n 0, 1) := by decide +kernel
theorem d_A_close_15 : decode b_A_close 15 = .ok (.getfield 28, 3) := by decide +kernel
theorem d_A_close_18 : decode b_A_close 18 = .ok (.iload_n 1, 1) := by decide +kernel
theorem d_A_close_19 : decode b_A_close 19 = .ok (.invokevirtual 158, 3) := by decide +kernel
theorem d_A_close_22 : decode b_A_close 22 = .ok (.istore_n 3, 1) := by decide +kernel
theorem d_A_close_23 : decode b_A_close 23 = .ok (.iload_n 2, 1) := by decide +kernel
theorem d_A_close_24 : decode b_A_close 24 = .ok (.iconst 1, 1) := by decide +kernel
theorem d_A_close_25 : decode b_A_close 25 = .ok (.if_icmp .ne 12, 3) := by decide +kernel
theorem d_A_close_28 : decode b_A_close 28 = .ok (.aload_n 0, 1) := by decide +kernel
theorem d_A_close_29 : decode b_A_close 29 = .ok (.getfield 21, 3) := by decide +kernel
theorem d_A_close_32 : decode b_A_close 32 = .ok (.iload_n 3, 1) := by decide +kernel
theorem d_A_close_33 : decode b_A_close 33 = .ok (.invokevirtual 161, 3) := by decide +kernel
theorem d_A_close_36 : decode b_A_close 36 = .ok (.istore_n 3, 1) := by decide +kernel
theorem d_A_close_37 : decode b_A_close 37 = .ok (.iload_n 2, 1) := by decide +kernel
theorem d_A_close_38 : decode b_A_close 38 = .ok (.iconst 2, 1) := by decide +kernel
theorem d_A_close_39 : decode b_A_close 39 = .ok (.if_icmp .ne 23, 3) := by decide +kernel
theorem d_A_close_42 : decode b_A_close 42 = .ok (.aload_n 0, 1) := by decide +kernel
theorem d_A_close_43 : decode b_A_close 43 = .ok (.iconst 3, 1) := by decide +kernel
theorem d_A_close_44 : decode b_A_close 44 = .ok (.putfield 43, 3) := by decide +kernel
theorem d_A_close_47 : decode b_A_close 47 = .ok (.aload_n 0, 1) := by decide +kernel
theorem d_A_close_48 : decode b_A_close 48 = .ok (.aload_n 0, 1) := by decide +kernel
theorem d_A_close_49 : decode b_A_close 49 = .ok (.getfield 28, 3) := by decide +kernel
theorem d_A_close_52 : decode b_A_close 52 = .ok (.iload_n 1, 1) := by decide +kernel
theorem d_A_close_53 : decode b_A_close 53 = .ok (.invokevirtual 164, 3) := by decide +kernel
theorem d_A_close_56 : decode b_A_close 56 = .ok (.putfield 46, 3) := by decide +kernel
theorem d_A_close_59 : decode b_A_close 59 = .ok (.goto 42, 3) := by decide +kernel
theorem d_A_close_62 : decode b_A_close 62 = .ok (.iload_n 3, 1) := by decide +kernel
theorem d_A_close_63 : decode b_A_close 63 = .ok (.invokestatic 167, 3) := by decide +kernel
theorem d_A_close_66 : decode b_A_close 66 = .ok (.sipush 4095, 3) := by decide +kernel
theorem d_A_close_69 : decode b_A_close 69 = .ok (.if_icmp .le 23, 3) := by decide +kernel
theorem d_A_close_72 : decode b_A_close 72 = .ok (.aload_n 0, 1) := by decide +kernel
theorem d_A_close_73 : decode b_A_close 73 = .ok (.iconst 4, 1) := by decide +kernel
theorem d_A_close_74 : decode b_A_close 74 = .ok (.putfield 43, 3) := by decide +kernel
theorem d_A_close_77 : decode b_A_close 77 = .ok (.aload_n 0, 1) := by decide +kernel
theorem d_A_close_78 : decode b_A_close 78 = .ok (.aload_n 0, 1) := by decide +kernel
theorem d_A_close_79 : decode b_A_close 79 = .ok (.getfield 28, 3) := by decide +kernel
theorem d_A_close_82 : decode b_A_close 82 = .ok (.iload_n 1, 1) := by decide +kernel
theorem d_A_close_83 : decode b_A_close 83 = .ok (.invokevirtual 164, 3) := by decide +kernel
theorem d_A_close_86 : decode b_A_close 86 = .ok (.putfield 46, 3) := by decide +kernel
theorem d_A_close_89 : decode b_A_close 89 = .ok (.goto 12, 3) := by decide +kernel
theorem d_A_close_92 : decode b_A_close 92 = .ok (.aload_n 0, 1) := by decide +kernel
theorem d_A_close_93 : decode b_A_close 93 = .ok (.getfield 28, 3) := by decide +kernel
theorem d_A_close_96 : decode b_A_close 96 = .ok (.iload_n 1, 1) := by decide +kernel
theorem d_A_close_97 : decode b_A_close 97 = .ok (.iload_n 3, 1) := by decide +kernel
theorem d_A_close_98 : decode b_A_close 98 = .ok (.invokevirtual 172, 3) := by decide +kernel
theorem d_A_close_101 : decode b_A_close 101 = .ok (.return_, 1) := by decide +kernel
abbrev b_A_atomValue : ByteArray := prog_2_method_32_code
abbrev y_A_atomValue : MethodName := ⟨"SignMachine$Assembler", "atomValue", "()I"⟩
theorem h_A_atomValue : (y_A_atomValue).cls ≠ "java/lang/invoke/MethodHandle" ∧ (y_A_atomValue).cls ≠ "java/lang/invoke/VarHandle" ∧ (parseMethodDescriptor (y_A_atomValue).desc).map (fun d => d.parameters.length) = some 0 := by decide +kernel
theorem d_A_atomValue_0 : decode b_A_atomValue 0 = .ok (.aload_n 0, 1) := by decide +kernel
theorem d_A_atomValue_1 : decode b_A_atomValue 1 = .ok (.getfield 12, 3) := by decide +kernel
theorem d_A_atomValue_4 : decode b_A_atomValue 4 = .ok (.getfield 188, 3) := by decide +kernel
theorem d_A_atomValue_7 : decode b_A_atomValue 7 = .ok (.tableswitch 41 1 3 #[25, 38, 33], 25) := by decide +kernel
theorem d_A_atomValue_32 : decode b_A_atomValue 32 = .ok (.aload_n 0, 1) := by decide +kernel
theorem d_A_atomValue_33 : decode b_A_atomValue 33 = .ok (.getfield 12, 3) := by decide +kernel
theorem d_A_atomValue_36 : decode b_A_atomValue 36 = .ok (.getfield 316, 3) := by decide +kernel
theorem d_A_atomValue_39 : decode b_A_atomValue 39 = .ok (.ireturn, 1) := by decide +kernel
theorem d_A_atomValue_40 : decode b_A_atomValue 40 = .ok (.aload_n 0, 1) := by decide +kernel
theorem d_A_atomValue_41 : decode b_A_atomValue 41 = .ok (.getfield 49, 3) := by decide +kernel
theorem d_A_atomValue_44 : decode b_A_atomValue 44 = .ok (.ireturn, 1) := by decide +kernel
theorem d_A_atomValue_45 : decode b_A_atomValue 45 = .ok (.goto 9, 3) := by decide +kernel
theorem d_A_atomValue_48 : decode b_A_atomValue 48 = .ok (.aload_n 0, 1) := by decide +kernel
theorem d_A_atomValue_49 : decode b_A_atomValue 49 = .ok (.iconst 1, 1) := by decide +kernel
theorem d_A_atomValue_50 : decode b_A_atomValue 50 = .ok (.invokevirtual 84, 3) := by decide +kernel
theorem d_A_atomValue_53 : decode b_A_atomValue 53 = .ok (.ireturn, 1) := by decide +kernel
theorem d_A_atomValue_54 : decode b_A_atomValue 54 = .ok (.aload_n 0, 1) := by decide +kernel
theorem d_A_atomValue_55 : decode b_A_atomValue 55 = .ok (.getfield 12, 3) := by decide +kernel
theorem d_A_atomValue_58 : decode b_A_atomValue 58 = .ok (.getfield 191, 3) := by decide +kernel
theorem d_A_atomValue_61 : decode b_A_atomValue 61 = .ok (.iconst 2, 1) := by decide +kernel
theorem d_A_atomValue_62 : decode b_A_atomValue 62 = .ok (.invokestatic 135, 3) := by decide +kernel
theorem d_A_atomValue_65 : decode b_A_atomValue 65 = .ok (.istore_n 1, 1) := by decide +kernel
theorem d_A_atomValue_66 : decode b_A_atomValue 66 = .ok (.iload_n 1, 1) := by decide +kernel
theorem d_A_atomValue_67 : decode b_A_atomValue 67 = .ok (.ifCond .lt 31, 3) := by decide +kernel
theorem d_A_atomValue_70 : decode b_A_atomValue 70 = .ok (.aload_n 0, 1) := by decide +kernel
theorem d_A_atomValue_71 : decode b_A_atomValue 71 = .ok (.getfield 21, 3) := by decide +kernel
theorem d_A_atomValue_74 : decode b_A_atomValue 74 = .ok (.iload_n 1, 1) := by decide +kernel
theorem d_A_atomValue_75 : decode b_A_atomValue 75 = .ok (.invokevirtual 318, 3) := by decide +kernel
theorem d_A_atomValue_78 : decode b_A_atomValue 78 = .ok (.ifCond .eq 14, 3) := by decide +kernel
theorem d_A_atomValue_81 : decode b_A_atomValue 81 = .ok (.aload_n 0, 1) := by decide +kernel
theorem d_A_atomValue_82 : decode b_A_atomValue 82 = .ok (.getfield 21, 3) := by decide +kernel
theorem d_A_atomValue_85 : decode b_A_atomValue 85 = .ok (.iload_n 1, 1) := by decide +kernel
theorem d_A_atomValue_86 : decode b_A_atomValue 86 = .ok (.invokevirtual 321, 3) := by decide +kernel
theorem d_A_atomValue_89 : decode b_A_atomValue 89 = .ok (.goto 8, 3) := by decide +kernel
theorem d_A_atomValue_92 : decode b_A_atomValue 92 = .ok (.aload_n 0, 1) := by decide +kernel
theorem d_A_atomValue_93 : decode b_A_atomValue 93 = .ok (.iconst 3, 1) := by decide +kernel
theorem d_A_atomValue_94 : decode b_A_atomValue 94 = .ok (.invokevirtual 84, 3) := by decide +kernel
theorem d_A_atomValue_97 : decode b_A_atomValue 97 = .ok (.ireturn, 1) := by decide +kernel
theorem d_A_atomValue_98 : decode b_A_atomValue 98 = .ok (.aload_n 0, 1) := by decide +kernel
theorem d_A_atomValue_99 : decode b_A_atomValue 99 = .ok (.getfield 21, 3) := by decide +kernel
theorem d_A_atomValue_102 : decode b_A_atomValue 102 = .ok (.aload_n 0, 1) := by decide +kernel
theorem d_A_atomValue_103 : decode b_A_atomValue 103 = .ok (.getfield 12, 3) := by decide +kernel
theorem d_A_atomValue_106 : decode b_A_atomValue 106 = .ok (.getfield 191, 3) := by decide +kernel
theorem d_A_atomValue_109 : decode b_A_atomValue 109 = .ok (.invokevirtual 212, 3) := by decide +kernel
theorem d_A_atomValue_112 : decode b_A_atomValue 112 = .ok (.istore_n 2, 1) := by decide +kernel
theorem d_A_atomValue_113 : decode b_A_atomValue 113 = .ok (.aload_n 0, 1) := by decide +kernel
theorem d_A_atomValue_114 : decode b_A_atomValue 114 = .ok (.getfield 21, 3) := by decide +kernel
theorem d_A_atomValue_117 : decode b_A_atomValue 117 = .ok (.iload_n 2, 1) := by decide +kernel
theorem d_A_atomValue_118 : decode b_A_atomValue 118 = .ok (.invokevirtual 215, 3) := by decide +kernel
theorem d_A_atomValue_121 : decode b_A_atomValue 121 = .ok (.ifCond .eq 14, 3) := by decide +kernel
theorem d_A_atomValue_124 : decode b_A_atomValue 124 = .ok (.aload_n 0, 1) := by decide +kernel
theorem d_A_atomValue_125 : decode b_A_atomValue 125 = .ok (.getfield 21, 3) := by decide +kernel
theorem d_A_atomValue_128 : decode b_A_atomValue 128 = .ok (.iload_n 2, 1) := by decide +kernel
theorem d_A_atomValue_129 : decode b_A_atomValue 129 = .ok (.invokevirtual 161, 3) := by decide +kernel
theorem d_A_atomValue_132 : decode b_A_atomValue 132 = .ok (.goto 8, 3) := by decide +kernel
theorem d_A_atomValue_135 : decode b_A_atomValue 135 = .ok (.aload_n 0, 1) := by decide +kernel
theorem d_A_atomValue_136 : decode b_A_atomValue 136 = .ok (.iconst 3, 1) := by decide +kernel
theorem d_A_atomValue_137 : decode b_A_atomValue 137 = .ok (.invokevirtual 84, 3) := by decide +kernel
theorem d_A_atomValue_140 : decode b_A_atomValue 140 = .ok (.ireturn, 1) := by decide +kernel
abbrev b_A_reckon : ByteArray := prog_2_method_31_code
abbrev y_A_reckon : MethodName := ⟨"SignMachine$Assembler", "reckon", "(JIJ)J"⟩
theorem h_A_reckon : (y_A_reckon).cls ≠ "java/lang/invoke/MethodHandle" ∧ (y_A_reckon).cls ≠ "java/lang/invoke/VarHandle" ∧ (parseMethodDescriptor (y_A_reckon).desc).map (fun d => d.parameters.length) = some 3 := by decide +kernel
theorem d_A_reckon_0 : decode b_A_reckon 0 = .ok (.iload_n 3, 1) := by decide +kernel
theorem d_A_reckon_1 : decode b_A_reckon 1 = .ok (.lookupswitch 83 #[(42, 61), (43, 43), (45, 52), (58, 70)], 43) := by decide +kernel
theorem d_A_reckon_44 : decode b_A_reckon 44 = .ok (.lload_n 1, 1) := by decide +kernel
theorem d_A_reckon_45 : decode b_A_reckon 45 = .ok (.lload 4, 2) := by decide +kernel
theorem d_A_reckon_47 : decode b_A_reckon 47 = .ok (.ladd, 1) := by decide +kernel
theorem d_A_reckon_48 : decode b_A_reckon 48 = .ok (.lstore 6, 2) := by decide +kernel
theorem d_A_reckon_50 : decode b_A_reckon 50 = .ok (.goto 54, 3) := by decide +kernel
theorem d_A_reckon_53 : decode b_A_reckon 53 = .ok (.lload_n 1, 1) := by decide +kernel
theorem d_A_reckon_54 : decode b_A_reckon 54 = .ok (.lload 4, 2) := by decide +kernel
theorem d_A_reckon_56 : decode b_A_reckon 56 = .ok (.lsub, 1) := by decide +kernel
theorem d_A_reckon_57 : decode b_A_reckon 57 = .ok (.lstore 6, 2) := by decide +kernel
theorem d_A_reckon_59 : decode b_A_reckon 59 = .ok (.goto 45, 3) := by decide +kernel
theorem d_A_reckon_62 : decode b_A_reckon 62 = .ok (.lload_n 1, 1) := by decide +kernel
theorem d_A_reckon_63 : decode b_A_reckon 63 = .ok (.lload 4, 2) := by decide +kernel
theorem d_A_reckon_65 : decode b_A_reckon 65 = .ok (.lmul, 1) := by decide +kernel
theorem d_A_reckon_66 : decode b_A_reckon 66 = .ok (.lstore 6, 2) := by decide +kernel
theorem d_A_reckon_68 : decode b_A_reckon 68 = .ok (.goto 36, 3) := by decide +kernel
theorem d_A_reckon_71 : decode b_A_reckon 71 = .ok (.ldc2_w 309, 3) := by decide +kernel
theorem d_A_reckon_74 : decode b_A_reckon 74 = .ok (.lload_n 1, 1) := by decide +kernel
theorem d_A_reckon_75 : decode b_A_reckon 75 = .ok (.lmul, 1) := by decide +kernel
theorem d_A_reckon_76 : decode b_A_reckon 76 = .ok (.lload 4, 2) := by decide +kernel
theorem d_A_reckon_78 : decode b_A_reckon 78 = .ok (.ladd, 1) := by decide +kernel
theorem d_A_reckon_79 : decode b_A_reckon 79 = .ok (.lstore 6, 2) := by decide +kernel
theorem d_A_reckon_81 : decode b_A_reckon 81 = .ok (.goto 23, 3) := by decide +kernel
theorem d_A_reckon_84 : decode b_A_reckon 84 = .ok (.lload 4, 2) := by decide +kernel
theorem d_A_reckon_86 : decode b_A_reckon 86 = .ok (.lconst 0, 1) := by decide +kernel
theorem d_A_reckon_87 : decode b_A_reckon 87 = .ok (.lcmp, 1) := by decide +kernel
theorem d_A_reckon_88 : decode b_A_reckon 88 = .ok (.ifCond .ne 10, 3) := by decide +kernel
theorem d_A_reckon_91 : decode b_A_reckon 91 = .ok (.aload_n 0, 1) := by decide +kernel
theorem d_A_reckon_92 : decode b_A_reckon 92 = .ok (.iconst 4, 1) := by decide +kernel
theorem d_A_reckon_93 : decode b_A_reckon 93 = .ok (.invokevirtual 84, 3) := by decide +kernel
theorem d_A_reckon_96 : decode b_A_reckon 96 = .ok (.i2l, 1) := by decide +kernel
theorem d_A_reckon_97 : decode b_A_reckon 97 = .ok (.lreturn, 1) := by decide +kernel
theorem d_A_reckon_98 : decode b_A_reckon 98 = .ok (.lload_n 1, 1) := by decide +kernel
theorem d_A_reckon_99 : decode b_A_reckon 99 = .ok (.lload 4, 2) := by decide +kernel
theorem d_A_reckon_101 : decode b_A_reckon 101 = .ok (.ldiv, 1) := by decide +kernel
theorem d_A_reckon_102 : decode b_A_reckon 102 = .ok (.lstore 6, 2) := by decide +kernel
theorem d_A_reckon_104 : decode b_A_reckon 104 = .ok (.lload 6, 2) := by decide +kernel
theorem d_A_reckon_106 : decode b_A_reckon 106 = .ok (.invokestatic 311, 3) := by decide +kernel
theorem d_A_reckon_109 : decode b_A_reckon 109 = .ok (.ldc2_w 314, 3) := by decide +kernel
theorem d_A_reckon_112 : decode b_A_reckon 112 = .ok (.lcmp, 1) := by decide +kernel
theorem d_A_reckon_113 : decode b_A_reckon 113 = .ok (.ifCond .le 12, 3) := by decide +kernel
theorem d_A_reckon_116 : decode b_A_reckon 116 = .ok (.aload_n 0, 1) := by decide +kernel
theorem d_A_reckon_117 : decode b_A_reckon 117 = .ok (.iconst 4, 1) := by decide +kernel
theorem d_A_reckon_118 : decode b_A_reckon 118 = .ok (.invokevirtual 84, 3) := by decide +kernel
theorem d_A_reckon_121 : decode b_A_reckon 121 = .ok (.i2l, 1) := by decide +kernel
theorem d_A_reckon_122 : decode b_A_reckon 122 = .ok (.goto 5, 3) := by decide +kernel
theorem d_A_reckon_125 : decode b_A_reckon 125 = .ok (.lload 6, 2) := by decide +kernel
theorem d_A_reckon_127 : decode b_A_reckon 127 = .ok (.lreturn, 1) := by decide +kernel
abbrev b_T_init : ByteArray := prog_8_method_1_code
abbrev y_T_init : MethodName := ⟨"SignMachine$Tape", "<init>", "()V"⟩
theorem h_T_init : (y_T_init).cls ≠ "java/lang/invoke/MethodHandle" ∧ (y_T_init).cls ≠ "java/lang/invoke/VarHandle" ∧ (parseMethodDescriptor (y_T_init).desc).map (fun d => d.parameters.length) = some 0 := by decide +kernel
theorem d_T_init_0 : decode b_T_init 0 = .ok (.aload_n 0, 1) := by decide +kernel
theorem d_T_init_1 : decode b_T_init 1 = .ok (.invokespecial 1, 3) := by decide +kernel
theorem d_T_init_4 : decode b_T_init 4 = .ok (.return_, 1) := by decide +kernel
abbrev b_M_init : ByteArray := prog_3_method_1_code
abbrev y_M_init : MethodName := ⟨"SignMachine$Machine", "<init>", "()V"⟩
theorem h_M_init : (y_M_init).cls ≠ "java/lang/invoke/MethodHandle" ∧ (y_M_init).cls ≠ "java/lang/invoke/VarHandle" ∧ (parseMethodDescriptor (y_M_init).desc).map (fun d => d.parameters.length) = some 0 := by decide +kernel
theorem d_M_init_0 : decode b_M_init 0 = .ok (.aload_n 0, 1) := by decide +kernel
theorem d_M_init_1 : decode b_M_init 1 = .ok (.invokespecial 3, 3) := by decide +kernel
theorem d_M_init_4 : decode b_M_init 4 = .ok (.aload_n 0, 1) := by decide +kernel
theorem d_M_init_5 : decode b_M_init 5 = .ok (.sipush 4000, 3) := by decide +kernel
theorem d_M_init_8 : decode b_M_init 8 = .ok (.newarray .int, 2) := by decide +kernel
theorem d_M_init_10 : decode b_M_init 10 = .ok (.putfield 9, 3) := by decide +kernel
theorem d_M_init_13 : decode b_M_init 13 = .ok (.aload_n 0, 1) := by decide +kernel
theorem d_M_init_14 : decode b_M_init 14 = .ok (.bipush 9, 2) := by decide +kernel
theorem d_M_init_16 : decode b_M_init 16 = .ok (.newarray .int, 2) := by decide +kernel
theorem d_M_init_18 : decode b_M_init 18 = .ok (.putfield 15, 3) := by decide +kernel
theorem d_M_init_21 : decode b_M_init 21 = .ok (.aload_n 0, 1) := by decide +kernel
theorem d_M_init_22 : decode b_M_init 22 = .ok (.new 18, 3) := by decide +kernel
theorem d_M_init_25 : decode b_M_init 25 = .ok (.dup, 1) := by decide +kernel
theorem d_M_init_26 : decode b_M_init 26 = .ok (.invokespecial 20, 3) := by decide +kernel
theorem d_M_init_29 : decode b_M_init 29 = .ok (.putfield 21, 3) := by decide +kernel
theorem d_M_init_32 : decode b_M_init 32 = .ok (.aload_n 0, 1) := by decide +kernel
theorem d_M_init_33 : decode b_M_init 33 = .ok (.new 18, 3) := by decide +kernel
theorem d_M_init_36 : decode b_M_init 36 = .ok (.dup, 1) := by decide +kernel
theorem d_M_init_37 : decode b_M_init 37 = .ok (.invokespecial 20, 3) := by decide +kernel
theorem d_M_init_40 : decode b_M_init 40 = .ok (.putfield 25, 3) := by decide +kernel
theorem d_M_init_43 : decode b_M_init 43 = .ok (.return_, 1) := by decide +kernel
abbrev b_R_init : ByteArray := prog_7_method_1_code
abbrev y_R_init : MethodName := ⟨"SignMachine$Source", "<init>", "()V"⟩
theorem h_R_init : (y_R_init).cls ≠ "java/lang/invoke/MethodHandle" ∧ (y_R_init).cls ≠ "java/lang/invoke/VarHandle" ∧ (parseMethodDescriptor (y_R_init).desc).map (fun d => d.parameters.length) = some 0 := by decide +kernel
theorem d_R_init_0 : decode b_R_init 0 = .ok (.aload_n 0, 1) := by decide +kernel
theorem d_R_init_1 : decode b_R_init 1 = .ok (.invokespecial 1, 3) := by decide +kernel
theorem d_R_init_4 : decode b_R_init 4 = .ok (.aload_n 0, 1) := by decide +kernel
theorem d_R_init_5 : decode b_R_init 5 = .ok (.sipush 4000, 3) := by decide +kernel
theorem d_R_init_8 : decode b_R_init 8 = .ok (.newarray .byte, 2) := by decide +kernel
theorem d_R_init_10 : decode b_R_init 10 = .ok (.putfield 9, 3) := by decide +kernel
theorem d_R_init_13 : decode b_R_init 13 = .ok (.return_, 1) := by decide +kernel
abbrev b_N_init : ByteArray := prog_4_method_1_code
abbrev y_N_init : MethodName := ⟨"SignMachine$Names", "<init>", "()V"⟩
theorem h_N_init : (y_N_init).cls ≠ "java/lang/invoke/MethodHandle" ∧ (y_N_init).cls ≠ "java/lang/invoke/VarHandle" ∧ (parseMethodDescriptor (y_N_init).desc).map (fun d => d.parameters.length) = some 0 := by decide +kernel
theorem d_N_init_0 : decode b_N_init 0 = .ok (.aload_n 0, 1) := by decide +kernel
theorem d_N_init_1 : decode b_N_init 1 = .ok (.invokespecial 5, 3) := by decide +kernel
theorem d_N_init_4 : decode b_N_init 4 = .ok (.aload_n 0, 1) := by decide +kernel
theorem d_N_init_5 : decode b_N_init 5 = .ok (.bipush 100, 2) := by decide +kernel
theorem d_N_init_7 : decode b_N_init 7 = .ok (.newarray .long, 2) := by decide +kernel
theorem d_N_init_9 : decode b_N_init 9 = .ok (.putfield 11, 3) := by decide +kernel
theorem d_N_init_12 : decode b_N_init 12 = .ok (.aload_n 0, 1) := by decide +kernel
theorem d_N_init_13 : decode b_N_init 13 = .ok (.bipush 100, 2) := by decide +kernel
theorem d_N_init_15 : decode b_N_init 15 = .ok (.newarray .int, 2) := by decide +kernel
theorem d_N_init_17 : decode b_N_init 17 = .ok (.putfield 15, 3) := by decide +kernel
theorem d_N_init_20 : decode b_N_init 20 = .ok (.aload_n 0, 1) := by decide +kernel
theorem d_N_init_21 : decode b_N_init 21 = .ok (.bipush 100, 2) := by decide +kernel
theorem d_N_init_23 : decode b_N_init 23 = .ok (.newarray .boolean, 2) := by decide +kernel
theorem d_N_init_25 : decode b_N_init 25 = .ok (.putfield 19, 3) := by decide +kernel
theorem d_N_init_28 : decode b_N_init 28 = .ok (.aload_n 0, 1) := by decide +kernel
theorem d_N_init_29 : decode b_N_init 29 = .ok (.bipush 10, 2) := by decide +kernel
theorem d_N_init_31 : decode b_N_init 31 = .ok (.newarray .int, 2) := by decide +kernel
theorem d_N_init_33 : decode b_N_init 33 = .ok (.putfield 23, 3) := by decide +kernel
theorem d_N_init_36 : decode b_N_init 36 = .ok (.aload_n 0, 1) := by decide +kernel
theorem d_N_init_37 : decode b_N_init 37 = .ok (.bipush 10, 2) := by decide +kernel
theorem d_N_init_39 : decode b_N_init 39 = .ok (.newarray .boolean, 2) := by decide +kernel
theorem d_N_init_41 : decode b_N_init 41 = .ok (.putfield 26, 3) := by decide +kernel
theorem d_N_init_44 : decode b_N_init 44 = .ok (.return_, 1) := by decide +kernel
abbrev b_O_init : ByteArray := prog_6_method_1_code
abbrev y_O_init : MethodName := ⟨"SignMachine$Output", "<init>", "()V"⟩
theorem h_O_init : (y_O_init).cls ≠ "java/lang/invoke/MethodHandle" ∧ (y_O_init).cls ≠ "java/lang/invoke/VarHandle" ∧ (parseMethodDescriptor (y_O_init).desc).map (fun d => d.parameters.length) = some 0 := by decide +kernel
theorem d_O_init_0 : decode b_O_init 0 = .ok (.aload_n 0, 1) := by decide +kernel
theorem d_O_init_1 : decode b_O_init 1 = .ok (.invokespecial 7, 3) := by decide +kernel
theorem d_O_init_4 : decode b_O_init 4 = .ok (.aload_n 0, 1) := by decide +kernel
theorem d_O_init_5 : decode b_O_init 5 = .ok (.sipush 1101, 3) := by decide +kernel
theorem d_O_init_8 : decode b_O_init 8 = .ok (.newarray .int, 2) := by decide +kernel
theorem d_O_init_10 : decode b_O_init 10 = .ok (.putfield 15, 3) := by decide +kernel
theorem d_O_init_13 : decode b_O_init 13 = .ok (.aload_n 0, 1) := by decide +kernel
theorem d_O_init_14 : decode b_O_init 14 = .ok (.sipush 1101, 3) := by decide +kernel
theorem d_O_init_17 : decode b_O_init 17 = .ok (.newarray .int, 2) := by decide +kernel
theorem d_O_init_19 : decode b_O_init 19 = .ok (.putfield 19, 3) := by decide +kernel
theorem d_O_init_22 : decode b_O_init 22 = .ok (.aload_n 0, 1) := by decide +kernel
theorem d_O_init_23 : decode b_O_init 23 = .ok (.sipush 1101, 3) := by decide +kernel
theorem d_O_init_26 : decode b_O_init 26 = .ok (.newarray .int, 2) := by decide +kernel
theorem d_O_init_28 : decode b_O_init 28 = .ok (.putfield 22, 3) := by decide +kernel
theorem d_O_init_31 : decode b_O_init 31 = .ok (.aload_n 0, 1) := by decide +kernel
theorem d_O_init_32 : decode b_O_init 32 = .ok (.sipush 1101, 3) := by decide +kernel
theorem d_O_init_35 : decode b_O_init 35 = .ok (.newarray .byte, 2) := by decide +kernel
theorem d_O_init_37 : decode b_O_init 37 = .ok (.putfield 25, 3) := by decide +kernel
theorem d_O_init_40 : decode b_O_init 40 = .ok (.aload_n 0, 1) := by decide +kernel
theorem d_O_init_41 : decode b_O_init 41 = .ok (.sipush 1101, 3) := by decide +kernel
theorem d_O_init_44 : decode b_O_init 44 = .ok (.newarray .int, 2) := by decide +kernel
theorem d_O_init_46 : decode b_O_init 46 = .ok (.putfield 29, 3) := by decide +kernel
theorem d_O_init_49 : decode b_O_init 49 = .ok (.aload_n 0, 1) := by decide +kernel
theorem d_O_init_50 : decode b_O_init 50 = .ok (.bipush 10, 2) := by decide +kernel
theorem d_O_init_52 : decode b_O_init 52 = .ok (.newarray .int, 2) := by decide +kernel
theorem d_O_init_54 : decode b_O_init 54 = .ok (.putfield 32, 3) := by decide +kernel
theorem d_O_init_57 : decode b_O_init 57 = .ok (.return_, 1) := by decide +kernel
abbrev b_A_init : ByteArray := prog_2_method_1_code
abbrev y_A_init : MethodName := ⟨"SignMachine$Assembler", "<init>", "()V"⟩
theorem h_A_init : (y_A_init).cls ≠ "java/lang/invoke/MethodHandle" ∧ (y_A_init).cls ≠ "java/lang/invoke/VarHandle" ∧ (parseMethodDescriptor (y_A_init).desc).map (fun d => d.parameters.length) = some 0 := by decide +kernel
theorem d_A_init_0 : decode b_A_init 0 = .ok (.aload_n 0, 1) := by decide +kernel
theorem d_A_init_1 : decode b_A_init 1 = .ok (.invokespecial 3, 3) := by decide +kernel
theorem d_A_init_4 : decode b_A_init 4 = .ok (.aload_n 0, 1) := by decide +kernel
theorem d_A_init_5 : decode b_A_init 5 = .ok (.new 9, 3) := by decide +kernel
theorem d_A_init_8 : decode b_A_init 8 = .ok (.dup, 1) := by decide +kernel
theorem d_A_init_9 : decode b_A_init 9 = .ok (.invokespecial 11, 3) := by decide +kernel
theorem d_A_init_12 : decode b_A_init 12 = .ok (.putfield 12, 3) := by decide +kernel
theorem d_A_init_15 : decode b_A_init 15 = .ok (.aload_n 0, 1) := by decide +kernel
theorem d_A_init_16 : decode b_A_init 16 = .ok (.new 18, 3) := by decide +kernel
theorem d_A_init_19 : decode b_A_init 19 = .ok (.dup, 1) := by decide +kernel
theorem d_A_init_20 : decode b_A_init 20 = .ok (.invokespecial 20, 3) := by decide +kernel
theorem d_A_init_23 : decode b_A_init 23 = .ok (.putfield 21, 3) := by decide +kernel
theorem d_A_init_26 : decode b_A_init 26 = .ok (.aload_n 0, 1) := by decide +kernel
theorem d_A_init_27 : decode b_A_init 27 = .ok (.new 25, 3) := by decide +kernel
theorem d_A_init_30 : decode b_A_init 30 = .ok (.dup, 1) := by decide +kernel
theorem d_A_init_31 : decode b_A_init 31 = .ok (.invokespecial 27, 3) := by decide +kernel
theorem d_A_init_34 : decode b_A_init 34 = .ok (.putfield 28, 3) := by decide +kernel
theorem d_A_init_37 : decode b_A_init 37 = .ok (.aload_n 0, 1) := by decide +kernel
theorem d_A_init_38 : decode b_A_init 38 = .ok (.iconst (-1), 1) := by decide +kernel
theorem d_A_init_39 : decode b_A_init 39 = .ok (.putfield 32, 3) := by decide +kernel
theorem d_A_init_42 : decode b_A_init 42 = .ok (.return_, 1) := by decide +kernel
abbrev b_S_init : ByteArray := prog_1_method_1_code
abbrev y_S_init : MethodName := ⟨"SignMachine", "<init>", "()V"⟩
theorem h_S_init : (y_S_init).cls ≠ "java/lang/invoke/MethodHandle" ∧ (y_S_init).cls ≠ "java/lang/invoke/VarHandle" ∧ (parseMethodDescriptor (y_S_init).desc).map (fun d => d.parameters.length) = some 0 := by decide +kernel
theorem d_S_init_0 : decode b_S_init 0 = .ok (.aload_n 0, 1) := by decide +kernel
theorem d_S_init_1 : decode b_S_init 1 = .ok (.invokespecial 1, 3) := by decide +kernel
theorem d_S_init_4 : decode b_S_init 4 = .ok (.aload_n 0, 1) := by decide +kernel
theorem d_S_init_5 : decode b_S_init 5 = .ok (.new 7, 3) := by decide +kernel
theorem d_S_init_8 : decode b_S_init 8 = .ok (.dup, 1) := by decide +kernel
theorem d_S_init_9 : decode b_S_init 9 = .ok (.invokespecial 9, 3) := by decide +kernel
theorem d_S_init_12 : decode b_S_init 12 = .ok (.putfield 10, 3) := by decide +kernel
theorem d_S_init_15 : decode b_S_init 15 = .ok (.return_, 1) := by decide +kernel
theorem k_0 : (Cond.selects "SignMachine$Machine" ⟨"SignMachine$Machine", "decode", "(I)V"⟩ ⟨"SignMachine$Machine", "decode", "(I)V"⟩) ∈ tb := mt 0 (by decide +kernel) rfl
theorem k_1 : (Cond.selects "SignMachine$Machine" ⟨"SignMachine$Machine", "reasonAgainst", "()I"⟩ ⟨"SignMachine$Machine", "reasonAgainst", "()I"⟩) ∈ tb := mt 1 (by decide +kernel) rfl
theorem k_2 : (Cond.selects "SignMachine$Machine" ⟨"SignMachine$Machine", "shapeCanBe", "()Z"⟩ ⟨"SignMachine$Machine", "shapeCanBe", "()Z"⟩) ∈ tb := mt 2 (by decide +kernel) rfl
theorem k_3 : (Cond.selects "SignMachine$Machine" ⟨"SignMachine$Machine", "hasFieldOfWord", "()Z"⟩ ⟨"SignMachine$Machine", "hasFieldOfWord", "()Z"⟩) ∈ tb := mt 3 (by decide +kernel) rfl
theorem k_4 : (Cond.selects "SignMachine$Machine" ⟨"SignMachine$Machine", "addressCanBe", "()Z"⟩ ⟨"SignMachine$Machine", "addressCanBe", "()Z"⟩) ∈ tb := mt 4 (by decide +kernel) rfl
theorem k_5 : (Cond.selects "SignMachine$Machine" ⟨"SignMachine$Machine", "canMove", "()Z"⟩ ⟨"SignMachine$Machine", "canMove", "()Z"⟩) ∈ tb := mt 5 (by decide +kernel) rfl
theorem k_6 : (Cond.selects "SignMachine$Machine" ⟨"SignMachine$Machine", "indexCanBe", "()Z"⟩ ⟨"SignMachine$Machine", "indexCanBe", "()Z"⟩) ∈ tb := mt 6 (by decide +kernel) rfl
theorem k_7 : (Cond.selects "SignMachine$Machine" ⟨"SignMachine$Machine", "value", "()I"⟩ ⟨"SignMachine$Machine", "value", "()I"⟩) ∈ tb := mt 7 (by decide +kernel) rfl
theorem k_8 : (Cond.selects "SignMachine$Machine" ⟨"SignMachine$Machine", "numberByAddress", "()I"⟩ ⟨"SignMachine$Machine", "numberByAddress", "()I"⟩) ∈ tb := mt 8 (by decide +kernel) rfl
theorem k_9 : (Cond.selects "SignMachine$Machine" ⟨"SignMachine$Machine", "blockCanBe", "()Z"⟩ ⟨"SignMachine$Machine", "blockCanBe", "()Z"⟩) ∈ tb := mt 9 (by decide +kernel) rfl
theorem k_10 : (Cond.selects "SignMachine$Machine" ⟨"SignMachine$Machine", "duration", "()I"⟩ ⟨"SignMachine$Machine", "duration", "()I"⟩) ∈ tb := mt 10 (by decide +kernel) rfl
theorem k_12 : (Cond.selects "SignMachine$Machine" ⟨"SignMachine$Machine", "performLow", "()V"⟩ ⟨"SignMachine$Machine", "performLow", "()V"⟩) ∈ tb := mt 12 (by decide +kernel) rfl
theorem k_13 : (Cond.selects "SignMachine$Machine" ⟨"SignMachine$Machine", "addTo", "(II)V"⟩ ⟨"SignMachine$Machine", "addTo", "(II)V"⟩) ∈ tb := mt 13 (by decide +kernel) rfl
theorem k_14 : (Cond.selects "SignMachine$Machine" ⟨"SignMachine$Machine", "multiply", "(I)V"⟩ ⟨"SignMachine$Machine", "multiply", "(I)V"⟩) ∈ tb := mt 14 (by decide +kernel) rfl
theorem k_15 : (Cond.selects "SignMachine$Machine" ⟨"SignMachine$Machine", "divide", "(I)V"⟩ ⟨"SignMachine$Machine", "divide", "(I)V"⟩) ∈ tb := mt 15 (by decide +kernel) rfl
theorem k_16 : (Cond.selects "SignMachine$Machine" ⟨"SignMachine$Machine", "sizeOfAX", "()J"⟩ ⟨"SignMachine$Machine", "sizeOfAX", "()J"⟩) ∈ tb := mt 16 (by decide +kernel) rfl
theorem k_17 : (Cond.selects "SignMachine$Machine" ⟨"SignMachine$Machine", "convert", "()V"⟩ ⟨"SignMachine$Machine", "convert", "()V"⟩) ∈ tb := mt 17 (by decide +kernel) rfl
theorem k_18 : (Cond.selects "SignMachine$Machine" ⟨"SignMachine$Machine", "becomeNumber", "()V"⟩ ⟨"SignMachine$Machine", "becomeNumber", "()V"⟩) ∈ tb := mt 18 (by decide +kernel) rfl
theorem k_19 : (Cond.selects "SignMachine$Machine" ⟨"SignMachine$Machine", "becomeDigits", "()V"⟩ ⟨"SignMachine$Machine", "becomeDigits", "()V"⟩) ∈ tb := mt 19 (by decide +kernel) rfl
theorem k_20 : (Cond.selects "SignMachine$Machine" ⟨"SignMachine$Machine", "putSizesOfAX", "(J)V"⟩ ⟨"SignMachine$Machine", "putSizesOfAX", "(J)V"⟩) ∈ tb := mt 20 (by decide +kernel) rfl
theorem k_21 : (Cond.selects "SignMachine$Machine" ⟨"SignMachine$Machine", "shift", "()V"⟩ ⟨"SignMachine$Machine", "shift", "()V"⟩) ∈ tb := mt 21 (by decide +kernel) rfl
theorem k_22 : (Cond.selects "SignMachine$Machine" ⟨"SignMachine$Machine", "moveWords", "()V"⟩ ⟨"SignMachine$Machine", "moveWords", "()V"⟩) ∈ tb := mt 22 (by decide +kernel) rfl
theorem k_23 : (Cond.selects "SignMachine$Machine" ⟨"SignMachine$Machine", "storeWord", "(I)V"⟩ ⟨"SignMachine$Machine", "storeWord", "(I)V"⟩) ∈ tb := mt 23 (by decide +kernel) rfl
theorem k_25 : (Cond.selects "SignMachine$Machine" ⟨"SignMachine$Machine", "wind", "()V"⟩ ⟨"SignMachine$Machine", "wind", "()V"⟩) ∈ tb := mt 25 (by decide +kernel) rfl
theorem k_28 : (Cond.selects "SignMachine$Machine" ⟨"SignMachine$Machine", "goIf", "(Z)V"⟩ ⟨"SignMachine$Machine", "goIf", "(Z)V"⟩) ∈ tb := mt 28 (by decide +kernel) rfl
theorem k_29 : (Cond.selects "SignMachine$Machine" ⟨"SignMachine$Machine", "goByState", "()V"⟩ ⟨"SignMachine$Machine", "goByState", "()V"⟩) ∈ tb := mt 29 (by decide +kernel) rfl
theorem k_30 : (Cond.selects "SignMachine$Machine" ⟨"SignMachine$Machine", "registerIs", "(I)Z"⟩ ⟨"SignMachine$Machine", "registerIs", "(I)Z"⟩) ∈ tb := mt 30 (by decide +kernel) rfl
theorem k_31 : (Cond.selects "SignMachine$Machine" ⟨"SignMachine$Machine", "changeByAddress", "(I)V"⟩ ⟨"SignMachine$Machine", "changeByAddress", "(I)V"⟩) ∈ tb := mt 31 (by decide +kernel) rfl
theorem k_32 : (Cond.selects "SignMachine$Machine" ⟨"SignMachine$Machine", "compareField", "(I)V"⟩ ⟨"SignMachine$Machine", "compareField", "(I)V"⟩) ∈ tb := mt 32 (by decide +kernel) rfl
theorem k_34 : (Cond.selects "SignMachine$Assembler" ⟨"SignMachine$Assembler", "isNothing", "()Z"⟩ ⟨"SignMachine$Assembler", "isNothing", "()Z"⟩) ∈ tb := mt 34 (by decide +kernel) rfl
theorem k_35 : (Cond.selects "SignMachine$Assembler" ⟨"SignMachine$Assembler", "readLabel", "()V"⟩ ⟨"SignMachine$Assembler", "readLabel", "()V"⟩) ∈ tb := mt 35 (by decide +kernel) rfl
theorem k_36 : (Cond.selects "SignMachine$Assembler" ⟨"SignMachine$Assembler", "fail", "(I)I"⟩ ⟨"SignMachine$Assembler", "fail", "(I)I"⟩) ∈ tb := mt 36 (by decide +kernel) rfl
theorem k_39 : (Cond.selects "SignMachine$Assembler" ⟨"SignMachine$Assembler", "tellLabel", "(I)V"⟩ ⟨"SignMachine$Assembler", "tellLabel", "(I)V"⟩) ∈ tb := mt 39 (by decide +kernel) rfl
theorem k_40 : (Cond.selects "SignMachine$Assembler" ⟨"SignMachine$Assembler", "tellSymbol", "(I)V"⟩ ⟨"SignMachine$Assembler", "tellSymbol", "(I)V"⟩) ∈ tb := mt 40 (by decide +kernel) rfl
theorem k_41 : (Cond.selects "SignMachine$Names" ⟨"SignMachine$Names", "add", "(JI)I"⟩ ⟨"SignMachine$Names", "add", "(JI)I"⟩) ∈ tb := mt 41 (by decide +kernel) rfl
theorem k_43 : (Cond.selects "SignMachine$Assembler" ⟨"SignMachine$Assembler", "putWord", "(I)V"⟩ ⟨"SignMachine$Assembler", "putWord", "(I)V"⟩) ∈ tb := mt 43 (by decide +kernel) rfl
theorem k_44 : (Cond.selects "SignMachine$Assembler" ⟨"SignMachine$Assembler", "putInstruction", "(I)V"⟩ ⟨"SignMachine$Assembler", "putInstruction", "(I)V"⟩) ∈ tb := mt 44 (by decide +kernel) rfl
theorem k_49 : (Cond.selects "SignMachine$Assembler" ⟨"SignMachine$Assembler", "atomValue", "()I"⟩ ⟨"SignMachine$Assembler", "atomValue", "()I"⟩) ∈ tb := mt 49 (by decide +kernel) rfl
theorem k_50 : (Cond.selects "SignMachine$Assembler" ⟨"SignMachine$Assembler", "reckon", "(JIJ)J"⟩ ⟨"SignMachine$Assembler", "reckon", "(JIJ)J"⟩) ∈ tb := mt 50 (by decide +kernel) rfl
theorem k_51 : (Cond.selects "SignMachine$Assembler" ⟨"SignMachine$Assembler", "expectBracket", "()V"⟩ ⟨"SignMachine$Assembler", "expectBracket", "()V"⟩) ∈ tb := mt 51 (by decide +kernel) rfl
theorem k_52 : (Cond.selects "SignMachine$Assembler" ⟨"SignMachine$Assembler", "takeLiteral", "(I)V"⟩ ⟨"SignMachine$Assembler", "takeLiteral", "(I)V"⟩) ∈ tb := mt 52 (by decide +kernel) rfl
theorem k_53 : (Cond.selects "SignMachine$Assembler" ⟨"SignMachine$Assembler", "readLaterName", "()Z"⟩ ⟨"SignMachine$Assembler", "readLaterName", "()Z"⟩) ∈ tb := mt 53 (by decide +kernel) rfl
theorem k_54 : (Cond.selects "SignMachine$Assembler" ⟨"SignMachine$Assembler", "isLaterSymbol", "(J)Z"⟩ ⟨"SignMachine$Assembler", "isLaterSymbol", "(J)Z"⟩) ∈ tb := mt 54 (by decide +kernel) rfl
theorem k_55 : (Cond.selects "SignMachine$Assembler" ⟨"SignMachine$Assembler", "expectEnd", "()V"⟩ ⟨"SignMachine$Assembler", "expectEnd", "()V"⟩) ∈ tb := mt 55 (by decide +kernel) rfl
theorem k_58 : (Cond.selects "SignMachine$Assembler" ⟨"SignMachine$Assembler", "close", "(I)V"⟩ ⟨"SignMachine$Assembler", "close", "(I)V"⟩) ∈ tb := mt 58 (by decide +kernel) rfl
theorem k_116 : ((Jvm.Cond.initialized "SignMachine")) ∈ tb := mt 116 (by decide +kernel) rfl
theorem k_117 : ((Jvm.Cond.initialized "SignMachine$Machine")) ∈ tb := mt 117 (by decide +kernel) rfl
theorem k_118 : ((Jvm.Cond.initialized "SignMachine$Tape")) ∈ tb := mt 118 (by decide +kernel) rfl
theorem k_120 : ((Jvm.Cond.initialized "SignMachine$Word")) ∈ tb := mt 120 (by decide +kernel) rfl
theorem k_121 : ((Jvm.Cond.initialized "java/lang/Math")) ∈ tb := mt 121 (by decide +kernel) rfl
theorem k_122 : ((Jvm.Cond.initialized "java/lang/Integer")) ∈ tb := mt 122 (by decide +kernel) rfl
theorem k_123 : ((Jvm.Cond.initialized "SignMachine$Assembler")) ∈ tb := mt 123 (by decide +kernel) rfl
theorem k_124 : ((Jvm.Cond.initialized "SignMachine$Source")) ∈ tb := mt 124 (by decide +kernel) rfl
theorem k_125 : ((Jvm.Cond.initialized "SignMachine$Names")) ∈ tb := mt 125 (by decide +kernel) rfl
theorem k_126 : ((Jvm.Cond.initialized "SignMachine$Output")) ∈ tb := mt 126 (by decide +kernel) rfl
theorem k_137 : ((Jvm.Cond.instanceMethod ({ cls := "SignMachine", name := "<init>", desc := "()V" } : Jvm.MethodName))) ∈ tb := mt 137 (by decide +kernel) rfl
theorem k_138 : ((Jvm.Cond.code ({ cls := "SignMachine", name := "<init>", desc := "()V" } : Jvm.MethodName) prog_1_method_1_code (1 : Nat) (Option.none : Option Jvm.ClassFile.FieldType))) ∈ tb := mt 138 (by decide +kernel) rfl
theorem k_139 : ((Jvm.Cond.methodLink "SignMachine" (1 : Nat) ({ cls := "java/lang/Object", name := "<init>", desc := "()V" } : Jvm.MethodName))) ∈ tb := mt 139 (by decide +kernel) rfl
theorem k_140 : ((Jvm.Cond.instanceMethod ({ cls := "java/lang/Object", name := "<init>", desc := "()V" } : Jvm.MethodName))) ∈ tb := mt 140 (by decide +kernel) rfl
theorem k_142 : ((Jvm.Cond.classLink "SignMachine" (7 : Nat) "SignMachine$Machine")) ∈ tb := mt 142 (by decide +kernel) rfl
theorem k_143 : ((Jvm.Cond.instantiable "SignMachine$Machine" (14 : Nat))) ∈ tb := mt 143 (by decide +kernel) rfl
theorem k_145 : ((Jvm.Cond.instanceMethod ({ cls := "SignMachine$Machine", name := "<init>", desc := "()V" } : Jvm.MethodName))) ∈ tb := mt 145 (by decide +kernel) rfl
theorem k_146 : ((Jvm.Cond.code ({ cls := "SignMachine$Machine", name := "<init>", desc := "()V" } : Jvm.MethodName) prog_3_method_1_code (1 : Nat) (Option.none : Option Jvm.ClassFile.FieldType))) ∈ tb := mt 146 (by decide +kernel) rfl
theorem k_147 : ((Jvm.Cond.methodLink "SignMachine$Machine" (3 : Nat) ({ cls := "java/lang/Object", name := "<init>", desc := "()V" } : Jvm.MethodName))) ∈ tb := mt 147 (by decide +kernel) rfl
theorem k_148 : ((Jvm.Cond.classLink "SignMachine$Machine" (18 : Nat) "SignMachine$Tape")) ∈ tb := mt 148 (by decide +kernel) rfl
theorem k_149 : ((Jvm.Cond.instantiable "SignMachine$Tape" (2 : Nat))) ∈ tb := mt 149 (by decide +kernel) rfl
theorem k_151 : ((Jvm.Cond.instanceMethod ({ cls := "SignMachine$Tape", name := "<init>", desc := "()V" } : Jvm.MethodName))) ∈ tb := mt 151 (by decide +kernel) rfl
theorem k_152 : ((Jvm.Cond.code ({ cls := "SignMachine$Tape", name := "<init>", desc := "()V" } : Jvm.MethodName) prog_8_method_1_code (1 : Nat) (Option.none : Option Jvm.ClassFile.FieldType))) ∈ tb := mt 152 (by decide +kernel) rfl
theorem k_153 : ((Jvm.Cond.methodLink "SignMachine$Tape" (1 : Nat) ({ cls := "java/lang/Object", name := "<init>", desc := "()V" } : Jvm.MethodName))) ∈ tb := mt 153 (by decide +kernel) rfl
theorem k_162 : ((Jvm.Cond.arrayClass Jvm.ClassFile.FieldType.int)) ∈ tb := mt 162 (by decide +kernel) rfl
theorem k_163 : ((Jvm.Cond.fieldLink "SignMachine$Machine" (9 : Nat) "SignMachine$Machine" "memory" "[I")) ∈ tb := mt 163 (by decide +kernel) rfl
theorem k_164 : ((Jvm.Cond.fieldLink "SignMachine$Machine" (15 : Nat) "SignMachine$Machine" "registers" "[I")) ∈ tb := mt 164 (by decide +kernel) rfl
theorem k_165 : ((Jvm.Cond.fieldLink "SignMachine$Machine" (21 : Nat) "SignMachine$Machine" "firstTape" "LSignMachine$Tape;")) ∈ tb := mt 165 (by decide +kernel) rfl
theorem k_166 : ((Jvm.Cond.fieldLink "SignMachine$Machine" (25 : Nat) "SignMachine$Machine" "secondTape" "LSignMachine$Tape;")) ∈ tb := mt 166 (by decide +kernel) rfl
theorem k_168 : ((Jvm.Cond.fieldLink "SignMachine$Machine" (196 : Nat) "SignMachine$Machine" "toggle" "Z")) ∈ tb := mt 168 (by decide +kernel) rfl
theorem k_170 : ((Jvm.Cond.fieldLink "SignMachine$Machine" (244 : Nat) "SignMachine$Machine" "indicator" "I")) ∈ tb := mt 170 (by decide +kernel) rfl
theorem k_174 : ((Jvm.Cond.fieldLink "SignMachine$Machine" (32 : Nat) "SignMachine$Machine" "next" "I")) ∈ tb := mt 174 (by decide +kernel) rfl
theorem k_176 : ((Jvm.Cond.fieldLink "SignMachine$Machine" (61 : Nat) "SignMachine$Machine" "code" "I")) ∈ tb := mt 176 (by decide +kernel) rfl
theorem k_177 : ((Jvm.Cond.fieldLink "SignMachine$Machine" (64 : Nat) "SignMachine$Machine" "field" "I")) ∈ tb := mt 177 (by decide +kernel) rfl
theorem k_178 : ((Jvm.Cond.fieldLink "SignMachine$Machine" (72 : Nat) "SignMachine$Machine" "index" "I")) ∈ tb := mt 178 (by decide +kernel) rfl
theorem k_179 : ((Jvm.Cond.fieldLink "SignMachine$Machine" (81 : Nat) "SignMachine$Machine" "m" "I")) ∈ tb := mt 179 (by decide +kernel) rfl
theorem k_180 : ((Jvm.Cond.fieldLink "SignMachine$Machine" (78 : Nat) "SignMachine$Machine" "signOfZero" "I")) ∈ tb := mt 180 (by decide +kernel) rfl
theorem k_210 : ((Jvm.Cond.fieldLink "SignMachine" (10 : Nat) "SignMachine" "machine" "LSignMachine$Machine;")) ∈ tb := mt 210 (by decide +kernel) rfl
theorem k_222 : ((Jvm.Cond.static ({ cls := "SignMachine$Machine", name := "isAddress", desc := "(I)Z" } : Jvm.MethodName))) ∈ tb := mt 222 (by decide +kernel) rfl
theorem k_223 : ((Jvm.Cond.code ({ cls := "SignMachine$Machine", name := "isAddress", desc := "(I)Z" } : Jvm.MethodName) prog_3_method_2_code (1 : Nat) (Option.some Jvm.ClassFile.FieldType.boolean))) ∈ tb := mt 223 (by decide +kernel) rfl
theorem k_225 : ((Jvm.Cond.static ({ cls := "SignMachine$Word", name := "isWord", desc := "(II)Z" } : Jvm.MethodName))) ∈ tb := mt 225 (by decide +kernel) rfl
theorem k_226 : ((Jvm.Cond.code ({ cls := "SignMachine$Word", name := "isWord", desc := "(II)Z" } : Jvm.MethodName) prog_9_method_2_code (2 : Nat) (Option.some Jvm.ClassFile.FieldType.boolean))) ∈ tb := mt 226 (by decide +kernel) rfl
theorem k_227 : ((Jvm.Cond.constant "SignMachine$Word" (9 : Nat) (1073741823 : Int32))) ∈ tb := mt 227 (by decide +kernel) rfl
theorem k_229 : ((Jvm.Cond.static ({ cls := "SignMachine$Word", name := "make", desc := "(II)I" } : Jvm.MethodName))) ∈ tb := mt 229 (by decide +kernel) rfl
theorem k_230 : ((Jvm.Cond.code ({ cls := "SignMachine$Word", name := "make", desc := "(II)I" } : Jvm.MethodName) prog_9_method_3_code (2 : Nat) (Option.some Jvm.ClassFile.FieldType.int))) ∈ tb := mt 230 (by decide +kernel) rfl
theorem k_231 : ((Jvm.Cond.constant "SignMachine$Word" (10 : Nat) (1073741824 : Int32))) ∈ tb := mt 231 (by decide +kernel) rfl
theorem k_233 : ((Jvm.Cond.instanceMethod ({ cls := "SignMachine$Machine", name := "putWord", desc := "(II)V" } : Jvm.MethodName))) ∈ tb := mt 233 (by decide +kernel) rfl
theorem k_234 : ((Jvm.Cond.selects "SignMachine$Machine" ({ cls := "SignMachine$Machine", name := "putWord", desc := "(II)V" } : Jvm.MethodName) ({ cls := "SignMachine$Machine", name := "putWord", desc := "(II)V" } : Jvm.MethodName))) ∈ tb := mt 234 (by decide +kernel) rfl
theorem k_235 : ((Jvm.Cond.code ({ cls := "SignMachine$Machine", name := "putWord", desc := "(II)V" } : Jvm.MethodName) prog_3_method_7_code (3 : Nat) (Option.none : Option Jvm.ClassFile.FieldType))) ∈ tb := mt 235 (by decide +kernel) rfl
theorem k_241 : ((Jvm.Cond.instanceMethod ({ cls := "SignMachine$Machine", name := "wordAt", desc := "(I)I" } : Jvm.MethodName))) ∈ tb := mt 241 (by decide +kernel) rfl
theorem k_242 : ((Jvm.Cond.selects "SignMachine$Machine" ({ cls := "SignMachine$Machine", name := "wordAt", desc := "(I)I" } : Jvm.MethodName) ({ cls := "SignMachine$Machine", name := "wordAt", desc := "(I)I" } : Jvm.MethodName))) ∈ tb := mt 242 (by decide +kernel) rfl
theorem k_243 : ((Jvm.Cond.code ({ cls := "SignMachine$Machine", name := "wordAt", desc := "(I)I" } : Jvm.MethodName) prog_3_method_6_code (2 : Nat) (Option.some Jvm.ClassFile.FieldType.int))) ∈ tb := mt 243 (by decide +kernel) rfl
theorem k_245 : ((Jvm.Cond.static ({ cls := "SignMachine$Word", name := "sign", desc := "(I)I" } : Jvm.MethodName))) ∈ tb := mt 245 (by decide +kernel) rfl
theorem k_246 : ((Jvm.Cond.code ({ cls := "SignMachine$Word", name := "sign", desc := "(I)I" } : Jvm.MethodName) prog_9_method_4_code (1 : Nat) (Option.some Jvm.ClassFile.FieldType.int))) ∈ tb := mt 246 (by decide +kernel) rfl
theorem k_252 : ((Jvm.Cond.static ({ cls := "SignMachine$Word", name := "size", desc := "(I)I" } : Jvm.MethodName))) ∈ tb := mt 252 (by decide +kernel) rfl
theorem k_253 : ((Jvm.Cond.code ({ cls := "SignMachine$Word", name := "size", desc := "(I)I" } : Jvm.MethodName) prog_9_method_5_code (1 : Nat) (Option.some Jvm.ClassFile.FieldType.int))) ∈ tb := mt 253 (by decide +kernel) rfl
theorem k_262 : ((Jvm.Cond.methodLink "SignMachine$Machine" (36 : Nat) ({ cls := "SignMachine$Machine", name := "isAddress", desc := "(I)Z" } : Jvm.MethodName))) ∈ tb := mt 262 (by decide +kernel) rfl
theorem k_263 : ((Jvm.Cond.methodLink "SignMachine$Machine" (39 : Nat) ({ cls := "SignMachine$Machine", name := "wordAt", desc := "(I)I" } : Jvm.MethodName))) ∈ tb := mt 263 (by decide +kernel) rfl
theorem k_266 : ((Jvm.Cond.instanceMethod ({ cls := "SignMachine$Machine", name := "decode", desc := "(I)V" } : Jvm.MethodName))) ∈ tb := mt 266 (by decide +kernel) rfl
theorem k_267 : ((Jvm.Cond.code ({ cls := "SignMachine$Machine", name := "decode", desc := "(I)V" } : Jvm.MethodName) prog_3_method_12_code (4 : Nat) (Option.none : Option Jvm.ClassFile.FieldType))) ∈ tb := mt 267 (by decide +kernel) rfl
theorem k_268 : ((Jvm.Cond.methodLink "SignMachine$Machine" (67 : Nat) ({ cls := "SignMachine$Word", name := "size", desc := "(I)I" } : Jvm.MethodName))) ∈ tb := mt 268 (by decide +kernel) rfl
theorem k_269 : ((Jvm.Cond.methodLink "SignMachine$Machine" (75 : Nat) ({ cls := "SignMachine$Word", name := "sign", desc := "(I)I" } : Jvm.MethodName))) ∈ tb := mt 269 (by decide +kernel) rfl
theorem k_270 : ((Jvm.Cond.methodLink "SignMachine$Machine" (28 : Nat) ({ cls := "SignMachine$Machine", name := "isIndex", desc := "(I)Z" } : Jvm.MethodName))) ∈ tb := mt 270 (by decide +kernel) rfl
theorem k_271 : ((Jvm.Cond.static ({ cls := "SignMachine$Machine", name := "isIndex", desc := "(I)Z" } : Jvm.MethodName))) ∈ tb := mt 271 (by decide +kernel) rfl
theorem k_272 : ((Jvm.Cond.code ({ cls := "SignMachine$Machine", name := "isIndex", desc := "(I)Z" } : Jvm.MethodName) prog_3_method_4_code (1 : Nat) (Option.some Jvm.ClassFile.FieldType.boolean))) ∈ tb := mt 272 (by decide +kernel) rfl
theorem k_273 : ((Jvm.Cond.methodLink "SignMachine$Machine" (84 : Nat) ({ cls := "SignMachine$Machine", name := "register", desc := "(I)I" } : Jvm.MethodName))) ∈ tb := mt 273 (by decide +kernel) rfl
theorem k_274 : ((Jvm.Cond.instanceMethod ({ cls := "SignMachine$Machine", name := "register", desc := "(I)I" } : Jvm.MethodName))) ∈ tb := mt 274 (by decide +kernel) rfl
theorem k_275 : ((Jvm.Cond.selects "SignMachine$Machine" ({ cls := "SignMachine$Machine", name := "register", desc := "(I)I" } : Jvm.MethodName) ({ cls := "SignMachine$Machine", name := "register", desc := "(I)I" } : Jvm.MethodName))) ∈ tb := mt 275 (by decide +kernel) rfl
theorem k_276 : ((Jvm.Cond.code ({ cls := "SignMachine$Machine", name := "register", desc := "(I)I" } : Jvm.MethodName) prog_3_method_8_code (2 : Nat) (Option.some Jvm.ClassFile.FieldType.int))) ∈ tb := mt 276 (by decide +kernel) rfl
theorem k_277 : ((Jvm.Cond.methodLink "SignMachine$Machine" (87 : Nat) ({ cls := "SignMachine$Word", name := "number", desc := "(I)I" } : Jvm.MethodName))) ∈ tb := mt 277 (by decide +kernel) rfl
theorem k_278 : ((Jvm.Cond.static ({ cls := "SignMachine$Word", name := "number", desc := "(I)I" } : Jvm.MethodName))) ∈ tb := mt 278 (by decide +kernel) rfl
theorem k_279 : ((Jvm.Cond.code ({ cls := "SignMachine$Word", name := "number", desc := "(I)I" } : Jvm.MethodName) prog_9_method_6_code (1 : Nat) (Option.some Jvm.ClassFile.FieldType.int))) ∈ tb := mt 279 (by decide +kernel) rfl
theorem k_282 : ((Jvm.Cond.instanceMethod ({ cls := "SignMachine$Machine", name := "reasonAgainst", desc := "()I" } : Jvm.MethodName))) ∈ tb := mt 282 (by decide +kernel) rfl
theorem k_283 : ((Jvm.Cond.code ({ cls := "SignMachine$Machine", name := "reasonAgainst", desc := "()I" } : Jvm.MethodName) prog_3_method_13_code (1 : Nat) (Option.some Jvm.ClassFile.FieldType.int))) ∈ tb := mt 283 (by decide +kernel) rfl
theorem k_284 : ((Jvm.Cond.methodLink "SignMachine$Machine" (90 : Nat) ({ cls := "SignMachine$Machine", name := "shapeCanBe", desc := "()Z" } : Jvm.MethodName))) ∈ tb := mt 284 (by decide +kernel) rfl
theorem k_286 : ((Jvm.Cond.instanceMethod ({ cls := "SignMachine$Machine", name := "shapeCanBe", desc := "()Z" } : Jvm.MethodName))) ∈ tb := mt 286 (by decide +kernel) rfl
theorem k_287 : ((Jvm.Cond.code ({ cls := "SignMachine$Machine", name := "shapeCanBe", desc := "()Z" } : Jvm.MethodName) prog_3_method_15_code (1 : Nat) (Option.some Jvm.ClassFile.FieldType.boolean))) ∈ tb := mt 287 (by decide +kernel) rfl
theorem k_288 : ((Jvm.Cond.methodLink "SignMachine$Machine" (103 : Nat) ({ cls := "SignMachine$Machine", name := "hasFieldOfWord", desc := "()Z" } : Jvm.MethodName))) ∈ tb := mt 288 (by decide +kernel) rfl
theorem k_290 : ((Jvm.Cond.instanceMethod ({ cls := "SignMachine$Machine", name := "hasFieldOfWord", desc := "()Z" } : Jvm.MethodName))) ∈ tb := mt 290 (by decide +kernel) rfl
theorem k_291 : ((Jvm.Cond.code ({ cls := "SignMachine$Machine", name := "hasFieldOfWord", desc := "()Z" } : Jvm.MethodName) prog_3_method_14_code (1 : Nat) (Option.some Jvm.ClassFile.FieldType.boolean))) ∈ tb := mt 291 (by decide +kernel) rfl
theorem k_292 : ((Jvm.Cond.methodLink "SignMachine$Machine" (106 : Nat) ({ cls := "SignMachine$Word", name := "isField", desc := "(I)Z" } : Jvm.MethodName))) ∈ tb := mt 292 (by decide +kernel) rfl
theorem k_293 : ((Jvm.Cond.static ({ cls := "SignMachine$Word", name := "isField", desc := "(I)Z" } : Jvm.MethodName))) ∈ tb := mt 293 (by decide +kernel) rfl
theorem k_294 : ((Jvm.Cond.code ({ cls := "SignMachine$Word", name := "isField", desc := "(I)Z" } : Jvm.MethodName) prog_9_method_9_code (3 : Nat) (Option.some Jvm.ClassFile.FieldType.boolean))) ∈ tb := mt 294 (by decide +kernel) rfl
theorem k_295 : ((Jvm.Cond.methodLink "SignMachine$Machine" (94 : Nat) ({ cls := "SignMachine$Machine", name := "addressCanBe", desc := "()Z" } : Jvm.MethodName))) ∈ tb := mt 295 (by decide +kernel) rfl
theorem k_297 : ((Jvm.Cond.instanceMethod ({ cls := "SignMachine$Machine", name := "addressCanBe", desc := "()Z" } : Jvm.MethodName))) ∈ tb := mt 297 (by decide +kernel) rfl
theorem k_298 : ((Jvm.Cond.code ({ cls := "SignMachine$Machine", name := "addressCanBe", desc := "()Z" } : Jvm.MethodName) prog_3_method_16_code (1 : Nat) (Option.some Jvm.ClassFile.FieldType.boolean))) ∈ tb := mt 298 (by decide +kernel) rfl
theorem k_299 : ((Jvm.Cond.methodLink "SignMachine$Machine" (109 : Nat) ({ cls := "SignMachine$Machine", name := "canMove", desc := "()Z" } : Jvm.MethodName))) ∈ tb := mt 299 (by decide +kernel) rfl
theorem k_301 : ((Jvm.Cond.instanceMethod ({ cls := "SignMachine$Machine", name := "canMove", desc := "()Z" } : Jvm.MethodName))) ∈ tb := mt 301 (by decide +kernel) rfl
theorem k_302 : ((Jvm.Cond.code ({ cls := "SignMachine$Machine", name := "canMove", desc := "()Z" } : Jvm.MethodName) prog_3_method_17_code (1 : Nat) (Option.some Jvm.ClassFile.FieldType.boolean))) ∈ tb := mt 302 (by decide +kernel) rfl
theorem k_303 : ((Jvm.Cond.methodLink "SignMachine$Machine" (112 : Nat) ({ cls := "SignMachine$Machine", name := "hasWords", desc := "(II)Z" } : Jvm.MethodName))) ∈ tb := mt 303 (by decide +kernel) rfl
theorem k_304 : ((Jvm.Cond.static ({ cls := "SignMachine$Machine", name := "hasWords", desc := "(II)Z" } : Jvm.MethodName))) ∈ tb := mt 304 (by decide +kernel) rfl
theorem k_305 : ((Jvm.Cond.code ({ cls := "SignMachine$Machine", name := "hasWords", desc := "(II)Z" } : Jvm.MethodName) prog_3_method_18_code (2 : Nat) (Option.some Jvm.ClassFile.FieldType.boolean))) ∈ tb := mt 305 (by decide +kernel) rfl
theorem k_306 : ((Jvm.Cond.methodLink "SignMachine$Machine" (97 : Nat) ({ cls := "SignMachine$Machine", name := "indexCanBe", desc := "()Z" } : Jvm.MethodName))) ∈ tb := mt 306 (by decide +kernel) rfl
theorem k_308 : ((Jvm.Cond.instanceMethod ({ cls := "SignMachine$Machine", name := "indexCanBe", desc := "()Z" } : Jvm.MethodName))) ∈ tb := mt 308 (by decide +kernel) rfl
theorem k_309 : ((Jvm.Cond.code ({ cls := "SignMachine$Machine", name := "indexCanBe", desc := "()Z" } : Jvm.MethodName) prog_3_method_19_code (1 : Nat) (Option.some Jvm.ClassFile.FieldType.boolean))) ∈ tb := mt 309 (by decide +kernel) rfl
theorem k_310 : ((Jvm.Cond.methodLink "SignMachine$Machine" (116 : Nat) ({ cls := "SignMachine$Machine", name := "value", desc := "()I" } : Jvm.MethodName))) ∈ tb := mt 310 (by decide +kernel) rfl
theorem k_312 : ((Jvm.Cond.instanceMethod ({ cls := "SignMachine$Machine", name := "value", desc := "()I" } : Jvm.MethodName))) ∈ tb := mt 312 (by decide +kernel) rfl
theorem k_313 : ((Jvm.Cond.code ({ cls := "SignMachine$Machine", name := "value", desc := "()I" } : Jvm.MethodName) prog_3_method_22_code (1 : Nat) (Option.some Jvm.ClassFile.FieldType.int))) ∈ tb := mt 313 (by decide +kernel) rfl
theorem k_314 : ((Jvm.Cond.methodLink "SignMachine$Machine" (134 : Nat) ({ cls := "SignMachine$Word", name := "field", desc := "(II)I" } : Jvm.MethodName))) ∈ tb := mt 314 (by decide +kernel) rfl
theorem k_315 : ((Jvm.Cond.static ({ cls := "SignMachine$Word", name := "field", desc := "(II)I" } : Jvm.MethodName))) ∈ tb := mt 315 (by decide +kernel) rfl
theorem k_316 : ((Jvm.Cond.code ({ cls := "SignMachine$Word", name := "field", desc := "(II)I" } : Jvm.MethodName) prog_9_method_12_code (3 : Nat) (Option.some Jvm.ClassFile.FieldType.int))) ∈ tb := mt 316 (by decide +kernel) rfl
theorem k_317 : ((Jvm.Cond.methodLink "SignMachine$Word" (15 : Nat) ({ cls := "SignMachine$Word", name := "size", desc := "(I)I" } : Jvm.MethodName))) ∈ tb := mt 317 (by decide +kernel) rfl
theorem k_318 : ((Jvm.Cond.methodLink "SignMachine$Word" (19 : Nat) ({ cls := "SignMachine$Word", name := "bitsBehind", desc := "(I)I" } : Jvm.MethodName))) ∈ tb := mt 318 (by decide +kernel) rfl
theorem k_319 : ((Jvm.Cond.static ({ cls := "SignMachine$Word", name := "bitsBehind", desc := "(I)I" } : Jvm.MethodName))) ∈ tb := mt 319 (by decide +kernel) rfl
theorem k_320 : ((Jvm.Cond.code ({ cls := "SignMachine$Word", name := "bitsBehind", desc := "(I)I" } : Jvm.MethodName) prog_9_method_11_code (1 : Nat) (Option.some Jvm.ClassFile.FieldType.int))) ∈ tb := mt 320 (by decide +kernel) rfl
theorem k_321 : ((Jvm.Cond.methodLink "SignMachine$Word" (22 : Nat) ({ cls := "SignMachine$Word", name := "maskOf", desc := "(I)I" } : Jvm.MethodName))) ∈ tb := mt 321 (by decide +kernel) rfl
theorem k_322 : ((Jvm.Cond.static ({ cls := "SignMachine$Word", name := "maskOf", desc := "(I)I" } : Jvm.MethodName))) ∈ tb := mt 322 (by decide +kernel) rfl
theorem k_323 : ((Jvm.Cond.code ({ cls := "SignMachine$Word", name := "maskOf", desc := "(I)I" } : Jvm.MethodName) prog_9_method_10_code (4 : Nat) (Option.some Jvm.ClassFile.FieldType.int))) ∈ tb := mt 323 (by decide +kernel) rfl
theorem k_324 : ((Jvm.Cond.methodLink "SignMachine$Word" (25 : Nat) ({ cls := "SignMachine$Word", name := "sign", desc := "(I)I" } : Jvm.MethodName))) ∈ tb := mt 324 (by decide +kernel) rfl
theorem k_325 : ((Jvm.Cond.methodLink "SignMachine$Word" (11 : Nat) ({ cls := "SignMachine$Word", name := "make", desc := "(II)I" } : Jvm.MethodName))) ∈ tb := mt 325 (by decide +kernel) rfl
theorem k_326 : ((Jvm.Cond.methodLink "SignMachine$Machine" (119 : Nat) ({ cls := "SignMachine$Machine", name := "numberByAddress", desc := "()I" } : Jvm.MethodName))) ∈ tb := mt 326 (by decide +kernel) rfl
theorem k_328 : ((Jvm.Cond.instanceMethod ({ cls := "SignMachine$Machine", name := "numberByAddress", desc := "()I" } : Jvm.MethodName))) ∈ tb := mt 328 (by decide +kernel) rfl
theorem k_329 : ((Jvm.Cond.code ({ cls := "SignMachine$Machine", name := "numberByAddress", desc := "()I" } : Jvm.MethodName) prog_3_method_43_code (2 : Nat) (Option.some Jvm.ClassFile.FieldType.int))) ∈ tb := mt 329 (by decide +kernel) rfl
theorem k_330 : ((Jvm.Cond.methodLink "SignMachine$Machine" (122 : Nat) ({ cls := "java/lang/Math", name := "abs", desc := "(I)I" } : Jvm.MethodName))) ∈ tb := mt 330 (by decide +kernel) rfl
theorem k_331 : ((Jvm.Cond.static ({ cls := "java/lang/Math", name := "abs", desc := "(I)I" } : Jvm.MethodName))) ∈ tb := mt 331 (by decide +kernel) rfl
theorem k_333 : ((Jvm.Cond.methodLink "SignMachine$Machine" (100 : Nat) ({ cls := "SignMachine$Machine", name := "blockCanBe", desc := "()Z" } : Jvm.MethodName))) ∈ tb := mt 333 (by decide +kernel) rfl
theorem k_335 : ((Jvm.Cond.instanceMethod ({ cls := "SignMachine$Machine", name := "blockCanBe", desc := "()Z" } : Jvm.MethodName))) ∈ tb := mt 335 (by decide +kernel) rfl
theorem k_336 : ((Jvm.Cond.code ({ cls := "SignMachine$Machine", name := "blockCanBe", desc := "()Z" } : Jvm.MethodName) prog_3_method_20_code (2 : Nat) (Option.some Jvm.ClassFile.FieldType.boolean))) ∈ tb := mt 336 (by decide +kernel) rfl
theorem k_337 : ((Jvm.Cond.methodLink "SignMachine$Machine" (127 : Nat) ({ cls := "SignMachine$Machine", name := "unit", desc := "(I)LSignMachine$Tape;" } : Jvm.MethodName))) ∈ tb := mt 337 (by decide +kernel) rfl
theorem k_338 : ((Jvm.Cond.instanceMethod ({ cls := "SignMachine$Machine", name := "unit", desc := "(I)LSignMachine$Tape;" } : Jvm.MethodName))) ∈ tb := mt 338 (by decide +kernel) rfl
theorem k_339 : ((Jvm.Cond.selects "SignMachine$Machine" ({ cls := "SignMachine$Machine", name := "unit", desc := "(I)LSignMachine$Tape;" } : Jvm.MethodName) ({ cls := "SignMachine$Machine", name := "unit", desc := "(I)LSignMachine$Tape;" } : Jvm.MethodName))) ∈ tb := mt 339 (by decide +kernel) rfl
theorem k_340 : ((Jvm.Cond.code ({ cls := "SignMachine$Machine", name := "unit", desc := "(I)LSignMachine$Tape;" } : Jvm.MethodName) prog_3_method_10_code (2 : Nat) (Option.some (Jvm.ClassFile.FieldType.object "SignMachine$Tape")))) ∈ tb := mt 340 (by decide +kernel) rfl
theorem k_343 : ((Jvm.Cond.instanceMethod ({ cls := "SignMachine$Machine", name := "duration", desc := "()I" } : Jvm.MethodName))) ∈ tb := mt 343 (by decide +kernel) rfl
theorem k_344 : ((Jvm.Cond.code ({ cls := "SignMachine$Machine", name := "duration", desc := "()I" } : Jvm.MethodName) prog_3_method_21_code (1 : Nat) (Option.some Jvm.ClassFile.FieldType.int))) ∈ tb := mt 344 (by decide +kernel) rfl
theorem k_345 : ((Jvm.Cond.constant "SignMachine$Machine" (57 : Nat) (1073741823 : Int32))) ∈ tb := mt 345 (by decide +kernel) rfl
theorem k_352 : ((Jvm.Cond.instanceMethod ({ cls := "SignMachine$Machine", name := "performLow", desc := "()V" } : Jvm.MethodName))) ∈ tb := mt 352 (by decide +kernel) rfl
theorem k_353 : ((Jvm.Cond.code ({ cls := "SignMachine$Machine", name := "performLow", desc := "()V" } : Jvm.MethodName) prog_3_method_24_code (1 : Nat) (Option.none : Option Jvm.ClassFile.FieldType))) ∈ tb := mt 353 (by decide +kernel) rfl
theorem k_354 : ((Jvm.Cond.methodLink "SignMachine$Machine" (166 : Nat) ({ cls := "SignMachine$Machine", name := "addTo", desc := "(II)V" } : Jvm.MethodName))) ∈ tb := mt 354 (by decide +kernel) rfl
theorem k_356 : ((Jvm.Cond.instanceMethod ({ cls := "SignMachine$Machine", name := "addTo", desc := "(II)V" } : Jvm.MethodName))) ∈ tb := mt 356 (by decide +kernel) rfl
theorem k_357 : ((Jvm.Cond.code ({ cls := "SignMachine$Machine", name := "addTo", desc := "(II)V" } : Jvm.MethodName) prog_3_method_26_code (5 : Nat) (Option.none : Option Jvm.ClassFile.FieldType))) ∈ tb := mt 357 (by decide +kernel) rfl
theorem k_358 : ((Jvm.Cond.constant "SignMachine$Machine" (200 : Nat) (1073741824 : Int32))) ∈ tb := mt 358 (by decide +kernel) rfl
theorem k_359 : ((Jvm.Cond.methodLink "SignMachine$Machine" (201 : Nat) ({ cls := "SignMachine$Word", name := "of", desc := "(II)I" } : Jvm.MethodName))) ∈ tb := mt 359 (by decide +kernel) rfl
theorem k_360 : ((Jvm.Cond.static ({ cls := "SignMachine$Word", name := "of", desc := "(II)I" } : Jvm.MethodName))) ∈ tb := mt 360 (by decide +kernel) rfl
theorem k_361 : ((Jvm.Cond.code ({ cls := "SignMachine$Word", name := "of", desc := "(II)I" } : Jvm.MethodName) prog_9_method_8_code (2 : Nat) (Option.some Jvm.ClassFile.FieldType.int))) ∈ tb := mt 361 (by decide +kernel) rfl
theorem k_362 : ((Jvm.Cond.methodLink "SignMachine$Machine" (140 : Nat) ({ cls := "SignMachine$Machine", name := "putRegister", desc := "(II)V" } : Jvm.MethodName))) ∈ tb := mt 362 (by decide +kernel) rfl
theorem k_363 : ((Jvm.Cond.instanceMethod ({ cls := "SignMachine$Machine", name := "putRegister", desc := "(II)V" } : Jvm.MethodName))) ∈ tb := mt 363 (by decide +kernel) rfl
theorem k_364 : ((Jvm.Cond.selects "SignMachine$Machine" ({ cls := "SignMachine$Machine", name := "putRegister", desc := "(II)V" } : Jvm.MethodName) ({ cls := "SignMachine$Machine", name := "putRegister", desc := "(II)V" } : Jvm.MethodName))) ∈ tb := mt 364 (by decide +kernel) rfl
theorem k_365 : ((Jvm.Cond.code ({ cls := "SignMachine$Machine", name := "putRegister", desc := "(II)V" } : Jvm.MethodName) prog_3_method_9_code (3 : Nat) (Option.none : Option Jvm.ClassFile.FieldType))) ∈ tb := mt 365 (by decide +kernel) rfl
theorem k_366 : ((Jvm.Cond.methodLink "SignMachine$Machine" (169 : Nat) ({ cls := "SignMachine$Machine", name := "multiply", desc := "(I)V" } : Jvm.MethodName))) ∈ tb := mt 366 (by decide +kernel) rfl
theorem k_368 : ((Jvm.Cond.instanceMethod ({ cls := "SignMachine$Machine", name := "multiply", desc := "(I)V" } : Jvm.MethodName))) ∈ tb := mt 368 (by decide +kernel) rfl
theorem k_369 : ((Jvm.Cond.code ({ cls := "SignMachine$Machine", name := "multiply", desc := "(I)V" } : Jvm.MethodName) prog_3_method_29_code (6 : Nat) (Option.none : Option Jvm.ClassFile.FieldType))) ∈ tb := mt 369 (by decide +kernel) rfl
theorem k_370 : ((Jvm.Cond.methodLink "SignMachine$Machine" (204 : Nat) ({ cls := "SignMachine$Word", name := "make", desc := "(II)I" } : Jvm.MethodName))) ∈ tb := mt 370 (by decide +kernel) rfl
theorem k_371 : ((Jvm.Cond.methodLink "SignMachine$Machine" (172 : Nat) ({ cls := "SignMachine$Machine", name := "divide", desc := "(I)V" } : Jvm.MethodName))) ∈ tb := mt 371 (by decide +kernel) rfl
theorem k_373 : ((Jvm.Cond.instanceMethod ({ cls := "SignMachine$Machine", name := "divide", desc := "(I)V" } : Jvm.MethodName))) ∈ tb := mt 373 (by decide +kernel) rfl
theorem k_374 : ((Jvm.Cond.code ({ cls := "SignMachine$Machine", name := "divide", desc := "(I)V" } : Jvm.MethodName) prog_3_method_30_code (6 : Nat) (Option.none : Option Jvm.ClassFile.FieldType))) ∈ tb := mt 374 (by decide +kernel) rfl
theorem k_375 : ((Jvm.Cond.methodLink "SignMachine$Machine" (207 : Nat) ({ cls := "SignMachine$Machine", name := "sizeOfAX", desc := "()J" } : Jvm.MethodName))) ∈ tb := mt 375 (by decide +kernel) rfl
theorem k_377 : ((Jvm.Cond.instanceMethod ({ cls := "SignMachine$Machine", name := "sizeOfAX", desc := "()J" } : Jvm.MethodName))) ∈ tb := mt 377 (by decide +kernel) rfl
theorem k_378 : ((Jvm.Cond.code ({ cls := "SignMachine$Machine", name := "sizeOfAX", desc := "()J" } : Jvm.MethodName) prog_3_method_27_code (1 : Nat) (Option.some Jvm.ClassFile.FieldType.long))) ∈ tb := mt 378 (by decide +kernel) rfl
theorem k_379 : ((Jvm.Cond.methodLink "SignMachine$Machine" (175 : Nat) ({ cls := "SignMachine$Machine", name := "convert", desc := "()V" } : Jvm.MethodName))) ∈ tb := mt 379 (by decide +kernel) rfl
theorem k_381 : ((Jvm.Cond.instanceMethod ({ cls := "SignMachine$Machine", name := "convert", desc := "()V" } : Jvm.MethodName))) ∈ tb := mt 381 (by decide +kernel) rfl
theorem k_382 : ((Jvm.Cond.code ({ cls := "SignMachine$Machine", name := "convert", desc := "()V" } : Jvm.MethodName) prog_3_method_31_code (1 : Nat) (Option.none : Option Jvm.ClassFile.FieldType))) ∈ tb := mt 382 (by decide +kernel) rfl
theorem k_383 : ((Jvm.Cond.methodLink "SignMachine$Machine" (211 : Nat) ({ cls := "SignMachine$Machine", name := "becomeNumber", desc := "()V" } : Jvm.MethodName))) ∈ tb := mt 383 (by decide +kernel) rfl
theorem k_385 : ((Jvm.Cond.instanceMethod ({ cls := "SignMachine$Machine", name := "becomeNumber", desc := "()V" } : Jvm.MethodName))) ∈ tb := mt 385 (by decide +kernel) rfl
theorem k_386 : ((Jvm.Cond.code ({ cls := "SignMachine$Machine", name := "becomeNumber", desc := "()V" } : Jvm.MethodName) prog_3_method_32_code (6 : Nat) (Option.none : Option Jvm.ClassFile.FieldType))) ∈ tb := mt 386 (by decide +kernel) rfl
theorem k_387 : ((Jvm.Cond.constantLong "SignMachine$Machine" (217 : Nat) (10 : Int64))) ∈ tb := mt 387 (by decide +kernel) rfl
theorem k_388 : ((Jvm.Cond.constantLong "SignMachine$Machine" (219 : Nat) (63 : Int64))) ∈ tb := mt 388 (by decide +kernel) rfl
theorem k_389 : ((Jvm.Cond.constantLong "SignMachine$Machine" (221 : Nat) (1073741823 : Int64))) ∈ tb := mt 389 (by decide +kernel) rfl
theorem k_390 : ((Jvm.Cond.constantLong "SignMachine$Machine" (223 : Nat) (1073741824 : Int64))) ∈ tb := mt 390 (by decide +kernel) rfl
theorem k_391 : ((Jvm.Cond.methodLink "SignMachine$Machine" (214 : Nat) ({ cls := "SignMachine$Machine", name := "becomeDigits", desc := "()V" } : Jvm.MethodName))) ∈ tb := mt 391 (by decide +kernel) rfl
theorem k_393 : ((Jvm.Cond.instanceMethod ({ cls := "SignMachine$Machine", name := "becomeDigits", desc := "()V" } : Jvm.MethodName))) ∈ tb := mt 393 (by decide +kernel) rfl
theorem k_394 : ((Jvm.Cond.code ({ cls := "SignMachine$Machine", name := "becomeDigits", desc := "()V" } : Jvm.MethodName) prog_3_method_33_code (5 : Nat) (Option.none : Option Jvm.ClassFile.FieldType))) ∈ tb := mt 394 (by decide +kernel) rfl
theorem k_395 : ((Jvm.Cond.methodLink "SignMachine$Machine" (225 : Nat) ({ cls := "SignMachine$Machine", name := "putSizesOfAX", desc := "(J)V" } : Jvm.MethodName))) ∈ tb := mt 395 (by decide +kernel) rfl
theorem k_397 : ((Jvm.Cond.instanceMethod ({ cls := "SignMachine$Machine", name := "putSizesOfAX", desc := "(J)V" } : Jvm.MethodName))) ∈ tb := mt 397 (by decide +kernel) rfl
theorem k_398 : ((Jvm.Cond.code ({ cls := "SignMachine$Machine", name := "putSizesOfAX", desc := "(J)V" } : Jvm.MethodName) prog_3_method_28_code (5 : Nat) (Option.none : Option Jvm.ClassFile.FieldType))) ∈ tb := mt 398 (by decide +kernel) rfl
theorem k_399 : ((Jvm.Cond.methodLink "SignMachine$Machine" (178 : Nat) ({ cls := "SignMachine$Machine", name := "shift", desc := "()V" } : Jvm.MethodName))) ∈ tb := mt 399 (by decide +kernel) rfl
theorem k_401 : ((Jvm.Cond.instanceMethod ({ cls := "SignMachine$Machine", name := "shift", desc := "()V" } : Jvm.MethodName))) ∈ tb := mt 401 (by decide +kernel) rfl
theorem k_402 : ((Jvm.Cond.code ({ cls := "SignMachine$Machine", name := "shift", desc := "()V" } : Jvm.MethodName) prog_3_method_34_code (5 : Nat) (Option.none : Option Jvm.ClassFile.FieldType))) ∈ tb := mt 402 (by decide +kernel) rfl
theorem k_403 : ((Jvm.Cond.methodLink "SignMachine$Machine" (229 : Nat) ({ cls := "java/lang/Math", name := "min", desc := "(II)I" } : Jvm.MethodName))) ∈ tb := mt 403 (by decide +kernel) rfl
theorem k_404 : ((Jvm.Cond.static ({ cls := "java/lang/Math", name := "min", desc := "(II)I" } : Jvm.MethodName))) ∈ tb := mt 404 (by decide +kernel) rfl
theorem k_406 : ((Jvm.Cond.methodLink "SignMachine$Machine" (181 : Nat) ({ cls := "SignMachine$Machine", name := "moveWords", desc := "()V" } : Jvm.MethodName))) ∈ tb := mt 406 (by decide +kernel) rfl
theorem k_408 : ((Jvm.Cond.instanceMethod ({ cls := "SignMachine$Machine", name := "moveWords", desc := "()V" } : Jvm.MethodName))) ∈ tb := mt 408 (by decide +kernel) rfl
theorem k_409 : ((Jvm.Cond.code ({ cls := "SignMachine$Machine", name := "moveWords", desc := "()V" } : Jvm.MethodName) prog_3_method_35_code (3 : Nat) (Option.none : Option Jvm.ClassFile.FieldType))) ∈ tb := mt 409 (by decide +kernel) rfl
theorem k_410 : ((Jvm.Cond.methodLink "SignMachine$Machine" (232 : Nat) ({ cls := "SignMachine$Machine", name := "putWord", desc := "(II)V" } : Jvm.MethodName))) ∈ tb := mt 410 (by decide +kernel) rfl
theorem k_411 : ((Jvm.Cond.methodLink "SignMachine$Machine" (144 : Nat) ({ cls := "SignMachine$Word", name := "opposite", desc := "(I)I" } : Jvm.MethodName))) ∈ tb := mt 411 (by decide +kernel) rfl
theorem k_412 : ((Jvm.Cond.static ({ cls := "SignMachine$Word", name := "opposite", desc := "(I)I" } : Jvm.MethodName))) ∈ tb := mt 412 (by decide +kernel) rfl
theorem k_413 : ((Jvm.Cond.code ({ cls := "SignMachine$Word", name := "opposite", desc := "(I)I" } : Jvm.MethodName) prog_9_method_7_code (1 : Nat) (Option.some Jvm.ClassFile.FieldType.int))) ∈ tb := mt 413 (by decide +kernel) rfl
theorem k_416 : ((Jvm.Cond.instanceMethod ({ cls := "SignMachine$Machine", name := "storeWord", desc := "(I)V" } : Jvm.MethodName))) ∈ tb := mt 416 (by decide +kernel) rfl
theorem k_417 : ((Jvm.Cond.code ({ cls := "SignMachine$Machine", name := "storeWord", desc := "(I)V" } : Jvm.MethodName) prog_3_method_36_code (2 : Nat) (Option.none : Option Jvm.ClassFile.FieldType))) ∈ tb := mt 417 (by decide +kernel) rfl
theorem k_418 : ((Jvm.Cond.methodLink "SignMachine$Machine" (235 : Nat) ({ cls := "SignMachine$Word", name := "store", desc := "(III)I" } : Jvm.MethodName))) ∈ tb := mt 418 (by decide +kernel) rfl
theorem k_419 : ((Jvm.Cond.static ({ cls := "SignMachine$Word", name := "store", desc := "(III)I" } : Jvm.MethodName))) ∈ tb := mt 419 (by decide +kernel) rfl
theorem k_420 : ((Jvm.Cond.code ({ cls := "SignMachine$Word", name := "store", desc := "(III)I" } : Jvm.MethodName) prog_9_method_13_code (6 : Nat) (Option.some Jvm.ClassFile.FieldType.int))) ∈ tb := mt 420 (by decide +kernel) rfl
theorem k_427 : ((Jvm.Cond.instanceMethod ({ cls := "SignMachine$Machine", name := "wind", desc := "()V" } : Jvm.MethodName))) ∈ tb := mt 427 (by decide +kernel) rfl
theorem k_428 : ((Jvm.Cond.code ({ cls := "SignMachine$Machine", name := "wind", desc := "()V" } : Jvm.MethodName) prog_3_method_37_code (2 : Nat) (Option.none : Option Jvm.ClassFile.FieldType))) ∈ tb := mt 428 (by decide +kernel) rfl
theorem k_438 : ((Jvm.Cond.static ({ cls := "SignMachine$Tape", name := "isWord", desc := "(II)Z" } : Jvm.MethodName))) ∈ tb := mt 438 (by decide +kernel) rfl
theorem k_439 : ((Jvm.Cond.code ({ cls := "SignMachine$Tape", name := "isWord", desc := "(II)Z" } : Jvm.MethodName) prog_8_method_2_code (2 : Nat) (Option.some Jvm.ClassFile.FieldType.boolean))) ∈ tb := mt 439 (by decide +kernel) rfl
theorem k_448 : ((Jvm.Cond.methodLink "SignMachine$Machine" (156 : Nat) ({ cls := "SignMachine$Machine", name := "goIf", desc := "(Z)V" } : Jvm.MethodName))) ∈ tb := mt 448 (by decide +kernel) rfl
theorem k_450 : ((Jvm.Cond.instanceMethod ({ cls := "SignMachine$Machine", name := "goIf", desc := "(Z)V" } : Jvm.MethodName))) ∈ tb := mt 450 (by decide +kernel) rfl
theorem k_451 : ((Jvm.Cond.code ({ cls := "SignMachine$Machine", name := "goIf", desc := "(Z)V" } : Jvm.MethodName) prog_3_method_40_code (2 : Nat) (Option.none : Option Jvm.ClassFile.FieldType))) ∈ tb := mt 451 (by decide +kernel) rfl
theorem k_454 : ((Jvm.Cond.instanceMethod ({ cls := "SignMachine$Machine", name := "goByState", desc := "()V" } : Jvm.MethodName))) ∈ tb := mt 454 (by decide +kernel) rfl
theorem k_455 : ((Jvm.Cond.code ({ cls := "SignMachine$Machine", name := "goByState", desc := "()V" } : Jvm.MethodName) prog_3_method_41_code (2 : Nat) (Option.none : Option Jvm.ClassFile.FieldType))) ∈ tb := mt 455 (by decide +kernel) rfl
theorem k_458 : ((Jvm.Cond.instanceMethod ({ cls := "SignMachine$Machine", name := "registerIs", desc := "(I)Z" } : Jvm.MethodName))) ∈ tb := mt 458 (by decide +kernel) rfl
theorem k_459 : ((Jvm.Cond.code ({ cls := "SignMachine$Machine", name := "registerIs", desc := "(I)Z" } : Jvm.MethodName) prog_3_method_42_code (2 : Nat) (Option.some Jvm.ClassFile.FieldType.boolean))) ∈ tb := mt 459 (by decide +kernel) rfl
theorem k_462 : ((Jvm.Cond.instanceMethod ({ cls := "SignMachine$Machine", name := "changeByAddress", desc := "(I)V" } : Jvm.MethodName))) ∈ tb := mt 462 (by decide +kernel) rfl
theorem k_463 : ((Jvm.Cond.code ({ cls := "SignMachine$Machine", name := "changeByAddress", desc := "(I)V" } : Jvm.MethodName) prog_3_method_44_code (2 : Nat) (Option.none : Option Jvm.ClassFile.FieldType))) ∈ tb := mt 463 (by decide +kernel) rfl
theorem k_466 : ((Jvm.Cond.instanceMethod ({ cls := "SignMachine$Machine", name := "compareField", desc := "(I)V" } : Jvm.MethodName))) ∈ tb := mt 466 (by decide +kernel) rfl
theorem k_467 : ((Jvm.Cond.code ({ cls := "SignMachine$Machine", name := "compareField", desc := "(I)V" } : Jvm.MethodName) prog_3_method_45_code (2 : Nat) (Option.none : Option Jvm.ClassFile.FieldType))) ∈ tb := mt 467 (by decide +kernel) rfl
theorem k_468 : ((Jvm.Cond.methodLink "SignMachine$Machine" (247 : Nat) ({ cls := "java/lang/Integer", name := "compare", desc := "(II)I" } : Jvm.MethodName))) ∈ tb := mt 468 (by decide +kernel) rfl
theorem k_469 : ((Jvm.Cond.static ({ cls := "java/lang/Integer", name := "compare", desc := "(II)I" } : Jvm.MethodName))) ∈ tb := mt 469 (by decide +kernel) rfl
theorem k_470 : ((Jvm.Cond.code ({ cls := "java/lang/Integer", name := "compare", desc := "(II)I" } : Jvm.MethodName) prog_14_method_40_code (2 : Nat) (Option.some Jvm.ClassFile.FieldType.int))) ∈ tb := mt 470 (by decide +kernel) rfl
theorem k_480 : ((Jvm.Cond.static ({ cls := "SignMachine$Machine", name := "isRegister", desc := "(I)Z" } : Jvm.MethodName))) ∈ tb := mt 480 (by decide +kernel) rfl
theorem k_481 : ((Jvm.Cond.code ({ cls := "SignMachine$Machine", name := "isRegister", desc := "(I)Z" } : Jvm.MethodName) prog_3_method_3_code (1 : Nat) (Option.some Jvm.ClassFile.FieldType.boolean))) ∈ tb := mt 481 (by decide +kernel) rfl
theorem k_492 : ((Jvm.Cond.static ({ cls := "SignMachine$Machine", name := "isShort", desc := "(I)Z" } : Jvm.MethodName))) ∈ tb := mt 492 (by decide +kernel) rfl
theorem k_493 : ((Jvm.Cond.code ({ cls := "SignMachine$Machine", name := "isShort", desc := "(I)Z" } : Jvm.MethodName) prog_3_method_5_code (1 : Nat) (Option.some Jvm.ClassFile.FieldType.boolean))) ∈ tb := mt 493 (by decide +kernel) rfl
theorem k_525 : ((Jvm.Cond.instanceMethod ({ cls := "SignMachine$Assembler", name := "<init>", desc := "()V" } : Jvm.MethodName))) ∈ tb := mt 525 (by decide +kernel) rfl
theorem k_526 : ((Jvm.Cond.code ({ cls := "SignMachine$Assembler", name := "<init>", desc := "()V" } : Jvm.MethodName) prog_2_method_1_code (1 : Nat) (Option.none : Option Jvm.ClassFile.FieldType))) ∈ tb := mt 526 (by decide +kernel) rfl
theorem k_527 : ((Jvm.Cond.methodLink "SignMachine$Assembler" (3 : Nat) ({ cls := "java/lang/Object", name := "<init>", desc := "()V" } : Jvm.MethodName))) ∈ tb := mt 527 (by decide +kernel) rfl
theorem k_528 : ((Jvm.Cond.classLink "SignMachine$Assembler" (9 : Nat) "SignMachine$Source")) ∈ tb := mt 528 (by decide +kernel) rfl
theorem k_529 : ((Jvm.Cond.instantiable "SignMachine$Source" (9 : Nat))) ∈ tb := mt 529 (by decide +kernel) rfl
theorem k_531 : ((Jvm.Cond.instanceMethod ({ cls := "SignMachine$Source", name := "<init>", desc := "()V" } : Jvm.MethodName))) ∈ tb := mt 531 (by decide +kernel) rfl
theorem k_532 : ((Jvm.Cond.code ({ cls := "SignMachine$Source", name := "<init>", desc := "()V" } : Jvm.MethodName) prog_7_method_1_code (1 : Nat) (Option.none : Option Jvm.ClassFile.FieldType))) ∈ tb := mt 532 (by decide +kernel) rfl
theorem k_533 : ((Jvm.Cond.methodLink "SignMachine$Source" (1 : Nat) ({ cls := "java/lang/Object", name := "<init>", desc := "()V" } : Jvm.MethodName))) ∈ tb := mt 533 (by decide +kernel) rfl
theorem k_534 : ((Jvm.Cond.fieldLink "SignMachine$Source" (9 : Nat) "SignMachine$Source" "bytes" "[B")) ∈ tb := mt 534 (by decide +kernel) rfl
theorem k_535 : ((Jvm.Cond.fieldLink "SignMachine$Source" (13 : Nat) "SignMachine$Source" "length" "I")) ∈ tb := mt 535 (by decide +kernel) rfl
theorem k_538 : ((Jvm.Cond.fieldLink "SignMachine$Source" (17 : Nat) "SignMachine$Source" "line" "I")) ∈ tb := mt 538 (by decide +kernel) rfl
theorem k_540 : ((Jvm.Cond.fieldLink "SignMachine$Source" (23 : Nat) "SignMachine$Source" "at" "I")) ∈ tb := mt 540 (by decide +kernel) rfl
theorem k_542 : ((Jvm.Cond.fieldLink "SignMachine$Source" (26 : Nat) "SignMachine$Source" "stop" "I")) ∈ tb := mt 542 (by decide +kernel) rfl
theorem k_543 : ((Jvm.Cond.fieldLink "SignMachine$Source" (20 : Nat) "SignMachine$Source" "following" "I")) ∈ tb := mt 543 (by decide +kernel) rfl
theorem k_545 : ((Jvm.Cond.fieldLink "SignMachine$Source" (37 : Nat) "SignMachine$Source" "kind" "I")) ∈ tb := mt 545 (by decide +kernel) rfl
theorem k_547 : ((Jvm.Cond.fieldLink "SignMachine$Source" (54 : Nat) "SignMachine$Source" "name" "J")) ∈ tb := mt 547 (by decide +kernel) rfl
theorem k_548 : ((Jvm.Cond.fieldLink "SignMachine$Source" (62 : Nat) "SignMachine$Source" "number" "I")) ∈ tb := mt 548 (by decide +kernel) rfl
theorem k_569 : ((Jvm.Cond.arrayClass Jvm.ClassFile.FieldType.byte)) ∈ tb := mt 569 (by decide +kernel) rfl
theorem k_570 : ((Jvm.Cond.classLink "SignMachine$Assembler" (18 : Nat) "SignMachine$Names")) ∈ tb := mt 570 (by decide +kernel) rfl
theorem k_571 : ((Jvm.Cond.instantiable "SignMachine$Names" (7 : Nat))) ∈ tb := mt 571 (by decide +kernel) rfl
theorem k_573 : ((Jvm.Cond.instanceMethod ({ cls := "SignMachine$Names", name := "<init>", desc := "()V" } : Jvm.MethodName))) ∈ tb := mt 573 (by decide +kernel) rfl
theorem k_574 : ((Jvm.Cond.code ({ cls := "SignMachine$Names", name := "<init>", desc := "()V" } : Jvm.MethodName) prog_4_method_1_code (1 : Nat) (Option.none : Option Jvm.ClassFile.FieldType))) ∈ tb := mt 574 (by decide +kernel) rfl
theorem k_575 : ((Jvm.Cond.methodLink "SignMachine$Names" (5 : Nat) ({ cls := "java/lang/Object", name := "<init>", desc := "()V" } : Jvm.MethodName))) ∈ tb := mt 575 (by decide +kernel) rfl
theorem k_576 : ((Jvm.Cond.fieldLink "SignMachine$Names" (11 : Nat) "SignMachine$Names" "names" "[J")) ∈ tb := mt 576 (by decide +kernel) rfl
theorem k_577 : ((Jvm.Cond.fieldLink "SignMachine$Names" (15 : Nat) "SignMachine$Names" "values" "[I")) ∈ tb := mt 577 (by decide +kernel) rfl
theorem k_578 : ((Jvm.Cond.fieldLink "SignMachine$Names" (19 : Nat) "SignMachine$Names" "told" "[Z")) ∈ tb := mt 578 (by decide +kernel) rfl
theorem k_579 : ((Jvm.Cond.fieldLink "SignMachine$Names" (23 : Nat) "SignMachine$Names" "localValues" "[I")) ∈ tb := mt 579 (by decide +kernel) rfl
theorem k_580 : ((Jvm.Cond.fieldLink "SignMachine$Names" (26 : Nat) "SignMachine$Names" "localTold" "[Z")) ∈ tb := mt 580 (by decide +kernel) rfl
theorem k_581 : ((Jvm.Cond.fieldLink "SignMachine$Names" (35 : Nat) "SignMachine$Names" "count" "I")) ∈ tb := mt 581 (by decide +kernel) rfl
theorem k_583 : ((Jvm.Cond.fieldLink "SignMachine$Names" (39 : Nat) "SignMachine$Names" "symbols" "I")) ∈ tb := mt 583 (by decide +kernel) rfl
theorem k_599 : ((Jvm.Cond.arrayClass Jvm.ClassFile.FieldType.long)) ∈ tb := mt 599 (by decide +kernel) rfl
theorem k_600 : ((Jvm.Cond.arrayClass Jvm.ClassFile.FieldType.boolean)) ∈ tb := mt 600 (by decide +kernel) rfl
theorem k_601 : ((Jvm.Cond.classLink "SignMachine$Assembler" (25 : Nat) "SignMachine$Output")) ∈ tb := mt 601 (by decide +kernel) rfl
theorem k_602 : ((Jvm.Cond.instantiable "SignMachine$Output" (7 : Nat))) ∈ tb := mt 602 (by decide +kernel) rfl
theorem k_604 : ((Jvm.Cond.instanceMethod ({ cls := "SignMachine$Output", name := "<init>", desc := "()V" } : Jvm.MethodName))) ∈ tb := mt 604 (by decide +kernel) rfl
theorem k_605 : ((Jvm.Cond.code ({ cls := "SignMachine$Output", name := "<init>", desc := "()V" } : Jvm.MethodName) prog_6_method_1_code (1 : Nat) (Option.none : Option Jvm.ClassFile.FieldType))) ∈ tb := mt 605 (by decide +kernel) rfl
theorem k_606 : ((Jvm.Cond.methodLink "SignMachine$Output" (7 : Nat) ({ cls := "java/lang/Object", name := "<init>", desc := "()V" } : Jvm.MethodName))) ∈ tb := mt 606 (by decide +kernel) rfl
theorem k_607 : ((Jvm.Cond.fieldLink "SignMachine$Output" (15 : Nat) "SignMachine$Output" "places" "[I")) ∈ tb := mt 607 (by decide +kernel) rfl
theorem k_608 : ((Jvm.Cond.fieldLink "SignMachine$Output" (19 : Nat) "SignMachine$Output" "words" "[I")) ∈ tb := mt 608 (by decide +kernel) rfl
theorem k_609 : ((Jvm.Cond.fieldLink "SignMachine$Output" (22 : Nat) "SignMachine$Output" "lines" "[I")) ∈ tb := mt 609 (by decide +kernel) rfl
theorem k_610 : ((Jvm.Cond.fieldLink "SignMachine$Output" (25 : Nat) "SignMachine$Output" "kinds" "[B")) ∈ tb := mt 610 (by decide +kernel) rfl
theorem k_611 : ((Jvm.Cond.fieldLink "SignMachine$Output" (29 : Nat) "SignMachine$Output" "goals" "[I")) ∈ tb := mt 611 (by decide +kernel) rfl
theorem k_612 : ((Jvm.Cond.fieldLink "SignMachine$Output" (32 : Nat) "SignMachine$Output" "lastOpen" "[I")) ∈ tb := mt 612 (by decide +kernel) rfl
theorem k_613 : ((Jvm.Cond.fieldLink "SignMachine$Output" (35 : Nat) "SignMachine$Output" "count" "I")) ∈ tb := mt 613 (by decide +kernel) rfl
theorem k_631 : ((Jvm.Cond.fieldLink "SignMachine$Assembler" (12 : Nat) "SignMachine$Assembler" "source" "LSignMachine$Source;")) ∈ tb := mt 631 (by decide +kernel) rfl
theorem k_633 : ((Jvm.Cond.fieldLink "SignMachine$Assembler" (21 : Nat) "SignMachine$Assembler" "names" "LSignMachine$Names;")) ∈ tb := mt 633 (by decide +kernel) rfl
theorem k_634 : ((Jvm.Cond.fieldLink "SignMachine$Assembler" (28 : Nat) "SignMachine$Assembler" "output" "LSignMachine$Output;")) ∈ tb := mt 634 (by decide +kernel) rfl
theorem k_636 : ((Jvm.Cond.fieldLink "SignMachine$Assembler" (43 : Nat) "SignMachine$Assembler" "fault" "I")) ∈ tb := mt 636 (by decide +kernel) rfl
theorem k_638 : ((Jvm.Cond.fieldLink "SignMachine$Assembler" (46 : Nat) "SignMachine$Assembler" "faultLine" "I")) ∈ tb := mt 638 (by decide +kernel) rfl
theorem k_640 : ((Jvm.Cond.fieldLink "SignMachine$Assembler" (32 : Nat) "SignMachine$Assembler" "firstFree" "I")) ∈ tb := mt 640 (by decide +kernel) rfl
theorem k_644 : ((Jvm.Cond.fieldLink "SignMachine$Assembler" (49 : Nat) "SignMachine$Assembler" "place" "I")) ∈ tb := mt 644 (by decide +kernel) rfl
theorem k_645 : ((Jvm.Cond.fieldLink "SignMachine$Assembler" (52 : Nat) "SignMachine$Assembler" "ended" "Z")) ∈ tb := mt 645 (by decide +kernel) rfl
theorem k_646 : ((Jvm.Cond.fieldLink "SignMachine$Assembler" (64 : Nat) "SignMachine$Assembler" "label" "J")) ∈ tb := mt 646 (by decide +kernel) rfl
theorem k_647 : ((Jvm.Cond.fieldLink "SignMachine$Assembler" (139 : Nat) "SignMachine$Assembler" "labelValue" "I")) ∈ tb := mt 647 (by decide +kernel) rfl
theorem k_650 : ((Jvm.Cond.fieldLink "SignMachine$Assembler" (268 : Nat) "SignMachine$Assembler" "kind" "I")) ∈ tb := mt 650 (by decide +kernel) rfl
theorem k_651 : ((Jvm.Cond.fieldLink "SignMachine$Assembler" (269 : Nat) "SignMachine$Assembler" "goal" "I")) ∈ tb := mt 651 (by decide +kernel) rfl
theorem k_684 : ((Jvm.Cond.instanceMethod ({ cls := "SignMachine$Source", name := "hasRoom", desc := "()Z" } : Jvm.MethodName))) ∈ tb := mt 684 (by decide +kernel) rfl
theorem k_685 : ((Jvm.Cond.selects "SignMachine$Source" ({ cls := "SignMachine$Source", name := "hasRoom", desc := "()Z" } : Jvm.MethodName) ({ cls := "SignMachine$Source", name := "hasRoom", desc := "()Z" } : Jvm.MethodName))) ∈ tb := mt 685 (by decide +kernel) rfl
theorem k_686 : ((Jvm.Cond.code ({ cls := "SignMachine$Source", name := "hasRoom", desc := "()Z" } : Jvm.MethodName) prog_7_method_2_code (1 : Nat) (Option.some Jvm.ClassFile.FieldType.boolean))) ∈ tb := mt 686 (by decide +kernel) rfl
theorem k_700 : ((Jvm.Cond.instanceMethod ({ cls := "SignMachine$Assembler", name := "begin", desc := "()V" } : Jvm.MethodName))) ∈ tb := mt 700 (by decide +kernel) rfl
theorem k_701 : ((Jvm.Cond.selects "SignMachine$Assembler" ({ cls := "SignMachine$Assembler", name := "begin", desc := "()V" } : Jvm.MethodName) ({ cls := "SignMachine$Assembler", name := "begin", desc := "()V" } : Jvm.MethodName))) ∈ tb := mt 701 (by decide +kernel) rfl
theorem k_702 : ((Jvm.Cond.code ({ cls := "SignMachine$Assembler", name := "begin", desc := "()V" } : Jvm.MethodName) prog_2_method_2_code (1 : Nat) (Option.none : Option Jvm.ClassFile.FieldType))) ∈ tb := mt 702 (by decide +kernel) rfl
theorem k_703 : ((Jvm.Cond.methodLink "SignMachine$Assembler" (36 : Nat) ({ cls := "SignMachine$Source", name := "begin", desc := "()V" } : Jvm.MethodName))) ∈ tb := mt 703 (by decide +kernel) rfl
theorem k_704 : ((Jvm.Cond.instanceMethod ({ cls := "SignMachine$Source", name := "begin", desc := "()V" } : Jvm.MethodName))) ∈ tb := mt 704 (by decide +kernel) rfl
theorem k_705 : ((Jvm.Cond.selects "SignMachine$Source" ({ cls := "SignMachine$Source", name := "begin", desc := "()V" } : Jvm.MethodName) ({ cls := "SignMachine$Source", name := "begin", desc := "()V" } : Jvm.MethodName))) ∈ tb := mt 705 (by decide +kernel) rfl
theorem k_706 : ((Jvm.Cond.code ({ cls := "SignMachine$Source", name := "begin", desc := "()V" } : Jvm.MethodName) prog_7_method_4_code (1 : Nat) (Option.none : Option Jvm.ClassFile.FieldType))) ∈ tb := mt 706 (by decide +kernel) rfl
theorem k_707 : ((Jvm.Cond.methodLink "SignMachine$Assembler" (39 : Nat) ({ cls := "SignMachine$Names", name := "clear", desc := "()V" } : Jvm.MethodName))) ∈ tb := mt 707 (by decide +kernel) rfl
theorem k_708 : ((Jvm.Cond.instanceMethod ({ cls := "SignMachine$Names", name := "clear", desc := "()V" } : Jvm.MethodName))) ∈ tb := mt 708 (by decide +kernel) rfl
theorem k_709 : ((Jvm.Cond.selects "SignMachine$Names" ({ cls := "SignMachine$Names", name := "clear", desc := "()V" } : Jvm.MethodName) ({ cls := "SignMachine$Names", name := "clear", desc := "()V" } : Jvm.MethodName))) ∈ tb := mt 709 (by decide +kernel) rfl
theorem k_710 : ((Jvm.Cond.code ({ cls := "SignMachine$Names", name := "clear", desc := "()V" } : Jvm.MethodName) prog_4_method_6_code (2 : Nat) (Option.none : Option Jvm.ClassFile.FieldType))) ∈ tb := mt 710 (by decide +kernel) rfl
theorem k_711 : ((Jvm.Cond.methodLink "SignMachine$Assembler" (42 : Nat) ({ cls := "SignMachine$Output", name := "clear", desc := "()V" } : Jvm.MethodName))) ∈ tb := mt 711 (by decide +kernel) rfl
theorem k_712 : ((Jvm.Cond.instanceMethod ({ cls := "SignMachine$Output", name := "clear", desc := "()V" } : Jvm.MethodName))) ∈ tb := mt 712 (by decide +kernel) rfl
theorem k_713 : ((Jvm.Cond.selects "SignMachine$Output" ({ cls := "SignMachine$Output", name := "clear", desc := "()V" } : Jvm.MethodName) ({ cls := "SignMachine$Output", name := "clear", desc := "()V" } : Jvm.MethodName))) ∈ tb := mt 713 (by decide +kernel) rfl
theorem k_714 : ((Jvm.Cond.code ({ cls := "SignMachine$Output", name := "clear", desc := "()V" } : Jvm.MethodName) prog_6_method_2_code (2 : Nat) (Option.none : Option Jvm.ClassFile.FieldType))) ∈ tb := mt 714 (by decide +kernel) rfl
theorem k_716 : ((Jvm.Cond.instanceMethod ({ cls := "SignMachine$Assembler", name := "hasLine", desc := "()Z" } : Jvm.MethodName))) ∈ tb := mt 716 (by decide +kernel) rfl
theorem k_717 : ((Jvm.Cond.selects "SignMachine$Assembler" ({ cls := "SignMachine$Assembler", name := "hasLine", desc := "()Z" } : Jvm.MethodName) ({ cls := "SignMachine$Assembler", name := "hasLine", desc := "()Z" } : Jvm.MethodName))) ∈ tb := mt 717 (by decide +kernel) rfl
theorem k_718 : ((Jvm.Cond.code ({ cls := "SignMachine$Assembler", name := "hasLine", desc := "()Z" } : Jvm.MethodName) prog_2_method_3_code (1 : Nat) (Option.some Jvm.ClassFile.FieldType.boolean))) ∈ tb := mt 718 (by decide +kernel) rfl
theorem k_719 : ((Jvm.Cond.methodLink "SignMachine$Assembler" (56 : Nat) ({ cls := "SignMachine$Source", name := "hasLine", desc := "()Z" } : Jvm.MethodName))) ∈ tb := mt 719 (by decide +kernel) rfl
theorem k_720 : ((Jvm.Cond.instanceMethod ({ cls := "SignMachine$Source", name := "hasLine", desc := "()Z" } : Jvm.MethodName))) ∈ tb := mt 720 (by decide +kernel) rfl
theorem k_721 : ((Jvm.Cond.selects "SignMachine$Source" ({ cls := "SignMachine$Source", name := "hasLine", desc := "()Z" } : Jvm.MethodName) ({ cls := "SignMachine$Source", name := "hasLine", desc := "()Z" } : Jvm.MethodName))) ∈ tb := mt 721 (by decide +kernel) rfl
theorem k_722 : ((Jvm.Cond.code ({ cls := "SignMachine$Source", name := "hasLine", desc := "()Z" } : Jvm.MethodName) prog_7_method_5_code (1 : Nat) (Option.some Jvm.ClassFile.FieldType.boolean))) ∈ tb := mt 722 (by decide +kernel) rfl
theorem k_728 : ((Jvm.Cond.instanceMethod ({ cls := "SignMachine$Source", name := "nextLine", desc := "()V" } : Jvm.MethodName))) ∈ tb := mt 728 (by decide +kernel) rfl
theorem k_729 : ((Jvm.Cond.selects "SignMachine$Source" ({ cls := "SignMachine$Source", name := "nextLine", desc := "()V" } : Jvm.MethodName) ({ cls := "SignMachine$Source", name := "nextLine", desc := "()V" } : Jvm.MethodName))) ∈ tb := mt 729 (by decide +kernel) rfl
theorem k_730 : ((Jvm.Cond.code ({ cls := "SignMachine$Source", name := "nextLine", desc := "()V" } : Jvm.MethodName) prog_7_method_6_code (2 : Nat) (Option.none : Option Jvm.ClassFile.FieldType))) ∈ tb := mt 730 (by decide +kernel) rfl
theorem k_731 : ((Jvm.Cond.methodLink "SignMachine$Source" (29 : Nat) ({ cls := "SignMachine$Source", name := "byteAt", desc := "(I)I" } : Jvm.MethodName))) ∈ tb := mt 731 (by decide +kernel) rfl
theorem k_732 : ((Jvm.Cond.instanceMethod ({ cls := "SignMachine$Source", name := "byteAt", desc := "(I)I" } : Jvm.MethodName))) ∈ tb := mt 732 (by decide +kernel) rfl
theorem k_733 : ((Jvm.Cond.selects "SignMachine$Source" ({ cls := "SignMachine$Source", name := "byteAt", desc := "(I)I" } : Jvm.MethodName) ({ cls := "SignMachine$Source", name := "byteAt", desc := "(I)I" } : Jvm.MethodName))) ∈ tb := mt 733 (by decide +kernel) rfl
theorem k_734 : ((Jvm.Cond.code ({ cls := "SignMachine$Source", name := "byteAt", desc := "(I)I" } : Jvm.MethodName) prog_7_method_7_code (2 : Nat) (Option.some Jvm.ClassFile.FieldType.int))) ∈ tb := mt 734 (by decide +kernel) rfl
theorem k_737 : ((Jvm.Cond.instanceMethod ({ cls := "SignMachine$Assembler", name := "isNothing", desc := "()Z" } : Jvm.MethodName))) ∈ tb := mt 737 (by decide +kernel) rfl
theorem k_738 : ((Jvm.Cond.code ({ cls := "SignMachine$Assembler", name := "isNothing", desc := "()Z" } : Jvm.MethodName) prog_2_method_11_code (3 : Nat) (Option.some Jvm.ClassFile.FieldType.boolean))) ∈ tb := mt 738 (by decide +kernel) rfl
theorem k_739 : ((Jvm.Cond.methodLink "SignMachine$Assembler" (80 : Nat) ({ cls := "SignMachine$Source", name := "peek", desc := "()I" } : Jvm.MethodName))) ∈ tb := mt 739 (by decide +kernel) rfl
theorem k_740 : ((Jvm.Cond.instanceMethod ({ cls := "SignMachine$Source", name := "peek", desc := "()I" } : Jvm.MethodName))) ∈ tb := mt 740 (by decide +kernel) rfl
theorem k_741 : ((Jvm.Cond.selects "SignMachine$Source" ({ cls := "SignMachine$Source", name := "peek", desc := "()I" } : Jvm.MethodName) ({ cls := "SignMachine$Source", name := "peek", desc := "()I" } : Jvm.MethodName))) ∈ tb := mt 741 (by decide +kernel) rfl
theorem k_742 : ((Jvm.Cond.code ({ cls := "SignMachine$Source", name := "peek", desc := "()I" } : Jvm.MethodName) prog_7_method_8_code (1 : Nat) (Option.some Jvm.ClassFile.FieldType.int))) ∈ tb := mt 742 (by decide +kernel) rfl
theorem k_743 : ((Jvm.Cond.methodLink "SignMachine$Assembler" (77 : Nat) ({ cls := "SignMachine$Source", name := "skipBlanks", desc := "()V" } : Jvm.MethodName))) ∈ tb := mt 743 (by decide +kernel) rfl
theorem k_744 : ((Jvm.Cond.instanceMethod ({ cls := "SignMachine$Source", name := "skipBlanks", desc := "()V" } : Jvm.MethodName))) ∈ tb := mt 744 (by decide +kernel) rfl
theorem k_745 : ((Jvm.Cond.selects "SignMachine$Source" ({ cls := "SignMachine$Source", name := "skipBlanks", desc := "()V" } : Jvm.MethodName) ({ cls := "SignMachine$Source", name := "skipBlanks", desc := "()V" } : Jvm.MethodName))) ∈ tb := mt 745 (by decide +kernel) rfl
theorem k_746 : ((Jvm.Cond.code ({ cls := "SignMachine$Source", name := "skipBlanks", desc := "()V" } : Jvm.MethodName) prog_7_method_11_code (2 : Nat) (Option.none : Option Jvm.ClassFile.FieldType))) ∈ tb := mt 746 (by decide +kernel) rfl
theorem k_747 : ((Jvm.Cond.methodLink "SignMachine$Source" (33 : Nat) ({ cls := "SignMachine$Source", name := "peek", desc := "()I" } : Jvm.MethodName))) ∈ tb := mt 747 (by decide +kernel) rfl
theorem k_750 : ((Jvm.Cond.instanceMethod ({ cls := "SignMachine$Assembler", name := "readLabel", desc := "()V" } : Jvm.MethodName))) ∈ tb := mt 750 (by decide +kernel) rfl
theorem k_751 : ((Jvm.Cond.code ({ cls := "SignMachine$Assembler", name := "readLabel", desc := "()V" } : Jvm.MethodName) prog_2_method_12_code (1 : Nat) (Option.none : Option Jvm.ClassFile.FieldType))) ∈ tb := mt 751 (by decide +kernel) rfl
theorem k_752 : ((Jvm.Cond.methodLink "SignMachine$Assembler" (185 : Nat) ({ cls := "SignMachine$Source", name := "readToken", desc := "()V" } : Jvm.MethodName))) ∈ tb := mt 752 (by decide +kernel) rfl
theorem k_753 : ((Jvm.Cond.instanceMethod ({ cls := "SignMachine$Source", name := "readToken", desc := "()V" } : Jvm.MethodName))) ∈ tb := mt 753 (by decide +kernel) rfl
theorem k_754 : ((Jvm.Cond.selects "SignMachine$Source" ({ cls := "SignMachine$Source", name := "readToken", desc := "()V" } : Jvm.MethodName) ({ cls := "SignMachine$Source", name := "readToken", desc := "()V" } : Jvm.MethodName))) ∈ tb := mt 754 (by decide +kernel) rfl
theorem k_755 : ((Jvm.Cond.code ({ cls := "SignMachine$Source", name := "readToken", desc := "()V" } : Jvm.MethodName) prog_7_method_13_code (9 : Nat) (Option.none : Option Jvm.ClassFile.FieldType))) ∈ tb := mt 755 (by decide +kernel) rfl
theorem k_756 : ((Jvm.Cond.methodLink "SignMachine$Source" (40 : Nat) ({ cls := "SignMachine$Names", name := "codeOf", desc := "(I)I" } : Jvm.MethodName))) ∈ tb := mt 756 (by decide +kernel) rfl
theorem k_757 : ((Jvm.Cond.static ({ cls := "SignMachine$Names", name := "codeOf", desc := "(I)I" } : Jvm.MethodName))) ∈ tb := mt 757 (by decide +kernel) rfl
theorem k_758 : ((Jvm.Cond.code ({ cls := "SignMachine$Names", name := "codeOf", desc := "(I)I" } : Jvm.MethodName) prog_4_method_2_code (1 : Nat) (Option.some Jvm.ClassFile.FieldType.int))) ∈ tb := mt 758 (by decide +kernel) rfl
theorem k_759 : ((Jvm.Cond.methodLink "SignMachine$Source" (45 : Nat) ({ cls := "SignMachine$Names", name := "isLetter", desc := "(I)Z" } : Jvm.MethodName))) ∈ tb := mt 759 (by decide +kernel) rfl
theorem k_760 : ((Jvm.Cond.static ({ cls := "SignMachine$Names", name := "isLetter", desc := "(I)Z" } : Jvm.MethodName))) ∈ tb := mt 760 (by decide +kernel) rfl
theorem k_761 : ((Jvm.Cond.code ({ cls := "SignMachine$Names", name := "isLetter", desc := "(I)Z" } : Jvm.MethodName) prog_4_method_3_code (1 : Nat) (Option.some Jvm.ClassFile.FieldType.boolean))) ∈ tb := mt 761 (by decide +kernel) rfl
theorem k_762 : ((Jvm.Cond.constantLong "SignMachine$Source" (49 : Nat) (10 : Int64))) ∈ tb := mt 762 (by decide +kernel) rfl
theorem k_763 : ((Jvm.Cond.methodLink "SignMachine$Source" (51 : Nat) ({ cls := "SignMachine$Names", name := "digitOf", desc := "(I)I" } : Jvm.MethodName))) ∈ tb := mt 763 (by decide +kernel) rfl
theorem k_764 : ((Jvm.Cond.static ({ cls := "SignMachine$Names", name := "digitOf", desc := "(I)I" } : Jvm.MethodName))) ∈ tb := mt 764 (by decide +kernel) rfl
theorem k_765 : ((Jvm.Cond.code ({ cls := "SignMachine$Names", name := "digitOf", desc := "(I)I" } : Jvm.MethodName) prog_4_method_4_code (1 : Nat) (Option.some Jvm.ClassFile.FieldType.int))) ∈ tb := mt 765 (by decide +kernel) rfl
theorem k_766 : ((Jvm.Cond.constantLong "SignMachine$Source" (60 : Nat) (1073741823 : Int64))) ∈ tb := mt 766 (by decide +kernel) rfl
theorem k_767 : ((Jvm.Cond.methodLink "SignMachine$Assembler" (84 : Nat) ({ cls := "SignMachine$Assembler", name := "fail", desc := "(I)I" } : Jvm.MethodName))) ∈ tb := mt 767 (by decide +kernel) rfl
theorem k_769 : ((Jvm.Cond.instanceMethod ({ cls := "SignMachine$Assembler", name := "fail", desc := "(I)I" } : Jvm.MethodName))) ∈ tb := mt 769 (by decide +kernel) rfl
theorem k_770 : ((Jvm.Cond.code ({ cls := "SignMachine$Assembler", name := "fail", desc := "(I)I" } : Jvm.MethodName) prog_2_method_10_code (2 : Nat) (Option.some Jvm.ClassFile.FieldType.int))) ∈ tb := mt 770 (by decide +kernel) rfl
theorem k_771 : ((Jvm.Cond.methodLink "SignMachine$Assembler" (135 : Nat) ({ cls := "SignMachine$Names", name := "localDigit", desc := "(JI)I" } : Jvm.MethodName))) ∈ tb := mt 771 (by decide +kernel) rfl
theorem k_772 : ((Jvm.Cond.static ({ cls := "SignMachine$Names", name := "localDigit", desc := "(JI)I" } : Jvm.MethodName))) ∈ tb := mt 772 (by decide +kernel) rfl
theorem k_773 : ((Jvm.Cond.code ({ cls := "SignMachine$Names", name := "localDigit", desc := "(JI)I" } : Jvm.MethodName) prog_4_method_5_code (6 : Nat) (Option.some Jvm.ClassFile.FieldType.int))) ∈ tb := mt 773 (by decide +kernel) rfl
theorem k_774 : ((Jvm.Cond.constantLong "SignMachine$Names" (29 : Nat) (27 : Int64))) ∈ tb := mt 774 (by decide +kernel) rfl
theorem k_775 : ((Jvm.Cond.constantLong "SignMachine$Names" (31 : Nat) (63 : Int64))) ∈ tb := mt 775 (by decide +kernel) rfl
theorem k_776 : ((Jvm.Cond.constantLong "SignMachine$Names" (33 : Nat) (10 : Int64))) ∈ tb := mt 776 (by decide +kernel) rfl
theorem k_782 : ((Jvm.Cond.instanceMethod ({ cls := "SignMachine$Source", name := "skipToBlank", desc := "()V" } : Jvm.MethodName))) ∈ tb := mt 782 (by decide +kernel) rfl
theorem k_783 : ((Jvm.Cond.selects "SignMachine$Source" ({ cls := "SignMachine$Source", name := "skipToBlank", desc := "()V" } : Jvm.MethodName) ({ cls := "SignMachine$Source", name := "skipToBlank", desc := "()V" } : Jvm.MethodName))) ∈ tb := mt 783 (by decide +kernel) rfl
theorem k_784 : ((Jvm.Cond.code ({ cls := "SignMachine$Source", name := "skipToBlank", desc := "()V" } : Jvm.MethodName) prog_7_method_12_code (2 : Nat) (Option.none : Option Jvm.ClassFile.FieldType))) ∈ tb := mt 784 (by decide +kernel) rfl
theorem k_911 : ((Jvm.Cond.instanceMethod ({ cls := "SignMachine$Assembler", name := "tellLabel", desc := "(I)V" } : Jvm.MethodName))) ∈ tb := mt 911 (by decide +kernel) rfl
theorem k_912 : ((Jvm.Cond.code ({ cls := "SignMachine$Assembler", name := "tellLabel", desc := "(I)V" } : Jvm.MethodName) prog_2_method_14_code (3 : Nat) (Option.none : Option Jvm.ClassFile.FieldType))) ∈ tb := mt 912 (by decide +kernel) rfl
theorem k_913 : ((Jvm.Cond.methodLink "SignMachine$Assembler" (206 : Nat) ({ cls := "SignMachine$Output", name := "closeLocal", desc := "(II)V" } : Jvm.MethodName))) ∈ tb := mt 913 (by decide +kernel) rfl
theorem k_914 : ((Jvm.Cond.instanceMethod ({ cls := "SignMachine$Output", name := "closeLocal", desc := "(II)V" } : Jvm.MethodName))) ∈ tb := mt 914 (by decide +kernel) rfl
theorem k_915 : ((Jvm.Cond.selects "SignMachine$Output" ({ cls := "SignMachine$Output", name := "closeLocal", desc := "(II)V" } : Jvm.MethodName) ({ cls := "SignMachine$Output", name := "closeLocal", desc := "(II)V" } : Jvm.MethodName))) ∈ tb := mt 915 (by decide +kernel) rfl
theorem k_916 : ((Jvm.Cond.code ({ cls := "SignMachine$Output", name := "closeLocal", desc := "(II)V" } : Jvm.MethodName) prog_6_method_4_code (6 : Nat) (Option.none : Option Jvm.ClassFile.FieldType))) ∈ tb := mt 916 (by decide +kernel) rfl
theorem k_917 : ((Jvm.Cond.methodLink "SignMachine$Output" (39 : Nat) ({ cls := "SignMachine$Output", name := "isWord", desc := "(I)Z" } : Jvm.MethodName))) ∈ tb := mt 917 (by decide +kernel) rfl
theorem k_918 : ((Jvm.Cond.static ({ cls := "SignMachine$Output", name := "isWord", desc := "(I)Z" } : Jvm.MethodName))) ∈ tb := mt 918 (by decide +kernel) rfl
theorem k_919 : ((Jvm.Cond.code ({ cls := "SignMachine$Output", name := "isWord", desc := "(I)Z" } : Jvm.MethodName) prog_6_method_5_code (1 : Nat) (Option.some Jvm.ClassFile.FieldType.boolean))) ∈ tb := mt 919 (by decide +kernel) rfl
theorem k_920 : ((Jvm.Cond.methodLink "SignMachine$Assembler" (209 : Nat) ({ cls := "SignMachine$Assembler", name := "tellSymbol", desc := "(I)V" } : Jvm.MethodName))) ∈ tb := mt 920 (by decide +kernel) rfl
theorem k_922 : ((Jvm.Cond.instanceMethod ({ cls := "SignMachine$Assembler", name := "tellSymbol", desc := "(I)V" } : Jvm.MethodName))) ∈ tb := mt 922 (by decide +kernel) rfl
theorem k_923 : ((Jvm.Cond.code ({ cls := "SignMachine$Assembler", name := "tellSymbol", desc := "(I)V" } : Jvm.MethodName) prog_2_method_15_code (3 : Nat) (Option.none : Option Jvm.ClassFile.FieldType))) ∈ tb := mt 923 (by decide +kernel) rfl
theorem k_924 : ((Jvm.Cond.methodLink "SignMachine$Assembler" (212 : Nat) ({ cls := "SignMachine$Names", name := "find", desc := "(J)I" } : Jvm.MethodName))) ∈ tb := mt 924 (by decide +kernel) rfl
theorem k_925 : ((Jvm.Cond.instanceMethod ({ cls := "SignMachine$Names", name := "find", desc := "(J)I" } : Jvm.MethodName))) ∈ tb := mt 925 (by decide +kernel) rfl
theorem k_926 : ((Jvm.Cond.selects "SignMachine$Names" ({ cls := "SignMachine$Names", name := "find", desc := "(J)I" } : Jvm.MethodName) ({ cls := "SignMachine$Names", name := "find", desc := "(J)I" } : Jvm.MethodName))) ∈ tb := mt 926 (by decide +kernel) rfl
theorem k_927 : ((Jvm.Cond.code ({ cls := "SignMachine$Names", name := "find", desc := "(J)I" } : Jvm.MethodName) prog_4_method_7_code (4 : Nat) (Option.some Jvm.ClassFile.FieldType.int))) ∈ tb := mt 927 (by decide +kernel) rfl
theorem k_928 : ((Jvm.Cond.methodLink "SignMachine$Assembler" (215 : Nat) ({ cls := "SignMachine$Names", name := "isTold", desc := "(I)Z" } : Jvm.MethodName))) ∈ tb := mt 928 (by decide +kernel) rfl
theorem k_929 : ((Jvm.Cond.instanceMethod ({ cls := "SignMachine$Names", name := "isTold", desc := "(I)Z" } : Jvm.MethodName))) ∈ tb := mt 929 (by decide +kernel) rfl
theorem k_930 : ((Jvm.Cond.selects "SignMachine$Names" ({ cls := "SignMachine$Names", name := "isTold", desc := "(I)Z" } : Jvm.MethodName) ({ cls := "SignMachine$Names", name := "isTold", desc := "(I)Z" } : Jvm.MethodName))) ∈ tb := mt 930 (by decide +kernel) rfl
theorem k_931 : ((Jvm.Cond.code ({ cls := "SignMachine$Names", name := "isTold", desc := "(I)Z" } : Jvm.MethodName) prog_4_method_12_code (2 : Nat) (Option.some Jvm.ClassFile.FieldType.boolean))) ∈ tb := mt 931 (by decide +kernel) rfl
theorem k_932 : ((Jvm.Cond.methodLink "SignMachine$Assembler" (219 : Nat) ({ cls := "SignMachine$Names", name := "addSymbol", desc := "(J)I" } : Jvm.MethodName))) ∈ tb := mt 932 (by decide +kernel) rfl
theorem k_933 : ((Jvm.Cond.instanceMethod ({ cls := "SignMachine$Names", name := "addSymbol", desc := "(J)I" } : Jvm.MethodName))) ∈ tb := mt 933 (by decide +kernel) rfl
theorem k_934 : ((Jvm.Cond.selects "SignMachine$Names" ({ cls := "SignMachine$Names", name := "addSymbol", desc := "(J)I" } : Jvm.MethodName) ({ cls := "SignMachine$Names", name := "addSymbol", desc := "(J)I" } : Jvm.MethodName))) ∈ tb := mt 934 (by decide +kernel) rfl
theorem k_935 : ((Jvm.Cond.code ({ cls := "SignMachine$Names", name := "addSymbol", desc := "(J)I" } : Jvm.MethodName) prog_4_method_8_code (3 : Nat) (Option.some Jvm.ClassFile.FieldType.int))) ∈ tb := mt 935 (by decide +kernel) rfl
theorem k_936 : ((Jvm.Cond.methodLink "SignMachine$Names" (42 : Nat) ({ cls := "SignMachine$Names", name := "add", desc := "(JI)I" } : Jvm.MethodName))) ∈ tb := mt 936 (by decide +kernel) rfl
theorem k_938 : ((Jvm.Cond.instanceMethod ({ cls := "SignMachine$Names", name := "add", desc := "(JI)I" } : Jvm.MethodName))) ∈ tb := mt 938 (by decide +kernel) rfl
theorem k_939 : ((Jvm.Cond.code ({ cls := "SignMachine$Names", name := "add", desc := "(JI)I" } : Jvm.MethodName) prog_4_method_10_code (4 : Nat) (Option.some Jvm.ClassFile.FieldType.int))) ∈ tb := mt 939 (by decide +kernel) rfl
theorem k_940 : ((Jvm.Cond.methodLink "SignMachine$Assembler" (222 : Nat) ({ cls := "SignMachine$Names", name := "tell", desc := "(II)V" } : Jvm.MethodName))) ∈ tb := mt 940 (by decide +kernel) rfl
theorem k_941 : ((Jvm.Cond.instanceMethod ({ cls := "SignMachine$Names", name := "tell", desc := "(II)V" } : Jvm.MethodName))) ∈ tb := mt 941 (by decide +kernel) rfl
theorem k_942 : ((Jvm.Cond.selects "SignMachine$Names" ({ cls := "SignMachine$Names", name := "tell", desc := "(II)V" } : Jvm.MethodName) ({ cls := "SignMachine$Names", name := "tell", desc := "(II)V" } : Jvm.MethodName))) ∈ tb := mt 942 (by decide +kernel) rfl
theorem k_943 : ((Jvm.Cond.code ({ cls := "SignMachine$Names", name := "tell", desc := "(II)V" } : Jvm.MethodName) prog_4_method_13_code (3 : Nat) (Option.none : Option Jvm.ClassFile.FieldType))) ∈ tb := mt 943 (by decide +kernel) rfl
theorem k_954 : ((Jvm.Cond.methodLink "SignMachine$Assembler" (240 : Nat) ({ cls := "SignMachine$Source", name := "takes", desc := "(I)Z" } : Jvm.MethodName))) ∈ tb := mt 954 (by decide +kernel) rfl
theorem k_955 : ((Jvm.Cond.instanceMethod ({ cls := "SignMachine$Source", name := "takes", desc := "(I)Z" } : Jvm.MethodName))) ∈ tb := mt 955 (by decide +kernel) rfl
theorem k_956 : ((Jvm.Cond.selects "SignMachine$Source" ({ cls := "SignMachine$Source", name := "takes", desc := "(I)Z" } : Jvm.MethodName) ({ cls := "SignMachine$Source", name := "takes", desc := "(I)Z" } : Jvm.MethodName))) ∈ tb := mt 956 (by decide +kernel) rfl
theorem k_957 : ((Jvm.Cond.code ({ cls := "SignMachine$Source", name := "takes", desc := "(I)Z" } : Jvm.MethodName) prog_7_method_10_code (2 : Nat) (Option.some Jvm.ClassFile.FieldType.boolean))) ∈ tb := mt 957 (by decide +kernel) rfl
theorem k_961 : ((Jvm.Cond.instanceMethod ({ cls := "SignMachine$Source", name := "skip", desc := "()V" } : Jvm.MethodName))) ∈ tb := mt 961 (by decide +kernel) rfl
theorem k_962 : ((Jvm.Cond.selects "SignMachine$Source" ({ cls := "SignMachine$Source", name := "skip", desc := "()V" } : Jvm.MethodName) ({ cls := "SignMachine$Source", name := "skip", desc := "()V" } : Jvm.MethodName))) ∈ tb := mt 962 (by decide +kernel) rfl
theorem k_963 : ((Jvm.Cond.code ({ cls := "SignMachine$Source", name := "skip", desc := "()V" } : Jvm.MethodName) prog_7_method_9_code (1 : Nat) (Option.none : Option Jvm.ClassFile.FieldType))) ∈ tb := mt 963 (by decide +kernel) rfl
theorem k_966 : ((Jvm.Cond.instanceMethod ({ cls := "SignMachine$Assembler", name := "putWord", desc := "(I)V" } : Jvm.MethodName))) ∈ tb := mt 966 (by decide +kernel) rfl
theorem k_967 : ((Jvm.Cond.code ({ cls := "SignMachine$Assembler", name := "putWord", desc := "(I)V" } : Jvm.MethodName) prog_2_method_20_code (2 : Nat) (Option.none : Option Jvm.ClassFile.FieldType))) ∈ tb := mt 967 (by decide +kernel) rfl
theorem k_968 : ((Jvm.Cond.methodLink "SignMachine$Assembler" (265 : Nat) ({ cls := "SignMachine$Assembler", name := "putInstruction", desc := "(I)V" } : Jvm.MethodName))) ∈ tb := mt 968 (by decide +kernel) rfl
theorem k_970 : ((Jvm.Cond.instanceMethod ({ cls := "SignMachine$Assembler", name := "putInstruction", desc := "(I)V" } : Jvm.MethodName))) ∈ tb := mt 970 (by decide +kernel) rfl
theorem k_971 : ((Jvm.Cond.code ({ cls := "SignMachine$Assembler", name := "putInstruction", desc := "(I)V" } : Jvm.MethodName) prog_2_method_21_code (2 : Nat) (Option.none : Option Jvm.ClassFile.FieldType))) ∈ tb := mt 971 (by decide +kernel) rfl
theorem k_972 : ((Jvm.Cond.methodLink "SignMachine$Assembler" (225 : Nat) ({ cls := "SignMachine$Machine", name := "isAddress", desc := "(I)Z" } : Jvm.MethodName))) ∈ tb := mt 972 (by decide +kernel) rfl
theorem k_973 : ((Jvm.Cond.methodLink "SignMachine$Assembler" (272 : Nat) ({ cls := "SignMachine$Output", name := "add", desc := "(IIIII)V" } : Jvm.MethodName))) ∈ tb := mt 973 (by decide +kernel) rfl
theorem k_974 : ((Jvm.Cond.instanceMethod ({ cls := "SignMachine$Output", name := "add", desc := "(IIIII)V" } : Jvm.MethodName))) ∈ tb := mt 974 (by decide +kernel) rfl
theorem k_975 : ((Jvm.Cond.selects "SignMachine$Output" ({ cls := "SignMachine$Output", name := "add", desc := "(IIIII)V" } : Jvm.MethodName) ({ cls := "SignMachine$Output", name := "add", desc := "(IIIII)V" } : Jvm.MethodName))) ∈ tb := mt 975 (by decide +kernel) rfl
theorem k_976 : ((Jvm.Cond.code ({ cls := "SignMachine$Output", name := "add", desc := "(IIIII)V" } : Jvm.MethodName) prog_6_method_3_code (6 : Nat) (Option.none : Option Jvm.ClassFile.FieldType))) ∈ tb := mt 976 (by decide +kernel) rfl
theorem k_995 : ((Jvm.Cond.instanceMethod ({ cls := "SignMachine$Assembler", name := "atomValue", desc := "()I" } : Jvm.MethodName))) ∈ tb := mt 995 (by decide +kernel) rfl
theorem k_996 : ((Jvm.Cond.code ({ cls := "SignMachine$Assembler", name := "atomValue", desc := "()I" } : Jvm.MethodName) prog_2_method_32_code (3 : Nat) (Option.some Jvm.ClassFile.FieldType.int))) ∈ tb := mt 996 (by decide +kernel) rfl
theorem k_997 : ((Jvm.Cond.methodLink "SignMachine$Assembler" (318 : Nat) ({ cls := "SignMachine$Names", name := "isLocalTold", desc := "(I)Z" } : Jvm.MethodName))) ∈ tb := mt 997 (by decide +kernel) rfl
theorem k_998 : ((Jvm.Cond.instanceMethod ({ cls := "SignMachine$Names", name := "isLocalTold", desc := "(I)Z" } : Jvm.MethodName))) ∈ tb := mt 998 (by decide +kernel) rfl
theorem k_999 : ((Jvm.Cond.selects "SignMachine$Names" ({ cls := "SignMachine$Names", name := "isLocalTold", desc := "(I)Z" } : Jvm.MethodName) ({ cls := "SignMachine$Names", name := "isLocalTold", desc := "(I)Z" } : Jvm.MethodName))) ∈ tb := mt 999 (by decide +kernel) rfl
theorem k_1000 : ((Jvm.Cond.code ({ cls := "SignMachine$Names", name := "isLocalTold", desc := "(I)Z" } : Jvm.MethodName) prog_4_method_14_code (2 : Nat) (Option.some Jvm.ClassFile.FieldType.boolean))) ∈ tb := mt 1000 (by decide +kernel) rfl
theorem k_1001 : ((Jvm.Cond.methodLink "SignMachine$Assembler" (321 : Nat) ({ cls := "SignMachine$Names", name := "localValue", desc := "(I)I" } : Jvm.MethodName))) ∈ tb := mt 1001 (by decide +kernel) rfl
theorem k_1002 : ((Jvm.Cond.instanceMethod ({ cls := "SignMachine$Names", name := "localValue", desc := "(I)I" } : Jvm.MethodName))) ∈ tb := mt 1002 (by decide +kernel) rfl
theorem k_1003 : ((Jvm.Cond.selects "SignMachine$Names" ({ cls := "SignMachine$Names", name := "localValue", desc := "(I)I" } : Jvm.MethodName) ({ cls := "SignMachine$Names", name := "localValue", desc := "(I)I" } : Jvm.MethodName))) ∈ tb := mt 1003 (by decide +kernel) rfl
theorem k_1004 : ((Jvm.Cond.code ({ cls := "SignMachine$Names", name := "localValue", desc := "(I)I" } : Jvm.MethodName) prog_4_method_15_code (2 : Nat) (Option.some Jvm.ClassFile.FieldType.int))) ∈ tb := mt 1004 (by decide +kernel) rfl
theorem k_1005 : ((Jvm.Cond.methodLink "SignMachine$Assembler" (161 : Nat) ({ cls := "SignMachine$Names", name := "valueOf", desc := "(I)I" } : Jvm.MethodName))) ∈ tb := mt 1005 (by decide +kernel) rfl
theorem k_1006 : ((Jvm.Cond.instanceMethod ({ cls := "SignMachine$Names", name := "valueOf", desc := "(I)I" } : Jvm.MethodName))) ∈ tb := mt 1006 (by decide +kernel) rfl
theorem k_1007 : ((Jvm.Cond.selects "SignMachine$Names" ({ cls := "SignMachine$Names", name := "valueOf", desc := "(I)I" } : Jvm.MethodName) ({ cls := "SignMachine$Names", name := "valueOf", desc := "(I)I" } : Jvm.MethodName))) ∈ tb := mt 1007 (by decide +kernel) rfl
theorem k_1008 : ((Jvm.Cond.code ({ cls := "SignMachine$Names", name := "valueOf", desc := "(I)I" } : Jvm.MethodName) prog_4_method_11_code (2 : Nat) (Option.some Jvm.ClassFile.FieldType.int))) ∈ tb := mt 1008 (by decide +kernel) rfl
theorem k_1011 : ((Jvm.Cond.instanceMethod ({ cls := "SignMachine$Assembler", name := "reckon", desc := "(JIJ)J" } : Jvm.MethodName))) ∈ tb := mt 1011 (by decide +kernel) rfl
theorem k_1012 : ((Jvm.Cond.code ({ cls := "SignMachine$Assembler", name := "reckon", desc := "(JIJ)J" } : Jvm.MethodName) prog_2_method_31_code (8 : Nat) (Option.some Jvm.ClassFile.FieldType.long))) ∈ tb := mt 1012 (by decide +kernel) rfl
theorem k_1013 : ((Jvm.Cond.constantLong "SignMachine$Assembler" (309 : Nat) (8 : Int64))) ∈ tb := mt 1013 (by decide +kernel) rfl
theorem k_1014 : ((Jvm.Cond.methodLink "SignMachine$Assembler" (311 : Nat) ({ cls := "java/lang/Math", name := "abs", desc := "(J)J" } : Jvm.MethodName))) ∈ tb := mt 1014 (by decide +kernel) rfl
theorem k_1015 : ((Jvm.Cond.static ({ cls := "java/lang/Math", name := "abs", desc := "(J)J" } : Jvm.MethodName))) ∈ tb := mt 1015 (by decide +kernel) rfl
theorem k_1017 : ((Jvm.Cond.constantLong "SignMachine$Assembler" (314 : Nat) (1073741823 : Int64))) ∈ tb := mt 1017 (by decide +kernel) rfl
theorem k_1018 : ((Jvm.Cond.methodLink "SignMachine$Assembler" (285 : Nat) ({ cls := "SignMachine$Assembler", name := "isOperator", desc := "(I)Z" } : Jvm.MethodName))) ∈ tb := mt 1018 (by decide +kernel) rfl
theorem k_1019 : ((Jvm.Cond.static ({ cls := "SignMachine$Assembler", name := "isOperator", desc := "(I)Z" } : Jvm.MethodName))) ∈ tb := mt 1019 (by decide +kernel) rfl
theorem k_1020 : ((Jvm.Cond.code ({ cls := "SignMachine$Assembler", name := "isOperator", desc := "(I)Z" } : Jvm.MethodName) prog_2_method_30_code (1 : Nat) (Option.some Jvm.ClassFile.FieldType.boolean))) ∈ tb := mt 1020 (by decide +kernel) rfl
theorem k_1023 : ((Jvm.Cond.instanceMethod ({ cls := "SignMachine$Assembler", name := "expectBracket", desc := "()V" } : Jvm.MethodName))) ∈ tb := mt 1023 (by decide +kernel) rfl
theorem k_1024 : ((Jvm.Cond.code ({ cls := "SignMachine$Assembler", name := "expectBracket", desc := "()V" } : Jvm.MethodName) prog_2_method_27_code (1 : Nat) (Option.none : Option Jvm.ClassFile.FieldType))) ∈ tb := mt 1024 (by decide +kernel) rfl
theorem k_1030 : ((Jvm.Cond.instanceMethod ({ cls := "SignMachine$Assembler", name := "takeLiteral", desc := "(I)V" } : Jvm.MethodName))) ∈ tb := mt 1030 (by decide +kernel) rfl
theorem k_1031 : ((Jvm.Cond.code ({ cls := "SignMachine$Assembler", name := "takeLiteral", desc := "(I)V" } : Jvm.MethodName) prog_2_method_23_code (2 : Nat) (Option.none : Option Jvm.ClassFile.FieldType))) ∈ tb := mt 1031 (by decide +kernel) rfl
theorem k_1032 : ((Jvm.Cond.methodLink "SignMachine$Assembler" (282 : Nat) ({ cls := "SignMachine$Names", name := "addLiteral", desc := "(I)I" } : Jvm.MethodName))) ∈ tb := mt 1032 (by decide +kernel) rfl
theorem k_1033 : ((Jvm.Cond.instanceMethod ({ cls := "SignMachine$Names", name := "addLiteral", desc := "(I)I" } : Jvm.MethodName))) ∈ tb := mt 1033 (by decide +kernel) rfl
theorem k_1034 : ((Jvm.Cond.selects "SignMachine$Names" ({ cls := "SignMachine$Names", name := "addLiteral", desc := "(I)I" } : Jvm.MethodName) ({ cls := "SignMachine$Names", name := "addLiteral", desc := "(I)I" } : Jvm.MethodName))) ∈ tb := mt 1034 (by decide +kernel) rfl
theorem k_1035 : ((Jvm.Cond.code ({ cls := "SignMachine$Names", name := "addLiteral", desc := "(I)I" } : Jvm.MethodName) prog_4_method_9_code (2 : Nat) (Option.some Jvm.ClassFile.FieldType.int))) ∈ tb := mt 1035 (by decide +kernel) rfl
theorem k_1038 : ((Jvm.Cond.instanceMethod ({ cls := "SignMachine$Assembler", name := "readLaterName", desc := "()Z" } : Jvm.MethodName))) ∈ tb := mt 1038 (by decide +kernel) rfl
theorem k_1039 : ((Jvm.Cond.code ({ cls := "SignMachine$Assembler", name := "readLaterName", desc := "()Z" } : Jvm.MethodName) prog_2_method_24_code (3 : Nat) (Option.some Jvm.ClassFile.FieldType.boolean))) ∈ tb := mt 1039 (by decide +kernel) rfl
theorem k_1040 : ((Jvm.Cond.methodLink "SignMachine$Assembler" (288 : Nat) ({ cls := "SignMachine$Assembler", name := "isLaterSymbol", desc := "(J)Z" } : Jvm.MethodName))) ∈ tb := mt 1040 (by decide +kernel) rfl
theorem k_1042 : ((Jvm.Cond.instanceMethod ({ cls := "SignMachine$Assembler", name := "isLaterSymbol", desc := "(J)Z" } : Jvm.MethodName))) ∈ tb := mt 1042 (by decide +kernel) rfl
theorem k_1043 : ((Jvm.Cond.code ({ cls := "SignMachine$Assembler", name := "isLaterSymbol", desc := "(J)Z" } : Jvm.MethodName) prog_2_method_25_code (3 : Nat) (Option.some Jvm.ClassFile.FieldType.boolean))) ∈ tb := mt 1043 (by decide +kernel) rfl
theorem k_1046 : ((Jvm.Cond.instanceMethod ({ cls := "SignMachine$Assembler", name := "expectEnd", desc := "()V" } : Jvm.MethodName))) ∈ tb := mt 1046 (by decide +kernel) rfl
theorem k_1047 : ((Jvm.Cond.code ({ cls := "SignMachine$Assembler", name := "expectEnd", desc := "()V" } : Jvm.MethodName) prog_2_method_26_code (2 : Nat) (Option.none : Option Jvm.ClassFile.FieldType))) ∈ tb := mt 1047 (by decide +kernel) rfl
theorem k_1048 : ((Jvm.Cond.methodLink "SignMachine$Assembler" (167 : Nat) ({ cls := "java/lang/Math", name := "abs", desc := "(I)I" } : Jvm.MethodName))) ∈ tb := mt 1048 (by decide +kernel) rfl
theorem k_1050 : ((Jvm.Cond.static ({ cls := "SignMachine$Assembler", name := "addressPart", desc := "(I)I" } : Jvm.MethodName))) ∈ tb := mt 1050 (by decide +kernel) rfl
theorem k_1051 : ((Jvm.Cond.code ({ cls := "SignMachine$Assembler", name := "addressPart", desc := "(I)I" } : Jvm.MethodName) prog_2_method_9_code (1 : Nat) (Option.some Jvm.ClassFile.FieldType.int))) ∈ tb := mt 1051 (by decide +kernel) rfl
theorem k_1052 : ((Jvm.Cond.methodLink "SignMachine$Assembler" (175 : Nat) ({ cls := "SignMachine$Word", name := "make", desc := "(II)I" } : Jvm.MethodName))) ∈ tb := mt 1052 (by decide +kernel) rfl
theorem k_1067 : ((Jvm.Cond.instanceMethod ({ cls := "SignMachine$Assembler", name := "leaveLine", desc := "()V" } : Jvm.MethodName))) ∈ tb := mt 1067 (by decide +kernel) rfl
theorem k_1068 : ((Jvm.Cond.selects "SignMachine$Assembler" ({ cls := "SignMachine$Assembler", name := "leaveLine", desc := "()V" } : Jvm.MethodName) ({ cls := "SignMachine$Assembler", name := "leaveLine", desc := "()V" } : Jvm.MethodName))) ∈ tb := mt 1068 (by decide +kernel) rfl
theorem k_1069 : ((Jvm.Cond.code ({ cls := "SignMachine$Assembler", name := "leaveLine", desc := "()V" } : Jvm.MethodName) prog_2_method_6_code (1 : Nat) (Option.none : Option Jvm.ClassFile.FieldType))) ∈ tb := mt 1069 (by decide +kernel) rfl
theorem k_1070 : ((Jvm.Cond.methodLink "SignMachine$Assembler" (142 : Nat) ({ cls := "SignMachine$Names", name := "tellLocal", desc := "(II)V" } : Jvm.MethodName))) ∈ tb := mt 1070 (by decide +kernel) rfl
theorem k_1071 : ((Jvm.Cond.instanceMethod ({ cls := "SignMachine$Names", name := "tellLocal", desc := "(II)V" } : Jvm.MethodName))) ∈ tb := mt 1071 (by decide +kernel) rfl
theorem k_1072 : ((Jvm.Cond.selects "SignMachine$Names" ({ cls := "SignMachine$Names", name := "tellLocal", desc := "(II)V" } : Jvm.MethodName) ({ cls := "SignMachine$Names", name := "tellLocal", desc := "(II)V" } : Jvm.MethodName))) ∈ tb := mt 1072 (by decide +kernel) rfl
theorem k_1073 : ((Jvm.Cond.code ({ cls := "SignMachine$Names", name := "tellLocal", desc := "(II)V" } : Jvm.MethodName) prog_4_method_16_code (3 : Nat) (Option.none : Option Jvm.ClassFile.FieldType))) ∈ tb := mt 1073 (by decide +kernel) rfl
theorem k_1080 : ((Jvm.Cond.instanceMethod ({ cls := "SignMachine$Assembler", name := "close", desc := "(I)V" } : Jvm.MethodName))) ∈ tb := mt 1080 (by decide +kernel) rfl
theorem k_1081 : ((Jvm.Cond.code ({ cls := "SignMachine$Assembler", name := "close", desc := "(I)V" } : Jvm.MethodName) prog_2_method_8_code (4 : Nat) (Option.none : Option Jvm.ClassFile.FieldType))) ∈ tb := mt 1081 (by decide +kernel) rfl
theorem k_1082 : ((Jvm.Cond.methodLink "SignMachine$Assembler" (155 : Nat) ({ cls := "SignMachine$Output", name := "kindOf", desc := "(I)I" } : Jvm.MethodName))) ∈ tb := mt 1082 (by decide +kernel) rfl
theorem k_1083 : ((Jvm.Cond.instanceMethod ({ cls := "SignMachine$Output", name := "kindOf", desc := "(I)I" } : Jvm.MethodName))) ∈ tb := mt 1083 (by decide +kernel) rfl
theorem k_1084 : ((Jvm.Cond.selects "SignMachine$Output" ({ cls := "SignMachine$Output", name := "kindOf", desc := "(I)I" } : Jvm.MethodName) ({ cls := "SignMachine$Output", name := "kindOf", desc := "(I)I" } : Jvm.MethodName))) ∈ tb := mt 1084 (by decide +kernel) rfl
theorem k_1085 : ((Jvm.Cond.code ({ cls := "SignMachine$Output", name := "kindOf", desc := "(I)I" } : Jvm.MethodName) prog_6_method_9_code (2 : Nat) (Option.some Jvm.ClassFile.FieldType.int))) ∈ tb := mt 1085 (by decide +kernel) rfl
theorem k_1086 : ((Jvm.Cond.methodLink "SignMachine$Assembler" (158 : Nat) ({ cls := "SignMachine$Output", name := "goalOf", desc := "(I)I" } : Jvm.MethodName))) ∈ tb := mt 1086 (by decide +kernel) rfl
theorem k_1087 : ((Jvm.Cond.instanceMethod ({ cls := "SignMachine$Output", name := "goalOf", desc := "(I)I" } : Jvm.MethodName))) ∈ tb := mt 1087 (by decide +kernel) rfl
theorem k_1088 : ((Jvm.Cond.selects "SignMachine$Output" ({ cls := "SignMachine$Output", name := "goalOf", desc := "(I)I" } : Jvm.MethodName) ({ cls := "SignMachine$Output", name := "goalOf", desc := "(I)I" } : Jvm.MethodName))) ∈ tb := mt 1088 (by decide +kernel) rfl
theorem k_1089 : ((Jvm.Cond.code ({ cls := "SignMachine$Output", name := "goalOf", desc := "(I)I" } : Jvm.MethodName) prog_6_method_10_code (2 : Nat) (Option.some Jvm.ClassFile.FieldType.int))) ∈ tb := mt 1089 (by decide +kernel) rfl
theorem k_1090 : ((Jvm.Cond.methodLink "SignMachine$Assembler" (164 : Nat) ({ cls := "SignMachine$Output", name := "lineOf", desc := "(I)I" } : Jvm.MethodName))) ∈ tb := mt 1090 (by decide +kernel) rfl
theorem k_1091 : ((Jvm.Cond.instanceMethod ({ cls := "SignMachine$Output", name := "lineOf", desc := "(I)I" } : Jvm.MethodName))) ∈ tb := mt 1091 (by decide +kernel) rfl
theorem k_1092 : ((Jvm.Cond.selects "SignMachine$Output" ({ cls := "SignMachine$Output", name := "lineOf", desc := "(I)I" } : Jvm.MethodName) ({ cls := "SignMachine$Output", name := "lineOf", desc := "(I)I" } : Jvm.MethodName))) ∈ tb := mt 1092 (by decide +kernel) rfl
theorem k_1093 : ((Jvm.Cond.code ({ cls := "SignMachine$Output", name := "lineOf", desc := "(I)I" } : Jvm.MethodName) prog_6_method_8_code (2 : Nat) (Option.some Jvm.ClassFile.FieldType.int))) ∈ tb := mt 1093 (by decide +kernel) rfl
theorem k_1094 : ((Jvm.Cond.methodLink "SignMachine$Assembler" (172 : Nat) ({ cls := "SignMachine$Output", name := "putAddress", desc := "(II)V" } : Jvm.MethodName))) ∈ tb := mt 1094 (by decide +kernel) rfl
theorem k_1095 : ((Jvm.Cond.instanceMethod ({ cls := "SignMachine$Output", name := "putAddress", desc := "(II)V" } : Jvm.MethodName))) ∈ tb := mt 1095 (by decide +kernel) rfl
theorem k_1096 : ((Jvm.Cond.selects "SignMachine$Output" ({ cls := "SignMachine$Output", name := "putAddress", desc := "(II)V" } : Jvm.MethodName) ({ cls := "SignMachine$Output", name := "putAddress", desc := "(II)V" } : Jvm.MethodName))) ∈ tb := mt 1096 (by decide +kernel) rfl
theorem k_1097 : ((Jvm.Cond.code ({ cls := "SignMachine$Output", name := "putAddress", desc := "(II)V" } : Jvm.MethodName) prog_6_method_11_code (3 : Nat) (Option.none : Option Jvm.ClassFile.FieldType))) ∈ tb := mt 1097 (by decide +kernel) rfl
theorem k_1098 : ((Jvm.Cond.methodLink "SignMachine$Output" (43 : Nat) ({ cls := "SignMachine$Assembler", name := "addressPart", desc := "(I)I" } : Jvm.MethodName))) ∈ tb := mt 1098 (by decide +kernel) rfl
theorem k_1104 : ((Jvm.Cond.instanceMethod ({ cls := "SignMachine$Output", name := "placeOf", desc := "(I)I" } : Jvm.MethodName))) ∈ tb := mt 1104 (by decide +kernel) rfl
theorem k_1105 : ((Jvm.Cond.selects "SignMachine$Output" ({ cls := "SignMachine$Output", name := "placeOf", desc := "(I)I" } : Jvm.MethodName) ({ cls := "SignMachine$Output", name := "placeOf", desc := "(I)I" } : Jvm.MethodName))) ∈ tb := mt 1105 (by decide +kernel) rfl
theorem k_1106 : ((Jvm.Cond.code ({ cls := "SignMachine$Output", name := "placeOf", desc := "(I)I" } : Jvm.MethodName) prog_6_method_6_code (2 : Nat) (Option.some Jvm.ClassFile.FieldType.int))) ∈ tb := mt 1106 (by decide +kernel) rfl
theorem k_1108 : ((Jvm.Cond.instanceMethod ({ cls := "SignMachine$Output", name := "wordOf", desc := "(I)I" } : Jvm.MethodName))) ∈ tb := mt 1108 (by decide +kernel) rfl
theorem k_1109 : ((Jvm.Cond.selects "SignMachine$Output" ({ cls := "SignMachine$Output", name := "wordOf", desc := "(I)I" } : Jvm.MethodName) ({ cls := "SignMachine$Output", name := "wordOf", desc := "(I)I" } : Jvm.MethodName))) ∈ tb := mt 1109 (by decide +kernel) rfl
theorem k_1110 : ((Jvm.Cond.code ({ cls := "SignMachine$Output", name := "wordOf", desc := "(I)I" } : Jvm.MethodName) prog_6_method_7_code (2 : Nat) (Option.some Jvm.ClassFile.FieldType.int))) ∈ tb := mt 1110 (by decide +kernel) rfl
theorem k_absc : (Cond.code Lib.Math.abs.name Lib.Math.abs.code 1 (some .int)) ∈ tb := mt 332 (by decide +kernel) rfl
theorem k_abslc : (Cond.code Lib.MathLoose.abs_long.x Lib.MathLoose.abs_long.code 2 (some .long)) ∈ tb := mt 1016 (by decide +kernel) rfl
theorem k_minc : (Cond.code Lib.Math.min.name Lib.Math.min.code 2 (some .int)) ∈ tb := mt 405 (by decide +kernel) rfl
theorem n_144 : ((Jvm.Cond.methodLinkNest "SignMachine" (9 : Nat) ({ cls := "SignMachine$Machine", name := "<init>", desc := "()V" } : Jvm.MethodName) "SignMachine")) ∈ nst := nn 144 (by decide +kernel) rfl
theorem n_150 : ((Jvm.Cond.methodLinkNest "SignMachine$Machine" (20 : Nat) ({ cls := "SignMachine$Tape", name := "<init>", desc := "()V" } : Jvm.MethodName) "SignMachine")) ∈ nst := nn 150 (by decide +kernel) rfl
theorem n_155 : ((Jvm.Cond.fieldLinkNest "SignMachine$Machine" (131 : Nat) "SignMachine$Tape" "place" "I" "SignMachine")) ∈ nst := nn 155 (by decide +kernel) rfl
theorem n_530 : ((Jvm.Cond.methodLinkNest "SignMachine$Assembler" (11 : Nat) ({ cls := "SignMachine$Source", name := "<init>", desc := "()V" } : Jvm.MethodName) "SignMachine")) ∈ nst := nn 530 (by decide +kernel) rfl
theorem n_539 : ((Jvm.Cond.fieldLinkNest "SignMachine$Assembler" (179 : Nat) "SignMachine$Source" "line" "I" "SignMachine")) ∈ nst := nn 539 (by decide +kernel) rfl
theorem n_541 : ((Jvm.Cond.fieldLinkNest "SignMachine$Assembler" (182 : Nat) "SignMachine$Source" "at" "I" "SignMachine")) ∈ nst := nn 541 (by decide +kernel) rfl
theorem n_544 : ((Jvm.Cond.fieldLinkNest "SignMachine$Assembler" (188 : Nat) "SignMachine$Source" "kind" "I" "SignMachine")) ∈ nst := nn 544 (by decide +kernel) rfl
theorem n_546 : ((Jvm.Cond.fieldLinkNest "SignMachine$Assembler" (191 : Nat) "SignMachine$Source" "name" "J" "SignMachine")) ∈ nst := nn 546 (by decide +kernel) rfl
theorem n_549 : ((Jvm.Cond.fieldLinkNest "SignMachine$Assembler" (316 : Nat) "SignMachine$Source" "number" "I" "SignMachine")) ∈ nst := nn 549 (by decide +kernel) rfl
theorem n_572 : ((Jvm.Cond.methodLinkNest "SignMachine$Assembler" (20 : Nat) ({ cls := "SignMachine$Names", name := "<init>", desc := "()V" } : Jvm.MethodName) "SignMachine")) ∈ nst := nn 572 (by decide +kernel) rfl
theorem n_603 : ((Jvm.Cond.methodLinkNest "SignMachine$Assembler" (27 : Nat) ({ cls := "SignMachine$Output", name := "<init>", desc := "()V" } : Jvm.MethodName) "SignMachine")) ∈ nst := nn 603 (by decide +kernel) rfl
theorem k_obj : (Cond.code Lib.objectInit ⟨#[0xb1]⟩ 1 none) ∈ tb := mt 141 (by decide +kernel) rfl
