def tb : List Cond := lw_tbl.filter goodWord
theorem tb_good (w : Cond) (h : w ∈ tb) : (w.onTables && w.keeps) = true ∨ ∃ ty, w = .arrayClass ty := good_of_word (List.mem_filter.mp h).2
theorem mt {w : Cond} (i : Nat) (h : lw_tbl[i]? = some w) (hg : goodWord w = true) : w ∈ tb := List.mem_filter.mpr ⟨List.mem_of_getElem? h, hg⟩
theorem gi_t {c : Cond} (hc : c ∈ tb) : GoodIn tb (c :: tb) := by
  intro w hw
  rcases List.mem_cons.mp hw with rfl | h
  · exact ⟨hc, tb_good _ hc⟩
  · exact ⟨h, tb_good _ h⟩
theorem mk_s {R : Room} {s : State} {args : Array Value} {own : String} {index maxL mc ms : Nat} {y : MethodName} {bytes : ByteArray} {ret : Option FieldType} {rm : Room} (n : Nat) (hk : ∀ w ∈ tb, w.before args s = true) (hc : Cond.code y bytes maxL ret ∈ tb) (hl : Cond.methodLink own index y ∈ tb) (hs : Cond.static y ∈ tb) (hi : Cond.initialized y.cls ∈ tb) (hrc : rm.cells = mc) (hrs : rm.slots = ms)
    (hd : y.cls ≠ "java/lang/invoke/MethodHandle" ∧ y.cls ≠ "java/lang/invoke/VarHandle" ∧ (parseMethodDescriptor y.desc).map (fun d => d.parameters.length) = some n) (hR : rm.frames + 1 ≤ R.frames ∧ 8 + (maxL + 11) + rm.locals ≤ R.locals) :
    CallB R s args own index y bytes maxL ret (Cond.code y bytes maxL ret :: tb) rm mc ms n ∧ (Cond.static y).before args s = true := ⟨callB_of n hk (gi_t hc) rfl hrc hrs (hk _ hi) (hk _ hl) hd hR, hk _ hs⟩
theorem mk_v {R : Room} {s : State} {args : Array Value} {own C : String} {index maxL mc ms : Nat} {y : MethodName} {bytes : ByteArray} {ret : Option FieldType} {rm : Room} (n : Nat) (hk : ∀ w ∈ tb, w.before args s = true) (hc : Cond.code y bytes maxL ret ∈ tb) (hl : Cond.methodLink own index y ∈ tb) (hs : Cond.instanceMethod y ∈ tb) (hse : Cond.selects C y y ∈ tb) (hi : Cond.initialized y.cls ∈ tb) (hrc : rm.cells = mc) (hrs : rm.slots = ms)
    (hd : y.cls ≠ "java/lang/invoke/MethodHandle" ∧ y.cls ≠ "java/lang/invoke/VarHandle" ∧ (parseMethodDescriptor y.desc).map (fun d => d.parameters.length) = some n) (hR : rm.frames + 1 ≤ R.frames ∧ 8 + (maxL + 11) + rm.locals ≤ R.locals) :
    CallW R s args own C index y bytes maxL ret (Cond.code y bytes maxL ret :: tb) rm mc ms n := ⟨callB_of n hk (gi_t hc) rfl hrc hrs (hk _ hi) (hk _ hl) hd hR, hk _ hs, hk _ hse⟩
/-- a truth as the machine's int -/
def bI (b : Bool) : Int32 := if b = true then 1 else 0
theorem nar_bI (b : Bool) : narrow .boolean (.int (bI b)) = .int (bI b) := by cases b <;> rfl
theorem fit_bI (b : Bool) : fits .boolean (.int (bI b)) = true := by cases b <;> rfl
theorem bI_0 {b : Bool} : bI b = 0 ↔ b = false := by cases b <;> simp [bI]
theorem bI_n {b : Bool} : ¬ bI b = 0 ↔ b = true := by cases b <;> simp [bI]
/-- the words of nest mates, which ride beside the world -/
def isN : Cond → Bool
  | .fieldLinkNest .. => true
  | .methodLinkNest .. => true
  | _ => false
def nst : List Cond := lw_tbl.filter isN
theorem nn {w : Cond} (i : Nat) (h : lw_tbl[i]? = some w) (hg : isN w = true) : w ∈ nst := List.mem_filter.mpr ⟨List.mem_of_getElem? h, hg⟩
def F_S : u_T := fun k => match k with
  | 0 => ("SignMachine", "machine", "LSignMachine$Machine;", true)
  | _ => ("SignMachine", "assembler", "LSignMachine$Assembler;", false)
def ft_S : Nat → FieldType := fun k => match k with
  | 0 => .object "SignMachine$Machine"
  | _ => .object "SignMachine$Assembler"
theorem fn_S : ∀ a, a < 2 → ∀ b, b < 2 → a ≠ b → (F_S a).2.1 ≠ (F_S b).2.1 := by decide +kernel
theorem ft_S_ok : ∀ k, k < 2 → parseFieldDescriptor (F_S k).2.2.1 = some (ft_S k) := by decide +kernel
theorem fi_S : ∀ w ∈ u_ws "SignMachine" F_S 2, w ∈ tb := fun w h => List.mem_filter.mpr ((show ∀ w ∈ u_ws "SignMachine" F_S 2, w ∈ lw_tbl ∧ goodWord w = true from by decide +kernel) w h)
def F_M : u_T := fun k => match k with
  | 0 => ("SignMachine$Machine", "memory", "[I", true)
  | 1 => ("SignMachine$Machine", "registers", "[I", true)
  | 2 => ("SignMachine$Machine", "firstTape", "LSignMachine$Tape;", true)
  | 3 => ("SignMachine$Machine", "secondTape", "LSignMachine$Tape;", true)
  | 4 => ("SignMachine$Machine", "toggle", "Z", false)
  | 5 => ("SignMachine$Machine", "indicator", "I", false)
  | 6 => ("SignMachine$Machine", "time", "I", false)
  | 7 => ("SignMachine$Machine", "next", "I", false)
  | 8 => ("SignMachine$Machine", "ending", "I", false)
  | 9 => ("SignMachine$Machine", "code", "I", false)
  | 10 => ("SignMachine$Machine", "field", "I", false)
  | 11 => ("SignMachine$Machine", "index", "I", false)
  | 12 => ("SignMachine$Machine", "m", "I", false)
  | _ => ("SignMachine$Machine", "signOfZero", "I", false)
def ft_M : Nat → FieldType := fun k => match k with
  | 0 => .array .int
  | 1 => .array .int
  | 2 => .object "SignMachine$Tape"
  | 3 => .object "SignMachine$Tape"
  | 4 => .boolean
  | 5 => .int
  | 6 => .int
  | 7 => .int
  | 8 => .int
  | 9 => .int
  | 10 => .int
  | 11 => .int
  | 12 => .int
  | _ => .int
theorem fn_M : ∀ a, a < 14 → ∀ b, b < 14 → a ≠ b → (F_M a).2.1 ≠ (F_M b).2.1 := by decide +kernel
theorem ft_M_ok : ∀ k, k < 14 → parseFieldDescriptor (F_M k).2.2.1 = some (ft_M k) := by decide +kernel
theorem fi_M : ∀ w ∈ u_ws "SignMachine$Machine" F_M 14, w ∈ tb := fun w h => List.mem_filter.mpr ((show ∀ w ∈ u_ws "SignMachine$Machine" F_M 14, w ∈ lw_tbl ∧ goodWord w = true from by decide +kernel) w h)
def F_T : u_T := fun k => match k with
  | 0 => ("SignMachine$Tape", "place", "I", false)
  | _ => ("SignMachine$Tape", "words", "[I", false)
def ft_T : Nat → FieldType := fun k => match k with
  | 0 => .int
  | _ => .array .int
theorem fn_T : ∀ a, a < 2 → ∀ b, b < 2 → a ≠ b → (F_T a).2.1 ≠ (F_T b).2.1 := by decide +kernel
theorem ft_T_ok : ∀ k, k < 2 → parseFieldDescriptor (F_T k).2.2.1 = some (ft_T k) := by decide +kernel
theorem fi_T : ∀ w ∈ u_ws "SignMachine$Tape" F_T 2, w ∈ tb := fun w h => List.mem_filter.mpr ((show ∀ w ∈ u_ws "SignMachine$Tape" F_T 2, w ∈ lw_tbl ∧ goodWord w = true from by decide +kernel) w h)
def F_A : u_T := fun k => match k with
  | 0 => ("SignMachine$Assembler", "source", "LSignMachine$Source;", true)
  | 1 => ("SignMachine$Assembler", "names", "LSignMachine$Names;", true)
  | 2 => ("SignMachine$Assembler", "output", "LSignMachine$Output;", true)
  | 3 => ("SignMachine$Assembler", "fault", "I", false)
  | 4 => ("SignMachine$Assembler", "faultLine", "I", false)
  | 5 => ("SignMachine$Assembler", "firstFree", "I", false)
  | 6 => ("SignMachine$Assembler", "start", "I", false)
  | 7 => ("SignMachine$Assembler", "place", "I", false)
  | 8 => ("SignMachine$Assembler", "ended", "Z", false)
  | 9 => ("SignMachine$Assembler", "label", "J", false)
  | 10 => ("SignMachine$Assembler", "labelValue", "I", false)
  | 11 => ("SignMachine$Assembler", "op", "LSignMachine$Op;", false)
  | 12 => ("SignMachine$Assembler", "code", "I", false)
  | 13 => ("SignMachine$Assembler", "kind", "I", false)
  | _ => ("SignMachine$Assembler", "goal", "I", false)
def ft_A : Nat → FieldType := fun k => match k with
  | 0 => .object "SignMachine$Source"
  | 1 => .object "SignMachine$Names"
  | 2 => .object "SignMachine$Output"
  | 3 => .int
  | 4 => .int
  | 5 => .int
  | 6 => .int
  | 7 => .int
  | 8 => .boolean
  | 9 => .long
  | 10 => .int
  | 11 => .object "SignMachine$Op"
  | 12 => .int
  | 13 => .int
  | _ => .int
theorem fn_A : ∀ a, a < 15 → ∀ b, b < 15 → a ≠ b → (F_A a).2.1 ≠ (F_A b).2.1 := by decide +kernel
theorem ft_A_ok : ∀ k, k < 15 → parseFieldDescriptor (F_A k).2.2.1 = some (ft_A k) := by decide +kernel
theorem fi_A : ∀ w ∈ u_ws "SignMachine$Assembler" F_A 15, w ∈ tb := fun w h => List.mem_filter.mpr ((show ∀ w ∈ u_ws "SignMachine$Assembler" F_A 15, w ∈ lw_tbl ∧ goodWord w = true from by decide +kernel) w h)
def F_R : u_T := fun k => match k with
  | 0 => ("SignMachine$Source", "bytes", "[B", true)
  | 1 => ("SignMachine$Source", "length", "I", false)
  | 2 => ("SignMachine$Source", "line", "I", false)
  | 3 => ("SignMachine$Source", "at", "I", false)
  | 4 => ("SignMachine$Source", "stop", "I", false)
  | 5 => ("SignMachine$Source", "following", "I", false)
  | 6 => ("SignMachine$Source", "kind", "I", false)
  | 7 => ("SignMachine$Source", "name", "J", false)
  | _ => ("SignMachine$Source", "number", "I", false)
def ft_R : Nat → FieldType := fun k => match k with
  | 0 => .array .byte
  | 1 => .int
  | 2 => .int
  | 3 => .int
  | 4 => .int
  | 5 => .int
  | 6 => .int
  | 7 => .long
  | _ => .int
theorem fn_R : ∀ a, a < 9 → ∀ b, b < 9 → a ≠ b → (F_R a).2.1 ≠ (F_R b).2.1 := by decide +kernel
theorem ft_R_ok : ∀ k, k < 9 → parseFieldDescriptor (F_R k).2.2.1 = some (ft_R k) := by decide +kernel
theorem fi_R : ∀ w ∈ u_ws "SignMachine$Source" F_R 9, w ∈ tb := fun w h => List.mem_filter.mpr ((show ∀ w ∈ u_ws "SignMachine$Source" F_R 9, w ∈ lw_tbl ∧ goodWord w = true from by decide +kernel) w h)
def F_N : u_T := fun k => match k with
  | 0 => ("SignMachine$Names", "names", "[J", true)
  | 1 => ("SignMachine$Names", "values", "[I", true)
  | 2 => ("SignMachine$Names", "told", "[Z", true)
  | 3 => ("SignMachine$Names", "localValues", "[I", true)
  | 4 => ("SignMachine$Names", "localTold", "[Z", true)
  | 5 => ("SignMachine$Names", "count", "I", false)
  | _ => ("SignMachine$Names", "symbols", "I", false)
def ft_N : Nat → FieldType := fun k => match k with
  | 0 => .array .long
  | 1 => .array .int
  | 2 => .array .boolean
  | 3 => .array .int
  | 4 => .array .boolean
  | 5 => .int
  | _ => .int
theorem fn_N : ∀ a, a < 7 → ∀ b, b < 7 → a ≠ b → (F_N a).2.1 ≠ (F_N b).2.1 := by decide +kernel
theorem ft_N_ok : ∀ k, k < 7 → parseFieldDescriptor (F_N k).2.2.1 = some (ft_N k) := by decide +kernel
theorem fi_N : ∀ w ∈ u_ws "SignMachine$Names" F_N 7, w ∈ tb := fun w h => List.mem_filter.mpr ((show ∀ w ∈ u_ws "SignMachine$Names" F_N 7, w ∈ lw_tbl ∧ goodWord w = true from by decide +kernel) w h)
def F_O : u_T := fun k => match k with
  | 0 => ("SignMachine$Output", "places", "[I", true)
  | 1 => ("SignMachine$Output", "words", "[I", true)
  | 2 => ("SignMachine$Output", "lines", "[I", true)
  | 3 => ("SignMachine$Output", "kinds", "[B", true)
  | 4 => ("SignMachine$Output", "goals", "[I", true)
  | 5 => ("SignMachine$Output", "lastOpen", "[I", true)
  | _ => ("SignMachine$Output", "count", "I", false)
def ft_O : Nat → FieldType := fun k => match k with
  | 0 => .array .int
  | 1 => .array .int
  | 2 => .array .int
  | 3 => .array .byte
  | 4 => .array .int
  | 5 => .array .int
  | _ => .int
theorem fn_O : ∀ a, a < 7 → ∀ b, b < 7 → a ≠ b → (F_O a).2.1 ≠ (F_O b).2.1 := by decide +kernel
theorem ft_O_ok : ∀ k, k < 7 → parseFieldDescriptor (F_O k).2.2.1 = some (ft_O k) := by decide +kernel
theorem fi_O : ∀ w ∈ u_ws "SignMachine$Output" F_O 7, w ∈ tb := fun w h => List.mem_filter.mpr ((show ∀ w ∈ u_ws "SignMachine$Output" F_O 7, w ∈ lw_tbl ∧ goodWord w = true from by decide +kernel) w h)
abbrev classes : List vw_C := [("SignMachine", F_S, 2), ("SignMachine$Machine", F_M, 14), ("SignMachine$Tape", F_T, 2), ("SignMachine$Assembler", F_A, 15), ("SignMachine$Source", F_R, 9), ("SignMachine$Names", F_N, 7), ("SignMachine$Output", F_O, 7)]
abbrev b_O_isWord : ByteArray := prog_6_method_5_code
abbrev y_O_isWord : MethodName := ⟨"SignMachine$Output", "isWord", "(I)Z"⟩
theorem h_O_isWord : (y_O_isWord).cls ≠ "java/lang/invoke/MethodHandle" ∧ (y_O_isWord).cls ≠ "java/lang/invoke/VarHandle" ∧ (parseMethodDescriptor (y_O_isWord).desc).map (fun d => d.parameters.length) = some 1 := by decide +kernel
theorem d_O_isWord_0 : decode b_O_isWord 0 = .ok (.iload_n 0, 1) := by decide +kernel
theorem d_O_isWord_1 : decode b_O_isWord 1 = .ok (.ifCond .lt 14, 3) := by decide +kernel
theorem d_O_isWord_4 : decode b_O_isWord 4 = .ok (.iload_n 0, 1) := by decide +kernel
theorem d_O_isWord_5 : decode b_O_isWord 5 = .ok (.sipush 1101, 3) := by decide +kernel
theorem d_O_isWord_8 : decode b_O_isWord 8 = .ok (.if_icmp .ge 7, 3) := by decide +kernel
theorem d_O_isWord_11 : decode b_O_isWord 11 = .ok (.iconst 1, 1) := by decide +kernel
theorem d_O_isWord_12 : decode b_O_isWord 12 = .ok (.goto 4, 3) := by decide +kernel
theorem d_O_isWord_15 : decode b_O_isWord 15 = .ok (.iconst 0, 1) := by decide +kernel
theorem d_O_isWord_16 : decode b_O_isWord 16 = .ok (.ireturn, 1) := by decide +kernel
abbrev b_M_isAddress : ByteArray := prog_3_method_2_code
abbrev y_M_isAddress : MethodName := ⟨"SignMachine$Machine", "isAddress", "(I)Z"⟩
theorem h_M_isAddress : (y_M_isAddress).cls ≠ "java/lang/invoke/MethodHandle" ∧ (y_M_isAddress).cls ≠ "java/lang/invoke/VarHandle" ∧ (parseMethodDescriptor (y_M_isAddress).desc).map (fun d => d.parameters.length) = some 1 := by decide +kernel
theorem d_M_isAddress_0 : decode b_M_isAddress 0 = .ok (.iload_n 0, 1) := by decide +kernel
theorem d_M_isAddress_1 : decode b_M_isAddress 1 = .ok (.ifCond .lt 14, 3) := by decide +kernel
theorem d_M_isAddress_4 : decode b_M_isAddress 4 = .ok (.iload_n 0, 1) := by decide +kernel
theorem d_M_isAddress_5 : decode b_M_isAddress 5 = .ok (.sipush 4000, 3) := by decide +kernel
theorem d_M_isAddress_8 : decode b_M_isAddress 8 = .ok (.if_icmp .ge 7, 3) := by decide +kernel
theorem d_M_isAddress_11 : decode b_M_isAddress 11 = .ok (.iconst 1, 1) := by decide +kernel
theorem d_M_isAddress_12 : decode b_M_isAddress 12 = .ok (.goto 4, 3) := by decide +kernel
theorem d_M_isAddress_15 : decode b_M_isAddress 15 = .ok (.iconst 0, 1) := by decide +kernel
theorem d_M_isAddress_16 : decode b_M_isAddress 16 = .ok (.ireturn, 1) := by decide +kernel
abbrev b_S_init : ByteArray := prog_1_method_1_code
abbrev y_S_init : MethodName := ⟨"SignMachine", "<init>", "()V"⟩
theorem h_S_init : (y_S_init).cls ≠ "java/lang/invoke/MethodHandle" ∧ (y_S_init).cls ≠ "java/lang/invoke/VarHandle" ∧ (parseMethodDescriptor (y_S_init).desc).map (fun d => d.parameters.length) = some 0 := by decide +kernel
theorem d_S_init_0 : decode b_S_init 0 = .ok (.aload_n 0, 1) := by decide +kernel
theorem d_S_init_1 : decode b_S_init 1 = .ok (.invokespecial 1, 3) := by decide +kernel
theorem d_S_init_4 : decode b_S_init 4 = .ok (.aload_n 0, 1) := by decide +kernel
theorem d_S_init_5 : decode b_S_init 5 = .ok (.new 7, 3) := by decide +kernel
theorem d_S_init_8 : decode b_S_init 8 = .ok (.dup, 1) := by decide +kernel
theorem d_S_init_9 : decode b_S_init 9 = .ok (.invokespecial 9, 3) := by decide +kernel
theorem d_S_init_12 : decode b_S_init 12 = .ok (.putfield 10, 3) := by decide +kernel
theorem d_S_init_15 : decode b_S_init 15 = .ok (.return_, 1) := by decide +kernel
abbrev b_M_init : ByteArray := prog_3_method_1_code
abbrev y_M_init : MethodName := ⟨"SignMachine$Machine", "<init>", "()V"⟩
theorem h_M_init : (y_M_init).cls ≠ "java/lang/invoke/MethodHandle" ∧ (y_M_init).cls ≠ "java/lang/invoke/VarHandle" ∧ (parseMethodDescriptor (y_M_init).desc).map (fun d => d.parameters.length) = some 0 := by decide +kernel
theorem d_M_init_0 : decode b_M_init 0 = .ok (.aload_n 0, 1) := by decide +kernel
theorem d_M_init_1 : decode b_M_init 1 = .ok (.invokespecial 3, 3) := by decide +kernel
theorem d_M_init_4 : decode b_M_init 4 = .ok (.aload_n 0, 1) := by decide +kernel
theorem d_M_init_5 : decode b_M_init 5 = .ok (.sipush 4000, 3) := by decide +kernel
theorem d_M_init_8 : decode b_M_init 8 = .ok (.newarray .int, 2) := by decide +kernel
theorem d_M_init_10 : decode b_M_init 10 = .ok (.putfield 9, 3) := by decide +kernel
theorem d_M_init_13 : decode b_M_init 13 = .ok (.aload_n 0, 1) := by decide +kernel
theorem d_M_init_14 : decode b_M_init 14 = .ok (.bipush 9, 2) := by decide +kernel
theorem d_M_init_16 : decode b_M_init 16 = .ok (.newarray .int, 2) := by decide +kernel
theorem d_M_init_18 : decode b_M_init 18 = .ok (.putfield 15, 3) := by decide +kernel
theorem d_M_init_21 : decode b_M_init 21 = .ok (.aload_n 0, 1) := by decide +kernel
theorem d_M_init_22 : decode b_M_init 22 = .ok (.new 18, 3) := by decide +kernel
theorem d_M_init_25 : decode b_M_init 25 = .ok (.dup, 1) := by decide +kernel
theorem d_M_init_26 : decode b_M_init 26 = .ok (.invokespecial 20, 3) := by decide +kernel
theorem d_M_init_29 : decode b_M_init 29 = .ok (.putfield 21, 3) := by decide +kernel
theorem d_M_init_32 : decode b_M_init 32 = .ok (.aload_n 0, 1) := by decide +kernel
theorem d_M_init_33 : decode b_M_init 33 = .ok (.new 18, 3) := by decide +kernel
theorem d_M_init_36 : decode b_M_init 36 = .ok (.dup, 1) := by decide +kernel
theorem d_M_init_37 : decode b_M_init 37 = .ok (.invokespecial 20, 3) := by decide +kernel
theorem d_M_init_40 : decode b_M_init 40 = .ok (.putfield 25, 3) := by decide +kernel
theorem d_M_init_43 : decode b_M_init 43 = .ok (.return_, 1) := by decide +kernel
abbrev b_T_init : ByteArray := prog_8_method_1_code
abbrev y_T_init : MethodName := ⟨"SignMachine$Tape", "<init>", "()V"⟩
theorem h_T_init : (y_T_init).cls ≠ "java/lang/invoke/MethodHandle" ∧ (y_T_init).cls ≠ "java/lang/invoke/VarHandle" ∧ (parseMethodDescriptor (y_T_init).desc).map (fun d => d.parameters.length) = some 0 := by decide +kernel
theorem d_T_init_0 : decode b_T_init 0 = .ok (.aload_n 0, 1) := by decide +kernel
theorem d_T_init_1 : decode b_T_init 1 = .ok (.invokespecial 1, 3) := by decide +kernel
theorem d_T_init_4 : decode b_T_init 4 = .ok (.return_, 1) := by decide +kernel
abbrev b_S_poke : ByteArray := prog_1_method_2_code
abbrev y_S_poke : MethodName := ⟨"SignMachine", "poke", "(III)Z"⟩
theorem h_S_poke : (y_S_poke).cls ≠ "java/lang/invoke/MethodHandle" ∧ (y_S_poke).cls ≠ "java/lang/invoke/VarHandle" ∧ (parseMethodDescriptor (y_S_poke).desc).map (fun d => d.parameters.length) = some 3 := by decide +kernel
theorem d_S_poke_0 : decode b_S_poke 0 = .ok (.iload_n 1, 1) := by decide +kernel
theorem d_S_poke_1 : decode b_S_poke 1 = .ok (.invokestatic 16, 3) := by decide +kernel
theorem d_S_poke_4 : decode b_S_poke 4 = .ok (.ifCond .eq 11, 3) := by decide +kernel
theorem d_S_poke_7 : decode b_S_poke 7 = .ok (.iload_n 2, 1) := by decide +kernel
theorem d_S_poke_8 : decode b_S_poke 8 = .ok (.iload_n 3, 1) := by decide +kernel
theorem d_S_poke_9 : decode b_S_poke 9 = .ok (.invokestatic 20, 3) := by decide +kernel
theorem d_S_poke_12 : decode b_S_poke 12 = .ok (.ifCond .ne 5, 3) := by decide +kernel
theorem d_S_poke_15 : decode b_S_poke 15 = .ok (.iconst 0, 1) := by decide +kernel
theorem d_S_poke_16 : decode b_S_poke 16 = .ok (.ireturn, 1) := by decide +kernel
theorem d_S_poke_17 : decode b_S_poke 17 = .ok (.aload_n 0, 1) := by decide +kernel
theorem d_S_poke_18 : decode b_S_poke 18 = .ok (.getfield 10, 3) := by decide +kernel
theorem d_S_poke_21 : decode b_S_poke 21 = .ok (.iload_n 1, 1) := by decide +kernel
theorem d_S_poke_22 : decode b_S_poke 22 = .ok (.iload_n 2, 1) := by decide +kernel
theorem d_S_poke_23 : decode b_S_poke 23 = .ok (.iload_n 3, 1) := by decide +kernel
theorem d_S_poke_24 : decode b_S_poke 24 = .ok (.invokestatic 26, 3) := by decide +kernel
theorem d_S_poke_27 : decode b_S_poke 27 = .ok (.invokevirtual 30, 3) := by decide +kernel
theorem d_S_poke_30 : decode b_S_poke 30 = .ok (.iconst 1, 1) := by decide +kernel
theorem d_S_poke_31 : decode b_S_poke 31 = .ok (.ireturn, 1) := by decide +kernel
abbrev b_W_isWord : ByteArray := prog_9_method_2_code
abbrev y_W_isWord : MethodName := ⟨"SignMachine$Word", "isWord", "(II)Z"⟩
theorem h_W_isWord : (y_W_isWord).cls ≠ "java/lang/invoke/MethodHandle" ∧ (y_W_isWord).cls ≠ "java/lang/invoke/VarHandle" ∧ (parseMethodDescriptor (y_W_isWord).desc).map (fun d => d.parameters.length) = some 2 := by decide +kernel
theorem d_W_isWord_0 : decode b_W_isWord 0 = .ok (.iload_n 0, 1) := by decide +kernel
theorem d_W_isWord_1 : decode b_W_isWord 1 = .ok (.ifCond .eq 8, 3) := by decide +kernel
theorem d_W_isWord_4 : decode b_W_isWord 4 = .ok (.iload_n 0, 1) := by decide +kernel
theorem d_W_isWord_5 : decode b_W_isWord 5 = .ok (.iconst 1, 1) := by decide +kernel
theorem d_W_isWord_6 : decode b_W_isWord 6 = .ok (.if_icmp .ne 17, 3) := by decide +kernel
theorem d_W_isWord_9 : decode b_W_isWord 9 = .ok (.iload_n 1, 1) := by decide +kernel
theorem d_W_isWord_10 : decode b_W_isWord 10 = .ok (.ifCond .lt 13, 3) := by decide +kernel
theorem d_W_isWord_13 : decode b_W_isWord 13 = .ok (.iload_n 1, 1) := by decide +kernel
theorem d_W_isWord_14 : decode b_W_isWord 14 = .ok (.ldc 9, 2) := by decide +kernel
theorem d_W_isWord_16 : decode b_W_isWord 16 = .ok (.if_icmp .gt 7, 3) := by decide +kernel
theorem d_W_isWord_19 : decode b_W_isWord 19 = .ok (.iconst 1, 1) := by decide +kernel
theorem d_W_isWord_20 : decode b_W_isWord 20 = .ok (.goto 4, 3) := by decide +kernel
theorem d_W_isWord_23 : decode b_W_isWord 23 = .ok (.iconst 0, 1) := by decide +kernel
theorem d_W_isWord_24 : decode b_W_isWord 24 = .ok (.ireturn, 1) := by decide +kernel
abbrev b_W_make : ByteArray := prog_9_method_3_code
abbrev y_W_make : MethodName := ⟨"SignMachine$Word", "make", "(II)I"⟩
theorem h_W_make : (y_W_make).cls ≠ "java/lang/invoke/MethodHandle" ∧ (y_W_make).cls ≠ "java/lang/invoke/VarHandle" ∧ (parseMethodDescriptor (y_W_make).desc).map (fun d => d.parameters.length) = some 2 := by decide +kernel
theorem d_W_make_0 : decode b_W_make 0 = .ok (.iload_n 0, 1) := by decide +kernel
theorem d_W_make_1 : decode b_W_make 1 = .ok (.ifCond .ne 7, 3) := by decide +kernel
theorem d_W_make_4 : decode b_W_make 4 = .ok (.iload_n 1, 1) := by decide +kernel
theorem d_W_make_5 : decode b_W_make 5 = .ok (.goto 7, 3) := by decide +kernel
theorem d_W_make_8 : decode b_W_make 8 = .ok (.iload_n 1, 1) := by decide +kernel
theorem d_W_make_9 : decode b_W_make 9 = .ok (.ldc 10, 2) := by decide +kernel
theorem d_W_make_11 : decode b_W_make 11 = .ok (.ior, 1) := by decide +kernel
theorem d_W_make_12 : decode b_W_make 12 = .ok (.ireturn, 1) := by decide +kernel
abbrev b_M_putWord : ByteArray := prog_3_method_7_code
abbrev y_M_putWord : MethodName := ⟨"SignMachine$Machine", "putWord", "(II)V"⟩
theorem h_M_putWord : (y_M_putWord).cls ≠ "java/lang/invoke/MethodHandle" ∧ (y_M_putWord).cls ≠ "java/lang/invoke/VarHandle" ∧ (parseMethodDescriptor (y_M_putWord).desc).map (fun d => d.parameters.length) = some 2 := by decide +kernel
theorem d_M_putWord_0 : decode b_M_putWord 0 = .ok (.iload_n 1, 1) := by decide +kernel
theorem d_M_putWord_1 : decode b_M_putWord 1 = .ok (.ifCond .lt 17, 3) := by decide +kernel
theorem d_M_putWord_4 : decode b_M_putWord 4 = .ok (.iload_n 1, 1) := by decide +kernel
theorem d_M_putWord_5 : decode b_M_putWord 5 = .ok (.sipush 4000, 3) := by decide +kernel
theorem d_M_putWord_8 : decode b_M_putWord 8 = .ok (.if_icmp .ge 10, 3) := by decide +kernel
theorem d_M_putWord_11 : decode b_M_putWord 11 = .ok (.aload_n 0, 1) := by decide +kernel
theorem d_M_putWord_12 : decode b_M_putWord 12 = .ok (.getfield 9, 3) := by decide +kernel
theorem d_M_putWord_15 : decode b_M_putWord 15 = .ok (.iload_n 1, 1) := by decide +kernel
theorem d_M_putWord_16 : decode b_M_putWord 16 = .ok (.iload_n 2, 1) := by decide +kernel
theorem d_M_putWord_17 : decode b_M_putWord 17 = .ok (.iastore, 1) := by decide +kernel
theorem d_M_putWord_18 : decode b_M_putWord 18 = .ok (.return_, 1) := by decide +kernel
abbrev b_S_peekSign : ByteArray := prog_1_method_3_code
abbrev y_S_peekSign : MethodName := ⟨"SignMachine", "peekSign", "(I)I"⟩
theorem h_S_peekSign : (y_S_peekSign).cls ≠ "java/lang/invoke/MethodHandle" ∧ (y_S_peekSign).cls ≠ "java/lang/invoke/VarHandle" ∧ (parseMethodDescriptor (y_S_peekSign).desc).map (fun d => d.parameters.length) = some 1 := by decide +kernel
theorem d_S_peekSign_0 : decode b_S_peekSign 0 = .ok (.iload_n 1, 1) := by decide +kernel
theorem d_S_peekSign_1 : decode b_S_peekSign 1 = .ok (.invokestatic 16, 3) := by decide +kernel
theorem d_S_peekSign_4 : decode b_S_peekSign 4 = .ok (.ifCond .eq 17, 3) := by decide +kernel
theorem d_S_peekSign_7 : decode b_S_peekSign 7 = .ok (.aload_n 0, 1) := by decide +kernel
theorem d_S_peekSign_8 : decode b_S_peekSign 8 = .ok (.getfield 10, 3) := by decide +kernel
theorem d_S_peekSign_11 : decode b_S_peekSign 11 = .ok (.iload_n 1, 1) := by decide +kernel
theorem d_S_peekSign_12 : decode b_S_peekSign 12 = .ok (.invokevirtual 34, 3) := by decide +kernel
theorem d_S_peekSign_15 : decode b_S_peekSign 15 = .ok (.invokestatic 38, 3) := by decide +kernel
theorem d_S_peekSign_18 : decode b_S_peekSign 18 = .ok (.goto 4, 3) := by decide +kernel
theorem d_S_peekSign_21 : decode b_S_peekSign 21 = .ok (.iconst (-1), 1) := by decide +kernel
theorem d_S_peekSign_22 : decode b_S_peekSign 22 = .ok (.ireturn, 1) := by decide +kernel
abbrev b_M_wordAt : ByteArray := prog_3_method_6_code
abbrev y_M_wordAt : MethodName := ⟨"SignMachine$Machine", "wordAt", "(I)I"⟩
theorem h_M_wordAt : (y_M_wordAt).cls ≠ "java/lang/invoke/MethodHandle" ∧ (y_M_wordAt).cls ≠ "java/lang/invoke/VarHandle" ∧ (parseMethodDescriptor (y_M_wordAt).desc).map (fun d => d.parameters.length) = some 1 := by decide +kernel
theorem d_M_wordAt_0 : decode b_M_wordAt 0 = .ok (.iload_n 1, 1) := by decide +kernel
theorem d_M_wordAt_1 : decode b_M_wordAt 1 = .ok (.ifCond .lt 19, 3) := by decide +kernel
theorem d_M_wordAt_4 : decode b_M_wordAt 4 = .ok (.iload_n 1, 1) := by decide +kernel
theorem d_M_wordAt_5 : decode b_M_wordAt 5 = .ok (.sipush 4000, 3) := by decide +kernel
theorem d_M_wordAt_8 : decode b_M_wordAt 8 = .ok (.if_icmp .ge 12, 3) := by decide +kernel
theorem d_M_wordAt_11 : decode b_M_wordAt 11 = .ok (.aload_n 0, 1) := by decide +kernel
theorem d_M_wordAt_12 : decode b_M_wordAt 12 = .ok (.getfield 9, 3) := by decide +kernel
theorem d_M_wordAt_15 : decode b_M_wordAt 15 = .ok (.iload_n 1, 1) := by decide +kernel
theorem d_M_wordAt_16 : decode b_M_wordAt 16 = .ok (.iaload, 1) := by decide +kernel
theorem d_M_wordAt_17 : decode b_M_wordAt 17 = .ok (.goto 4, 3) := by decide +kernel
theorem d_M_wordAt_20 : decode b_M_wordAt 20 = .ok (.iconst 0, 1) := by decide +kernel
theorem d_M_wordAt_21 : decode b_M_wordAt 21 = .ok (.ireturn, 1) := by decide +kernel
abbrev b_W_sign : ByteArray := prog_9_method_4_code
abbrev y_W_sign : MethodName := ⟨"SignMachine$Word", "sign", "(I)I"⟩
theorem h_W_sign : (y_W_sign).cls ≠ "java/lang/invoke/MethodHandle" ∧ (y_W_sign).cls ≠ "java/lang/invoke/VarHandle" ∧ (parseMethodDescriptor (y_W_sign).desc).map (fun d => d.parameters.length) = some 1 := by decide +kernel
theorem d_W_sign_0 : decode b_W_sign 0 = .ok (.iload_n 0, 1) := by decide +kernel
theorem d_W_sign_1 : decode b_W_sign 1 = .ok (.ldc 10, 2) := by decide +kernel
theorem d_W_sign_3 : decode b_W_sign 3 = .ok (.iand, 1) := by decide +kernel
theorem d_W_sign_4 : decode b_W_sign 4 = .ok (.ifCond .ne 7, 3) := by decide +kernel
theorem d_W_sign_7 : decode b_W_sign 7 = .ok (.iconst 0, 1) := by decide +kernel
theorem d_W_sign_8 : decode b_W_sign 8 = .ok (.goto 4, 3) := by decide +kernel
theorem d_W_sign_11 : decode b_W_sign 11 = .ok (.iconst 1, 1) := by decide +kernel
theorem d_W_sign_12 : decode b_W_sign 12 = .ok (.ireturn, 1) := by decide +kernel
abbrev b_S_peekSize : ByteArray := prog_1_method_4_code
abbrev y_S_peekSize : MethodName := ⟨"SignMachine", "peekSize", "(I)I"⟩
theorem h_S_peekSize : (y_S_peekSize).cls ≠ "java/lang/invoke/MethodHandle" ∧ (y_S_peekSize).cls ≠ "java/lang/invoke/VarHandle" ∧ (parseMethodDescriptor (y_S_peekSize).desc).map (fun d => d.parameters.length) = some 1 := by decide +kernel
theorem d_S_peekSize_0 : decode b_S_peekSize 0 = .ok (.iload_n 1, 1) := by decide +kernel
theorem d_S_peekSize_1 : decode b_S_peekSize 1 = .ok (.invokestatic 16, 3) := by decide +kernel
theorem d_S_peekSize_4 : decode b_S_peekSize 4 = .ok (.ifCond .eq 17, 3) := by decide +kernel
theorem d_S_peekSize_7 : decode b_S_peekSize 7 = .ok (.aload_n 0, 1) := by decide +kernel
theorem d_S_peekSize_8 : decode b_S_peekSize 8 = .ok (.getfield 10, 3) := by decide +kernel
theorem d_S_peekSize_11 : decode b_S_peekSize 11 = .ok (.iload_n 1, 1) := by decide +kernel
theorem d_S_peekSize_12 : decode b_S_peekSize 12 = .ok (.invokevirtual 34, 3) := by decide +kernel
theorem d_S_peekSize_15 : decode b_S_peekSize 15 = .ok (.invokestatic 41, 3) := by decide +kernel
theorem d_S_peekSize_18 : decode b_S_peekSize 18 = .ok (.goto 4, 3) := by decide +kernel
theorem d_S_peekSize_21 : decode b_S_peekSize 21 = .ok (.iconst (-1), 1) := by decide +kernel
theorem d_S_peekSize_22 : decode b_S_peekSize 22 = .ok (.ireturn, 1) := by decide +kernel
abbrev b_W_size : ByteArray := prog_9_method_5_code
abbrev y_W_size : MethodName := ⟨"SignMachine$Word", "size", "(I)I"⟩
theorem h_W_size : (y_W_size).cls ≠ "java/lang/invoke/MethodHandle" ∧ (y_W_size).cls ≠ "java/lang/invoke/VarHandle" ∧ (parseMethodDescriptor (y_W_size).desc).map (fun d => d.parameters.length) = some 1 := by decide +kernel
theorem d_W_size_0 : decode b_W_size 0 = .ok (.iload_n 0, 1) := by decide +kernel
theorem d_W_size_1 : decode b_W_size 1 = .ok (.ldc 9, 2) := by decide +kernel
theorem d_W_size_3 : decode b_W_size 3 = .ok (.iand, 1) := by decide +kernel
theorem d_W_size_4 : decode b_W_size 4 = .ok (.ireturn, 1) := by decide +kernel
abbrev b_S_registerSign : ByteArray := prog_1_method_7_code
abbrev y_S_registerSign : MethodName := ⟨"SignMachine", "registerSign", "(I)I"⟩
theorem h_S_registerSign : (y_S_registerSign).cls ≠ "java/lang/invoke/MethodHandle" ∧ (y_S_registerSign).cls ≠ "java/lang/invoke/VarHandle" ∧ (parseMethodDescriptor (y_S_registerSign).desc).map (fun d => d.parameters.length) = some 1 := by decide +kernel
theorem d_S_registerSign_0 : decode b_S_registerSign 0 = .ok (.iload_n 1, 1) := by decide +kernel
theorem d_S_registerSign_1 : decode b_S_registerSign 1 = .ok (.invokestatic 52, 3) := by decide +kernel
theorem d_S_registerSign_4 : decode b_S_registerSign 4 = .ok (.ifCond .eq 17, 3) := by decide +kernel
theorem d_S_registerSign_7 : decode b_S_registerSign 7 = .ok (.aload_n 0, 1) := by decide +kernel
theorem d_S_registerSign_8 : decode b_S_registerSign 8 = .ok (.getfield 10, 3) := by decide +kernel
theorem d_S_registerSign_11 : decode b_S_registerSign 11 = .ok (.iload_n 1, 1) := by decide +kernel
theorem d_S_registerSign_12 : decode b_S_registerSign 12 = .ok (.invokevirtual 55, 3) := by decide +kernel
theorem d_S_registerSign_15 : decode b_S_registerSign 15 = .ok (.invokestatic 38, 3) := by decide +kernel
theorem d_S_registerSign_18 : decode b_S_registerSign 18 = .ok (.goto 4, 3) := by decide +kernel
theorem d_S_registerSign_21 : decode b_S_registerSign 21 = .ok (.iconst (-1), 1) := by decide +kernel
theorem d_S_registerSign_22 : decode b_S_registerSign 22 = .ok (.ireturn, 1) := by decide +kernel
abbrev b_M_isRegister : ByteArray := prog_3_method_3_code
abbrev y_M_isRegister : MethodName := ⟨"SignMachine$Machine", "isRegister", "(I)Z"⟩
theorem h_M_isRegister : (y_M_isRegister).cls ≠ "java/lang/invoke/MethodHandle" ∧ (y_M_isRegister).cls ≠ "java/lang/invoke/VarHandle" ∧ (parseMethodDescriptor (y_M_isRegister).desc).map (fun d => d.parameters.length) = some 1 := by decide +kernel
theorem d_M_isRegister_0 : decode b_M_isRegister 0 = .ok (.iload_n 0, 1) := by decide +kernel
theorem d_M_isRegister_1 : decode b_M_isRegister 1 = .ok (.ifCond .lt 13, 3) := by decide +kernel
theorem d_M_isRegister_4 : decode b_M_isRegister 4 = .ok (.iload_n 0, 1) := by decide +kernel
theorem d_M_isRegister_5 : decode b_M_isRegister 5 = .ok (.bipush 9, 2) := by decide +kernel
theorem d_M_isRegister_7 : decode b_M_isRegister 7 = .ok (.if_icmp .ge 7, 3) := by decide +kernel
theorem d_M_isRegister_10 : decode b_M_isRegister 10 = .ok (.iconst 1, 1) := by decide +kernel
theorem d_M_isRegister_11 : decode b_M_isRegister 11 = .ok (.goto 4, 3) := by decide +kernel
theorem d_M_isRegister_14 : decode b_M_isRegister 14 = .ok (.iconst 0, 1) := by decide +kernel
theorem d_M_isRegister_15 : decode b_M_isRegister 15 = .ok (.ireturn, 1) := by decide +kernel
abbrev b_M_register : ByteArray := prog_3_method_8_code
abbrev y_M_register : MethodName := ⟨"SignMachine$Machine", "register", "(I)I"⟩
theorem h_M_register : (y_M_register).cls ≠ "java/lang/invoke/MethodHandle" ∧ (y_M_register).cls ≠ "java/lang/invoke/VarHandle" ∧ (parseMethodDescriptor (y_M_register).desc).map (fun d => d.parameters.length) = some 1 := by decide +kernel
theorem d_M_register_0 : decode b_M_register 0 = .ok (.iload_n 1, 1) := by decide +kernel
theorem d_M_register_1 : decode b_M_register 1 = .ok (.ifCond .lt 18, 3) := by decide +kernel
theorem d_M_register_4 : decode b_M_register 4 = .ok (.iload_n 1, 1) := by decide +kernel
theorem d_M_register_5 : decode b_M_register 5 = .ok (.bipush 9, 2) := by decide +kernel
theorem d_M_register_7 : decode b_M_register 7 = .ok (.if_icmp .ge 12, 3) := by decide +kernel
theorem d_M_register_10 : decode b_M_register 10 = .ok (.aload_n 0, 1) := by decide +kernel
theorem d_M_register_11 : decode b_M_register 11 = .ok (.getfield 15, 3) := by decide +kernel
theorem d_M_register_14 : decode b_M_register 14 = .ok (.iload_n 1, 1) := by decide +kernel
theorem d_M_register_15 : decode b_M_register 15 = .ok (.iaload, 1) := by decide +kernel
theorem d_M_register_16 : decode b_M_register 16 = .ok (.goto 4, 3) := by decide +kernel
theorem d_M_register_19 : decode b_M_register 19 = .ok (.iconst 0, 1) := by decide +kernel
theorem d_M_register_20 : decode b_M_register 20 = .ok (.ireturn, 1) := by decide +kernel
abbrev b_S_registerSize : ByteArray := prog_1_method_8_code
abbrev y_S_registerSize : MethodName := ⟨"SignMachine", "registerSize", "(I)I"⟩
theorem h_S_registerSize : (y_S_registerSize).cls ≠ "java/lang/invoke/MethodHandle" ∧ (y_S_registerSize).cls ≠ "java/lang/invoke/VarHandle" ∧ (parseMethodDescriptor (y_S_registerSize).desc).map (fun d => d.parameters.length) = some 1 := by decide +kernel
theorem d_S_registerSize_0 : decode b_S_registerSize 0 = .ok (.iload_n 1, 1) := by decide +kernel
theorem d_S_registerSize_1 : decode b_S_registerSize 1 = .ok (.invokestatic 52, 3) := by decide +kernel
theorem d_S_registerSize_4 : decode b_S_registerSize 4 = .ok (.ifCond .eq 17, 3) := by decide +kernel
theorem d_S_registerSize_7 : decode b_S_registerSize 7 = .ok (.aload_n 0, 1) := by decide +kernel
theorem d_S_registerSize_8 : decode b_S_registerSize 8 = .ok (.getfield 10, 3) := by decide +kernel
theorem d_S_registerSize_11 : decode b_S_registerSize 11 = .ok (.iload_n 1, 1) := by decide +kernel
theorem d_S_registerSize_12 : decode b_S_registerSize 12 = .ok (.invokevirtual 55, 3) := by decide +kernel
theorem d_S_registerSize_15 : decode b_S_registerSize 15 = .ok (.invokestatic 41, 3) := by decide +kernel
theorem d_S_registerSize_18 : decode b_S_registerSize 18 = .ok (.goto 4, 3) := by decide +kernel
theorem d_S_registerSize_21 : decode b_S_registerSize 21 = .ok (.iconst (-1), 1) := by decide +kernel
theorem d_S_registerSize_22 : decode b_S_registerSize 22 = .ok (.ireturn, 1) := by decide +kernel
abbrev b_S_set : ByteArray := prog_1_method_9_code
abbrev y_S_set : MethodName := ⟨"SignMachine", "set", "(III)Z"⟩
theorem h_S_set : (y_S_set).cls ≠ "java/lang/invoke/MethodHandle" ∧ (y_S_set).cls ≠ "java/lang/invoke/VarHandle" ∧ (parseMethodDescriptor (y_S_set).desc).map (fun d => d.parameters.length) = some 3 := by decide +kernel
theorem d_S_set_0 : decode b_S_set 0 = .ok (.iload_n 1, 1) := by decide +kernel
theorem d_S_set_1 : decode b_S_set 1 = .ok (.invokestatic 52, 3) := by decide +kernel
theorem d_S_set_4 : decode b_S_set 4 = .ok (.ifCond .eq 11, 3) := by decide +kernel
theorem d_S_set_7 : decode b_S_set 7 = .ok (.iload_n 2, 1) := by decide +kernel
theorem d_S_set_8 : decode b_S_set 8 = .ok (.iload_n 3, 1) := by decide +kernel
theorem d_S_set_9 : decode b_S_set 9 = .ok (.invokestatic 20, 3) := by decide +kernel
theorem d_S_set_12 : decode b_S_set 12 = .ok (.ifCond .ne 5, 3) := by decide +kernel
theorem d_S_set_15 : decode b_S_set 15 = .ok (.iconst 0, 1) := by decide +kernel
theorem d_S_set_16 : decode b_S_set 16 = .ok (.ireturn, 1) := by decide +kernel
theorem d_S_set_17 : decode b_S_set 17 = .ok (.iload_n 1, 1) := by decide +kernel
theorem d_S_set_18 : decode b_S_set 18 = .ok (.invokestatic 58, 3) := by decide +kernel
theorem d_S_set_21 : decode b_S_set 21 = .ok (.ifCond .eq 12, 3) := by decide +kernel
theorem d_S_set_24 : decode b_S_set 24 = .ok (.iload_n 3, 1) := by decide +kernel
theorem d_S_set_25 : decode b_S_set 25 = .ok (.sipush 4095, 3) := by decide +kernel
theorem d_S_set_28 : decode b_S_set 28 = .ok (.if_icmp .le 5, 3) := by decide +kernel
theorem d_S_set_31 : decode b_S_set 31 = .ok (.iconst 0, 1) := by decide +kernel
theorem d_S_set_32 : decode b_S_set 32 = .ok (.ireturn, 1) := by decide +kernel
theorem d_S_set_33 : decode b_S_set 33 = .ok (.iload_n 1, 1) := by decide +kernel
theorem d_S_set_34 : decode b_S_set 34 = .ok (.bipush 8, 2) := by decide +kernel
theorem d_S_set_36 : decode b_S_set 36 = .ok (.if_icmp .ne 9, 3) := by decide +kernel
theorem d_S_set_39 : decode b_S_set 39 = .ok (.iload_n 2, 1) := by decide +kernel
theorem d_S_set_40 : decode b_S_set 40 = .ok (.ifCond .eq 5, 3) := by decide +kernel
theorem d_S_set_43 : decode b_S_set 43 = .ok (.iconst 0, 1) := by decide +kernel
theorem d_S_set_44 : decode b_S_set 44 = .ok (.ireturn, 1) := by decide +kernel
theorem d_S_set_45 : decode b_S_set 45 = .ok (.aload_n 0, 1) := by decide +kernel
theorem d_S_set_46 : decode b_S_set 46 = .ok (.getfield 10, 3) := by decide +kernel
theorem d_S_set_49 : decode b_S_set 49 = .ok (.iload_n 1, 1) := by decide +kernel
theorem d_S_set_50 : decode b_S_set 50 = .ok (.iload_n 2, 1) := by decide +kernel
theorem d_S_set_51 : decode b_S_set 51 = .ok (.iload_n 3, 1) := by decide +kernel
theorem d_S_set_52 : decode b_S_set 52 = .ok (.invokestatic 26, 3) := by decide +kernel
theorem d_S_set_55 : decode b_S_set 55 = .ok (.invokevirtual 61, 3) := by decide +kernel
theorem d_S_set_58 : decode b_S_set 58 = .ok (.iconst 1, 1) := by decide +kernel
theorem d_S_set_59 : decode b_S_set 59 = .ok (.ireturn, 1) := by decide +kernel
abbrev b_M_isIndex : ByteArray := prog_3_method_4_code
abbrev y_M_isIndex : MethodName := ⟨"SignMachine$Machine", "isIndex", "(I)Z"⟩
theorem h_M_isIndex : (y_M_isIndex).cls ≠ "java/lang/invoke/MethodHandle" ∧ (y_M_isIndex).cls ≠ "java/lang/invoke/VarHandle" ∧ (parseMethodDescriptor (y_M_isIndex).desc).map (fun d => d.parameters.length) = some 1 := by decide +kernel
theorem d_M_isIndex_0 : decode b_M_isIndex 0 = .ok (.iload_n 0, 1) := by decide +kernel
theorem d_M_isIndex_1 : decode b_M_isIndex 1 = .ok (.iconst 1, 1) := by decide +kernel
theorem d_M_isIndex_2 : decode b_M_isIndex 2 = .ok (.if_icmp .lt 13, 3) := by decide +kernel
theorem d_M_isIndex_5 : decode b_M_isIndex 5 = .ok (.iload_n 0, 1) := by decide +kernel
theorem d_M_isIndex_6 : decode b_M_isIndex 6 = .ok (.bipush 6, 2) := by decide +kernel
theorem d_M_isIndex_8 : decode b_M_isIndex 8 = .ok (.if_icmp .gt 7, 3) := by decide +kernel
theorem d_M_isIndex_11 : decode b_M_isIndex 11 = .ok (.iconst 1, 1) := by decide +kernel
theorem d_M_isIndex_12 : decode b_M_isIndex 12 = .ok (.goto 4, 3) := by decide +kernel
theorem d_M_isIndex_15 : decode b_M_isIndex 15 = .ok (.iconst 0, 1) := by decide +kernel
theorem d_M_isIndex_16 : decode b_M_isIndex 16 = .ok (.ireturn, 1) := by decide +kernel
abbrev b_M_isShort : ByteArray := prog_3_method_5_code
abbrev y_M_isShort : MethodName := ⟨"SignMachine$Machine", "isShort", "(I)Z"⟩
theorem h_M_isShort : (y_M_isShort).cls ≠ "java/lang/invoke/MethodHandle" ∧ (y_M_isShort).cls ≠ "java/lang/invoke/VarHandle" ∧ (parseMethodDescriptor (y_M_isShort).desc).map (fun d => d.parameters.length) = some 1 := by decide +kernel
theorem d_M_isShort_0 : decode b_M_isShort 0 = .ok (.iload_n 0, 1) := by decide +kernel
theorem d_M_isShort_1 : decode b_M_isShort 1 = .ok (.invokestatic 28, 3) := by decide +kernel
theorem d_M_isShort_4 : decode b_M_isShort 4 = .ok (.ifCond .ne 9, 3) := by decide +kernel
theorem d_M_isShort_7 : decode b_M_isShort 7 = .ok (.iload_n 0, 1) := by decide +kernel
theorem d_M_isShort_8 : decode b_M_isShort 8 = .ok (.bipush 8, 2) := by decide +kernel
theorem d_M_isShort_10 : decode b_M_isShort 10 = .ok (.if_icmp .ne 7, 3) := by decide +kernel
theorem d_M_isShort_13 : decode b_M_isShort 13 = .ok (.iconst 1, 1) := by decide +kernel
theorem d_M_isShort_14 : decode b_M_isShort 14 = .ok (.goto 4, 3) := by decide +kernel
theorem d_M_isShort_17 : decode b_M_isShort 17 = .ok (.iconst 0, 1) := by decide +kernel
theorem d_M_isShort_18 : decode b_M_isShort 18 = .ok (.ireturn, 1) := by decide +kernel
abbrev b_M_putRegister : ByteArray := prog_3_method_9_code
abbrev y_M_putRegister : MethodName := ⟨"SignMachine$Machine", "putRegister", "(II)V"⟩
theorem h_M_putRegister : (y_M_putRegister).cls ≠ "java/lang/invoke/MethodHandle" ∧ (y_M_putRegister).cls ≠ "java/lang/invoke/VarHandle" ∧ (parseMethodDescriptor (y_M_putRegister).desc).map (fun d => d.parameters.length) = some 2 := by decide +kernel
theorem d_M_putRegister_0 : decode b_M_putRegister 0 = .ok (.iload_n 1, 1) := by decide +kernel
theorem d_M_putRegister_1 : decode b_M_putRegister 1 = .ok (.ifCond .lt 16, 3) := by decide +kernel
theorem d_M_putRegister_4 : decode b_M_putRegister 4 = .ok (.iload_n 1, 1) := by decide +kernel
theorem d_M_putRegister_5 : decode b_M_putRegister 5 = .ok (.bipush 9, 2) := by decide +kernel
theorem d_M_putRegister_7 : decode b_M_putRegister 7 = .ok (.if_icmp .ge 10, 3) := by decide +kernel
theorem d_M_putRegister_10 : decode b_M_putRegister 10 = .ok (.aload_n 0, 1) := by decide +kernel
theorem d_M_putRegister_11 : decode b_M_putRegister 11 = .ok (.getfield 15, 3) := by decide +kernel
theorem d_M_putRegister_14 : decode b_M_putRegister 14 = .ok (.iload_n 1, 1) := by decide +kernel
theorem d_M_putRegister_15 : decode b_M_putRegister 15 = .ok (.iload_n 2, 1) := by decide +kernel
theorem d_M_putRegister_16 : decode b_M_putRegister 16 = .ok (.iastore, 1) := by decide +kernel
theorem d_M_putRegister_17 : decode b_M_putRegister 17 = .ok (.return_, 1) := by decide +kernel
abbrev b_S_state : ByteArray := prog_1_method_10_code
abbrev y_S_state : MethodName := ⟨"SignMachine", "state", "(I)I"⟩
theorem h_S_state : (y_S_state).cls ≠ "java/lang/invoke/MethodHandle" ∧ (y_S_state).cls ≠ "java/lang/invoke/VarHandle" ∧ (parseMethodDescriptor (y_S_state).desc).map (fun d => d.parameters.length) = some 1 := by decide +kernel
theorem d_S_state_0 : decode b_S_state 0 = .ok (.iload_n 1, 1) := by decide +kernel
theorem d_S_state_1 : decode b_S_state 1 = .ok (.tableswitch 115 0 6 #[43, 51, 67, 75, 83, 95, 107], 43) := by decide +kernel
theorem d_S_state_44 : decode b_S_state 44 = .ok (.aload_n 0, 1) := by decide +kernel
theorem d_S_state_45 : decode b_S_state 45 = .ok (.getfield 10, 3) := by decide +kernel
theorem d_S_state_48 : decode b_S_state 48 = .ok (.getfield 64, 3) := by decide +kernel
theorem d_S_state_51 : decode b_S_state 51 = .ok (.ireturn, 1) := by decide +kernel
theorem d_S_state_52 : decode b_S_state 52 = .ok (.aload_n 0, 1) := by decide +kernel
theorem d_S_state_53 : decode b_S_state 53 = .ok (.getfield 10, 3) := by decide +kernel
theorem d_S_state_56 : decode b_S_state 56 = .ok (.getfield 67, 3) := by decide +kernel
theorem d_S_state_59 : decode b_S_state 59 = .ok (.ifCond .eq 7, 3) := by decide +kernel
theorem d_S_state_62 : decode b_S_state 62 = .ok (.iconst 1, 1) := by decide +kernel
theorem d_S_state_63 : decode b_S_state 63 = .ok (.goto 4, 3) := by decide +kernel
theorem d_S_state_66 : decode b_S_state 66 = .ok (.iconst 0, 1) := by decide +kernel
theorem d_S_state_67 : decode b_S_state 67 = .ok (.ireturn, 1) := by decide +kernel
theorem d_S_state_68 : decode b_S_state 68 = .ok (.aload_n 0, 1) := by decide +kernel
theorem d_S_state_69 : decode b_S_state 69 = .ok (.getfield 10, 3) := by decide +kernel
theorem d_S_state_72 : decode b_S_state 72 = .ok (.getfield 71, 3) := by decide +kernel
theorem d_S_state_75 : decode b_S_state 75 = .ok (.ireturn, 1) := by decide +kernel
theorem d_S_state_76 : decode b_S_state 76 = .ok (.aload_n 0, 1) := by decide +kernel
theorem d_S_state_77 : decode b_S_state 77 = .ok (.getfield 10, 3) := by decide +kernel
theorem d_S_state_80 : decode b_S_state 80 = .ok (.getfield 74, 3) := by decide +kernel
theorem d_S_state_83 : decode b_S_state 83 = .ok (.ireturn, 1) := by decide +kernel
theorem d_S_state_84 : decode b_S_state 84 = .ok (.aload_n 0, 1) := by decide +kernel
theorem d_S_state_85 : decode b_S_state 85 = .ok (.getfield 10, 3) := by decide +kernel
theorem d_S_state_88 : decode b_S_state 88 = .ok (.iconst 0, 1) := by decide +kernel
theorem d_S_state_89 : decode b_S_state 89 = .ok (.invokevirtual 77, 3) := by decide +kernel
theorem d_S_state_92 : decode b_S_state 92 = .ok (.getfield 81, 3) := by decide +kernel
theorem d_S_state_95 : decode b_S_state 95 = .ok (.ireturn, 1) := by decide +kernel
theorem d_S_state_96 : decode b_S_state 96 = .ok (.aload_n 0, 1) := by decide +kernel
theorem d_S_state_97 : decode b_S_state 97 = .ok (.getfield 10, 3) := by decide +kernel
theorem d_S_state_100 : decode b_S_state 100 = .ok (.iconst 1, 1) := by decide +kernel
theorem d_S_state_101 : decode b_S_state 101 = .ok (.invokevirtual 77, 3) := by decide +kernel
theorem d_S_state_104 : decode b_S_state 104 = .ok (.getfield 81, 3) := by decide +kernel
theorem d_S_state_107 : decode b_S_state 107 = .ok (.ireturn, 1) := by decide +kernel
theorem d_S_state_108 : decode b_S_state 108 = .ok (.aload_n 0, 1) := by decide +kernel
theorem d_S_state_109 : decode b_S_state 109 = .ok (.getfield 10, 3) := by decide +kernel
theorem d_S_state_112 : decode b_S_state 112 = .ok (.getfield 48, 3) := by decide +kernel
theorem d_S_state_115 : decode b_S_state 115 = .ok (.ireturn, 1) := by decide +kernel
theorem d_S_state_116 : decode b_S_state 116 = .ok (.bipush (-2), 2) := by decide +kernel
theorem d_S_state_118 : decode b_S_state 118 = .ok (.ireturn, 1) := by decide +kernel
abbrev b_M_unit : ByteArray := prog_3_method_10_code
abbrev y_M_unit : MethodName := ⟨"SignMachine$Machine", "unit", "(I)LSignMachine$Tape;"⟩
theorem h_M_unit : (y_M_unit).cls ≠ "java/lang/invoke/MethodHandle" ∧ (y_M_unit).cls ≠ "java/lang/invoke/VarHandle" ∧ (parseMethodDescriptor (y_M_unit).desc).map (fun d => d.parameters.length) = some 1 := by decide +kernel
theorem d_M_unit_0 : decode b_M_unit 0 = .ok (.iload_n 1, 1) := by decide +kernel
theorem d_M_unit_1 : decode b_M_unit 1 = .ok (.ifCond .ne 10, 3) := by decide +kernel
theorem d_M_unit_4 : decode b_M_unit 4 = .ok (.aload_n 0, 1) := by decide +kernel
theorem d_M_unit_5 : decode b_M_unit 5 = .ok (.getfield 21, 3) := by decide +kernel
theorem d_M_unit_8 : decode b_M_unit 8 = .ok (.goto 7, 3) := by decide +kernel
theorem d_M_unit_11 : decode b_M_unit 11 = .ok (.aload_n 0, 1) := by decide +kernel
theorem d_M_unit_12 : decode b_M_unit 12 = .ok (.getfield 25, 3) := by decide +kernel
theorem d_M_unit_15 : decode b_M_unit 15 = .ok (.areturn, 1) := by decide +kernel
abbrev b_S_go : ByteArray := prog_1_method_11_code
abbrev y_S_go : MethodName := ⟨"SignMachine", "go", "(I)Z"⟩
theorem h_S_go : (y_S_go).cls ≠ "java/lang/invoke/MethodHandle" ∧ (y_S_go).cls ≠ "java/lang/invoke/VarHandle" ∧ (parseMethodDescriptor (y_S_go).desc).map (fun d => d.parameters.length) = some 1 := by decide +kernel
theorem d_S_go_0 : decode b_S_go 0 = .ok (.iload_n 1, 1) := by decide +kernel
theorem d_S_go_1 : decode b_S_go 1 = .ok (.invokestatic 16, 3) := by decide +kernel
theorem d_S_go_4 : decode b_S_go 4 = .ok (.ifCond .ne 5, 3) := by decide +kernel
theorem d_S_go_7 : decode b_S_go 7 = .ok (.iconst 0, 1) := by decide +kernel
theorem d_S_go_8 : decode b_S_go 8 = .ok (.ireturn, 1) := by decide +kernel
theorem d_S_go_9 : decode b_S_go 9 = .ok (.aload_n 0, 1) := by decide +kernel
theorem d_S_go_10 : decode b_S_go 10 = .ok (.getfield 10, 3) := by decide +kernel
theorem d_S_go_13 : decode b_S_go 13 = .ok (.iload_n 1, 1) := by decide +kernel
theorem d_S_go_14 : decode b_S_go 14 = .ok (.putfield 64, 3) := by decide +kernel
theorem d_S_go_17 : decode b_S_go 17 = .ok (.iconst 1, 1) := by decide +kernel
theorem d_S_go_18 : decode b_S_go 18 = .ok (.ireturn, 1) := by decide +kernel
abbrev b_S_tape : ByteArray := prog_1_method_12_code
abbrev y_S_tape : MethodName := ⟨"SignMachine", "tape", "(III)I"⟩
theorem h_S_tape : (y_S_tape).cls ≠ "java/lang/invoke/MethodHandle" ∧ (y_S_tape).cls ≠ "java/lang/invoke/VarHandle" ∧ (parseMethodDescriptor (y_S_tape).desc).map (fun d => d.parameters.length) = some 3 := by decide +kernel
theorem d_S_tape_0 : decode b_S_tape 0 = .ok (.iload_n 1, 1) := by decide +kernel
theorem d_S_tape_1 : decode b_S_tape 1 = .ok (.ifCond .lt 16, 3) := by decide +kernel
theorem d_S_tape_4 : decode b_S_tape 4 = .ok (.iload_n 1, 1) := by decide +kernel
theorem d_S_tape_5 : decode b_S_tape 5 = .ok (.iconst 1, 1) := by decide +kernel
theorem d_S_tape_6 : decode b_S_tape 6 = .ok (.if_icmp .gt 11, 3) := by decide +kernel
theorem d_S_tape_9 : decode b_S_tape 9 = .ok (.iload_n 2, 1) := by decide +kernel
theorem d_S_tape_10 : decode b_S_tape 10 = .ok (.iload_n 3, 1) := by decide +kernel
theorem d_S_tape_11 : decode b_S_tape 11 = .ok (.invokestatic 86, 3) := by decide +kernel
theorem d_S_tape_14 : decode b_S_tape 14 = .ok (.ifCond .ne 6, 3) := by decide +kernel
theorem d_S_tape_17 : decode b_S_tape 17 = .ok (.ldc 87, 2) := by decide +kernel
theorem d_S_tape_19 : decode b_S_tape 19 = .ok (.ireturn, 1) := by decide +kernel
theorem d_S_tape_20 : decode b_S_tape 20 = .ok (.aload_n 0, 1) := by decide +kernel
theorem d_S_tape_21 : decode b_S_tape 21 = .ok (.getfield 10, 3) := by decide +kernel
theorem d_S_tape_24 : decode b_S_tape 24 = .ok (.iload_n 1, 1) := by decide +kernel
theorem d_S_tape_25 : decode b_S_tape 25 = .ok (.invokevirtual 77, 3) := by decide +kernel
theorem d_S_tape_28 : decode b_S_tape 28 = .ok (.iload_n 2, 1) := by decide +kernel
theorem d_S_tape_29 : decode b_S_tape 29 = .ok (.iload_n 3, 1) := by decide +kernel
theorem d_S_tape_30 : decode b_S_tape 30 = .ok (.invokevirtual 88, 3) := by decide +kernel
theorem d_S_tape_33 : decode b_S_tape 33 = .ok (.istore 4, 2) := by decide +kernel
theorem d_S_tape_35 : decode b_S_tape 35 = .ok (.iload 4, 2) := by decide +kernel
theorem d_S_tape_37 : decode b_S_tape 37 = .ok (.ldc 90, 2) := by decide +kernel
theorem d_S_tape_39 : decode b_S_tape 39 = .ok (.if_icmp .ne 8, 3) := by decide +kernel
theorem d_S_tape_42 : decode b_S_tape 42 = .ok (.ldc 91, 2) := by decide +kernel
theorem d_S_tape_44 : decode b_S_tape 44 = .ok (.goto 8, 3) := by decide +kernel
theorem d_S_tape_47 : decode b_S_tape 47 = .ok (.iload 4, 2) := by decide +kernel
theorem d_S_tape_49 : decode b_S_tape 49 = .ok (.invokestatic 92, 3) := by decide +kernel
theorem d_S_tape_52 : decode b_S_tape 52 = .ok (.ireturn, 1) := by decide +kernel
abbrev b_T_isWord : ByteArray := prog_8_method_2_code
abbrev y_T_isWord : MethodName := ⟨"SignMachine$Tape", "isWord", "(II)Z"⟩
theorem h_T_isWord : (y_T_isWord).cls ≠ "java/lang/invoke/MethodHandle" ∧ (y_T_isWord).cls ≠ "java/lang/invoke/VarHandle" ∧ (parseMethodDescriptor (y_T_isWord).desc).map (fun d => d.parameters.length) = some 2 := by decide +kernel
theorem d_T_isWord_0 : decode b_T_isWord 0 = .ok (.iload_n 0, 1) := by decide +kernel
theorem d_T_isWord_1 : decode b_T_isWord 1 = .ok (.ifCond .lt 23, 3) := by decide +kernel
theorem d_T_isWord_4 : decode b_T_isWord 4 = .ok (.iload_n 0, 1) := by decide +kernel
theorem d_T_isWord_5 : decode b_T_isWord 5 = .ok (.bipush 40, 2) := by decide +kernel
theorem d_T_isWord_7 : decode b_T_isWord 7 = .ok (.if_icmp .ge 17, 3) := by decide +kernel
theorem d_T_isWord_10 : decode b_T_isWord 10 = .ok (.iload_n 1, 1) := by decide +kernel
theorem d_T_isWord_11 : decode b_T_isWord 11 = .ok (.ifCond .lt 13, 3) := by decide +kernel
theorem d_T_isWord_14 : decode b_T_isWord 14 = .ok (.iload_n 1, 1) := by decide +kernel
theorem d_T_isWord_15 : decode b_T_isWord 15 = .ok (.bipush 100, 2) := by decide +kernel
theorem d_T_isWord_17 : decode b_T_isWord 17 = .ok (.if_icmp .ge 7, 3) := by decide +kernel
theorem d_T_isWord_20 : decode b_T_isWord 20 = .ok (.iconst 1, 1) := by decide +kernel
theorem d_T_isWord_21 : decode b_T_isWord 21 = .ok (.goto 4, 3) := by decide +kernel
theorem d_T_isWord_24 : decode b_T_isWord 24 = .ok (.iconst 0, 1) := by decide +kernel
theorem d_T_isWord_25 : decode b_T_isWord 25 = .ok (.ireturn, 1) := by decide +kernel
abbrev b_T_wordAt : ByteArray := prog_8_method_3_code
abbrev y_T_wordAt : MethodName := ⟨"SignMachine$Tape", "wordAt", "(II)I"⟩
theorem h_T_wordAt : (y_T_wordAt).cls ≠ "java/lang/invoke/MethodHandle" ∧ (y_T_wordAt).cls ≠ "java/lang/invoke/VarHandle" ∧ (parseMethodDescriptor (y_T_wordAt).desc).map (fun d => d.parameters.length) = some 2 := by decide +kernel
theorem d_T_wordAt_0 : decode b_T_wordAt 0 = .ok (.aload_n 0, 1) := by decide +kernel
theorem d_T_wordAt_1 : decode b_T_wordAt 1 = .ok (.getfield 9, 3) := by decide +kernel
theorem d_T_wordAt_4 : decode b_T_wordAt 4 = .ok (.ifnull 25, 3) := by decide +kernel
theorem d_T_wordAt_7 : decode b_T_wordAt 7 = .ok (.iload_n 1, 1) := by decide +kernel
theorem d_T_wordAt_8 : decode b_T_wordAt 8 = .ok (.iload_n 2, 1) := by decide +kernel
theorem d_T_wordAt_9 : decode b_T_wordAt 9 = .ok (.invokestatic 13, 3) := by decide +kernel
theorem d_T_wordAt_12 : decode b_T_wordAt 12 = .ok (.ifCond .eq 17, 3) := by decide +kernel
theorem d_T_wordAt_15 : decode b_T_wordAt 15 = .ok (.aload_n 0, 1) := by decide +kernel
theorem d_T_wordAt_16 : decode b_T_wordAt 16 = .ok (.getfield 9, 3) := by decide +kernel
theorem d_T_wordAt_19 : decode b_T_wordAt 19 = .ok (.iload_n 1, 1) := by decide +kernel
theorem d_T_wordAt_20 : decode b_T_wordAt 20 = .ok (.bipush 100, 2) := by decide +kernel
theorem d_T_wordAt_22 : decode b_T_wordAt 22 = .ok (.imul, 1) := by decide +kernel
theorem d_T_wordAt_23 : decode b_T_wordAt 23 = .ok (.iload_n 2, 1) := by decide +kernel
theorem d_T_wordAt_24 : decode b_T_wordAt 24 = .ok (.iadd, 1) := by decide +kernel
theorem d_T_wordAt_25 : decode b_T_wordAt 25 = .ok (.iaload, 1) := by decide +kernel
theorem d_T_wordAt_26 : decode b_T_wordAt 26 = .ok (.goto 4, 3) := by decide +kernel
theorem d_T_wordAt_29 : decode b_T_wordAt 29 = .ok (.iconst 0, 1) := by decide +kernel
theorem d_T_wordAt_30 : decode b_T_wordAt 30 = .ok (.ireturn, 1) := by decide +kernel
abbrev b_W_number : ByteArray := prog_9_method_6_code
abbrev y_W_number : MethodName := ⟨"SignMachine$Word", "number", "(I)I"⟩
theorem h_W_number : (y_W_number).cls ≠ "java/lang/invoke/MethodHandle" ∧ (y_W_number).cls ≠ "java/lang/invoke/VarHandle" ∧ (parseMethodDescriptor (y_W_number).desc).map (fun d => d.parameters.length) = some 1 := by decide +kernel
theorem d_W_number_0 : decode b_W_number 0 = .ok (.iload_n 0, 1) := by decide +kernel
theorem d_W_number_1 : decode b_W_number 1 = .ok (.ldc 10, 2) := by decide +kernel
theorem d_W_number_3 : decode b_W_number 3 = .ok (.iand, 1) := by decide +kernel
theorem d_W_number_4 : decode b_W_number 4 = .ok (.ifCond .ne 10, 3) := by decide +kernel
theorem d_W_number_7 : decode b_W_number 7 = .ok (.iload_n 0, 1) := by decide +kernel
theorem d_W_number_8 : decode b_W_number 8 = .ok (.ldc 9, 2) := by decide +kernel
theorem d_W_number_10 : decode b_W_number 10 = .ok (.iand, 1) := by decide +kernel
theorem d_W_number_11 : decode b_W_number 11 = .ok (.goto 8, 3) := by decide +kernel
theorem d_W_number_14 : decode b_W_number 14 = .ok (.iload_n 0, 1) := by decide +kernel
theorem d_W_number_15 : decode b_W_number 15 = .ok (.ldc 9, 2) := by decide +kernel
theorem d_W_number_17 : decode b_W_number 17 = .ok (.iand, 1) := by decide +kernel
theorem d_W_number_18 : decode b_W_number 18 = .ok (.ineg, 1) := by decide +kernel
theorem d_W_number_19 : decode b_W_number 19 = .ok (.ireturn, 1) := by decide +kernel
abbrev b_S_step : ByteArray := prog_1_method_5_code
abbrev y_S_step : MethodName := ⟨"SignMachine", "step", "()I"⟩
theorem h_S_step : (y_S_step).cls ≠ "java/lang/invoke/MethodHandle" ∧ (y_S_step).cls ≠ "java/lang/invoke/VarHandle" ∧ (parseMethodDescriptor (y_S_step).desc).map (fun d => d.parameters.length) = some 0 := by decide +kernel
theorem d_S_step_0 : decode b_S_step 0 = .ok (.aload_n 0, 1) := by decide +kernel
theorem d_S_step_1 : decode b_S_step 1 = .ok (.getfield 10, 3) := by decide +kernel
theorem d_S_step_4 : decode b_S_step 4 = .ok (.aload_n 0, 1) := by decide +kernel
theorem d_S_step_5 : decode b_S_step 5 = .ok (.getfield 10, 3) := by decide +kernel
theorem d_S_step_8 : decode b_S_step 8 = .ok (.invokevirtual 44, 3) := by decide +kernel
theorem d_S_step_11 : decode b_S_step 11 = .ok (.putfield 48, 3) := by decide +kernel
theorem d_S_step_14 : decode b_S_step 14 = .ok (.aload_n 0, 1) := by decide +kernel
theorem d_S_step_15 : decode b_S_step 15 = .ok (.getfield 10, 3) := by decide +kernel
theorem d_S_step_18 : decode b_S_step 18 = .ok (.getfield 48, 3) := by decide +kernel
theorem d_S_step_21 : decode b_S_step 21 = .ok (.ireturn, 1) := by decide +kernel
abbrev b_M_execute : ByteArray := prog_3_method_11_code
abbrev y_M_execute : MethodName := ⟨"SignMachine$Machine", "execute", "()I"⟩
theorem h_M_execute : (y_M_execute).cls ≠ "java/lang/invoke/MethodHandle" ∧ (y_M_execute).cls ≠ "java/lang/invoke/VarHandle" ∧ (parseMethodDescriptor (y_M_execute).desc).map (fun d => d.parameters.length) = some 0 := by decide +kernel
theorem d_M_execute_0 : decode b_M_execute 0 = .ok (.aload_n 0, 1) := by decide +kernel
theorem d_M_execute_1 : decode b_M_execute 1 = .ok (.getfield 32, 3) := by decide +kernel
theorem d_M_execute_4 : decode b_M_execute 4 = .ok (.invokestatic 36, 3) := by decide +kernel
theorem d_M_execute_7 : decode b_M_execute 7 = .ok (.ifCond .ne 5, 3) := by decide +kernel
theorem d_M_execute_10 : decode b_M_execute 10 = .ok (.iconst 3, 1) := by decide +kernel
theorem d_M_execute_11 : decode b_M_execute 11 = .ok (.ireturn, 1) := by decide +kernel
theorem d_M_execute_12 : decode b_M_execute 12 = .ok (.aload_n 0, 1) := by decide +kernel
theorem d_M_execute_13 : decode b_M_execute 13 = .ok (.aload_n 0, 1) := by decide +kernel
theorem d_M_execute_14 : decode b_M_execute 14 = .ok (.aload_n 0, 1) := by decide +kernel
theorem d_M_execute_15 : decode b_M_execute 15 = .ok (.getfield 32, 3) := by decide +kernel
theorem d_M_execute_18 : decode b_M_execute 18 = .ok (.invokevirtual 39, 3) := by decide +kernel
theorem d_M_execute_21 : decode b_M_execute 21 = .ok (.invokevirtual 43, 3) := by decide +kernel
theorem d_M_execute_24 : decode b_M_execute 24 = .ok (.aload_n 0, 1) := by decide +kernel
theorem d_M_execute_25 : decode b_M_execute 25 = .ok (.invokevirtual 47, 3) := by decide +kernel
theorem d_M_execute_28 : decode b_M_execute 28 = .ok (.istore_n 1, 1) := by decide +kernel
theorem d_M_execute_29 : decode b_M_execute 29 = .ok (.iload_n 1, 1) := by decide +kernel
theorem d_M_execute_30 : decode b_M_execute 30 = .ok (.ifCond .eq 5, 3) := by decide +kernel
theorem d_M_execute_33 : decode b_M_execute 33 = .ok (.iload_n 1, 1) := by decide +kernel
theorem d_M_execute_34 : decode b_M_execute 34 = .ok (.ireturn, 1) := by decide +kernel
theorem d_M_execute_35 : decode b_M_execute 35 = .ok (.aload_n 0, 1) := by decide +kernel
theorem d_M_execute_36 : decode b_M_execute 36 = .ok (.aload_n 0, 1) := by decide +kernel
theorem d_M_execute_37 : decode b_M_execute 37 = .ok (.getfield 51, 3) := by decide +kernel
theorem d_M_execute_40 : decode b_M_execute 40 = .ok (.aload_n 0, 1) := by decide +kernel
theorem d_M_execute_41 : decode b_M_execute 41 = .ok (.invokevirtual 54, 3) := by decide +kernel
theorem d_M_execute_44 : decode b_M_execute 44 = .ok (.iadd, 1) := by decide +kernel
theorem d_M_execute_45 : decode b_M_execute 45 = .ok (.ldc 57, 2) := by decide +kernel
theorem d_M_execute_47 : decode b_M_execute 47 = .ok (.iand, 1) := by decide +kernel
theorem d_M_execute_48 : decode b_M_execute 48 = .ok (.putfield 51, 3) := by decide +kernel
theorem d_M_execute_51 : decode b_M_execute 51 = .ok (.aload_n 0, 1) := by decide +kernel
theorem d_M_execute_52 : decode b_M_execute 52 = .ok (.dup, 1) := by decide +kernel
theorem d_M_execute_53 : decode b_M_execute 53 = .ok (.getfield 32, 3) := by decide +kernel
theorem d_M_execute_56 : decode b_M_execute 56 = .ok (.iconst 1, 1) := by decide +kernel
theorem d_M_execute_57 : decode b_M_execute 57 = .ok (.iadd, 1) := by decide +kernel
theorem d_M_execute_58 : decode b_M_execute 58 = .ok (.putfield 32, 3) := by decide +kernel
theorem d_M_execute_61 : decode b_M_execute 61 = .ok (.aload_n 0, 1) := by decide +kernel
theorem d_M_execute_62 : decode b_M_execute 62 = .ok (.invokevirtual 58, 3) := by decide +kernel
theorem d_M_execute_65 : decode b_M_execute 65 = .ok (.aload_n 0, 1) := by decide +kernel
theorem d_M_execute_66 : decode b_M_execute 66 = .ok (.getfield 61, 3) := by decide +kernel
theorem d_M_execute_69 : decode b_M_execute 69 = .ok (.iconst 5, 1) := by decide +kernel
theorem d_M_execute_70 : decode b_M_execute 70 = .ok (.if_icmp .ne 15, 3) := by decide +kernel
theorem d_M_execute_73 : decode b_M_execute 73 = .ok (.aload_n 0, 1) := by decide +kernel
theorem d_M_execute_74 : decode b_M_execute 74 = .ok (.getfield 64, 3) := by decide +kernel
theorem d_M_execute_77 : decode b_M_execute 77 = .ok (.iconst 2, 1) := by decide +kernel
theorem d_M_execute_78 : decode b_M_execute 78 = .ok (.if_icmp .ne 7, 3) := by decide +kernel
theorem d_M_execute_81 : decode b_M_execute 81 = .ok (.iconst 1, 1) := by decide +kernel
theorem d_M_execute_82 : decode b_M_execute 82 = .ok (.goto 4, 3) := by decide +kernel
theorem d_M_execute_85 : decode b_M_execute 85 = .ok (.iconst 0, 1) := by decide +kernel
theorem d_M_execute_86 : decode b_M_execute 86 = .ok (.ireturn, 1) := by decide +kernel
abbrev b_M_decode : ByteArray := prog_3_method_12_code
abbrev y_M_decode : MethodName := ⟨"SignMachine$Machine", "decode", "(I)V"⟩
theorem h_M_decode : (y_M_decode).cls ≠ "java/lang/invoke/MethodHandle" ∧ (y_M_decode).cls ≠ "java/lang/invoke/VarHandle" ∧ (parseMethodDescriptor (y_M_decode).desc).map (fun d => d.parameters.length) = some 1 := by decide +kernel
theorem d_M_decode_0 : decode b_M_decode 0 = .ok (.iload_n 1, 1) := by decide +kernel
theorem d_M_decode_1 : decode b_M_decode 1 = .ok (.invokestatic 67, 3) := by decide +kernel
theorem d_M_decode_4 : decode b_M_decode 4 = .ok (.istore_n 2, 1) := by decide +kernel
theorem d_M_decode_5 : decode b_M_decode 5 = .ok (.aload_n 0, 1) := by decide +kernel
theorem d_M_decode_6 : decode b_M_decode 6 = .ok (.iload_n 2, 1) := by decide +kernel
theorem d_M_decode_7 : decode b_M_decode 7 = .ok (.bipush 63, 2) := by decide +kernel
theorem d_M_decode_9 : decode b_M_decode 9 = .ok (.iand, 1) := by decide +kernel
theorem d_M_decode_10 : decode b_M_decode 10 = .ok (.putfield 61, 3) := by decide +kernel
theorem d_M_decode_13 : decode b_M_decode 13 = .ok (.aload_n 0, 1) := by decide +kernel
theorem d_M_decode_14 : decode b_M_decode 14 = .ok (.iload_n 2, 1) := by decide +kernel
theorem d_M_decode_15 : decode b_M_decode 15 = .ok (.bipush 6, 2) := by decide +kernel
theorem d_M_decode_17 : decode b_M_decode 17 = .ok (.ishr, 1) := by decide +kernel
theorem d_M_decode_18 : decode b_M_decode 18 = .ok (.bipush 63, 2) := by decide +kernel
theorem d_M_decode_20 : decode b_M_decode 20 = .ok (.iand, 1) := by decide +kernel
theorem d_M_decode_21 : decode b_M_decode 21 = .ok (.putfield 64, 3) := by decide +kernel
theorem d_M_decode_24 : decode b_M_decode 24 = .ok (.aload_n 0, 1) := by decide +kernel
theorem d_M_decode_25 : decode b_M_decode 25 = .ok (.iload_n 2, 1) := by decide +kernel
theorem d_M_decode_26 : decode b_M_decode 26 = .ok (.bipush 12, 2) := by decide +kernel
theorem d_M_decode_28 : decode b_M_decode 28 = .ok (.ishr, 1) := by decide +kernel
theorem d_M_decode_29 : decode b_M_decode 29 = .ok (.bipush 63, 2) := by decide +kernel
theorem d_M_decode_31 : decode b_M_decode 31 = .ok (.iand, 1) := by decide +kernel
theorem d_M_decode_32 : decode b_M_decode 32 = .ok (.putfield 72, 3) := by decide +kernel
theorem d_M_decode_35 : decode b_M_decode 35 = .ok (.aload_n 0, 1) := by decide +kernel
theorem d_M_decode_36 : decode b_M_decode 36 = .ok (.iload_n 1, 1) := by decide +kernel
theorem d_M_decode_37 : decode b_M_decode 37 = .ok (.invokestatic 75, 3) := by decide +kernel
theorem d_M_decode_40 : decode b_M_decode 40 = .ok (.putfield 78, 3) := by decide +kernel
theorem d_M_decode_43 : decode b_M_decode 43 = .ok (.iload_n 2, 1) := by decide +kernel
theorem d_M_decode_44 : decode b_M_decode 44 = .ok (.bipush 18, 2) := by decide +kernel
theorem d_M_decode_46 : decode b_M_decode 46 = .ok (.ishr, 1) := by decide +kernel
theorem d_M_decode_47 : decode b_M_decode 47 = .ok (.istore_n 3, 1) := by decide +kernel
theorem d_M_decode_48 : decode b_M_decode 48 = .ok (.aload_n 0, 1) := by decide +kernel
theorem d_M_decode_49 : decode b_M_decode 49 = .ok (.aload_n 0, 1) := by decide +kernel
theorem d_M_decode_50 : decode b_M_decode 50 = .ok (.getfield 78, 3) := by decide +kernel
theorem d_M_decode_53 : decode b_M_decode 53 = .ok (.ifCond .ne 7, 3) := by decide +kernel
theorem d_M_decode_56 : decode b_M_decode 56 = .ok (.iload_n 3, 1) := by decide +kernel
theorem d_M_decode_57 : decode b_M_decode 57 = .ok (.goto 5, 3) := by decide +kernel
theorem d_M_decode_60 : decode b_M_decode 60 = .ok (.iload_n 3, 1) := by decide +kernel
theorem d_M_decode_61 : decode b_M_decode 61 = .ok (.ineg, 1) := by decide +kernel
theorem d_M_decode_62 : decode b_M_decode 62 = .ok (.putfield 81, 3) := by decide +kernel
theorem d_M_decode_65 : decode b_M_decode 65 = .ok (.aload_n 0, 1) := by decide +kernel
theorem d_M_decode_66 : decode b_M_decode 66 = .ok (.getfield 72, 3) := by decide +kernel
theorem d_M_decode_69 : decode b_M_decode 69 = .ok (.invokestatic 28, 3) := by decide +kernel
theorem d_M_decode_72 : decode b_M_decode 72 = .ok (.ifCond .eq 23, 3) := by decide +kernel
theorem d_M_decode_75 : decode b_M_decode 75 = .ok (.aload_n 0, 1) := by decide +kernel
theorem d_M_decode_76 : decode b_M_decode 76 = .ok (.dup, 1) := by decide +kernel
theorem d_M_decode_77 : decode b_M_decode 77 = .ok (.getfield 81, 3) := by decide +kernel
theorem d_M_decode_80 : decode b_M_decode 80 = .ok (.aload_n 0, 1) := by decide +kernel
theorem d_M_decode_81 : decode b_M_decode 81 = .ok (.aload_n 0, 1) := by decide +kernel
theorem d_M_decode_82 : decode b_M_decode 82 = .ok (.getfield 72, 3) := by decide +kernel
theorem d_M_decode_85 : decode b_M_decode 85 = .ok (.invokevirtual 84, 3) := by decide +kernel
theorem d_M_decode_88 : decode b_M_decode 88 = .ok (.invokestatic 87, 3) := by decide +kernel
theorem d_M_decode_91 : decode b_M_decode 91 = .ok (.iadd, 1) := by decide +kernel
theorem d_M_decode_92 : decode b_M_decode 92 = .ok (.putfield 81, 3) := by decide +kernel
theorem d_M_decode_95 : decode b_M_decode 95 = .ok (.return_, 1) := by decide +kernel
abbrev b_M_reasonAgainst : ByteArray := prog_3_method_13_code
abbrev y_M_reasonAgainst : MethodName := ⟨"SignMachine$Machine", "reasonAgainst", "()I"⟩
theorem h_M_reasonAgainst : (y_M_reasonAgainst).cls ≠ "java/lang/invoke/MethodHandle" ∧ (y_M_reasonAgainst).cls ≠ "java/lang/invoke/VarHandle" ∧ (parseMethodDescriptor (y_M_reasonAgainst).desc).map (fun d => d.parameters.length) = some 0 := by decide +kernel
theorem d_M_reasonAgainst_0 : decode b_M_reasonAgainst 0 = .ok (.aload_n 0, 1) := by decide +kernel
theorem d_M_reasonAgainst_1 : decode b_M_reasonAgainst 1 = .ok (.invokevirtual 90, 3) := by decide +kernel
theorem d_M_reasonAgainst_4 : decode b_M_reasonAgainst 4 = .ok (.ifCond .ne 5, 3) := by decide +kernel
theorem d_M_reasonAgainst_7 : decode b_M_reasonAgainst 7 = .ok (.iconst 2, 1) := by decide +kernel
theorem d_M_reasonAgainst_8 : decode b_M_reasonAgainst 8 = .ok (.ireturn, 1) := by decide +kernel
theorem d_M_reasonAgainst_9 : decode b_M_reasonAgainst 9 = .ok (.aload_n 0, 1) := by decide +kernel
theorem d_M_reasonAgainst_10 : decode b_M_reasonAgainst 10 = .ok (.invokevirtual 94, 3) := by decide +kernel
theorem d_M_reasonAgainst_13 : decode b_M_reasonAgainst 13 = .ok (.ifCond .ne 5, 3) := by decide +kernel
theorem d_M_reasonAgainst_16 : decode b_M_reasonAgainst 16 = .ok (.iconst 3, 1) := by decide +kernel
theorem d_M_reasonAgainst_17 : decode b_M_reasonAgainst 17 = .ok (.ireturn, 1) := by decide +kernel
theorem d_M_reasonAgainst_18 : decode b_M_reasonAgainst 18 = .ok (.aload_n 0, 1) := by decide +kernel
theorem d_M_reasonAgainst_19 : decode b_M_reasonAgainst 19 = .ok (.invokevirtual 97, 3) := by decide +kernel
theorem d_M_reasonAgainst_22 : decode b_M_reasonAgainst 22 = .ok (.ifCond .ne 5, 3) := by decide +kernel
theorem d_M_reasonAgainst_25 : decode b_M_reasonAgainst 25 = .ok (.iconst 4, 1) := by decide +kernel
theorem d_M_reasonAgainst_26 : decode b_M_reasonAgainst 26 = .ok (.ireturn, 1) := by decide +kernel
theorem d_M_reasonAgainst_27 : decode b_M_reasonAgainst 27 = .ok (.aload_n 0, 1) := by decide +kernel
theorem d_M_reasonAgainst_28 : decode b_M_reasonAgainst 28 = .ok (.invokevirtual 100, 3) := by decide +kernel
theorem d_M_reasonAgainst_31 : decode b_M_reasonAgainst 31 = .ok (.ifCond .eq 7, 3) := by decide +kernel
theorem d_M_reasonAgainst_34 : decode b_M_reasonAgainst 34 = .ok (.iconst 0, 1) := by decide +kernel
theorem d_M_reasonAgainst_35 : decode b_M_reasonAgainst 35 = .ok (.goto 4, 3) := by decide +kernel
theorem d_M_reasonAgainst_38 : decode b_M_reasonAgainst 38 = .ok (.iconst 5, 1) := by decide +kernel
theorem d_M_reasonAgainst_39 : decode b_M_reasonAgainst 39 = .ok (.ireturn, 1) := by decide +kernel
abbrev b_M_shapeCanBe : ByteArray := prog_3_method_15_code
abbrev y_M_shapeCanBe : MethodName := ⟨"SignMachine$Machine", "shapeCanBe", "()Z"⟩
theorem h_M_shapeCanBe : (y_M_shapeCanBe).cls ≠ "java/lang/invoke/MethodHandle" ∧ (y_M_shapeCanBe).cls ≠ "java/lang/invoke/VarHandle" ∧ (parseMethodDescriptor (y_M_shapeCanBe).desc).map (fun d => d.parameters.length) = some 0 := by decide +kernel
theorem d_M_shapeCanBe_0 : decode b_M_shapeCanBe 0 = .ok (.aload_n 0, 1) := by decide +kernel
theorem d_M_shapeCanBe_1 : decode b_M_shapeCanBe 1 = .ok (.getfield 72, 3) := by decide +kernel
theorem d_M_shapeCanBe_4 : decode b_M_shapeCanBe 4 = .ok (.bipush 6, 2) := by decide +kernel
theorem d_M_shapeCanBe_6 : decode b_M_shapeCanBe 6 = .ok (.if_icmp .le 5, 3) := by decide +kernel
theorem d_M_shapeCanBe_9 : decode b_M_shapeCanBe 9 = .ok (.iconst 0, 1) := by decide +kernel
theorem d_M_shapeCanBe_10 : decode b_M_shapeCanBe 10 = .ok (.ireturn, 1) := by decide +kernel
theorem d_M_shapeCanBe_11 : decode b_M_shapeCanBe 11 = .ok (.aload_n 0, 1) := by decide +kernel
theorem d_M_shapeCanBe_12 : decode b_M_shapeCanBe 12 = .ok (.invokevirtual 103, 3) := by decide +kernel
theorem d_M_shapeCanBe_15 : decode b_M_shapeCanBe 15 = .ok (.ifCond .eq 11, 3) := by decide +kernel
theorem d_M_shapeCanBe_18 : decode b_M_shapeCanBe 18 = .ok (.aload_n 0, 1) := by decide +kernel
theorem d_M_shapeCanBe_19 : decode b_M_shapeCanBe 19 = .ok (.getfield 64, 3) := by decide +kernel
theorem d_M_shapeCanBe_22 : decode b_M_shapeCanBe 22 = .ok (.invokestatic 106, 3) := by decide +kernel
theorem d_M_shapeCanBe_25 : decode b_M_shapeCanBe 25 = .ok (.ireturn, 1) := by decide +kernel
theorem d_M_shapeCanBe_26 : decode b_M_shapeCanBe 26 = .ok (.aload_n 0, 1) := by decide +kernel
theorem d_M_shapeCanBe_27 : decode b_M_shapeCanBe 27 = .ok (.getfield 61, 3) := by decide +kernel
theorem d_M_shapeCanBe_30 : decode b_M_shapeCanBe 30 = .ok (.tableswitch 233 0 39 #[174, 233, 233, 233, 233, 176, 190, 174, 233, 233, 233, 233, 233, 233, 233, 233, 233, 233, 233, 233, 233, 233, 233, 233, 233, 233, 233, 233, 233, 233, 233, 233, 233, 233, 204, 204, 204, 204, 204, 218], 174) := by decide +kernel
theorem d_M_shapeCanBe_204 : decode b_M_shapeCanBe 204 = .ok (.iconst 1, 1) := by decide +kernel
theorem d_M_shapeCanBe_205 : decode b_M_shapeCanBe 205 = .ok (.ireturn, 1) := by decide +kernel
theorem d_M_shapeCanBe_206 : decode b_M_shapeCanBe 206 = .ok (.aload_n 0, 1) := by decide +kernel
theorem d_M_shapeCanBe_207 : decode b_M_shapeCanBe 207 = .ok (.getfield 64, 3) := by decide +kernel
theorem d_M_shapeCanBe_210 : decode b_M_shapeCanBe 210 = .ok (.iconst 2, 1) := by decide +kernel
theorem d_M_shapeCanBe_211 : decode b_M_shapeCanBe 211 = .ok (.if_icmp .gt 7, 3) := by decide +kernel
theorem d_M_shapeCanBe_214 : decode b_M_shapeCanBe 214 = .ok (.iconst 1, 1) := by decide +kernel
theorem d_M_shapeCanBe_215 : decode b_M_shapeCanBe 215 = .ok (.goto 4, 3) := by decide +kernel
theorem d_M_shapeCanBe_218 : decode b_M_shapeCanBe 218 = .ok (.iconst 0, 1) := by decide +kernel
theorem d_M_shapeCanBe_219 : decode b_M_shapeCanBe 219 = .ok (.ireturn, 1) := by decide +kernel
theorem d_M_shapeCanBe_220 : decode b_M_shapeCanBe 220 = .ok (.aload_n 0, 1) := by decide +kernel
theorem d_M_shapeCanBe_221 : decode b_M_shapeCanBe 221 = .ok (.getfield 64, 3) := by decide +kernel
theorem d_M_shapeCanBe_224 : decode b_M_shapeCanBe 224 = .ok (.iconst 5, 1) := by decide +kernel
theorem d_M_shapeCanBe_225 : decode b_M_shapeCanBe 225 = .ok (.if_icmp .gt 7, 3) := by decide +kernel
theorem d_M_shapeCanBe_228 : decode b_M_shapeCanBe 228 = .ok (.iconst 1, 1) := by decide +kernel
theorem d_M_shapeCanBe_229 : decode b_M_shapeCanBe 229 = .ok (.goto 4, 3) := by decide +kernel
theorem d_M_shapeCanBe_232 : decode b_M_shapeCanBe 232 = .ok (.iconst 0, 1) := by decide +kernel
theorem d_M_shapeCanBe_233 : decode b_M_shapeCanBe 233 = .ok (.ireturn, 1) := by decide +kernel
theorem d_M_shapeCanBe_234 : decode b_M_shapeCanBe 234 = .ok (.aload_n 0, 1) := by decide +kernel
theorem d_M_shapeCanBe_235 : decode b_M_shapeCanBe 235 = .ok (.getfield 64, 3) := by decide +kernel
theorem d_M_shapeCanBe_238 : decode b_M_shapeCanBe 238 = .ok (.iconst 1, 1) := by decide +kernel
theorem d_M_shapeCanBe_239 : decode b_M_shapeCanBe 239 = .ok (.if_icmp .gt 7, 3) := by decide +kernel
theorem d_M_shapeCanBe_242 : decode b_M_shapeCanBe 242 = .ok (.iconst 1, 1) := by decide +kernel
theorem d_M_shapeCanBe_243 : decode b_M_shapeCanBe 243 = .ok (.goto 4, 3) := by decide +kernel
theorem d_M_shapeCanBe_246 : decode b_M_shapeCanBe 246 = .ok (.iconst 0, 1) := by decide +kernel
theorem d_M_shapeCanBe_247 : decode b_M_shapeCanBe 247 = .ok (.ireturn, 1) := by decide +kernel
theorem d_M_shapeCanBe_248 : decode b_M_shapeCanBe 248 = .ok (.aload_n 0, 1) := by decide +kernel
theorem d_M_shapeCanBe_249 : decode b_M_shapeCanBe 249 = .ok (.getfield 64, 3) := by decide +kernel
theorem d_M_shapeCanBe_252 : decode b_M_shapeCanBe 252 = .ok (.bipush 9, 2) := by decide +kernel
theorem d_M_shapeCanBe_254 : decode b_M_shapeCanBe 254 = .ok (.if_icmp .gt 7, 3) := by decide +kernel
theorem d_M_shapeCanBe_257 : decode b_M_shapeCanBe 257 = .ok (.iconst 1, 1) := by decide +kernel
theorem d_M_shapeCanBe_258 : decode b_M_shapeCanBe 258 = .ok (.goto 4, 3) := by decide +kernel
theorem d_M_shapeCanBe_261 : decode b_M_shapeCanBe 261 = .ok (.iconst 0, 1) := by decide +kernel
theorem d_M_shapeCanBe_262 : decode b_M_shapeCanBe 262 = .ok (.ireturn, 1) := by decide +kernel
theorem d_M_shapeCanBe_263 : decode b_M_shapeCanBe 263 = .ok (.aload_n 0, 1) := by decide +kernel
theorem d_M_shapeCanBe_264 : decode b_M_shapeCanBe 264 = .ok (.getfield 64, 3) := by decide +kernel
theorem d_M_shapeCanBe_267 : decode b_M_shapeCanBe 267 = .ok (.aload_n 0, 1) := by decide +kernel
theorem d_M_shapeCanBe_268 : decode b_M_shapeCanBe 268 = .ok (.getfield 61, 3) := by decide +kernel
theorem d_M_shapeCanBe_271 : decode b_M_shapeCanBe 271 = .ok (.bipush 47, 2) := by decide +kernel
theorem d_M_shapeCanBe_273 : decode b_M_shapeCanBe 273 = .ok (.if_icmp .gt 7, 3) := by decide +kernel
theorem d_M_shapeCanBe_276 : decode b_M_shapeCanBe 276 = .ok (.iconst 5, 1) := by decide +kernel
theorem d_M_shapeCanBe_277 : decode b_M_shapeCanBe 277 = .ok (.goto 4, 3) := by decide +kernel
theorem d_M_shapeCanBe_280 : decode b_M_shapeCanBe 280 = .ok (.iconst 3, 1) := by decide +kernel
theorem d_M_shapeCanBe_281 : decode b_M_shapeCanBe 281 = .ok (.if_icmp .gt 7, 3) := by decide +kernel
theorem d_M_shapeCanBe_284 : decode b_M_shapeCanBe 284 = .ok (.iconst 1, 1) := by decide +kernel
theorem d_M_shapeCanBe_285 : decode b_M_shapeCanBe 285 = .ok (.goto 4, 3) := by decide +kernel
theorem d_M_shapeCanBe_288 : decode b_M_shapeCanBe 288 = .ok (.iconst 0, 1) := by decide +kernel
theorem d_M_shapeCanBe_289 : decode b_M_shapeCanBe 289 = .ok (.ireturn, 1) := by decide +kernel
abbrev b_M_hasFieldOfWord : ByteArray := prog_3_method_14_code
abbrev y_M_hasFieldOfWord : MethodName := ⟨"SignMachine$Machine", "hasFieldOfWord", "()Z"⟩
theorem h_M_hasFieldOfWord : (y_M_hasFieldOfWord).cls ≠ "java/lang/invoke/MethodHandle" ∧ (y_M_hasFieldOfWord).cls ≠ "java/lang/invoke/VarHandle" ∧ (parseMethodDescriptor (y_M_hasFieldOfWord).desc).map (fun d => d.parameters.length) = some 0 := by decide +kernel
theorem d_M_hasFieldOfWord_0 : decode b_M_hasFieldOfWord 0 = .ok (.aload_n 0, 1) := by decide +kernel
theorem d_M_hasFieldOfWord_1 : decode b_M_hasFieldOfWord 1 = .ok (.getfield 61, 3) := by decide +kernel
theorem d_M_hasFieldOfWord_4 : decode b_M_hasFieldOfWord 4 = .ok (.iconst 1, 1) := by decide +kernel
theorem d_M_hasFieldOfWord_5 : decode b_M_hasFieldOfWord 5 = .ok (.if_icmp .lt 11, 3) := by decide +kernel
theorem d_M_hasFieldOfWord_8 : decode b_M_hasFieldOfWord 8 = .ok (.aload_n 0, 1) := by decide +kernel
theorem d_M_hasFieldOfWord_9 : decode b_M_hasFieldOfWord 9 = .ok (.getfield 61, 3) := by decide +kernel
theorem d_M_hasFieldOfWord_12 : decode b_M_hasFieldOfWord 12 = .ok (.iconst 4, 1) := by decide +kernel
theorem d_M_hasFieldOfWord_13 : decode b_M_hasFieldOfWord 13 = .ok (.if_icmp .le 30, 3) := by decide +kernel
theorem d_M_hasFieldOfWord_16 : decode b_M_hasFieldOfWord 16 = .ok (.aload_n 0, 1) := by decide +kernel
theorem d_M_hasFieldOfWord_17 : decode b_M_hasFieldOfWord 17 = .ok (.getfield 61, 3) := by decide +kernel
theorem d_M_hasFieldOfWord_20 : decode b_M_hasFieldOfWord 20 = .ok (.bipush 8, 2) := by decide +kernel
theorem d_M_hasFieldOfWord_22 : decode b_M_hasFieldOfWord 22 = .ok (.if_icmp .lt 12, 3) := by decide +kernel
theorem d_M_hasFieldOfWord_25 : decode b_M_hasFieldOfWord 25 = .ok (.aload_n 0, 1) := by decide +kernel
theorem d_M_hasFieldOfWord_26 : decode b_M_hasFieldOfWord 26 = .ok (.getfield 61, 3) := by decide +kernel
theorem d_M_hasFieldOfWord_29 : decode b_M_hasFieldOfWord 29 = .ok (.bipush 33, 2) := by decide +kernel
theorem d_M_hasFieldOfWord_31 : decode b_M_hasFieldOfWord 31 = .ok (.if_icmp .le 12, 3) := by decide +kernel
theorem d_M_hasFieldOfWord_34 : decode b_M_hasFieldOfWord 34 = .ok (.aload_n 0, 1) := by decide +kernel
theorem d_M_hasFieldOfWord_35 : decode b_M_hasFieldOfWord 35 = .ok (.getfield 61, 3) := by decide +kernel
theorem d_M_hasFieldOfWord_38 : decode b_M_hasFieldOfWord 38 = .ok (.bipush 56, 2) := by decide +kernel
theorem d_M_hasFieldOfWord_40 : decode b_M_hasFieldOfWord 40 = .ok (.if_icmp .lt 7, 3) := by decide +kernel
theorem d_M_hasFieldOfWord_43 : decode b_M_hasFieldOfWord 43 = .ok (.iconst 1, 1) := by decide +kernel
theorem d_M_hasFieldOfWord_44 : decode b_M_hasFieldOfWord 44 = .ok (.goto 4, 3) := by decide +kernel
theorem d_M_hasFieldOfWord_47 : decode b_M_hasFieldOfWord 47 = .ok (.iconst 0, 1) := by decide +kernel
theorem d_M_hasFieldOfWord_48 : decode b_M_hasFieldOfWord 48 = .ok (.ireturn, 1) := by decide +kernel
abbrev b_M_addressCanBe : ByteArray := prog_3_method_16_code
abbrev y_M_addressCanBe : MethodName := ⟨"SignMachine$Machine", "addressCanBe", "()Z"⟩
theorem h_M_addressCanBe : (y_M_addressCanBe).cls ≠ "java/lang/invoke/MethodHandle" ∧ (y_M_addressCanBe).cls ≠ "java/lang/invoke/VarHandle" ∧ (parseMethodDescriptor (y_M_addressCanBe).desc).map (fun d => d.parameters.length) = some 0 := by decide +kernel
theorem d_M_addressCanBe_0 : decode b_M_addressCanBe 0 = .ok (.aload_n 0, 1) := by decide +kernel
theorem d_M_addressCanBe_1 : decode b_M_addressCanBe 1 = .ok (.invokevirtual 103, 3) := by decide +kernel
theorem d_M_addressCanBe_4 : decode b_M_addressCanBe 4 = .ok (.ifCond .eq 11, 3) := by decide +kernel
theorem d_M_addressCanBe_7 : decode b_M_addressCanBe 7 = .ok (.aload_n 0, 1) := by decide +kernel
theorem d_M_addressCanBe_8 : decode b_M_addressCanBe 8 = .ok (.getfield 81, 3) := by decide +kernel
theorem d_M_addressCanBe_11 : decode b_M_addressCanBe 11 = .ok (.invokestatic 36, 3) := by decide +kernel
theorem d_M_addressCanBe_14 : decode b_M_addressCanBe 14 = .ok (.ireturn, 1) := by decide +kernel
theorem d_M_addressCanBe_15 : decode b_M_addressCanBe 15 = .ok (.aload_n 0, 1) := by decide +kernel
theorem d_M_addressCanBe_16 : decode b_M_addressCanBe 16 = .ok (.getfield 61, 3) := by decide +kernel
theorem d_M_addressCanBe_19 : decode b_M_addressCanBe 19 = .ok (.lookupswitch 95 #[(0, 65), (5, 65), (6, 67), (7, 80), (35, 65), (36, 85), (37, 85)], 65) := by decide +kernel
theorem d_M_addressCanBe_84 : decode b_M_addressCanBe 84 = .ok (.iconst 1, 1) := by decide +kernel
theorem d_M_addressCanBe_85 : decode b_M_addressCanBe 85 = .ok (.ireturn, 1) := by decide +kernel
theorem d_M_addressCanBe_86 : decode b_M_addressCanBe 86 = .ok (.aload_n 0, 1) := by decide +kernel
theorem d_M_addressCanBe_87 : decode b_M_addressCanBe 87 = .ok (.getfield 81, 3) := by decide +kernel
theorem d_M_addressCanBe_90 : decode b_M_addressCanBe 90 = .ok (.ifCond .lt 7, 3) := by decide +kernel
theorem d_M_addressCanBe_93 : decode b_M_addressCanBe 93 = .ok (.iconst 1, 1) := by decide +kernel
theorem d_M_addressCanBe_94 : decode b_M_addressCanBe 94 = .ok (.goto 4, 3) := by decide +kernel
theorem d_M_addressCanBe_97 : decode b_M_addressCanBe 97 = .ok (.iconst 0, 1) := by decide +kernel
theorem d_M_addressCanBe_98 : decode b_M_addressCanBe 98 = .ok (.ireturn, 1) := by decide +kernel
theorem d_M_addressCanBe_99 : decode b_M_addressCanBe 99 = .ok (.aload_n 0, 1) := by decide +kernel
theorem d_M_addressCanBe_100 : decode b_M_addressCanBe 100 = .ok (.invokevirtual 109, 3) := by decide +kernel
theorem d_M_addressCanBe_103 : decode b_M_addressCanBe 103 = .ok (.ireturn, 1) := by decide +kernel
theorem d_M_addressCanBe_104 : decode b_M_addressCanBe 104 = .ok (.aload_n 0, 1) := by decide +kernel
theorem d_M_addressCanBe_105 : decode b_M_addressCanBe 105 = .ok (.getfield 81, 3) := by decide +kernel
theorem d_M_addressCanBe_108 : decode b_M_addressCanBe 108 = .ok (.bipush 100, 2) := by decide +kernel
theorem d_M_addressCanBe_110 : decode b_M_addressCanBe 110 = .ok (.invokestatic 112, 3) := by decide +kernel
theorem d_M_addressCanBe_113 : decode b_M_addressCanBe 113 = .ok (.ireturn, 1) := by decide +kernel
theorem d_M_addressCanBe_114 : decode b_M_addressCanBe 114 = .ok (.aload_n 0, 1) := by decide +kernel
theorem d_M_addressCanBe_115 : decode b_M_addressCanBe 115 = .ok (.getfield 61, 3) := by decide +kernel
theorem d_M_addressCanBe_118 : decode b_M_addressCanBe 118 = .ok (.bipush 48, 2) := by decide +kernel
theorem d_M_addressCanBe_120 : decode b_M_addressCanBe 120 = .ok (.if_icmp .ge 13, 3) := by decide +kernel
theorem d_M_addressCanBe_123 : decode b_M_addressCanBe 123 = .ok (.aload_n 0, 1) := by decide +kernel
theorem d_M_addressCanBe_124 : decode b_M_addressCanBe 124 = .ok (.getfield 81, 3) := by decide +kernel
theorem d_M_addressCanBe_127 : decode b_M_addressCanBe 127 = .ok (.invokestatic 36, 3) := by decide +kernel
theorem d_M_addressCanBe_130 : decode b_M_addressCanBe 130 = .ok (.ifCond .eq 7, 3) := by decide +kernel
theorem d_M_addressCanBe_133 : decode b_M_addressCanBe 133 = .ok (.iconst 1, 1) := by decide +kernel
theorem d_M_addressCanBe_134 : decode b_M_addressCanBe 134 = .ok (.goto 4, 3) := by decide +kernel
theorem d_M_addressCanBe_137 : decode b_M_addressCanBe 137 = .ok (.iconst 0, 1) := by decide +kernel
theorem d_M_addressCanBe_138 : decode b_M_addressCanBe 138 = .ok (.ireturn, 1) := by decide +kernel
abbrev b_M_indexCanBe : ByteArray := prog_3_method_19_code
abbrev y_M_indexCanBe : MethodName := ⟨"SignMachine$Machine", "indexCanBe", "()Z"⟩
theorem h_M_indexCanBe : (y_M_indexCanBe).cls ≠ "java/lang/invoke/MethodHandle" ∧ (y_M_indexCanBe).cls ≠ "java/lang/invoke/VarHandle" ∧ (parseMethodDescriptor (y_M_indexCanBe).desc).map (fun d => d.parameters.length) = some 0 := by decide +kernel
theorem d_M_indexCanBe_0 : decode b_M_indexCanBe 0 = .ok (.aload_n 0, 1) := by decide +kernel
theorem d_M_indexCanBe_1 : decode b_M_indexCanBe 1 = .ok (.getfield 61, 3) := by decide +kernel
theorem d_M_indexCanBe_4 : decode b_M_indexCanBe 4 = .ok (.bipush 7, 2) := by decide +kernel
theorem d_M_indexCanBe_6 : decode b_M_indexCanBe 6 = .ok (.iand, 1) := by decide +kernel
theorem d_M_indexCanBe_7 : decode b_M_indexCanBe 7 = .ok (.invokestatic 28, 3) := by decide +kernel
theorem d_M_indexCanBe_10 : decode b_M_indexCanBe 10 = .ok (.ifCond .ne 5, 3) := by decide +kernel
theorem d_M_indexCanBe_13 : decode b_M_indexCanBe 13 = .ok (.iconst 1, 1) := by decide +kernel
theorem d_M_indexCanBe_14 : decode b_M_indexCanBe 14 = .ok (.ireturn, 1) := by decide +kernel
theorem d_M_indexCanBe_15 : decode b_M_indexCanBe 15 = .ok (.aload_n 0, 1) := by decide +kernel
theorem d_M_indexCanBe_16 : decode b_M_indexCanBe 16 = .ok (.getfield 61, 3) := by decide +kernel
theorem d_M_indexCanBe_19 : decode b_M_indexCanBe 19 = .ok (.iconst 3, 1) := by decide +kernel
theorem d_M_indexCanBe_20 : decode b_M_indexCanBe 20 = .ok (.ishr, 1) := by decide +kernel
theorem d_M_indexCanBe_21 : decode b_M_indexCanBe 21 = .ok (.lookupswitch 73 #[(1, 35), (2, 35), (6, 54)], 35) := by decide +kernel
theorem d_M_indexCanBe_56 : decode b_M_indexCanBe 56 = .ok (.aload_n 0, 1) := by decide +kernel
theorem d_M_indexCanBe_57 : decode b_M_indexCanBe 57 = .ok (.invokevirtual 116, 3) := by decide +kernel
theorem d_M_indexCanBe_60 : decode b_M_indexCanBe 60 = .ok (.invokestatic 67, 3) := by decide +kernel
theorem d_M_indexCanBe_63 : decode b_M_indexCanBe 63 = .ok (.sipush 4095, 3) := by decide +kernel
theorem d_M_indexCanBe_66 : decode b_M_indexCanBe 66 = .ok (.if_icmp .gt 7, 3) := by decide +kernel
theorem d_M_indexCanBe_69 : decode b_M_indexCanBe 69 = .ok (.iconst 1, 1) := by decide +kernel
theorem d_M_indexCanBe_70 : decode b_M_indexCanBe 70 = .ok (.goto 4, 3) := by decide +kernel
theorem d_M_indexCanBe_73 : decode b_M_indexCanBe 73 = .ok (.iconst 0, 1) := by decide +kernel
theorem d_M_indexCanBe_74 : decode b_M_indexCanBe 74 = .ok (.ireturn, 1) := by decide +kernel
theorem d_M_indexCanBe_75 : decode b_M_indexCanBe 75 = .ok (.aload_n 0, 1) := by decide +kernel
theorem d_M_indexCanBe_76 : decode b_M_indexCanBe 76 = .ok (.invokevirtual 119, 3) := by decide +kernel
theorem d_M_indexCanBe_79 : decode b_M_indexCanBe 79 = .ok (.invokestatic 122, 3) := by decide +kernel
theorem d_M_indexCanBe_82 : decode b_M_indexCanBe 82 = .ok (.sipush 4095, 3) := by decide +kernel
theorem d_M_indexCanBe_85 : decode b_M_indexCanBe 85 = .ok (.if_icmp .gt 7, 3) := by decide +kernel
theorem d_M_indexCanBe_88 : decode b_M_indexCanBe 88 = .ok (.iconst 1, 1) := by decide +kernel
theorem d_M_indexCanBe_89 : decode b_M_indexCanBe 89 = .ok (.goto 4, 3) := by decide +kernel
theorem d_M_indexCanBe_92 : decode b_M_indexCanBe 92 = .ok (.iconst 0, 1) := by decide +kernel
theorem d_M_indexCanBe_93 : decode b_M_indexCanBe 93 = .ok (.ireturn, 1) := by decide +kernel
theorem d_M_indexCanBe_94 : decode b_M_indexCanBe 94 = .ok (.iconst 1, 1) := by decide +kernel
theorem d_M_indexCanBe_95 : decode b_M_indexCanBe 95 = .ok (.ireturn, 1) := by decide +kernel
abbrev b_M_blockCanBe : ByteArray := prog_3_method_20_code
abbrev y_M_blockCanBe : MethodName := ⟨"SignMachine$Machine", "blockCanBe", "()Z"⟩
theorem h_M_blockCanBe : (y_M_blockCanBe).cls ≠ "java/lang/invoke/MethodHandle" ∧ (y_M_blockCanBe).cls ≠ "java/lang/invoke/VarHandle" ∧ (parseMethodDescriptor (y_M_blockCanBe).desc).map (fun d => d.parameters.length) = some 0 := by decide +kernel
theorem d_M_blockCanBe_0 : decode b_M_blockCanBe 0 = .ok (.aload_n 0, 1) := by decide +kernel
theorem d_M_blockCanBe_1 : decode b_M_blockCanBe 1 = .ok (.getfield 61, 3) := by decide +kernel
theorem d_M_blockCanBe_4 : decode b_M_blockCanBe 4 = .ok (.bipush 35, 2) := by decide +kernel
theorem d_M_blockCanBe_6 : decode b_M_blockCanBe 6 = .ok (.if_icmp .lt 12, 3) := by decide +kernel
theorem d_M_blockCanBe_9 : decode b_M_blockCanBe 9 = .ok (.aload_n 0, 1) := by decide +kernel
theorem d_M_blockCanBe_10 : decode b_M_blockCanBe 10 = .ok (.getfield 61, 3) := by decide +kernel
theorem d_M_blockCanBe_13 : decode b_M_blockCanBe 13 = .ok (.bipush 37, 2) := by decide +kernel
theorem d_M_blockCanBe_15 : decode b_M_blockCanBe 15 = .ok (.if_icmp .le 5, 3) := by decide +kernel
theorem d_M_blockCanBe_18 : decode b_M_blockCanBe 18 = .ok (.iconst 1, 1) := by decide +kernel
theorem d_M_blockCanBe_19 : decode b_M_blockCanBe 19 = .ok (.ireturn, 1) := by decide +kernel
theorem d_M_blockCanBe_20 : decode b_M_blockCanBe 20 = .ok (.aload_n 0, 1) := by decide +kernel
theorem d_M_blockCanBe_21 : decode b_M_blockCanBe 21 = .ok (.aload_n 0, 1) := by decide +kernel
theorem d_M_blockCanBe_22 : decode b_M_blockCanBe 22 = .ok (.getfield 64, 3) := by decide +kernel
theorem d_M_blockCanBe_25 : decode b_M_blockCanBe 25 = .ok (.invokevirtual 127, 3) := by decide +kernel
theorem d_M_blockCanBe_28 : decode b_M_blockCanBe 28 = .ok (.getfield 131, 3) := by decide +kernel
theorem d_M_blockCanBe_31 : decode b_M_blockCanBe 31 = .ok (.istore_n 1, 1) := by decide +kernel
theorem d_M_blockCanBe_32 : decode b_M_blockCanBe 32 = .ok (.aload_n 0, 1) := by decide +kernel
theorem d_M_blockCanBe_33 : decode b_M_blockCanBe 33 = .ok (.getfield 61, 3) := by decide +kernel
theorem d_M_blockCanBe_36 : decode b_M_blockCanBe 36 = .ok (.bipush 35, 2) := by decide +kernel
theorem d_M_blockCanBe_38 : decode b_M_blockCanBe 38 = .ok (.if_icmp .eq 15, 3) := by decide +kernel
theorem d_M_blockCanBe_41 : decode b_M_blockCanBe 41 = .ok (.iload_n 1, 1) := by decide +kernel
theorem d_M_blockCanBe_42 : decode b_M_blockCanBe 42 = .ok (.bipush 40, 2) := by decide +kernel
theorem d_M_blockCanBe_44 : decode b_M_blockCanBe 44 = .ok (.if_icmp .ge 7, 3) := by decide +kernel
theorem d_M_blockCanBe_47 : decode b_M_blockCanBe 47 = .ok (.iconst 1, 1) := by decide +kernel
theorem d_M_blockCanBe_48 : decode b_M_blockCanBe 48 = .ok (.goto 4, 3) := by decide +kernel
theorem d_M_blockCanBe_51 : decode b_M_blockCanBe 51 = .ok (.iconst 0, 1) := by decide +kernel
theorem d_M_blockCanBe_52 : decode b_M_blockCanBe 52 = .ok (.ireturn, 1) := by decide +kernel
theorem d_M_blockCanBe_53 : decode b_M_blockCanBe 53 = .ok (.aload_n 0, 1) := by decide +kernel
theorem d_M_blockCanBe_54 : decode b_M_blockCanBe 54 = .ok (.getfield 81, 3) := by decide +kernel
theorem d_M_blockCanBe_57 : decode b_M_blockCanBe 57 = .ok (.ifCond .eq 23, 3) := by decide +kernel
theorem d_M_blockCanBe_60 : decode b_M_blockCanBe 60 = .ok (.iload_n 1, 1) := by decide +kernel
theorem d_M_blockCanBe_61 : decode b_M_blockCanBe 61 = .ok (.aload_n 0, 1) := by decide +kernel
theorem d_M_blockCanBe_62 : decode b_M_blockCanBe 62 = .ok (.getfield 81, 3) := by decide +kernel
theorem d_M_blockCanBe_65 : decode b_M_blockCanBe 65 = .ok (.iadd, 1) := by decide +kernel
theorem d_M_blockCanBe_66 : decode b_M_blockCanBe 66 = .ok (.ifCond .lt 18, 3) := by decide +kernel
theorem d_M_blockCanBe_69 : decode b_M_blockCanBe 69 = .ok (.iload_n 1, 1) := by decide +kernel
theorem d_M_blockCanBe_70 : decode b_M_blockCanBe 70 = .ok (.aload_n 0, 1) := by decide +kernel
theorem d_M_blockCanBe_71 : decode b_M_blockCanBe 71 = .ok (.getfield 81, 3) := by decide +kernel
theorem d_M_blockCanBe_74 : decode b_M_blockCanBe 74 = .ok (.iadd, 1) := by decide +kernel
theorem d_M_blockCanBe_75 : decode b_M_blockCanBe 75 = .ok (.bipush 40, 2) := by decide +kernel
theorem d_M_blockCanBe_77 : decode b_M_blockCanBe 77 = .ok (.if_icmp .gt 7, 3) := by decide +kernel
theorem d_M_blockCanBe_80 : decode b_M_blockCanBe 80 = .ok (.iconst 1, 1) := by decide +kernel
theorem d_M_blockCanBe_81 : decode b_M_blockCanBe 81 = .ok (.goto 4, 3) := by decide +kernel
theorem d_M_blockCanBe_84 : decode b_M_blockCanBe 84 = .ok (.iconst 0, 1) := by decide +kernel
theorem d_M_blockCanBe_85 : decode b_M_blockCanBe 85 = .ok (.ireturn, 1) := by decide +kernel
abbrev b_M_duration : ByteArray := prog_3_method_21_code
abbrev y_M_duration : MethodName := ⟨"SignMachine$Machine", "duration", "()I"⟩
theorem h_M_duration : (y_M_duration).cls ≠ "java/lang/invoke/MethodHandle" ∧ (y_M_duration).cls ≠ "java/lang/invoke/VarHandle" ∧ (parseMethodDescriptor (y_M_duration).desc).map (fun d => d.parameters.length) = some 0 := by decide +kernel
theorem d_M_duration_0 : decode b_M_duration 0 = .ok (.aload_n 0, 1) := by decide +kernel
theorem d_M_duration_1 : decode b_M_duration 1 = .ok (.invokevirtual 103, 3) := by decide +kernel
theorem d_M_duration_4 : decode b_M_duration 4 = .ok (.ifCond .eq 31, 3) := by decide +kernel
theorem d_M_duration_7 : decode b_M_duration 7 = .ok (.aload_n 0, 1) := by decide +kernel
theorem d_M_duration_8 : decode b_M_duration 8 = .ok (.getfield 61, 3) := by decide +kernel
theorem d_M_duration_11 : decode b_M_duration 11 = .ok (.iconst 3, 1) := by decide +kernel
theorem d_M_duration_12 : decode b_M_duration 12 = .ok (.if_icmp .ne 8, 3) := by decide +kernel
theorem d_M_duration_15 : decode b_M_duration 15 = .ok (.bipush 10, 2) := by decide +kernel
theorem d_M_duration_17 : decode b_M_duration 17 = .ok (.goto 17, 3) := by decide +kernel
theorem d_M_duration_20 : decode b_M_duration 20 = .ok (.aload_n 0, 1) := by decide +kernel
theorem d_M_duration_21 : decode b_M_duration 21 = .ok (.getfield 61, 3) := by decide +kernel
theorem d_M_duration_24 : decode b_M_duration 24 = .ok (.iconst 4, 1) := by decide +kernel
theorem d_M_duration_25 : decode b_M_duration 25 = .ok (.if_icmp .ne 8, 3) := by decide +kernel
theorem d_M_duration_28 : decode b_M_duration 28 = .ok (.bipush 12, 2) := by decide +kernel
theorem d_M_duration_30 : decode b_M_duration 30 = .ok (.goto 4, 3) := by decide +kernel
theorem d_M_duration_33 : decode b_M_duration 33 = .ok (.iconst 2, 1) := by decide +kernel
theorem d_M_duration_34 : decode b_M_duration 34 = .ok (.ireturn, 1) := by decide +kernel
theorem d_M_duration_35 : decode b_M_duration 35 = .ok (.aload_n 0, 1) := by decide +kernel
theorem d_M_duration_36 : decode b_M_duration 36 = .ok (.getfield 61, 3) := by decide +kernel
theorem d_M_duration_39 : decode b_M_duration 39 = .ok (.tableswitch 39 5 7 #[25, 28, 30], 25) := by decide +kernel
theorem d_M_duration_64 : decode b_M_duration 64 = .ok (.bipush 10, 2) := by decide +kernel
theorem d_M_duration_66 : decode b_M_duration 66 = .ok (.ireturn, 1) := by decide +kernel
theorem d_M_duration_67 : decode b_M_duration 67 = .ok (.iconst 2, 1) := by decide +kernel
theorem d_M_duration_68 : decode b_M_duration 68 = .ok (.ireturn, 1) := by decide +kernel
theorem d_M_duration_69 : decode b_M_duration 69 = .ok (.iconst 1, 1) := by decide +kernel
theorem d_M_duration_70 : decode b_M_duration 70 = .ok (.iconst 2, 1) := by decide +kernel
theorem d_M_duration_71 : decode b_M_duration 71 = .ok (.aload_n 0, 1) := by decide +kernel
theorem d_M_duration_72 : decode b_M_duration 72 = .ok (.getfield 64, 3) := by decide +kernel
theorem d_M_duration_75 : decode b_M_duration 75 = .ok (.imul, 1) := by decide +kernel
theorem d_M_duration_76 : decode b_M_duration 76 = .ok (.iadd, 1) := by decide +kernel
theorem d_M_duration_77 : decode b_M_duration 77 = .ok (.ireturn, 1) := by decide +kernel
theorem d_M_duration_78 : decode b_M_duration 78 = .ok (.iconst 1, 1) := by decide +kernel
theorem d_M_duration_79 : decode b_M_duration 79 = .ok (.ireturn, 1) := by decide +kernel
abbrev b_M_perform : ByteArray := prog_3_method_23_code
abbrev y_M_perform : MethodName := ⟨"SignMachine$Machine", "perform", "()V"⟩
theorem h_M_perform : (y_M_perform).cls ≠ "java/lang/invoke/MethodHandle" ∧ (y_M_perform).cls ≠ "java/lang/invoke/VarHandle" ∧ (parseMethodDescriptor (y_M_perform).desc).map (fun d => d.parameters.length) = some 0 := by decide +kernel
theorem d_M_perform_0 : decode b_M_perform 0 = .ok (.aload_n 0, 1) := by decide +kernel
theorem d_M_perform_1 : decode b_M_perform 1 = .ok (.getfield 61, 3) := by decide +kernel
theorem d_M_perform_4 : decode b_M_perform 4 = .ok (.iconst 3, 1) := by decide +kernel
theorem d_M_perform_5 : decode b_M_perform 5 = .ok (.ishr, 1) := by decide +kernel
theorem d_M_perform_6 : decode b_M_perform 6 = .ok (.tableswitch 152 0 6 #[42, 49, 67, 88, 106, 113, 138], 42) := by decide +kernel
theorem d_M_perform_48 : decode b_M_perform 48 = .ok (.aload_n 0, 1) := by decide +kernel
theorem d_M_perform_49 : decode b_M_perform 49 = .ok (.invokevirtual 137, 3) := by decide +kernel
theorem d_M_perform_52 : decode b_M_perform 52 = .ok (.goto 121, 3) := by decide +kernel
theorem d_M_perform_55 : decode b_M_perform 55 = .ok (.aload_n 0, 1) := by decide +kernel
theorem d_M_perform_56 : decode b_M_perform 56 = .ok (.aload_n 0, 1) := by decide +kernel
theorem d_M_perform_57 : decode b_M_perform 57 = .ok (.getfield 61, 3) := by decide +kernel
theorem d_M_perform_60 : decode b_M_perform 60 = .ok (.bipush 7, 2) := by decide +kernel
theorem d_M_perform_62 : decode b_M_perform 62 = .ok (.iand, 1) := by decide +kernel
theorem d_M_perform_63 : decode b_M_perform 63 = .ok (.aload_n 0, 1) := by decide +kernel
theorem d_M_perform_64 : decode b_M_perform 64 = .ok (.invokevirtual 116, 3) := by decide +kernel
theorem d_M_perform_67 : decode b_M_perform 67 = .ok (.invokevirtual 140, 3) := by decide +kernel
theorem d_M_perform_70 : decode b_M_perform 70 = .ok (.goto 103, 3) := by decide +kernel
theorem d_M_perform_73 : decode b_M_perform 73 = .ok (.aload_n 0, 1) := by decide +kernel
theorem d_M_perform_74 : decode b_M_perform 74 = .ok (.aload_n 0, 1) := by decide +kernel
theorem d_M_perform_75 : decode b_M_perform 75 = .ok (.getfield 61, 3) := by decide +kernel
theorem d_M_perform_78 : decode b_M_perform 78 = .ok (.bipush 7, 2) := by decide +kernel
theorem d_M_perform_80 : decode b_M_perform 80 = .ok (.iand, 1) := by decide +kernel
theorem d_M_perform_81 : decode b_M_perform 81 = .ok (.aload_n 0, 1) := by decide +kernel
theorem d_M_perform_82 : decode b_M_perform 82 = .ok (.invokevirtual 116, 3) := by decide +kernel
theorem d_M_perform_85 : decode b_M_perform 85 = .ok (.invokestatic 144, 3) := by decide +kernel
theorem d_M_perform_88 : decode b_M_perform 88 = .ok (.invokevirtual 140, 3) := by decide +kernel
theorem d_M_perform_91 : decode b_M_perform 91 = .ok (.goto 82, 3) := by decide +kernel
theorem d_M_perform_94 : decode b_M_perform 94 = .ok (.aload_n 0, 1) := by decide +kernel
theorem d_M_perform_95 : decode b_M_perform 95 = .ok (.aload_n 0, 1) := by decide +kernel
theorem d_M_perform_96 : decode b_M_perform 96 = .ok (.aload_n 0, 1) := by decide +kernel
theorem d_M_perform_97 : decode b_M_perform 97 = .ok (.getfield 61, 3) := by decide +kernel
theorem d_M_perform_100 : decode b_M_perform 100 = .ok (.bipush 7, 2) := by decide +kernel
theorem d_M_perform_102 : decode b_M_perform 102 = .ok (.iand, 1) := by decide +kernel
theorem d_M_perform_103 : decode b_M_perform 103 = .ok (.invokevirtual 84, 3) := by decide +kernel
theorem d_M_perform_106 : decode b_M_perform 106 = .ok (.invokevirtual 147, 3) := by decide +kernel
theorem d_M_perform_109 : decode b_M_perform 109 = .ok (.goto 64, 3) := by decide +kernel
theorem d_M_perform_112 : decode b_M_perform 112 = .ok (.aload_n 0, 1) := by decide +kernel
theorem d_M_perform_113 : decode b_M_perform 113 = .ok (.invokevirtual 150, 3) := by decide +kernel
theorem d_M_perform_116 : decode b_M_perform 116 = .ok (.goto 57, 3) := by decide +kernel
theorem d_M_perform_119 : decode b_M_perform 119 = .ok (.aload_n 0, 1) := by decide +kernel
theorem d_M_perform_120 : decode b_M_perform 120 = .ok (.aload_n 0, 1) := by decide +kernel
theorem d_M_perform_121 : decode b_M_perform 121 = .ok (.aload_n 0, 1) := by decide +kernel
theorem d_M_perform_122 : decode b_M_perform 122 = .ok (.aload_n 0, 1) := by decide +kernel
theorem d_M_perform_123 : decode b_M_perform 123 = .ok (.getfield 61, 3) := by decide +kernel
theorem d_M_perform_126 : decode b_M_perform 126 = .ok (.bipush 7, 2) := by decide +kernel
theorem d_M_perform_128 : decode b_M_perform 128 = .ok (.iand, 1) := by decide +kernel
theorem d_M_perform_129 : decode b_M_perform 129 = .ok (.invokevirtual 84, 3) := by decide +kernel
theorem d_M_perform_132 : decode b_M_perform 132 = .ok (.invokestatic 87, 3) := by decide +kernel
theorem d_M_perform_135 : decode b_M_perform 135 = .ok (.invokevirtual 153, 3) := by decide +kernel
theorem d_M_perform_138 : decode b_M_perform 138 = .ok (.invokevirtual 156, 3) := by decide +kernel
theorem d_M_perform_141 : decode b_M_perform 141 = .ok (.goto 32, 3) := by decide +kernel
theorem d_M_perform_144 : decode b_M_perform 144 = .ok (.aload_n 0, 1) := by decide +kernel
theorem d_M_perform_145 : decode b_M_perform 145 = .ok (.aload_n 0, 1) := by decide +kernel
theorem d_M_perform_146 : decode b_M_perform 146 = .ok (.getfield 61, 3) := by decide +kernel
theorem d_M_perform_149 : decode b_M_perform 149 = .ok (.bipush 7, 2) := by decide +kernel
theorem d_M_perform_151 : decode b_M_perform 151 = .ok (.iand, 1) := by decide +kernel
theorem d_M_perform_152 : decode b_M_perform 152 = .ok (.invokevirtual 160, 3) := by decide +kernel
theorem d_M_perform_155 : decode b_M_perform 155 = .ok (.goto 18, 3) := by decide +kernel
theorem d_M_perform_158 : decode b_M_perform 158 = .ok (.aload_n 0, 1) := by decide +kernel
theorem d_M_perform_159 : decode b_M_perform 159 = .ok (.aload_n 0, 1) := by decide +kernel
theorem d_M_perform_160 : decode b_M_perform 160 = .ok (.aload_n 0, 1) := by decide +kernel
theorem d_M_perform_161 : decode b_M_perform 161 = .ok (.getfield 61, 3) := by decide +kernel
theorem d_M_perform_164 : decode b_M_perform 164 = .ok (.bipush 7, 2) := by decide +kernel
theorem d_M_perform_166 : decode b_M_perform 166 = .ok (.iand, 1) := by decide +kernel
theorem d_M_perform_167 : decode b_M_perform 167 = .ok (.invokevirtual 84, 3) := by decide +kernel
theorem d_M_perform_170 : decode b_M_perform 170 = .ok (.invokevirtual 163, 3) := by decide +kernel
theorem d_M_perform_173 : decode b_M_perform 173 = .ok (.return_, 1) := by decide +kernel
abbrev b_M_performLow : ByteArray := prog_3_method_24_code
abbrev y_M_performLow : MethodName := ⟨"SignMachine$Machine", "performLow", "()V"⟩
theorem h_M_performLow : (y_M_performLow).cls ≠ "java/lang/invoke/MethodHandle" ∧ (y_M_performLow).cls ≠ "java/lang/invoke/VarHandle" ∧ (parseMethodDescriptor (y_M_performLow).desc).map (fun d => d.parameters.length) = some 0 := by decide +kernel
theorem d_M_performLow_0 : decode b_M_performLow 0 = .ok (.aload_n 0, 1) := by decide +kernel
theorem d_M_performLow_1 : decode b_M_performLow 1 = .ok (.getfield 61, 3) := by decide +kernel
theorem d_M_performLow_4 : decode b_M_performLow 4 = .ok (.tableswitch 118 1 7 #[44, 59, 75, 86, 97, 104, 111], 44) := by decide +kernel
theorem d_M_performLow_48 : decode b_M_performLow 48 = .ok (.aload_n 0, 1) := by decide +kernel
theorem d_M_performLow_49 : decode b_M_performLow 49 = .ok (.iconst 0, 1) := by decide +kernel
theorem d_M_performLow_50 : decode b_M_performLow 50 = .ok (.aload_n 0, 1) := by decide +kernel
theorem d_M_performLow_51 : decode b_M_performLow 51 = .ok (.invokevirtual 116, 3) := by decide +kernel
theorem d_M_performLow_54 : decode b_M_performLow 54 = .ok (.invokestatic 87, 3) := by decide +kernel
theorem d_M_performLow_57 : decode b_M_performLow 57 = .ok (.invokevirtual 166, 3) := by decide +kernel
theorem d_M_performLow_60 : decode b_M_performLow 60 = .ok (.goto 62, 3) := by decide +kernel
theorem d_M_performLow_63 : decode b_M_performLow 63 = .ok (.aload_n 0, 1) := by decide +kernel
theorem d_M_performLow_64 : decode b_M_performLow 64 = .ok (.iconst 0, 1) := by decide +kernel
theorem d_M_performLow_65 : decode b_M_performLow 65 = .ok (.aload_n 0, 1) := by decide +kernel
theorem d_M_performLow_66 : decode b_M_performLow 66 = .ok (.invokevirtual 116, 3) := by decide +kernel
theorem d_M_performLow_69 : decode b_M_performLow 69 = .ok (.invokestatic 87, 3) := by decide +kernel
theorem d_M_performLow_72 : decode b_M_performLow 72 = .ok (.ineg, 1) := by decide +kernel
theorem d_M_performLow_73 : decode b_M_performLow 73 = .ok (.invokevirtual 166, 3) := by decide +kernel
theorem d_M_performLow_76 : decode b_M_performLow 76 = .ok (.goto 46, 3) := by decide +kernel
theorem d_M_performLow_79 : decode b_M_performLow 79 = .ok (.aload_n 0, 1) := by decide +kernel
theorem d_M_performLow_80 : decode b_M_performLow 80 = .ok (.aload_n 0, 1) := by decide +kernel
theorem d_M_performLow_81 : decode b_M_performLow 81 = .ok (.invokevirtual 116, 3) := by decide +kernel
theorem d_M_performLow_84 : decode b_M_performLow 84 = .ok (.invokevirtual 169, 3) := by decide +kernel
theorem d_M_performLow_87 : decode b_M_performLow 87 = .ok (.goto 35, 3) := by decide +kernel
theorem d_M_performLow_90 : decode b_M_performLow 90 = .ok (.aload_n 0, 1) := by decide +kernel
theorem d_M_performLow_91 : decode b_M_performLow 91 = .ok (.aload_n 0, 1) := by decide +kernel
theorem d_M_performLow_92 : decode b_M_performLow 92 = .ok (.invokevirtual 116, 3) := by decide +kernel
theorem d_M_performLow_95 : decode b_M_performLow 95 = .ok (.invokevirtual 172, 3) := by decide +kernel
theorem d_M_performLow_98 : decode b_M_performLow 98 = .ok (.goto 24, 3) := by decide +kernel
theorem d_M_performLow_101 : decode b_M_performLow 101 = .ok (.aload_n 0, 1) := by decide +kernel
theorem d_M_performLow_102 : decode b_M_performLow 102 = .ok (.invokevirtual 175, 3) := by decide +kernel
theorem d_M_performLow_105 : decode b_M_performLow 105 = .ok (.goto 17, 3) := by decide +kernel
theorem d_M_performLow_108 : decode b_M_performLow 108 = .ok (.aload_n 0, 1) := by decide +kernel
theorem d_M_performLow_109 : decode b_M_performLow 109 = .ok (.invokevirtual 178, 3) := by decide +kernel
theorem d_M_performLow_112 : decode b_M_performLow 112 = .ok (.goto 10, 3) := by decide +kernel
theorem d_M_performLow_115 : decode b_M_performLow 115 = .ok (.aload_n 0, 1) := by decide +kernel
theorem d_M_performLow_116 : decode b_M_performLow 116 = .ok (.invokevirtual 181, 3) := by decide +kernel
theorem d_M_performLow_119 : decode b_M_performLow 119 = .ok (.goto 3, 3) := by decide +kernel
theorem d_M_performLow_122 : decode b_M_performLow 122 = .ok (.return_, 1) := by decide +kernel
abbrev b_S_run : ByteArray := prog_1_method_6_code
abbrev y_S_run : MethodName := ⟨"SignMachine", "run", "(I)I"⟩
theorem h_S_run : (y_S_run).cls ≠ "java/lang/invoke/MethodHandle" ∧ (y_S_run).cls ≠ "java/lang/invoke/VarHandle" ∧ (parseMethodDescriptor (y_S_run).desc).map (fun d => d.parameters.length) = some 1 := by decide +kernel
theorem d_S_run_0 : decode b_S_run 0 = .ok (.iload_n 1, 1) := by decide +kernel
theorem d_S_run_1 : decode b_S_run 1 = .ok (.iconst 1, 1) := by decide +kernel
theorem d_S_run_2 : decode b_S_run 2 = .ok (.if_icmp .lt 10, 3) := by decide +kernel
theorem d_S_run_5 : decode b_S_run 5 = .ok (.iload_n 1, 1) := by decide +kernel
theorem d_S_run_6 : decode b_S_run 6 = .ok (.sipush 20000, 3) := by decide +kernel
theorem d_S_run_9 : decode b_S_run 9 = .ok (.if_icmp .le 5, 3) := by decide +kernel
theorem d_S_run_12 : decode b_S_run 12 = .ok (.iconst (-1), 1) := by decide +kernel
theorem d_S_run_13 : decode b_S_run 13 = .ok (.ireturn, 1) := by decide +kernel
theorem d_S_run_14 : decode b_S_run 14 = .ok (.iconst 0, 1) := by decide +kernel
theorem d_S_run_15 : decode b_S_run 15 = .ok (.istore_n 2, 1) := by decide +kernel
theorem d_S_run_16 : decode b_S_run 16 = .ok (.iconst 0, 1) := by decide +kernel
theorem d_S_run_17 : decode b_S_run 17 = .ok (.istore_n 3, 1) := by decide +kernel
theorem d_S_run_18 : decode b_S_run 18 = .ok (.iconst 0, 1) := by decide +kernel
theorem d_S_run_19 : decode b_S_run 19 = .ok (.istore 4, 2) := by decide +kernel
theorem d_S_run_21 : decode b_S_run 21 = .ok (.iload 4, 2) := by decide +kernel
theorem d_S_run_23 : decode b_S_run 23 = .ok (.iload_n 1, 1) := by decide +kernel
theorem d_S_run_24 : decode b_S_run 24 = .ok (.if_icmp .ge 29, 3) := by decide +kernel
theorem d_S_run_27 : decode b_S_run 27 = .ok (.iload_n 3, 1) := by decide +kernel
theorem d_S_run_28 : decode b_S_run 28 = .ok (.ifCond .ne 25, 3) := by decide +kernel
theorem d_S_run_31 : decode b_S_run 31 = .ok (.aload_n 0, 1) := by decide +kernel
theorem d_S_run_32 : decode b_S_run 32 = .ok (.getfield 10, 3) := by decide +kernel
theorem d_S_run_35 : decode b_S_run 35 = .ok (.invokevirtual 44, 3) := by decide +kernel
theorem d_S_run_38 : decode b_S_run 38 = .ok (.istore_n 3, 1) := by decide +kernel
theorem d_S_run_39 : decode b_S_run 39 = .ok (.iload_n 3, 1) := by decide +kernel
theorem d_S_run_40 : decode b_S_run 40 = .ok (.iconst 1, 1) := by decide +kernel
theorem d_S_run_41 : decode b_S_run 41 = .ok (.if_icmp .gt 6, 3) := by decide +kernel
theorem d_S_run_44 : decode b_S_run 44 = .ok (.iinc 2 1, 3) := by decide +kernel
theorem d_S_run_47 : decode b_S_run 47 = .ok (.iinc 4 1, 3) := by decide +kernel
theorem d_S_run_50 : decode b_S_run 50 = .ok (.goto (-29), 3) := by decide +kernel
theorem d_S_run_53 : decode b_S_run 53 = .ok (.aload_n 0, 1) := by decide +kernel
theorem d_S_run_54 : decode b_S_run 54 = .ok (.getfield 10, 3) := by decide +kernel
theorem d_S_run_57 : decode b_S_run 57 = .ok (.iload_n 3, 1) := by decide +kernel
theorem d_S_run_58 : decode b_S_run 58 = .ok (.putfield 48, 3) := by decide +kernel
theorem d_S_run_61 : decode b_S_run 61 = .ok (.iload_n 2, 1) := by decide +kernel
theorem d_S_run_62 : decode b_S_run 62 = .ok (.ireturn, 1) := by decide +kernel
abbrev b_S_feed : ByteArray := prog_1_method_13_code
abbrev y_S_feed : MethodName := ⟨"SignMachine", "feed", "(IIIII)I"⟩
theorem h_S_feed : (y_S_feed).cls ≠ "java/lang/invoke/MethodHandle" ∧ (y_S_feed).cls ≠ "java/lang/invoke/VarHandle" ∧ (parseMethodDescriptor (y_S_feed).desc).map (fun d => d.parameters.length) = some 5 := by decide +kernel
theorem d_S_feed_0 : decode b_S_feed 0 = .ok (.aload_n 0, 1) := by decide +kernel
theorem d_S_feed_1 : decode b_S_feed 1 = .ok (.invokevirtual 95, 3) := by decide +kernel
theorem d_S_feed_4 : decode b_S_feed 4 = .ok (.getfield 99, 3) := by decide +kernel
theorem d_S_feed_7 : decode b_S_feed 7 = .ok (.astore 6, 2) := by decide +kernel
theorem d_S_feed_9 : decode b_S_feed 9 = .ok (.aload 6, 2) := by decide +kernel
theorem d_S_feed_11 : decode b_S_feed 11 = .ok (.invokevirtual 105, 3) := by decide +kernel
theorem d_S_feed_14 : decode b_S_feed 14 = .ok (.ifCond .ne 5, 3) := by decide +kernel
theorem d_S_feed_17 : decode b_S_feed 17 = .ok (.iconst (-1), 1) := by decide +kernel
theorem d_S_feed_18 : decode b_S_feed 18 = .ok (.ireturn, 1) := by decide +kernel
theorem d_S_feed_19 : decode b_S_feed 19 = .ok (.aload 6, 2) := by decide +kernel
theorem d_S_feed_21 : decode b_S_feed 21 = .ok (.iload_n 1, 1) := by decide +kernel
theorem d_S_feed_22 : decode b_S_feed 22 = .ok (.invokevirtual 111, 3) := by decide +kernel
theorem d_S_feed_25 : decode b_S_feed 25 = .ok (.aload 6, 2) := by decide +kernel
theorem d_S_feed_27 : decode b_S_feed 27 = .ok (.iload_n 2, 1) := by decide +kernel
theorem d_S_feed_28 : decode b_S_feed 28 = .ok (.invokevirtual 111, 3) := by decide +kernel
theorem d_S_feed_31 : decode b_S_feed 31 = .ok (.aload 6, 2) := by decide +kernel
theorem d_S_feed_33 : decode b_S_feed 33 = .ok (.iload_n 3, 1) := by decide +kernel
theorem d_S_feed_34 : decode b_S_feed 34 = .ok (.invokevirtual 111, 3) := by decide +kernel
theorem d_S_feed_37 : decode b_S_feed 37 = .ok (.aload 6, 2) := by decide +kernel
theorem d_S_feed_39 : decode b_S_feed 39 = .ok (.iload 4, 2) := by decide +kernel
theorem d_S_feed_41 : decode b_S_feed 41 = .ok (.invokevirtual 111, 3) := by decide +kernel
theorem d_S_feed_44 : decode b_S_feed 44 = .ok (.aload 6, 2) := by decide +kernel
theorem d_S_feed_46 : decode b_S_feed 46 = .ok (.iload 5, 2) := by decide +kernel
theorem d_S_feed_48 : decode b_S_feed 48 = .ok (.invokevirtual 111, 3) := by decide +kernel
theorem d_S_feed_51 : decode b_S_feed 51 = .ok (.aload 6, 2) := by decide +kernel
theorem d_S_feed_53 : decode b_S_feed 53 = .ok (.getfield 115, 3) := by decide +kernel
theorem d_S_feed_56 : decode b_S_feed 56 = .ok (.ireturn, 1) := by decide +kernel
abbrev b_S_assembler : ByteArray := prog_1_method_18_code
abbrev y_S_assembler : MethodName := ⟨"SignMachine", "assembler", "()LSignMachine$Assembler;"⟩
theorem h_S_assembler : (y_S_assembler).cls ≠ "java/lang/invoke/MethodHandle" ∧ (y_S_assembler).cls ≠ "java/lang/invoke/VarHandle" ∧ (parseMethodDescriptor (y_S_assembler).desc).map (fun d => d.parameters.length) = some 0 := by decide +kernel
theorem d_S_assembler_0 : decode b_S_assembler 0 = .ok (.aload_n 0, 1) := by decide +kernel
theorem d_S_assembler_1 : decode b_S_assembler 1 = .ok (.getfield 167, 3) := by decide +kernel
theorem d_S_assembler_4 : decode b_S_assembler 4 = .ok (.ifnonnull 14, 3) := by decide +kernel
theorem d_S_assembler_7 : decode b_S_assembler 7 = .ok (.aload_n 0, 1) := by decide +kernel
theorem d_S_assembler_8 : decode b_S_assembler 8 = .ok (.new 100, 3) := by decide +kernel
theorem d_S_assembler_11 : decode b_S_assembler 11 = .ok (.dup, 1) := by decide +kernel
theorem d_S_assembler_12 : decode b_S_assembler 12 = .ok (.invokespecial 170, 3) := by decide +kernel
theorem d_S_assembler_15 : decode b_S_assembler 15 = .ok (.putfield 167, 3) := by decide +kernel
theorem d_S_assembler_18 : decode b_S_assembler 18 = .ok (.aload_n 0, 1) := by decide +kernel
theorem d_S_assembler_19 : decode b_S_assembler 19 = .ok (.getfield 167, 3) := by decide +kernel
theorem d_S_assembler_22 : decode b_S_assembler 22 = .ok (.areturn, 1) := by decide +kernel
abbrev b_A_init : ByteArray := prog_2_method_1_code
abbrev y_A_init : MethodName := ⟨"SignMachine$Assembler", "<init>", "()V"⟩
theorem h_A_init : (y_A_init).cls ≠ "java/lang/invoke/MethodHandle" ∧ (y_A_init).cls ≠ "java/lang/invoke/VarHandle" ∧ (parseMethodDescriptor (y_A_init).desc).map (fun d => d.parameters.length) = some 0 := by decide +kernel
theorem d_A_init_0 : decode b_A_init 0 = .ok (.aload_n 0, 1) := by decide +kernel
theorem d_A_init_1 : decode b_A_init 1 = .ok (.invokespecial 3, 3) := by decide +kernel
theorem d_A_init_4 : decode b_A_init 4 = .ok (.aload_n 0, 1) := by decide +kernel
theorem d_A_init_5 : decode b_A_init 5 = .ok (.new 9, 3) := by decide +kernel
theorem d_A_init_8 : decode b_A_init 8 = .ok (.dup, 1) := by decide +kernel
theorem d_A_init_9 : decode b_A_init 9 = .ok (.invokespecial 11, 3) := by decide +kernel
theorem d_A_init_12 : decode b_A_init 12 = .ok (.putfield 12, 3) := by decide +kernel
theorem d_A_init_15 : decode b_A_init 15 = .ok (.aload_n 0, 1) := by decide +kernel
theorem d_A_init_16 : decode b_A_init 16 = .ok (.new 18, 3) := by decide +kernel
theorem d_A_init_19 : decode b_A_init 19 = .ok (.dup, 1) := by decide +kernel
theorem d_A_init_20 : decode b_A_init 20 = .ok (.invokespecial 20, 3) := by decide +kernel
theorem d_A_init_23 : decode b_A_init 23 = .ok (.putfield 21, 3) := by decide +kernel
theorem d_A_init_26 : decode b_A_init 26 = .ok (.aload_n 0, 1) := by decide +kernel
theorem d_A_init_27 : decode b_A_init 27 = .ok (.new 25, 3) := by decide +kernel
theorem d_A_init_30 : decode b_A_init 30 = .ok (.dup, 1) := by decide +kernel
theorem d_A_init_31 : decode b_A_init 31 = .ok (.invokespecial 27, 3) := by decide +kernel
theorem d_A_init_34 : decode b_A_init 34 = .ok (.putfield 28, 3) := by decide +kernel
theorem d_A_init_37 : decode b_A_init 37 = .ok (.aload_n 0, 1) := by decide +kernel
theorem d_A_init_38 : decode b_A_init 38 = .ok (.iconst (-1), 1) := by decide +kernel
theorem d_A_init_39 : decode b_A_init 39 = .ok (.putfield 32, 3) := by decide +kernel
theorem d_A_init_42 : decode b_A_init 42 = .ok (.return_, 1) := by decide +kernel
abbrev b_R_init : ByteArray := prog_7_method_1_code
abbrev y_R_init : MethodName := ⟨"SignMachine$Source", "<init>", "()V"⟩
theorem h_R_init : (y_R_init).cls ≠ "java/lang/invoke/MethodHandle" ∧ (y_R_init).cls ≠ "java/lang/invoke/VarHandle" ∧ (parseMethodDescriptor (y_R_init).desc).map (fun d => d.parameters.length) = some 0 := by decide +kernel
theorem d_R_init_0 : decode b_R_init 0 = .ok (.aload_n 0, 1) := by decide +kernel
theorem d_R_init_1 : decode b_R_init 1 = .ok (.invokespecial 1, 3) := by decide +kernel
theorem d_R_init_4 : decode b_R_init 4 = .ok (.aload_n 0, 1) := by decide +kernel
theorem d_R_init_5 : decode b_R_init 5 = .ok (.sipush 4000, 3) := by decide +kernel
theorem d_R_init_8 : decode b_R_init 8 = .ok (.newarray .byte, 2) := by decide +kernel
theorem d_R_init_10 : decode b_R_init 10 = .ok (.putfield 9, 3) := by decide +kernel
theorem d_R_init_13 : decode b_R_init 13 = .ok (.return_, 1) := by decide +kernel
abbrev b_N_init : ByteArray := prog_4_method_1_code
abbrev y_N_init : MethodName := ⟨"SignMachine$Names", "<init>", "()V"⟩
theorem h_N_init : (y_N_init).cls ≠ "java/lang/invoke/MethodHandle" ∧ (y_N_init).cls ≠ "java/lang/invoke/VarHandle" ∧ (parseMethodDescriptor (y_N_init).desc).map (fun d => d.parameters.length) = some 0 := by decide +kernel
theorem d_N_init_0 : decode b_N_init 0 = .ok (.aload_n 0, 1) := by decide +kernel
theorem d_N_init_1 : decode b_N_init 1 = .ok (.invokespecial 5, 3) := by decide +kernel
theorem d_N_init_4 : decode b_N_init 4 = .ok (.aload_n 0, 1) := by decide +kernel
theorem d_N_init_5 : decode b_N_init 5 = .ok (.bipush 100, 2) := by decide +kernel
theorem d_N_init_7 : decode b_N_init 7 = .ok (.newarray .long, 2) := by decide +kernel
theorem d_N_init_9 : decode b_N_init 9 = .ok (.putfield 11, 3) := by decide +kernel
theorem d_N_init_12 : decode b_N_init 12 = .ok (.aload_n 0, 1) := by decide +kernel
theorem d_N_init_13 : decode b_N_init 13 = .ok (.bipush 100, 2) := by decide +kernel
theorem d_N_init_15 : decode b_N_init 15 = .ok (.newarray .int, 2) := by decide +kernel
theorem d_N_init_17 : decode b_N_init 17 = .ok (.putfield 15, 3) := by decide +kernel
theorem d_N_init_20 : decode b_N_init 20 = .ok (.aload_n 0, 1) := by decide +kernel
theorem d_N_init_21 : decode b_N_init 21 = .ok (.bipush 100, 2) := by decide +kernel
theorem d_N_init_23 : decode b_N_init 23 = .ok (.newarray .boolean, 2) := by decide +kernel
theorem d_N_init_25 : decode b_N_init 25 = .ok (.putfield 19, 3) := by decide +kernel
theorem d_N_init_28 : decode b_N_init 28 = .ok (.aload_n 0, 1) := by decide +kernel
theorem d_N_init_29 : decode b_N_init 29 = .ok (.bipush 10, 2) := by decide +kernel
theorem d_N_init_31 : decode b_N_init 31 = .ok (.newarray .int, 2) := by decide +kernel
theorem d_N_init_33 : decode b_N_init 33 = .ok (.putfield 23, 3) := by decide +kernel
theorem d_N_init_36 : decode b_N_init 36 = .ok (.aload_n 0, 1) := by decide +kernel
theorem d_N_init_37 : decode b_N_init 37 = .ok (.bipush 10, 2) := by decide +kernel
theorem d_N_init_39 : decode b_N_init 39 = .ok (.newarray .boolean, 2) := by decide +kernel
theorem d_N_init_41 : decode b_N_init 41 = .ok (.putfield 26, 3) := by decide +kernel
theorem d_N_init_44 : decode b_N_init 44 = .ok (.return_, 1) := by decide +kernel
abbrev b_O_init : ByteArray := prog_6_method_1_code
abbrev y_O_init : MethodName := ⟨"SignMachine$Output", "<init>", "()V"⟩
theorem h_O_init : (y_O_init).cls ≠ "java/lang/invoke/MethodHandle" ∧ (y_O_init).cls ≠ "java/lang/invoke/VarHandle" ∧ (parseMethodDescriptor (y_O_init).desc).map (fun d => d.parameters.length) = some 0 := by decide +kernel
theorem d_O_init_0 : decode b_O_init 0 = .ok (.aload_n 0, 1) := by decide +kernel
theorem d_O_init_1 : decode b_O_init 1 = .ok (.invokespecial 7, 3) := by decide +kernel
theorem d_O_init_4 : decode b_O_init 4 = .ok (.aload_n 0, 1) := by decide +kernel
theorem d_O_init_5 : decode b_O_init 5 = .ok (.sipush 1101, 3) := by decide +kernel
theorem d_O_init_8 : decode b_O_init 8 = .ok (.newarray .int, 2) := by decide +kernel
theorem d_O_init_10 : decode b_O_init 10 = .ok (.putfield 15, 3) := by decide +kernel
theorem d_O_init_13 : decode b_O_init 13 = .ok (.aload_n 0, 1) := by decide +kernel
theorem d_O_init_14 : decode b_O_init 14 = .ok (.sipush 1101, 3) := by decide +kernel
theorem d_O_init_17 : decode b_O_init 17 = .ok (.newarray .int, 2) := by decide +kernel
theorem d_O_init_19 : decode b_O_init 19 = .ok (.putfield 19, 3) := by decide +kernel
theorem d_O_init_22 : decode b_O_init 22 = .ok (.aload_n 0, 1) := by decide +kernel
theorem d_O_init_23 : decode b_O_init 23 = .ok (.sipush 1101, 3) := by decide +kernel
theorem d_O_init_26 : decode b_O_init 26 = .ok (.newarray .int, 2) := by decide +kernel
theorem d_O_init_28 : decode b_O_init 28 = .ok (.putfield 22, 3) := by decide +kernel
theorem d_O_init_31 : decode b_O_init 31 = .ok (.aload_n 0, 1) := by decide +kernel
theorem d_O_init_32 : decode b_O_init 32 = .ok (.sipush 1101, 3) := by decide +kernel
theorem d_O_init_35 : decode b_O_init 35 = .ok (.newarray .byte, 2) := by decide +kernel
theorem d_O_init_37 : decode b_O_init 37 = .ok (.putfield 25, 3) := by decide +kernel
theorem d_O_init_40 : decode b_O_init 40 = .ok (.aload_n 0, 1) := by decide +kernel
theorem d_O_init_41 : decode b_O_init 41 = .ok (.sipush 1101, 3) := by decide +kernel
theorem d_O_init_44 : decode b_O_init 44 = .ok (.newarray .int, 2) := by decide +kernel
theorem d_O_init_46 : decode b_O_init 46 = .ok (.putfield 29, 3) := by decide +kernel
theorem d_O_init_49 : decode b_O_init 49 = .ok (.aload_n 0, 1) := by decide +kernel
theorem d_O_init_50 : decode b_O_init 50 = .ok (.bipush 10, 2) := by decide +kernel
theorem d_O_init_52 : decode b_O_init 52 = .ok (.newarray .int, 2) := by decide +kernel
theorem d_O_init_54 : decode b_O_init 54 = .ok (.putfield 32, 3) := by decide +kernel
theorem d_O_init_57 : decode b_O_init 57 = .ok (.return_, 1) := by decide +kernel
abbrev b_R_hasRoom : ByteArray := prog_7_method_2_code
abbrev y_R_hasRoom : MethodName := ⟨"SignMachine$Source", "hasRoom", "()Z"⟩
theorem h_R_hasRoom : (y_R_hasRoom).cls ≠ "java/lang/invoke/MethodHandle" ∧ (y_R_hasRoom).cls ≠ "java/lang/invoke/VarHandle" ∧ (parseMethodDescriptor (y_R_hasRoom).desc).map (fun d => d.parameters.length) = some 0 := by decide +kernel
theorem d_R_hasRoom_0 : decode b_R_hasRoom 0 = .ok (.aload_n 0, 1) := by decide +kernel
theorem d_R_hasRoom_1 : decode b_R_hasRoom 1 = .ok (.getfield 13, 3) := by decide +kernel
theorem d_R_hasRoom_4 : decode b_R_hasRoom 4 = .ok (.bipush 20, 2) := by decide +kernel
theorem d_R_hasRoom_6 : decode b_R_hasRoom 6 = .ok (.iadd, 1) := by decide +kernel
theorem d_R_hasRoom_7 : decode b_R_hasRoom 7 = .ok (.sipush 4000, 3) := by decide +kernel
theorem d_R_hasRoom_10 : decode b_R_hasRoom 10 = .ok (.if_icmp .gt 7, 3) := by decide +kernel
theorem d_R_hasRoom_13 : decode b_R_hasRoom 13 = .ok (.iconst 1, 1) := by decide +kernel
theorem d_R_hasRoom_14 : decode b_R_hasRoom 14 = .ok (.goto 4, 3) := by decide +kernel
theorem d_R_hasRoom_17 : decode b_R_hasRoom 17 = .ok (.iconst 0, 1) := by decide +kernel
theorem d_R_hasRoom_18 : decode b_R_hasRoom 18 = .ok (.ireturn, 1) := by decide +kernel
abbrev b_R_append : ByteArray := prog_7_method_3_code
abbrev y_R_append : MethodName := ⟨"SignMachine$Source", "append", "(I)V"⟩
theorem h_R_append : (y_R_append).cls ≠ "java/lang/invoke/MethodHandle" ∧ (y_R_append).cls ≠ "java/lang/invoke/VarHandle" ∧ (parseMethodDescriptor (y_R_append).desc).map (fun d => d.parameters.length) = some 1 := by decide +kernel
theorem d_R_append_0 : decode b_R_append 0 = .ok (.bipush 24, 2) := by decide +kernel
theorem d_R_append_2 : decode b_R_append 2 = .ok (.istore_n 2, 1) := by decide +kernel
theorem d_R_append_3 : decode b_R_append 3 = .ok (.iload_n 2, 1) := by decide +kernel
theorem d_R_append_4 : decode b_R_append 4 = .ok (.ifCond .lt 49, 3) := by decide +kernel
theorem d_R_append_7 : decode b_R_append 7 = .ok (.aload_n 0, 1) := by decide +kernel
theorem d_R_append_8 : decode b_R_append 8 = .ok (.getfield 13, 3) := by decide +kernel
theorem d_R_append_11 : decode b_R_append 11 = .ok (.ifCond .lt 36, 3) := by decide +kernel
theorem d_R_append_14 : decode b_R_append 14 = .ok (.aload_n 0, 1) := by decide +kernel
theorem d_R_append_15 : decode b_R_append 15 = .ok (.getfield 13, 3) := by decide +kernel
theorem d_R_append_18 : decode b_R_append 18 = .ok (.sipush 4000, 3) := by decide +kernel
theorem d_R_append_21 : decode b_R_append 21 = .ok (.if_icmp .ge 26, 3) := by decide +kernel
theorem d_R_append_24 : decode b_R_append 24 = .ok (.aload_n 0, 1) := by decide +kernel
theorem d_R_append_25 : decode b_R_append 25 = .ok (.getfield 9, 3) := by decide +kernel
theorem d_R_append_28 : decode b_R_append 28 = .ok (.aload_n 0, 1) := by decide +kernel
theorem d_R_append_29 : decode b_R_append 29 = .ok (.getfield 13, 3) := by decide +kernel
theorem d_R_append_32 : decode b_R_append 32 = .ok (.iload_n 1, 1) := by decide +kernel
theorem d_R_append_33 : decode b_R_append 33 = .ok (.iload_n 2, 1) := by decide +kernel
theorem d_R_append_34 : decode b_R_append 34 = .ok (.ishr, 1) := by decide +kernel
theorem d_R_append_35 : decode b_R_append 35 = .ok (.i2b, 1) := by decide +kernel
theorem d_R_append_36 : decode b_R_append 36 = .ok (.bastore, 1) := by decide +kernel
theorem d_R_append_37 : decode b_R_append 37 = .ok (.aload_n 0, 1) := by decide +kernel
theorem d_R_append_38 : decode b_R_append 38 = .ok (.dup, 1) := by decide +kernel
theorem d_R_append_39 : decode b_R_append 39 = .ok (.getfield 13, 3) := by decide +kernel
theorem d_R_append_42 : decode b_R_append 42 = .ok (.iconst 1, 1) := by decide +kernel
theorem d_R_append_43 : decode b_R_append 43 = .ok (.iadd, 1) := by decide +kernel
theorem d_R_append_44 : decode b_R_append 44 = .ok (.putfield 13, 3) := by decide +kernel
theorem d_R_append_47 : decode b_R_append 47 = .ok (.iinc 2 (-8), 3) := by decide +kernel
theorem d_R_append_50 : decode b_R_append 50 = .ok (.goto (-47), 3) := by decide +kernel
theorem d_R_append_53 : decode b_R_append 53 = .ok (.return_, 1) := by decide +kernel
abbrev b_S_end : ByteArray := prog_1_method_14_code
abbrev y_S_end : MethodName := ⟨"SignMachine", "end", "(I)I"⟩
theorem h_S_end : (y_S_end).cls ≠ "java/lang/invoke/MethodHandle" ∧ (y_S_end).cls ≠ "java/lang/invoke/VarHandle" ∧ (parseMethodDescriptor (y_S_end).desc).map (fun d => d.parameters.length) = some 1 := by decide +kernel
theorem d_S_end_0 : decode b_S_end 0 = .ok (.aload_n 0, 1) := by decide +kernel
theorem d_S_end_1 : decode b_S_end 1 = .ok (.invokevirtual 95, 3) := by decide +kernel
theorem d_S_end_4 : decode b_S_end 4 = .ok (.getfield 99, 3) := by decide +kernel
theorem d_S_end_7 : decode b_S_end 7 = .ok (.astore_n 2, 1) := by decide +kernel
theorem d_S_end_8 : decode b_S_end 8 = .ok (.iload_n 1, 1) := by decide +kernel
theorem d_S_end_9 : decode b_S_end 9 = .ok (.ifCond .lt 18, 3) := by decide +kernel
theorem d_S_end_12 : decode b_S_end 12 = .ok (.iload_n 1, 1) := by decide +kernel
theorem d_S_end_13 : decode b_S_end 13 = .ok (.bipush 20, 2) := by decide +kernel
theorem d_S_end_15 : decode b_S_end 15 = .ok (.if_icmp .gt 12, 3) := by decide +kernel
theorem d_S_end_18 : decode b_S_end 18 = .ok (.aload_n 2, 1) := by decide +kernel
theorem d_S_end_19 : decode b_S_end 19 = .ok (.getfield 115, 3) := by decide +kernel
theorem d_S_end_22 : decode b_S_end 22 = .ok (.bipush 20, 2) := by decide +kernel
theorem d_S_end_24 : decode b_S_end 24 = .ok (.if_icmp .ge 5, 3) := by decide +kernel
theorem d_S_end_27 : decode b_S_end 27 = .ok (.iconst (-1), 1) := by decide +kernel
theorem d_S_end_28 : decode b_S_end 28 = .ok (.ireturn, 1) := by decide +kernel
theorem d_S_end_29 : decode b_S_end 29 = .ok (.aload_n 2, 1) := by decide +kernel
theorem d_S_end_30 : decode b_S_end 30 = .ok (.aload_n 2, 1) := by decide +kernel
theorem d_S_end_31 : decode b_S_end 31 = .ok (.getfield 115, 3) := by decide +kernel
theorem d_S_end_34 : decode b_S_end 34 = .ok (.bipush 20, 2) := by decide +kernel
theorem d_S_end_36 : decode b_S_end 36 = .ok (.isub, 1) := by decide +kernel
theorem d_S_end_37 : decode b_S_end 37 = .ok (.iload_n 1, 1) := by decide +kernel
theorem d_S_end_38 : decode b_S_end 38 = .ok (.iadd, 1) := by decide +kernel
theorem d_S_end_39 : decode b_S_end 39 = .ok (.putfield 115, 3) := by decide +kernel
theorem d_S_end_42 : decode b_S_end 42 = .ok (.aload_n 2, 1) := by decide +kernel
theorem d_S_end_43 : decode b_S_end 43 = .ok (.getfield 115, 3) := by decide +kernel
theorem d_S_end_46 : decode b_S_end 46 = .ok (.ireturn, 1) := by decide +kernel
abbrev b_S_assemble : ByteArray := prog_1_method_15_code
abbrev y_S_assemble : MethodName := ⟨"SignMachine", "assemble", "()I"⟩
theorem h_S_assemble : (y_S_assemble).cls ≠ "java/lang/invoke/MethodHandle" ∧ (y_S_assemble).cls ≠ "java/lang/invoke/VarHandle" ∧ (parseMethodDescriptor (y_S_assemble).desc).map (fun d => d.parameters.length) = some 0 := by decide +kernel
theorem d_S_assemble_0 : decode b_S_assemble 0 = .ok (.aload_n 0, 1) := by decide +kernel
theorem d_S_assemble_1 : decode b_S_assemble 1 = .ok (.invokevirtual 95, 3) := by decide +kernel
theorem d_S_assemble_4 : decode b_S_assemble 4 = .ok (.astore_n 1, 1) := by decide +kernel
theorem d_S_assemble_5 : decode b_S_assemble 5 = .ok (.aload_n 1, 1) := by decide +kernel
theorem d_S_assemble_6 : decode b_S_assemble 6 = .ok (.invokevirtual 118, 3) := by decide +kernel
theorem d_S_assemble_9 : decode b_S_assemble 9 = .ok (.iconst 0, 1) := by decide +kernel
theorem d_S_assemble_10 : decode b_S_assemble 10 = .ok (.istore_n 2, 1) := by decide +kernel
theorem d_S_assemble_11 : decode b_S_assemble 11 = .ok (.iload_n 2, 1) := by decide +kernel
theorem d_S_assemble_12 : decode b_S_assemble 12 = .ok (.sipush 4000, 3) := by decide +kernel
theorem d_S_assemble_15 : decode b_S_assemble 15 = .ok (.if_icmp .ge 28, 3) := by decide +kernel
theorem d_S_assemble_18 : decode b_S_assemble 18 = .ok (.aload_n 1, 1) := by decide +kernel
theorem d_S_assemble_19 : decode b_S_assemble 19 = .ok (.invokevirtual 121, 3) := by decide +kernel
theorem d_S_assemble_22 : decode b_S_assemble 22 = .ok (.ifCond .eq 21, 3) := by decide +kernel
theorem d_S_assemble_25 : decode b_S_assemble 25 = .ok (.aload_n 1, 1) := by decide +kernel
theorem d_S_assemble_26 : decode b_S_assemble 26 = .ok (.invokevirtual 124, 3) := by decide +kernel
theorem d_S_assemble_29 : decode b_S_assemble 29 = .ok (.aload_n 1, 1) := by decide +kernel
theorem d_S_assemble_30 : decode b_S_assemble 30 = .ok (.invokevirtual 127, 3) := by decide +kernel
theorem d_S_assemble_33 : decode b_S_assemble 33 = .ok (.aload_n 1, 1) := by decide +kernel
theorem d_S_assemble_34 : decode b_S_assemble 34 = .ok (.invokevirtual 130, 3) := by decide +kernel
theorem d_S_assemble_37 : decode b_S_assemble 37 = .ok (.iinc 2 1, 3) := by decide +kernel
theorem d_S_assemble_40 : decode b_S_assemble 40 = .ok (.goto (-29), 3) := by decide +kernel
theorem d_S_assemble_43 : decode b_S_assemble 43 = .ok (.aload_n 1, 1) := by decide +kernel
theorem d_S_assemble_44 : decode b_S_assemble 44 = .ok (.invokevirtual 133, 3) := by decide +kernel
theorem d_S_assemble_47 : decode b_S_assemble 47 = .ok (.aload_n 1, 1) := by decide +kernel
theorem d_S_assemble_48 : decode b_S_assemble 48 = .ok (.getfield 136, 3) := by decide +kernel
theorem d_S_assemble_51 : decode b_S_assemble 51 = .ok (.ifCond .ne 22, 3) := by decide +kernel
theorem d_S_assemble_54 : decode b_S_assemble 54 = .ok (.aload_n 0, 1) := by decide +kernel
theorem d_S_assemble_55 : decode b_S_assemble 55 = .ok (.aload_n 1, 1) := by decide +kernel
theorem d_S_assemble_56 : decode b_S_assemble 56 = .ok (.getfield 139, 3) := by decide +kernel
theorem d_S_assemble_59 : decode b_S_assemble 59 = .ok (.invokevirtual 143, 3) := by decide +kernel
theorem d_S_assemble_62 : decode b_S_assemble 62 = .ok (.aload_n 0, 1) := by decide +kernel
theorem d_S_assemble_63 : decode b_S_assemble 63 = .ok (.getfield 10, 3) := by decide +kernel
theorem d_S_assemble_66 : decode b_S_assemble 66 = .ok (.aload_n 1, 1) := by decide +kernel
theorem d_S_assemble_67 : decode b_S_assemble 67 = .ok (.getfield 147, 3) := by decide +kernel
theorem d_S_assemble_70 : decode b_S_assemble 70 = .ok (.putfield 64, 3) := by decide +kernel
theorem d_S_assemble_73 : decode b_S_assemble 73 = .ok (.aload_n 1, 1) := by decide +kernel
theorem d_S_assemble_74 : decode b_S_assemble 74 = .ok (.getfield 136, 3) := by decide +kernel
theorem d_S_assemble_77 : decode b_S_assemble 77 = .ok (.ireturn, 1) := by decide +kernel
abbrev b_A_begin : ByteArray := prog_2_method_2_code
abbrev y_A_begin : MethodName := ⟨"SignMachine$Assembler", "begin", "()V"⟩
theorem h_A_begin : (y_A_begin).cls ≠ "java/lang/invoke/MethodHandle" ∧ (y_A_begin).cls ≠ "java/lang/invoke/VarHandle" ∧ (parseMethodDescriptor (y_A_begin).desc).map (fun d => d.parameters.length) = some 0 := by decide +kernel
theorem d_A_begin_0 : decode b_A_begin 0 = .ok (.aload_n 0, 1) := by decide +kernel
theorem d_A_begin_1 : decode b_A_begin 1 = .ok (.getfield 12, 3) := by decide +kernel
theorem d_A_begin_4 : decode b_A_begin 4 = .ok (.invokevirtual 36, 3) := by decide +kernel
theorem d_A_begin_7 : decode b_A_begin 7 = .ok (.aload_n 0, 1) := by decide +kernel
theorem d_A_begin_8 : decode b_A_begin 8 = .ok (.getfield 21, 3) := by decide +kernel
theorem d_A_begin_11 : decode b_A_begin 11 = .ok (.invokevirtual 39, 3) := by decide +kernel
theorem d_A_begin_14 : decode b_A_begin 14 = .ok (.aload_n 0, 1) := by decide +kernel
theorem d_A_begin_15 : decode b_A_begin 15 = .ok (.getfield 28, 3) := by decide +kernel
theorem d_A_begin_18 : decode b_A_begin 18 = .ok (.invokevirtual 42, 3) := by decide +kernel
theorem d_A_begin_21 : decode b_A_begin 21 = .ok (.aload_n 0, 1) := by decide +kernel
theorem d_A_begin_22 : decode b_A_begin 22 = .ok (.iconst 0, 1) := by decide +kernel
theorem d_A_begin_23 : decode b_A_begin 23 = .ok (.putfield 43, 3) := by decide +kernel
theorem d_A_begin_26 : decode b_A_begin 26 = .ok (.aload_n 0, 1) := by decide +kernel
theorem d_A_begin_27 : decode b_A_begin 27 = .ok (.iconst 0, 1) := by decide +kernel
theorem d_A_begin_28 : decode b_A_begin 28 = .ok (.putfield 46, 3) := by decide +kernel
theorem d_A_begin_31 : decode b_A_begin 31 = .ok (.aload_n 0, 1) := by decide +kernel
theorem d_A_begin_32 : decode b_A_begin 32 = .ok (.iconst 0, 1) := by decide +kernel
theorem d_A_begin_33 : decode b_A_begin 33 = .ok (.putfield 49, 3) := by decide +kernel
theorem d_A_begin_36 : decode b_A_begin 36 = .ok (.aload_n 0, 1) := by decide +kernel
theorem d_A_begin_37 : decode b_A_begin 37 = .ok (.iconst 0, 1) := by decide +kernel
theorem d_A_begin_38 : decode b_A_begin 38 = .ok (.putfield 52, 3) := by decide +kernel
theorem d_A_begin_41 : decode b_A_begin 41 = .ok (.return_, 1) := by decide +kernel
abbrev b_R_begin : ByteArray := prog_7_method_4_code
abbrev y_R_begin : MethodName := ⟨"SignMachine$Source", "begin", "()V"⟩
theorem h_R_begin : (y_R_begin).cls ≠ "java/lang/invoke/MethodHandle" ∧ (y_R_begin).cls ≠ "java/lang/invoke/VarHandle" ∧ (parseMethodDescriptor (y_R_begin).desc).map (fun d => d.parameters.length) = some 0 := by decide +kernel
theorem d_R_begin_0 : decode b_R_begin 0 = .ok (.aload_n 0, 1) := by decide +kernel
theorem d_R_begin_1 : decode b_R_begin 1 = .ok (.iconst 0, 1) := by decide +kernel
theorem d_R_begin_2 : decode b_R_begin 2 = .ok (.putfield 17, 3) := by decide +kernel
theorem d_R_begin_5 : decode b_R_begin 5 = .ok (.aload_n 0, 1) := by decide +kernel
theorem d_R_begin_6 : decode b_R_begin 6 = .ok (.iconst 0, 1) := by decide +kernel
theorem d_R_begin_7 : decode b_R_begin 7 = .ok (.putfield 20, 3) := by decide +kernel
theorem d_R_begin_10 : decode b_R_begin 10 = .ok (.return_, 1) := by decide +kernel
abbrev b_N_clear : ByteArray := prog_4_method_6_code
abbrev y_N_clear : MethodName := ⟨"SignMachine$Names", "clear", "()V"⟩
theorem h_N_clear : (y_N_clear).cls ≠ "java/lang/invoke/MethodHandle" ∧ (y_N_clear).cls ≠ "java/lang/invoke/VarHandle" ∧ (parseMethodDescriptor (y_N_clear).desc).map (fun d => d.parameters.length) = some 0 := by decide +kernel
theorem d_N_clear_0 : decode b_N_clear 0 = .ok (.aload_n 0, 1) := by decide +kernel
theorem d_N_clear_1 : decode b_N_clear 1 = .ok (.iconst 0, 1) := by decide +kernel
theorem d_N_clear_2 : decode b_N_clear 2 = .ok (.putfield 35, 3) := by decide +kernel
theorem d_N_clear_5 : decode b_N_clear 5 = .ok (.aload_n 0, 1) := by decide +kernel
theorem d_N_clear_6 : decode b_N_clear 6 = .ok (.iconst 0, 1) := by decide +kernel
theorem d_N_clear_7 : decode b_N_clear 7 = .ok (.putfield 39, 3) := by decide +kernel
theorem d_N_clear_10 : decode b_N_clear 10 = .ok (.iconst 0, 1) := by decide +kernel
theorem d_N_clear_11 : decode b_N_clear 11 = .ok (.istore_n 1, 1) := by decide +kernel
theorem d_N_clear_12 : decode b_N_clear 12 = .ok (.iload_n 1, 1) := by decide +kernel
theorem d_N_clear_13 : decode b_N_clear 13 = .ok (.bipush 10, 2) := by decide +kernel
theorem d_N_clear_15 : decode b_N_clear 15 = .ok (.if_icmp .ge 16, 3) := by decide +kernel
theorem d_N_clear_18 : decode b_N_clear 18 = .ok (.aload_n 0, 1) := by decide +kernel
theorem d_N_clear_19 : decode b_N_clear 19 = .ok (.getfield 26, 3) := by decide +kernel
theorem d_N_clear_22 : decode b_N_clear 22 = .ok (.iload_n 1, 1) := by decide +kernel
theorem d_N_clear_23 : decode b_N_clear 23 = .ok (.iconst 0, 1) := by decide +kernel
theorem d_N_clear_24 : decode b_N_clear 24 = .ok (.bastore, 1) := by decide +kernel
theorem d_N_clear_25 : decode b_N_clear 25 = .ok (.iinc 1 1, 3) := by decide +kernel
theorem d_N_clear_28 : decode b_N_clear 28 = .ok (.goto (-16), 3) := by decide +kernel
theorem d_N_clear_31 : decode b_N_clear 31 = .ok (.return_, 1) := by decide +kernel
abbrev b_O_clear : ByteArray := prog_6_method_2_code
abbrev y_O_clear : MethodName := ⟨"SignMachine$Output", "clear", "()V"⟩
theorem h_O_clear : (y_O_clear).cls ≠ "java/lang/invoke/MethodHandle" ∧ (y_O_clear).cls ≠ "java/lang/invoke/VarHandle" ∧ (parseMethodDescriptor (y_O_clear).desc).map (fun d => d.parameters.length) = some 0 := by decide +kernel
theorem d_O_clear_0 : decode b_O_clear 0 = .ok (.aload_n 0, 1) := by decide +kernel
theorem d_O_clear_1 : decode b_O_clear 1 = .ok (.iconst 0, 1) := by decide +kernel
theorem d_O_clear_2 : decode b_O_clear 2 = .ok (.putfield 35, 3) := by decide +kernel
theorem d_O_clear_5 : decode b_O_clear 5 = .ok (.iconst 0, 1) := by decide +kernel
theorem d_O_clear_6 : decode b_O_clear 6 = .ok (.istore_n 1, 1) := by decide +kernel
theorem d_O_clear_7 : decode b_O_clear 7 = .ok (.iload_n 1, 1) := by decide +kernel
theorem d_O_clear_8 : decode b_O_clear 8 = .ok (.aload_n 0, 1) := by decide +kernel
theorem d_O_clear_9 : decode b_O_clear 9 = .ok (.getfield 32, 3) := by decide +kernel
theorem d_O_clear_12 : decode b_O_clear 12 = .ok (.arraylength, 1) := by decide +kernel
theorem d_O_clear_13 : decode b_O_clear 13 = .ok (.if_icmp .ge 17, 3) := by decide +kernel
theorem d_O_clear_16 : decode b_O_clear 16 = .ok (.aload_n 0, 1) := by decide +kernel
theorem d_O_clear_17 : decode b_O_clear 17 = .ok (.getfield 32, 3) := by decide +kernel
theorem d_O_clear_20 : decode b_O_clear 20 = .ok (.iload_n 1, 1) := by decide +kernel
theorem d_O_clear_21 : decode b_O_clear 21 = .ok (.bipush (-2), 2) := by decide +kernel
theorem d_O_clear_23 : decode b_O_clear 23 = .ok (.iastore, 1) := by decide +kernel
theorem d_O_clear_24 : decode b_O_clear 24 = .ok (.iinc 1 1, 3) := by decide +kernel
theorem d_O_clear_27 : decode b_O_clear 27 = .ok (.goto (-20), 3) := by decide +kernel
theorem d_O_clear_30 : decode b_O_clear 30 = .ok (.return_, 1) := by decide +kernel
abbrev b_A_hasLine : ByteArray := prog_2_method_3_code
abbrev y_A_hasLine : MethodName := ⟨"SignMachine$Assembler", "hasLine", "()Z"⟩
theorem h_A_hasLine : (y_A_hasLine).cls ≠ "java/lang/invoke/MethodHandle" ∧ (y_A_hasLine).cls ≠ "java/lang/invoke/VarHandle" ∧ (parseMethodDescriptor (y_A_hasLine).desc).map (fun d => d.parameters.length) = some 0 := by decide +kernel
theorem d_A_hasLine_0 : decode b_A_hasLine 0 = .ok (.aload_n 0, 1) := by decide +kernel
theorem d_A_hasLine_1 : decode b_A_hasLine 1 = .ok (.getfield 43, 3) := by decide +kernel
theorem d_A_hasLine_4 : decode b_A_hasLine 4 = .ok (.ifCond .ne 24, 3) := by decide +kernel
theorem d_A_hasLine_7 : decode b_A_hasLine 7 = .ok (.aload_n 0, 1) := by decide +kernel
theorem d_A_hasLine_8 : decode b_A_hasLine 8 = .ok (.getfield 52, 3) := by decide +kernel
theorem d_A_hasLine_11 : decode b_A_hasLine 11 = .ok (.ifCond .ne 17, 3) := by decide +kernel
theorem d_A_hasLine_14 : decode b_A_hasLine 14 = .ok (.aload_n 0, 1) := by decide +kernel
theorem d_A_hasLine_15 : decode b_A_hasLine 15 = .ok (.getfield 12, 3) := by decide +kernel
theorem d_A_hasLine_18 : decode b_A_hasLine 18 = .ok (.invokevirtual 56, 3) := by decide +kernel
theorem d_A_hasLine_21 : decode b_A_hasLine 21 = .ok (.ifCond .eq 7, 3) := by decide +kernel
theorem d_A_hasLine_24 : decode b_A_hasLine 24 = .ok (.iconst 1, 1) := by decide +kernel
theorem d_A_hasLine_25 : decode b_A_hasLine 25 = .ok (.goto 4, 3) := by decide +kernel
theorem d_A_hasLine_28 : decode b_A_hasLine 28 = .ok (.iconst 0, 1) := by decide +kernel
theorem d_A_hasLine_29 : decode b_A_hasLine 29 = .ok (.ireturn, 1) := by decide +kernel
abbrev b_R_hasLine : ByteArray := prog_7_method_5_code
abbrev y_R_hasLine : MethodName := ⟨"SignMachine$Source", "hasLine", "()Z"⟩
theorem h_R_hasLine : (y_R_hasLine).cls ≠ "java/lang/invoke/MethodHandle" ∧ (y_R_hasLine).cls ≠ "java/lang/invoke/VarHandle" ∧ (parseMethodDescriptor (y_R_hasLine).desc).map (fun d => d.parameters.length) = some 0 := by decide +kernel
theorem d_R_hasLine_0 : decode b_R_hasLine 0 = .ok (.aload_n 0, 1) := by decide +kernel
theorem d_R_hasLine_1 : decode b_R_hasLine 1 = .ok (.getfield 20, 3) := by decide +kernel
theorem d_R_hasLine_4 : decode b_R_hasLine 4 = .ok (.aload_n 0, 1) := by decide +kernel
theorem d_R_hasLine_5 : decode b_R_hasLine 5 = .ok (.getfield 13, 3) := by decide +kernel
theorem d_R_hasLine_8 : decode b_R_hasLine 8 = .ok (.if_icmp .ge 7, 3) := by decide +kernel
theorem d_R_hasLine_11 : decode b_R_hasLine 11 = .ok (.iconst 1, 1) := by decide +kernel
theorem d_R_hasLine_12 : decode b_R_hasLine 12 = .ok (.goto 4, 3) := by decide +kernel
theorem d_R_hasLine_15 : decode b_R_hasLine 15 = .ok (.iconst 0, 1) := by decide +kernel
theorem d_R_hasLine_16 : decode b_R_hasLine 16 = .ok (.ireturn, 1) := by decide +kernel
abbrev b_A_finish : ByteArray := prog_2_method_7_code
abbrev y_A_finish : MethodName := ⟨"SignMachine$Assembler", "finish", "()V"⟩
theorem h_A_finish : (y_A_finish).cls ≠ "java/lang/invoke/MethodHandle" ∧ (y_A_finish).cls ≠ "java/lang/invoke/VarHandle" ∧ (parseMethodDescriptor (y_A_finish).desc).map (fun d => d.parameters.length) = some 0 := by decide +kernel
theorem d_A_finish_0 : decode b_A_finish 0 = .ok (.aload_n 0, 1) := by decide +kernel
theorem d_A_finish_1 : decode b_A_finish 1 = .ok (.getfield 12, 3) := by decide +kernel
theorem d_A_finish_4 : decode b_A_finish 4 = .ok (.iconst 0, 1) := by decide +kernel
theorem d_A_finish_5 : decode b_A_finish 5 = .ok (.putfield 146, 3) := by decide +kernel
theorem d_A_finish_8 : decode b_A_finish 8 = .ok (.aload_n 0, 1) := by decide +kernel
theorem d_A_finish_9 : decode b_A_finish 9 = .ok (.getfield 43, 3) := by decide +kernel
theorem d_A_finish_12 : decode b_A_finish 12 = .ok (.ifCond .ne 17, 3) := by decide +kernel
theorem d_A_finish_15 : decode b_A_finish 15 = .ok (.aload_n 0, 1) := by decide +kernel
theorem d_A_finish_16 : decode b_A_finish 16 = .ok (.getfield 52, 3) := by decide +kernel
theorem d_A_finish_19 : decode b_A_finish 19 = .ok (.ifCond .ne 10, 3) := by decide +kernel
theorem d_A_finish_22 : decode b_A_finish 22 = .ok (.aload_n 0, 1) := by decide +kernel
theorem d_A_finish_23 : decode b_A_finish 23 = .ok (.bipush 6, 2) := by decide +kernel
theorem d_A_finish_25 : decode b_A_finish 25 = .ok (.invokevirtual 84, 3) := by decide +kernel
theorem d_A_finish_28 : decode b_A_finish 28 = .ok (.pop, 1) := by decide +kernel
theorem d_A_finish_29 : decode b_A_finish 29 = .ok (.iconst 0, 1) := by decide +kernel
theorem d_A_finish_30 : decode b_A_finish 30 = .ok (.istore_n 1, 1) := by decide +kernel
theorem d_A_finish_31 : decode b_A_finish 31 = .ok (.iload_n 1, 1) := by decide +kernel
theorem d_A_finish_32 : decode b_A_finish 32 = .ok (.aload_n 0, 1) := by decide +kernel
theorem d_A_finish_33 : decode b_A_finish 33 = .ok (.getfield 28, 3) := by decide +kernel
theorem d_A_finish_36 : decode b_A_finish 36 = .ok (.getfield 149, 3) := by decide +kernel
theorem d_A_finish_39 : decode b_A_finish 39 = .ok (.if_icmp .ge 21, 3) := by decide +kernel
theorem d_A_finish_42 : decode b_A_finish 42 = .ok (.aload_n 0, 1) := by decide +kernel
theorem d_A_finish_43 : decode b_A_finish 43 = .ok (.getfield 43, 3) := by decide +kernel
theorem d_A_finish_46 : decode b_A_finish 46 = .ok (.ifCond .ne 14, 3) := by decide +kernel
theorem d_A_finish_49 : decode b_A_finish 49 = .ok (.aload_n 0, 1) := by decide +kernel
theorem d_A_finish_50 : decode b_A_finish 50 = .ok (.iload_n 1, 1) := by decide +kernel
theorem d_A_finish_51 : decode b_A_finish 51 = .ok (.invokevirtual 152, 3) := by decide +kernel
theorem d_A_finish_54 : decode b_A_finish 54 = .ok (.iinc 1 1, 3) := by decide +kernel
theorem d_A_finish_57 : decode b_A_finish 57 = .ok (.goto (-26), 3) := by decide +kernel
theorem d_A_finish_60 : decode b_A_finish 60 = .ok (.aload_n 0, 1) := by decide +kernel
theorem d_A_finish_61 : decode b_A_finish 61 = .ok (.getfield 43, 3) := by decide +kernel
theorem d_A_finish_64 : decode b_A_finish 64 = .ok (.ifCond .eq 8, 3) := by decide +kernel
theorem d_A_finish_67 : decode b_A_finish 67 = .ok (.aload_n 0, 1) := by decide +kernel
theorem d_A_finish_68 : decode b_A_finish 68 = .ok (.iconst (-1), 1) := by decide +kernel
theorem d_A_finish_69 : decode b_A_finish 69 = .ok (.putfield 32, 3) := by decide +kernel
theorem d_A_finish_72 : decode b_A_finish 72 = .ok (.return_, 1) := by decide +kernel
abbrev b_A_fail : ByteArray := prog_2_method_10_code
abbrev y_A_fail : MethodName := ⟨"SignMachine$Assembler", "fail", "(I)I"⟩
theorem h_A_fail : (y_A_fail).cls ≠ "java/lang/invoke/MethodHandle" ∧ (y_A_fail).cls ≠ "java/lang/invoke/VarHandle" ∧ (parseMethodDescriptor (y_A_fail).desc).map (fun d => d.parameters.length) = some 1 := by decide +kernel
theorem d_A_fail_0 : decode b_A_fail 0 = .ok (.aload_n 0, 1) := by decide +kernel
theorem d_A_fail_1 : decode b_A_fail 1 = .ok (.getfield 43, 3) := by decide +kernel
theorem d_A_fail_4 : decode b_A_fail 4 = .ok (.ifCond .ne 19, 3) := by decide +kernel
theorem d_A_fail_7 : decode b_A_fail 7 = .ok (.aload_n 0, 1) := by decide +kernel
theorem d_A_fail_8 : decode b_A_fail 8 = .ok (.iload_n 1, 1) := by decide +kernel
theorem d_A_fail_9 : decode b_A_fail 9 = .ok (.putfield 43, 3) := by decide +kernel
theorem d_A_fail_12 : decode b_A_fail 12 = .ok (.aload_n 0, 1) := by decide +kernel
theorem d_A_fail_13 : decode b_A_fail 13 = .ok (.aload_n 0, 1) := by decide +kernel
theorem d_A_fail_14 : decode b_A_fail 14 = .ok (.getfield 12, 3) := by decide +kernel
theorem d_A_fail_17 : decode b_A_fail 17 = .ok (.getfield 179, 3) := by decide +kernel
theorem d_A_fail_20 : decode b_A_fail 20 = .ok (.putfield 46, 3) := by decide +kernel
theorem d_A_fail_23 : decode b_A_fail 23 = .ok (.iconst 0, 1) := by decide +kernel
theorem d_A_fail_24 : decode b_A_fail 24 = .ok (.ireturn, 1) := by decide +kernel
abbrev b_S_about : ByteArray := prog_1_method_16_code
abbrev y_S_about : MethodName := ⟨"SignMachine", "about", "(I)I"⟩
theorem h_S_about : (y_S_about).cls ≠ "java/lang/invoke/MethodHandle" ∧ (y_S_about).cls ≠ "java/lang/invoke/VarHandle" ∧ (parseMethodDescriptor (y_S_about).desc).map (fun d => d.parameters.length) = some 1 := by decide +kernel
theorem d_S_about_0 : decode b_S_about 0 = .ok (.aload_n 0, 1) := by decide +kernel
theorem d_S_about_1 : decode b_S_about 1 = .ok (.invokevirtual 95, 3) := by decide +kernel
theorem d_S_about_4 : decode b_S_about 4 = .ok (.astore_n 2, 1) := by decide +kernel
theorem d_S_about_5 : decode b_S_about 5 = .ok (.iload_n 1, 1) := by decide +kernel
theorem d_S_about_6 : decode b_S_about 6 = .ok (.tableswitch 44 0 2 #[26, 31, 36], 26) := by decide +kernel
theorem d_S_about_32 : decode b_S_about 32 = .ok (.aload_n 2, 1) := by decide +kernel
theorem d_S_about_33 : decode b_S_about 33 = .ok (.getfield 150, 3) := by decide +kernel
theorem d_S_about_36 : decode b_S_about 36 = .ok (.ireturn, 1) := by decide +kernel
theorem d_S_about_37 : decode b_S_about 37 = .ok (.aload_n 2, 1) := by decide +kernel
theorem d_S_about_38 : decode b_S_about 38 = .ok (.getfield 153, 3) := by decide +kernel
theorem d_S_about_41 : decode b_S_about 41 = .ok (.ireturn, 1) := by decide +kernel
theorem d_S_about_42 : decode b_S_about 42 = .ok (.aload_n 2, 1) := by decide +kernel
theorem d_S_about_43 : decode b_S_about 43 = .ok (.getfield 99, 3) := by decide +kernel
theorem d_S_about_46 : decode b_S_about 46 = .ok (.getfield 115, 3) := by decide +kernel
theorem d_S_about_49 : decode b_S_about 49 = .ok (.ireturn, 1) := by decide +kernel
theorem d_S_about_50 : decode b_S_about 50 = .ok (.iconst (-1), 1) := by decide +kernel
theorem d_S_about_51 : decode b_S_about 51 = .ok (.ireturn, 1) := by decide +kernel
theorem k_0 : (Cond.selects "SignMachine$Machine" ⟨"SignMachine$Machine", "decode", "(I)V"⟩ ⟨"SignMachine$Machine", "decode", "(I)V"⟩) ∈ tb := mt 0 (by decide +kernel) rfl
theorem k_1 : (Cond.selects "SignMachine$Machine" ⟨"SignMachine$Machine", "reasonAgainst", "()I"⟩ ⟨"SignMachine$Machine", "reasonAgainst", "()I"⟩) ∈ tb := mt 1 (by decide +kernel) rfl
theorem k_2 : (Cond.selects "SignMachine$Machine" ⟨"SignMachine$Machine", "shapeCanBe", "()Z"⟩ ⟨"SignMachine$Machine", "shapeCanBe", "()Z"⟩) ∈ tb := mt 2 (by decide +kernel) rfl
theorem k_3 : (Cond.selects "SignMachine$Machine" ⟨"SignMachine$Machine", "hasFieldOfWord", "()Z"⟩ ⟨"SignMachine$Machine", "hasFieldOfWord", "()Z"⟩) ∈ tb := mt 3 (by decide +kernel) rfl
theorem k_4 : (Cond.selects "SignMachine$Machine" ⟨"SignMachine$Machine", "addressCanBe", "()Z"⟩ ⟨"SignMachine$Machine", "addressCanBe", "()Z"⟩) ∈ tb := mt 4 (by decide +kernel) rfl
theorem k_6 : (Cond.selects "SignMachine$Machine" ⟨"SignMachine$Machine", "indexCanBe", "()Z"⟩ ⟨"SignMachine$Machine", "indexCanBe", "()Z"⟩) ∈ tb := mt 6 (by decide +kernel) rfl
theorem k_9 : (Cond.selects "SignMachine$Machine" ⟨"SignMachine$Machine", "blockCanBe", "()Z"⟩ ⟨"SignMachine$Machine", "blockCanBe", "()Z"⟩) ∈ tb := mt 9 (by decide +kernel) rfl
theorem k_10 : (Cond.selects "SignMachine$Machine" ⟨"SignMachine$Machine", "duration", "()I"⟩ ⟨"SignMachine$Machine", "duration", "()I"⟩) ∈ tb := mt 10 (by decide +kernel) rfl
theorem k_11 : (Cond.selects "SignMachine$Machine" ⟨"SignMachine$Machine", "perform", "()V"⟩ ⟨"SignMachine$Machine", "perform", "()V"⟩) ∈ tb := mt 11 (by decide +kernel) rfl
theorem k_12 : (Cond.selects "SignMachine$Machine" ⟨"SignMachine$Machine", "performLow", "()V"⟩ ⟨"SignMachine$Machine", "performLow", "()V"⟩) ∈ tb := mt 12 (by decide +kernel) rfl
theorem k_33 : (Cond.selects "SignMachine" ⟨"SignMachine", "assembler", "()LSignMachine$Assembler;"⟩ ⟨"SignMachine", "assembler", "()LSignMachine$Assembler;"⟩) ∈ tb := mt 33 (by decide +kernel) rfl
theorem k_36 : (Cond.selects "SignMachine$Assembler" ⟨"SignMachine$Assembler", "fail", "(I)I"⟩ ⟨"SignMachine$Assembler", "fail", "(I)I"⟩) ∈ tb := mt 36 (by decide +kernel) rfl
theorem k_116 : ((Jvm.Cond.initialized "SignMachine")) ∈ tb := mt 116 (by decide +kernel) rfl
theorem k_117 : ((Jvm.Cond.initialized "SignMachine$Machine")) ∈ tb := mt 117 (by decide +kernel) rfl
theorem k_118 : ((Jvm.Cond.initialized "SignMachine$Tape")) ∈ tb := mt 118 (by decide +kernel) rfl
theorem k_120 : ((Jvm.Cond.initialized "SignMachine$Word")) ∈ tb := mt 120 (by decide +kernel) rfl
theorem k_123 : ((Jvm.Cond.initialized "SignMachine$Assembler")) ∈ tb := mt 123 (by decide +kernel) rfl
theorem k_124 : ((Jvm.Cond.initialized "SignMachine$Source")) ∈ tb := mt 124 (by decide +kernel) rfl
theorem k_125 : ((Jvm.Cond.initialized "SignMachine$Names")) ∈ tb := mt 125 (by decide +kernel) rfl
theorem k_126 : ((Jvm.Cond.initialized "SignMachine$Output")) ∈ tb := mt 126 (by decide +kernel) rfl
theorem k_134 : ((Jvm.Cond.classLink "SignMachineLaw" (7 : Nat) "SignMachine")) ∈ tb := mt 134 (by decide +kernel) rfl
theorem k_135 : ((Jvm.Cond.instantiable "SignMachine" (2 : Nat))) ∈ tb := mt 135 (by decide +kernel) rfl
theorem k_136 : ((Jvm.Cond.methodLink "SignMachineLaw" (9 : Nat) ({ cls := "SignMachine", name := "<init>", desc := "()V" } : Jvm.MethodName))) ∈ tb := mt 136 (by decide +kernel) rfl
theorem k_137 : ((Jvm.Cond.instanceMethod ({ cls := "SignMachine", name := "<init>", desc := "()V" } : Jvm.MethodName))) ∈ tb := mt 137 (by decide +kernel) rfl
theorem k_138 : ((Jvm.Cond.code ({ cls := "SignMachine", name := "<init>", desc := "()V" } : Jvm.MethodName) prog_1_method_1_code (1 : Nat) (Option.none : Option Jvm.ClassFile.FieldType))) ∈ tb := mt 138 (by decide +kernel) rfl
theorem k_139 : ((Jvm.Cond.methodLink "SignMachine" (1 : Nat) ({ cls := "java/lang/Object", name := "<init>", desc := "()V" } : Jvm.MethodName))) ∈ tb := mt 139 (by decide +kernel) rfl
theorem k_140 : ((Jvm.Cond.instanceMethod ({ cls := "java/lang/Object", name := "<init>", desc := "()V" } : Jvm.MethodName))) ∈ tb := mt 140 (by decide +kernel) rfl
theorem k_142 : ((Jvm.Cond.classLink "SignMachine" (7 : Nat) "SignMachine$Machine")) ∈ tb := mt 142 (by decide +kernel) rfl
theorem k_143 : ((Jvm.Cond.instantiable "SignMachine$Machine" (14 : Nat))) ∈ tb := mt 143 (by decide +kernel) rfl
theorem k_145 : ((Jvm.Cond.instanceMethod ({ cls := "SignMachine$Machine", name := "<init>", desc := "()V" } : Jvm.MethodName))) ∈ tb := mt 145 (by decide +kernel) rfl
theorem k_146 : ((Jvm.Cond.code ({ cls := "SignMachine$Machine", name := "<init>", desc := "()V" } : Jvm.MethodName) prog_3_method_1_code (1 : Nat) (Option.none : Option Jvm.ClassFile.FieldType))) ∈ tb := mt 146 (by decide +kernel) rfl
theorem k_147 : ((Jvm.Cond.methodLink "SignMachine$Machine" (3 : Nat) ({ cls := "java/lang/Object", name := "<init>", desc := "()V" } : Jvm.MethodName))) ∈ tb := mt 147 (by decide +kernel) rfl
theorem k_148 : ((Jvm.Cond.classLink "SignMachine$Machine" (18 : Nat) "SignMachine$Tape")) ∈ tb := mt 148 (by decide +kernel) rfl
theorem k_149 : ((Jvm.Cond.instantiable "SignMachine$Tape" (2 : Nat))) ∈ tb := mt 149 (by decide +kernel) rfl
theorem k_151 : ((Jvm.Cond.instanceMethod ({ cls := "SignMachine$Tape", name := "<init>", desc := "()V" } : Jvm.MethodName))) ∈ tb := mt 151 (by decide +kernel) rfl
theorem k_152 : ((Jvm.Cond.code ({ cls := "SignMachine$Tape", name := "<init>", desc := "()V" } : Jvm.MethodName) prog_8_method_1_code (1 : Nat) (Option.none : Option Jvm.ClassFile.FieldType))) ∈ tb := mt 152 (by decide +kernel) rfl
theorem k_153 : ((Jvm.Cond.methodLink "SignMachine$Tape" (1 : Nat) ({ cls := "java/lang/Object", name := "<init>", desc := "()V" } : Jvm.MethodName))) ∈ tb := mt 153 (by decide +kernel) rfl
theorem k_156 : ((Jvm.Cond.fieldLink "SignMachine$Tape" (9 : Nat) "SignMachine$Tape" "words" "[I")) ∈ tb := mt 156 (by decide +kernel) rfl
theorem k_162 : ((Jvm.Cond.arrayClass Jvm.ClassFile.FieldType.int)) ∈ tb := mt 162 (by decide +kernel) rfl
theorem k_163 : ((Jvm.Cond.fieldLink "SignMachine$Machine" (9 : Nat) "SignMachine$Machine" "memory" "[I")) ∈ tb := mt 163 (by decide +kernel) rfl
theorem k_164 : ((Jvm.Cond.fieldLink "SignMachine$Machine" (15 : Nat) "SignMachine$Machine" "registers" "[I")) ∈ tb := mt 164 (by decide +kernel) rfl
theorem k_165 : ((Jvm.Cond.fieldLink "SignMachine$Machine" (21 : Nat) "SignMachine$Machine" "firstTape" "LSignMachine$Tape;")) ∈ tb := mt 165 (by decide +kernel) rfl
theorem k_166 : ((Jvm.Cond.fieldLink "SignMachine$Machine" (25 : Nat) "SignMachine$Machine" "secondTape" "LSignMachine$Tape;")) ∈ tb := mt 166 (by decide +kernel) rfl
theorem k_172 : ((Jvm.Cond.fieldLink "SignMachine$Machine" (51 : Nat) "SignMachine$Machine" "time" "I")) ∈ tb := mt 172 (by decide +kernel) rfl
theorem k_174 : ((Jvm.Cond.fieldLink "SignMachine$Machine" (32 : Nat) "SignMachine$Machine" "next" "I")) ∈ tb := mt 174 (by decide +kernel) rfl
theorem k_176 : ((Jvm.Cond.fieldLink "SignMachine$Machine" (61 : Nat) "SignMachine$Machine" "code" "I")) ∈ tb := mt 176 (by decide +kernel) rfl
theorem k_177 : ((Jvm.Cond.fieldLink "SignMachine$Machine" (64 : Nat) "SignMachine$Machine" "field" "I")) ∈ tb := mt 177 (by decide +kernel) rfl
theorem k_178 : ((Jvm.Cond.fieldLink "SignMachine$Machine" (72 : Nat) "SignMachine$Machine" "index" "I")) ∈ tb := mt 178 (by decide +kernel) rfl
theorem k_179 : ((Jvm.Cond.fieldLink "SignMachine$Machine" (81 : Nat) "SignMachine$Machine" "m" "I")) ∈ tb := mt 179 (by decide +kernel) rfl
theorem k_180 : ((Jvm.Cond.fieldLink "SignMachine$Machine" (78 : Nat) "SignMachine$Machine" "signOfZero" "I")) ∈ tb := mt 180 (by decide +kernel) rfl
theorem k_210 : ((Jvm.Cond.fieldLink "SignMachine" (10 : Nat) "SignMachine" "machine" "LSignMachine$Machine;")) ∈ tb := mt 210 (by decide +kernel) rfl
theorem k_211 : ((Jvm.Cond.fieldLink "SignMachine" (167 : Nat) "SignMachine" "assembler" "LSignMachine$Assembler;")) ∈ tb := mt 211 (by decide +kernel) rfl
theorem k_218 : ((Jvm.Cond.instanceMethod ({ cls := "SignMachine", name := "poke", desc := "(III)Z" } : Jvm.MethodName))) ∈ tb := mt 218 (by decide +kernel) rfl
theorem k_219 : ((Jvm.Cond.selects "SignMachine" ({ cls := "SignMachine", name := "poke", desc := "(III)Z" } : Jvm.MethodName) ({ cls := "SignMachine", name := "poke", desc := "(III)Z" } : Jvm.MethodName))) ∈ tb := mt 219 (by decide +kernel) rfl
theorem k_220 : ((Jvm.Cond.code ({ cls := "SignMachine", name := "poke", desc := "(III)Z" } : Jvm.MethodName) prog_1_method_2_code (4 : Nat) (Option.some Jvm.ClassFile.FieldType.boolean))) ∈ tb := mt 220 (by decide +kernel) rfl
theorem k_221 : ((Jvm.Cond.methodLink "SignMachine" (16 : Nat) ({ cls := "SignMachine$Machine", name := "isAddress", desc := "(I)Z" } : Jvm.MethodName))) ∈ tb := mt 221 (by decide +kernel) rfl
theorem k_222 : ((Jvm.Cond.static ({ cls := "SignMachine$Machine", name := "isAddress", desc := "(I)Z" } : Jvm.MethodName))) ∈ tb := mt 222 (by decide +kernel) rfl
theorem k_223 : ((Jvm.Cond.code ({ cls := "SignMachine$Machine", name := "isAddress", desc := "(I)Z" } : Jvm.MethodName) prog_3_method_2_code (1 : Nat) (Option.some Jvm.ClassFile.FieldType.boolean))) ∈ tb := mt 223 (by decide +kernel) rfl
theorem k_224 : ((Jvm.Cond.methodLink "SignMachine" (20 : Nat) ({ cls := "SignMachine$Word", name := "isWord", desc := "(II)Z" } : Jvm.MethodName))) ∈ tb := mt 224 (by decide +kernel) rfl
theorem k_225 : ((Jvm.Cond.static ({ cls := "SignMachine$Word", name := "isWord", desc := "(II)Z" } : Jvm.MethodName))) ∈ tb := mt 225 (by decide +kernel) rfl
theorem k_226 : ((Jvm.Cond.code ({ cls := "SignMachine$Word", name := "isWord", desc := "(II)Z" } : Jvm.MethodName) prog_9_method_2_code (2 : Nat) (Option.some Jvm.ClassFile.FieldType.boolean))) ∈ tb := mt 226 (by decide +kernel) rfl
theorem k_227 : ((Jvm.Cond.constant "SignMachine$Word" (9 : Nat) (1073741823 : Int32))) ∈ tb := mt 227 (by decide +kernel) rfl
theorem k_228 : ((Jvm.Cond.methodLink "SignMachine" (26 : Nat) ({ cls := "SignMachine$Word", name := "make", desc := "(II)I" } : Jvm.MethodName))) ∈ tb := mt 228 (by decide +kernel) rfl
theorem k_229 : ((Jvm.Cond.static ({ cls := "SignMachine$Word", name := "make", desc := "(II)I" } : Jvm.MethodName))) ∈ tb := mt 229 (by decide +kernel) rfl
theorem k_230 : ((Jvm.Cond.code ({ cls := "SignMachine$Word", name := "make", desc := "(II)I" } : Jvm.MethodName) prog_9_method_3_code (2 : Nat) (Option.some Jvm.ClassFile.FieldType.int))) ∈ tb := mt 230 (by decide +kernel) rfl
theorem k_231 : ((Jvm.Cond.constant "SignMachine$Word" (10 : Nat) (1073741824 : Int32))) ∈ tb := mt 231 (by decide +kernel) rfl
theorem k_232 : ((Jvm.Cond.methodLink "SignMachine" (30 : Nat) ({ cls := "SignMachine$Machine", name := "putWord", desc := "(II)V" } : Jvm.MethodName))) ∈ tb := mt 232 (by decide +kernel) rfl
theorem k_233 : ((Jvm.Cond.instanceMethod ({ cls := "SignMachine$Machine", name := "putWord", desc := "(II)V" } : Jvm.MethodName))) ∈ tb := mt 233 (by decide +kernel) rfl
theorem k_234 : ((Jvm.Cond.selects "SignMachine$Machine" ({ cls := "SignMachine$Machine", name := "putWord", desc := "(II)V" } : Jvm.MethodName) ({ cls := "SignMachine$Machine", name := "putWord", desc := "(II)V" } : Jvm.MethodName))) ∈ tb := mt 234 (by decide +kernel) rfl
theorem k_235 : ((Jvm.Cond.code ({ cls := "SignMachine$Machine", name := "putWord", desc := "(II)V" } : Jvm.MethodName) prog_3_method_7_code (3 : Nat) (Option.none : Option Jvm.ClassFile.FieldType))) ∈ tb := mt 235 (by decide +kernel) rfl
theorem k_237 : ((Jvm.Cond.instanceMethod ({ cls := "SignMachine", name := "peekSign", desc := "(I)I" } : Jvm.MethodName))) ∈ tb := mt 237 (by decide +kernel) rfl
theorem k_238 : ((Jvm.Cond.selects "SignMachine" ({ cls := "SignMachine", name := "peekSign", desc := "(I)I" } : Jvm.MethodName) ({ cls := "SignMachine", name := "peekSign", desc := "(I)I" } : Jvm.MethodName))) ∈ tb := mt 238 (by decide +kernel) rfl
theorem k_239 : ((Jvm.Cond.code ({ cls := "SignMachine", name := "peekSign", desc := "(I)I" } : Jvm.MethodName) prog_1_method_3_code (2 : Nat) (Option.some Jvm.ClassFile.FieldType.int))) ∈ tb := mt 239 (by decide +kernel) rfl
theorem k_240 : ((Jvm.Cond.methodLink "SignMachine" (34 : Nat) ({ cls := "SignMachine$Machine", name := "wordAt", desc := "(I)I" } : Jvm.MethodName))) ∈ tb := mt 240 (by decide +kernel) rfl
theorem k_241 : ((Jvm.Cond.instanceMethod ({ cls := "SignMachine$Machine", name := "wordAt", desc := "(I)I" } : Jvm.MethodName))) ∈ tb := mt 241 (by decide +kernel) rfl
theorem k_242 : ((Jvm.Cond.selects "SignMachine$Machine" ({ cls := "SignMachine$Machine", name := "wordAt", desc := "(I)I" } : Jvm.MethodName) ({ cls := "SignMachine$Machine", name := "wordAt", desc := "(I)I" } : Jvm.MethodName))) ∈ tb := mt 242 (by decide +kernel) rfl
theorem k_243 : ((Jvm.Cond.code ({ cls := "SignMachine$Machine", name := "wordAt", desc := "(I)I" } : Jvm.MethodName) prog_3_method_6_code (2 : Nat) (Option.some Jvm.ClassFile.FieldType.int))) ∈ tb := mt 243 (by decide +kernel) rfl
theorem k_244 : ((Jvm.Cond.methodLink "SignMachine" (38 : Nat) ({ cls := "SignMachine$Word", name := "sign", desc := "(I)I" } : Jvm.MethodName))) ∈ tb := mt 244 (by decide +kernel) rfl
theorem k_245 : ((Jvm.Cond.static ({ cls := "SignMachine$Word", name := "sign", desc := "(I)I" } : Jvm.MethodName))) ∈ tb := mt 245 (by decide +kernel) rfl
theorem k_246 : ((Jvm.Cond.code ({ cls := "SignMachine$Word", name := "sign", desc := "(I)I" } : Jvm.MethodName) prog_9_method_4_code (1 : Nat) (Option.some Jvm.ClassFile.FieldType.int))) ∈ tb := mt 246 (by decide +kernel) rfl
theorem k_248 : ((Jvm.Cond.instanceMethod ({ cls := "SignMachine", name := "peekSize", desc := "(I)I" } : Jvm.MethodName))) ∈ tb := mt 248 (by decide +kernel) rfl
theorem k_249 : ((Jvm.Cond.selects "SignMachine" ({ cls := "SignMachine", name := "peekSize", desc := "(I)I" } : Jvm.MethodName) ({ cls := "SignMachine", name := "peekSize", desc := "(I)I" } : Jvm.MethodName))) ∈ tb := mt 249 (by decide +kernel) rfl
theorem k_250 : ((Jvm.Cond.code ({ cls := "SignMachine", name := "peekSize", desc := "(I)I" } : Jvm.MethodName) prog_1_method_4_code (2 : Nat) (Option.some Jvm.ClassFile.FieldType.int))) ∈ tb := mt 250 (by decide +kernel) rfl
theorem k_251 : ((Jvm.Cond.methodLink "SignMachine" (41 : Nat) ({ cls := "SignMachine$Word", name := "size", desc := "(I)I" } : Jvm.MethodName))) ∈ tb := mt 251 (by decide +kernel) rfl
theorem k_252 : ((Jvm.Cond.static ({ cls := "SignMachine$Word", name := "size", desc := "(I)I" } : Jvm.MethodName))) ∈ tb := mt 252 (by decide +kernel) rfl
theorem k_253 : ((Jvm.Cond.code ({ cls := "SignMachine$Word", name := "size", desc := "(I)I" } : Jvm.MethodName) prog_9_method_5_code (1 : Nat) (Option.some Jvm.ClassFile.FieldType.int))) ∈ tb := mt 253 (by decide +kernel) rfl
theorem k_255 : ((Jvm.Cond.instanceMethod ({ cls := "SignMachine", name := "step", desc := "()I" } : Jvm.MethodName))) ∈ tb := mt 255 (by decide +kernel) rfl
theorem k_256 : ((Jvm.Cond.selects "SignMachine" ({ cls := "SignMachine", name := "step", desc := "()I" } : Jvm.MethodName) ({ cls := "SignMachine", name := "step", desc := "()I" } : Jvm.MethodName))) ∈ tb := mt 256 (by decide +kernel) rfl
theorem k_257 : ((Jvm.Cond.code ({ cls := "SignMachine", name := "step", desc := "()I" } : Jvm.MethodName) prog_1_method_5_code (1 : Nat) (Option.some Jvm.ClassFile.FieldType.int))) ∈ tb := mt 257 (by decide +kernel) rfl
theorem k_258 : ((Jvm.Cond.methodLink "SignMachine" (44 : Nat) ({ cls := "SignMachine$Machine", name := "execute", desc := "()I" } : Jvm.MethodName))) ∈ tb := mt 258 (by decide +kernel) rfl
theorem k_259 : ((Jvm.Cond.instanceMethod ({ cls := "SignMachine$Machine", name := "execute", desc := "()I" } : Jvm.MethodName))) ∈ tb := mt 259 (by decide +kernel) rfl
theorem k_260 : ((Jvm.Cond.selects "SignMachine$Machine" ({ cls := "SignMachine$Machine", name := "execute", desc := "()I" } : Jvm.MethodName) ({ cls := "SignMachine$Machine", name := "execute", desc := "()I" } : Jvm.MethodName))) ∈ tb := mt 260 (by decide +kernel) rfl
theorem k_261 : ((Jvm.Cond.code ({ cls := "SignMachine$Machine", name := "execute", desc := "()I" } : Jvm.MethodName) prog_3_method_11_code (2 : Nat) (Option.some Jvm.ClassFile.FieldType.int))) ∈ tb := mt 261 (by decide +kernel) rfl
theorem k_262 : ((Jvm.Cond.methodLink "SignMachine$Machine" (36 : Nat) ({ cls := "SignMachine$Machine", name := "isAddress", desc := "(I)Z" } : Jvm.MethodName))) ∈ tb := mt 262 (by decide +kernel) rfl
theorem k_263 : ((Jvm.Cond.methodLink "SignMachine$Machine" (39 : Nat) ({ cls := "SignMachine$Machine", name := "wordAt", desc := "(I)I" } : Jvm.MethodName))) ∈ tb := mt 263 (by decide +kernel) rfl
theorem k_264 : ((Jvm.Cond.methodLink "SignMachine$Machine" (43 : Nat) ({ cls := "SignMachine$Machine", name := "decode", desc := "(I)V" } : Jvm.MethodName))) ∈ tb := mt 264 (by decide +kernel) rfl
theorem k_266 : ((Jvm.Cond.instanceMethod ({ cls := "SignMachine$Machine", name := "decode", desc := "(I)V" } : Jvm.MethodName))) ∈ tb := mt 266 (by decide +kernel) rfl
theorem k_267 : ((Jvm.Cond.code ({ cls := "SignMachine$Machine", name := "decode", desc := "(I)V" } : Jvm.MethodName) prog_3_method_12_code (4 : Nat) (Option.none : Option Jvm.ClassFile.FieldType))) ∈ tb := mt 267 (by decide +kernel) rfl
theorem k_268 : ((Jvm.Cond.methodLink "SignMachine$Machine" (67 : Nat) ({ cls := "SignMachine$Word", name := "size", desc := "(I)I" } : Jvm.MethodName))) ∈ tb := mt 268 (by decide +kernel) rfl
theorem k_269 : ((Jvm.Cond.methodLink "SignMachine$Machine" (75 : Nat) ({ cls := "SignMachine$Word", name := "sign", desc := "(I)I" } : Jvm.MethodName))) ∈ tb := mt 269 (by decide +kernel) rfl
theorem k_270 : ((Jvm.Cond.methodLink "SignMachine$Machine" (28 : Nat) ({ cls := "SignMachine$Machine", name := "isIndex", desc := "(I)Z" } : Jvm.MethodName))) ∈ tb := mt 270 (by decide +kernel) rfl
theorem k_271 : ((Jvm.Cond.static ({ cls := "SignMachine$Machine", name := "isIndex", desc := "(I)Z" } : Jvm.MethodName))) ∈ tb := mt 271 (by decide +kernel) rfl
theorem k_272 : ((Jvm.Cond.code ({ cls := "SignMachine$Machine", name := "isIndex", desc := "(I)Z" } : Jvm.MethodName) prog_3_method_4_code (1 : Nat) (Option.some Jvm.ClassFile.FieldType.boolean))) ∈ tb := mt 272 (by decide +kernel) rfl
theorem k_274 : ((Jvm.Cond.instanceMethod ({ cls := "SignMachine$Machine", name := "register", desc := "(I)I" } : Jvm.MethodName))) ∈ tb := mt 274 (by decide +kernel) rfl
theorem k_275 : ((Jvm.Cond.selects "SignMachine$Machine" ({ cls := "SignMachine$Machine", name := "register", desc := "(I)I" } : Jvm.MethodName) ({ cls := "SignMachine$Machine", name := "register", desc := "(I)I" } : Jvm.MethodName))) ∈ tb := mt 275 (by decide +kernel) rfl
theorem k_276 : ((Jvm.Cond.code ({ cls := "SignMachine$Machine", name := "register", desc := "(I)I" } : Jvm.MethodName) prog_3_method_8_code (2 : Nat) (Option.some Jvm.ClassFile.FieldType.int))) ∈ tb := mt 276 (by decide +kernel) rfl
theorem k_278 : ((Jvm.Cond.static ({ cls := "SignMachine$Word", name := "number", desc := "(I)I" } : Jvm.MethodName))) ∈ tb := mt 278 (by decide +kernel) rfl
theorem k_279 : ((Jvm.Cond.code ({ cls := "SignMachine$Word", name := "number", desc := "(I)I" } : Jvm.MethodName) prog_9_method_6_code (1 : Nat) (Option.some Jvm.ClassFile.FieldType.int))) ∈ tb := mt 279 (by decide +kernel) rfl
theorem k_280 : ((Jvm.Cond.methodLink "SignMachine$Machine" (47 : Nat) ({ cls := "SignMachine$Machine", name := "reasonAgainst", desc := "()I" } : Jvm.MethodName))) ∈ tb := mt 280 (by decide +kernel) rfl
theorem k_282 : ((Jvm.Cond.instanceMethod ({ cls := "SignMachine$Machine", name := "reasonAgainst", desc := "()I" } : Jvm.MethodName))) ∈ tb := mt 282 (by decide +kernel) rfl
theorem k_283 : ((Jvm.Cond.code ({ cls := "SignMachine$Machine", name := "reasonAgainst", desc := "()I" } : Jvm.MethodName) prog_3_method_13_code (1 : Nat) (Option.some Jvm.ClassFile.FieldType.int))) ∈ tb := mt 283 (by decide +kernel) rfl
theorem k_284 : ((Jvm.Cond.methodLink "SignMachine$Machine" (90 : Nat) ({ cls := "SignMachine$Machine", name := "shapeCanBe", desc := "()Z" } : Jvm.MethodName))) ∈ tb := mt 284 (by decide +kernel) rfl
theorem k_286 : ((Jvm.Cond.instanceMethod ({ cls := "SignMachine$Machine", name := "shapeCanBe", desc := "()Z" } : Jvm.MethodName))) ∈ tb := mt 286 (by decide +kernel) rfl
theorem k_287 : ((Jvm.Cond.code ({ cls := "SignMachine$Machine", name := "shapeCanBe", desc := "()Z" } : Jvm.MethodName) prog_3_method_15_code (1 : Nat) (Option.some Jvm.ClassFile.FieldType.boolean))) ∈ tb := mt 287 (by decide +kernel) rfl
theorem k_288 : ((Jvm.Cond.methodLink "SignMachine$Machine" (103 : Nat) ({ cls := "SignMachine$Machine", name := "hasFieldOfWord", desc := "()Z" } : Jvm.MethodName))) ∈ tb := mt 288 (by decide +kernel) rfl
theorem k_290 : ((Jvm.Cond.instanceMethod ({ cls := "SignMachine$Machine", name := "hasFieldOfWord", desc := "()Z" } : Jvm.MethodName))) ∈ tb := mt 290 (by decide +kernel) rfl
theorem k_291 : ((Jvm.Cond.code ({ cls := "SignMachine$Machine", name := "hasFieldOfWord", desc := "()Z" } : Jvm.MethodName) prog_3_method_14_code (1 : Nat) (Option.some Jvm.ClassFile.FieldType.boolean))) ∈ tb := mt 291 (by decide +kernel) rfl
theorem k_295 : ((Jvm.Cond.methodLink "SignMachine$Machine" (94 : Nat) ({ cls := "SignMachine$Machine", name := "addressCanBe", desc := "()Z" } : Jvm.MethodName))) ∈ tb := mt 295 (by decide +kernel) rfl
theorem k_297 : ((Jvm.Cond.instanceMethod ({ cls := "SignMachine$Machine", name := "addressCanBe", desc := "()Z" } : Jvm.MethodName))) ∈ tb := mt 297 (by decide +kernel) rfl
theorem k_298 : ((Jvm.Cond.code ({ cls := "SignMachine$Machine", name := "addressCanBe", desc := "()Z" } : Jvm.MethodName) prog_3_method_16_code (1 : Nat) (Option.some Jvm.ClassFile.FieldType.boolean))) ∈ tb := mt 298 (by decide +kernel) rfl
theorem k_306 : ((Jvm.Cond.methodLink "SignMachine$Machine" (97 : Nat) ({ cls := "SignMachine$Machine", name := "indexCanBe", desc := "()Z" } : Jvm.MethodName))) ∈ tb := mt 306 (by decide +kernel) rfl
theorem k_308 : ((Jvm.Cond.instanceMethod ({ cls := "SignMachine$Machine", name := "indexCanBe", desc := "()Z" } : Jvm.MethodName))) ∈ tb := mt 308 (by decide +kernel) rfl
theorem k_309 : ((Jvm.Cond.code ({ cls := "SignMachine$Machine", name := "indexCanBe", desc := "()Z" } : Jvm.MethodName) prog_3_method_19_code (1 : Nat) (Option.some Jvm.ClassFile.FieldType.boolean))) ∈ tb := mt 309 (by decide +kernel) rfl
theorem k_333 : ((Jvm.Cond.methodLink "SignMachine$Machine" (100 : Nat) ({ cls := "SignMachine$Machine", name := "blockCanBe", desc := "()Z" } : Jvm.MethodName))) ∈ tb := mt 333 (by decide +kernel) rfl
theorem k_335 : ((Jvm.Cond.instanceMethod ({ cls := "SignMachine$Machine", name := "blockCanBe", desc := "()Z" } : Jvm.MethodName))) ∈ tb := mt 335 (by decide +kernel) rfl
theorem k_336 : ((Jvm.Cond.code ({ cls := "SignMachine$Machine", name := "blockCanBe", desc := "()Z" } : Jvm.MethodName) prog_3_method_20_code (2 : Nat) (Option.some Jvm.ClassFile.FieldType.boolean))) ∈ tb := mt 336 (by decide +kernel) rfl
theorem k_338 : ((Jvm.Cond.instanceMethod ({ cls := "SignMachine$Machine", name := "unit", desc := "(I)LSignMachine$Tape;" } : Jvm.MethodName))) ∈ tb := mt 338 (by decide +kernel) rfl
theorem k_339 : ((Jvm.Cond.selects "SignMachine$Machine" ({ cls := "SignMachine$Machine", name := "unit", desc := "(I)LSignMachine$Tape;" } : Jvm.MethodName) ({ cls := "SignMachine$Machine", name := "unit", desc := "(I)LSignMachine$Tape;" } : Jvm.MethodName))) ∈ tb := mt 339 (by decide +kernel) rfl
theorem k_340 : ((Jvm.Cond.code ({ cls := "SignMachine$Machine", name := "unit", desc := "(I)LSignMachine$Tape;" } : Jvm.MethodName) prog_3_method_10_code (2 : Nat) (Option.some (Jvm.ClassFile.FieldType.object "SignMachine$Tape")))) ∈ tb := mt 340 (by decide +kernel) rfl
theorem k_341 : ((Jvm.Cond.methodLink "SignMachine$Machine" (54 : Nat) ({ cls := "SignMachine$Machine", name := "duration", desc := "()I" } : Jvm.MethodName))) ∈ tb := mt 341 (by decide +kernel) rfl
theorem k_343 : ((Jvm.Cond.instanceMethod ({ cls := "SignMachine$Machine", name := "duration", desc := "()I" } : Jvm.MethodName))) ∈ tb := mt 343 (by decide +kernel) rfl
theorem k_344 : ((Jvm.Cond.code ({ cls := "SignMachine$Machine", name := "duration", desc := "()I" } : Jvm.MethodName) prog_3_method_21_code (1 : Nat) (Option.some Jvm.ClassFile.FieldType.int))) ∈ tb := mt 344 (by decide +kernel) rfl
theorem k_345 : ((Jvm.Cond.constant "SignMachine$Machine" (57 : Nat) (1073741823 : Int32))) ∈ tb := mt 345 (by decide +kernel) rfl
theorem k_346 : ((Jvm.Cond.methodLink "SignMachine$Machine" (58 : Nat) ({ cls := "SignMachine$Machine", name := "perform", desc := "()V" } : Jvm.MethodName))) ∈ tb := mt 346 (by decide +kernel) rfl
theorem k_348 : ((Jvm.Cond.instanceMethod ({ cls := "SignMachine$Machine", name := "perform", desc := "()V" } : Jvm.MethodName))) ∈ tb := mt 348 (by decide +kernel) rfl
theorem k_349 : ((Jvm.Cond.code ({ cls := "SignMachine$Machine", name := "perform", desc := "()V" } : Jvm.MethodName) prog_3_method_23_code (1 : Nat) (Option.none : Option Jvm.ClassFile.FieldType))) ∈ tb := mt 349 (by decide +kernel) rfl
theorem k_350 : ((Jvm.Cond.methodLink "SignMachine$Machine" (137 : Nat) ({ cls := "SignMachine$Machine", name := "performLow", desc := "()V" } : Jvm.MethodName))) ∈ tb := mt 350 (by decide +kernel) rfl
theorem k_352 : ((Jvm.Cond.instanceMethod ({ cls := "SignMachine$Machine", name := "performLow", desc := "()V" } : Jvm.MethodName))) ∈ tb := mt 352 (by decide +kernel) rfl
theorem k_353 : ((Jvm.Cond.code ({ cls := "SignMachine$Machine", name := "performLow", desc := "()V" } : Jvm.MethodName) prog_3_method_24_code (1 : Nat) (Option.none : Option Jvm.ClassFile.FieldType))) ∈ tb := mt 353 (by decide +kernel) rfl
theorem k_363 : ((Jvm.Cond.instanceMethod ({ cls := "SignMachine$Machine", name := "putRegister", desc := "(II)V" } : Jvm.MethodName))) ∈ tb := mt 363 (by decide +kernel) rfl
theorem k_364 : ((Jvm.Cond.selects "SignMachine$Machine" ({ cls := "SignMachine$Machine", name := "putRegister", desc := "(II)V" } : Jvm.MethodName) ({ cls := "SignMachine$Machine", name := "putRegister", desc := "(II)V" } : Jvm.MethodName))) ∈ tb := mt 364 (by decide +kernel) rfl
theorem k_365 : ((Jvm.Cond.code ({ cls := "SignMachine$Machine", name := "putRegister", desc := "(II)V" } : Jvm.MethodName) prog_3_method_9_code (3 : Nat) (Option.none : Option Jvm.ClassFile.FieldType))) ∈ tb := mt 365 (by decide +kernel) rfl
theorem k_434 : ((Jvm.Cond.instanceMethod ({ cls := "SignMachine$Tape", name := "wordAt", desc := "(II)I" } : Jvm.MethodName))) ∈ tb := mt 434 (by decide +kernel) rfl
theorem k_435 : ((Jvm.Cond.selects "SignMachine$Tape" ({ cls := "SignMachine$Tape", name := "wordAt", desc := "(II)I" } : Jvm.MethodName) ({ cls := "SignMachine$Tape", name := "wordAt", desc := "(II)I" } : Jvm.MethodName))) ∈ tb := mt 435 (by decide +kernel) rfl
theorem k_436 : ((Jvm.Cond.code ({ cls := "SignMachine$Tape", name := "wordAt", desc := "(II)I" } : Jvm.MethodName) prog_8_method_3_code (3 : Nat) (Option.some Jvm.ClassFile.FieldType.int))) ∈ tb := mt 436 (by decide +kernel) rfl
theorem k_438 : ((Jvm.Cond.static ({ cls := "SignMachine$Tape", name := "isWord", desc := "(II)Z" } : Jvm.MethodName))) ∈ tb := mt 438 (by decide +kernel) rfl
theorem k_439 : ((Jvm.Cond.code ({ cls := "SignMachine$Tape", name := "isWord", desc := "(II)Z" } : Jvm.MethodName) prog_8_method_2_code (2 : Nat) (Option.some Jvm.ClassFile.FieldType.boolean))) ∈ tb := mt 439 (by decide +kernel) rfl
theorem k_472 : ((Jvm.Cond.instanceMethod ({ cls := "SignMachine", name := "run", desc := "(I)I" } : Jvm.MethodName))) ∈ tb := mt 472 (by decide +kernel) rfl
theorem k_473 : ((Jvm.Cond.selects "SignMachine" ({ cls := "SignMachine", name := "run", desc := "(I)I" } : Jvm.MethodName) ({ cls := "SignMachine", name := "run", desc := "(I)I" } : Jvm.MethodName))) ∈ tb := mt 473 (by decide +kernel) rfl
theorem k_474 : ((Jvm.Cond.code ({ cls := "SignMachine", name := "run", desc := "(I)I" } : Jvm.MethodName) prog_1_method_6_code (5 : Nat) (Option.some Jvm.ClassFile.FieldType.int))) ∈ tb := mt 474 (by decide +kernel) rfl
theorem k_476 : ((Jvm.Cond.instanceMethod ({ cls := "SignMachine", name := "registerSign", desc := "(I)I" } : Jvm.MethodName))) ∈ tb := mt 476 (by decide +kernel) rfl
theorem k_477 : ((Jvm.Cond.selects "SignMachine" ({ cls := "SignMachine", name := "registerSign", desc := "(I)I" } : Jvm.MethodName) ({ cls := "SignMachine", name := "registerSign", desc := "(I)I" } : Jvm.MethodName))) ∈ tb := mt 477 (by decide +kernel) rfl
theorem k_478 : ((Jvm.Cond.code ({ cls := "SignMachine", name := "registerSign", desc := "(I)I" } : Jvm.MethodName) prog_1_method_7_code (2 : Nat) (Option.some Jvm.ClassFile.FieldType.int))) ∈ tb := mt 478 (by decide +kernel) rfl
theorem k_479 : ((Jvm.Cond.methodLink "SignMachine" (52 : Nat) ({ cls := "SignMachine$Machine", name := "isRegister", desc := "(I)Z" } : Jvm.MethodName))) ∈ tb := mt 479 (by decide +kernel) rfl
theorem k_480 : ((Jvm.Cond.static ({ cls := "SignMachine$Machine", name := "isRegister", desc := "(I)Z" } : Jvm.MethodName))) ∈ tb := mt 480 (by decide +kernel) rfl
theorem k_481 : ((Jvm.Cond.code ({ cls := "SignMachine$Machine", name := "isRegister", desc := "(I)Z" } : Jvm.MethodName) prog_3_method_3_code (1 : Nat) (Option.some Jvm.ClassFile.FieldType.boolean))) ∈ tb := mt 481 (by decide +kernel) rfl
theorem k_482 : ((Jvm.Cond.methodLink "SignMachine" (55 : Nat) ({ cls := "SignMachine$Machine", name := "register", desc := "(I)I" } : Jvm.MethodName))) ∈ tb := mt 482 (by decide +kernel) rfl
theorem k_484 : ((Jvm.Cond.instanceMethod ({ cls := "SignMachine", name := "registerSize", desc := "(I)I" } : Jvm.MethodName))) ∈ tb := mt 484 (by decide +kernel) rfl
theorem k_485 : ((Jvm.Cond.selects "SignMachine" ({ cls := "SignMachine", name := "registerSize", desc := "(I)I" } : Jvm.MethodName) ({ cls := "SignMachine", name := "registerSize", desc := "(I)I" } : Jvm.MethodName))) ∈ tb := mt 485 (by decide +kernel) rfl
theorem k_486 : ((Jvm.Cond.code ({ cls := "SignMachine", name := "registerSize", desc := "(I)I" } : Jvm.MethodName) prog_1_method_8_code (2 : Nat) (Option.some Jvm.ClassFile.FieldType.int))) ∈ tb := mt 486 (by decide +kernel) rfl
theorem k_488 : ((Jvm.Cond.instanceMethod ({ cls := "SignMachine", name := "set", desc := "(III)Z" } : Jvm.MethodName))) ∈ tb := mt 488 (by decide +kernel) rfl
theorem k_489 : ((Jvm.Cond.selects "SignMachine" ({ cls := "SignMachine", name := "set", desc := "(III)Z" } : Jvm.MethodName) ({ cls := "SignMachine", name := "set", desc := "(III)Z" } : Jvm.MethodName))) ∈ tb := mt 489 (by decide +kernel) rfl
theorem k_490 : ((Jvm.Cond.code ({ cls := "SignMachine", name := "set", desc := "(III)Z" } : Jvm.MethodName) prog_1_method_9_code (4 : Nat) (Option.some Jvm.ClassFile.FieldType.boolean))) ∈ tb := mt 490 (by decide +kernel) rfl
theorem k_491 : ((Jvm.Cond.methodLink "SignMachine" (58 : Nat) ({ cls := "SignMachine$Machine", name := "isShort", desc := "(I)Z" } : Jvm.MethodName))) ∈ tb := mt 491 (by decide +kernel) rfl
theorem k_492 : ((Jvm.Cond.static ({ cls := "SignMachine$Machine", name := "isShort", desc := "(I)Z" } : Jvm.MethodName))) ∈ tb := mt 492 (by decide +kernel) rfl
theorem k_493 : ((Jvm.Cond.code ({ cls := "SignMachine$Machine", name := "isShort", desc := "(I)Z" } : Jvm.MethodName) prog_3_method_5_code (1 : Nat) (Option.some Jvm.ClassFile.FieldType.boolean))) ∈ tb := mt 493 (by decide +kernel) rfl
theorem k_494 : ((Jvm.Cond.methodLink "SignMachine" (61 : Nat) ({ cls := "SignMachine$Machine", name := "putRegister", desc := "(II)V" } : Jvm.MethodName))) ∈ tb := mt 494 (by decide +kernel) rfl
theorem k_496 : ((Jvm.Cond.instanceMethod ({ cls := "SignMachine", name := "state", desc := "(I)I" } : Jvm.MethodName))) ∈ tb := mt 496 (by decide +kernel) rfl
theorem k_497 : ((Jvm.Cond.selects "SignMachine" ({ cls := "SignMachine", name := "state", desc := "(I)I" } : Jvm.MethodName) ({ cls := "SignMachine", name := "state", desc := "(I)I" } : Jvm.MethodName))) ∈ tb := mt 497 (by decide +kernel) rfl
theorem k_498 : ((Jvm.Cond.code ({ cls := "SignMachine", name := "state", desc := "(I)I" } : Jvm.MethodName) prog_1_method_10_code (2 : Nat) (Option.some Jvm.ClassFile.FieldType.int))) ∈ tb := mt 498 (by decide +kernel) rfl
theorem k_499 : ((Jvm.Cond.methodLink "SignMachine" (77 : Nat) ({ cls := "SignMachine$Machine", name := "unit", desc := "(I)LSignMachine$Tape;" } : Jvm.MethodName))) ∈ tb := mt 499 (by decide +kernel) rfl
theorem k_501 : ((Jvm.Cond.instanceMethod ({ cls := "SignMachine", name := "go", desc := "(I)Z" } : Jvm.MethodName))) ∈ tb := mt 501 (by decide +kernel) rfl
theorem k_502 : ((Jvm.Cond.selects "SignMachine" ({ cls := "SignMachine", name := "go", desc := "(I)Z" } : Jvm.MethodName) ({ cls := "SignMachine", name := "go", desc := "(I)Z" } : Jvm.MethodName))) ∈ tb := mt 502 (by decide +kernel) rfl
theorem k_503 : ((Jvm.Cond.code ({ cls := "SignMachine", name := "go", desc := "(I)Z" } : Jvm.MethodName) prog_1_method_11_code (2 : Nat) (Option.some Jvm.ClassFile.FieldType.boolean))) ∈ tb := mt 503 (by decide +kernel) rfl
theorem k_505 : ((Jvm.Cond.instanceMethod ({ cls := "SignMachine", name := "tape", desc := "(III)I" } : Jvm.MethodName))) ∈ tb := mt 505 (by decide +kernel) rfl
theorem k_506 : ((Jvm.Cond.selects "SignMachine" ({ cls := "SignMachine", name := "tape", desc := "(III)I" } : Jvm.MethodName) ({ cls := "SignMachine", name := "tape", desc := "(III)I" } : Jvm.MethodName))) ∈ tb := mt 506 (by decide +kernel) rfl
theorem k_507 : ((Jvm.Cond.code ({ cls := "SignMachine", name := "tape", desc := "(III)I" } : Jvm.MethodName) prog_1_method_12_code (5 : Nat) (Option.some Jvm.ClassFile.FieldType.int))) ∈ tb := mt 507 (by decide +kernel) rfl
theorem k_508 : ((Jvm.Cond.methodLink "SignMachine" (86 : Nat) ({ cls := "SignMachine$Tape", name := "isWord", desc := "(II)Z" } : Jvm.MethodName))) ∈ tb := mt 508 (by decide +kernel) rfl
theorem k_509 : ((Jvm.Cond.constant "SignMachine" (87 : Nat) (-2000000000 : Int32))) ∈ tb := mt 509 (by decide +kernel) rfl
theorem k_510 : ((Jvm.Cond.methodLink "SignMachine" (88 : Nat) ({ cls := "SignMachine$Tape", name := "wordAt", desc := "(II)I" } : Jvm.MethodName))) ∈ tb := mt 510 (by decide +kernel) rfl
theorem k_511 : ((Jvm.Cond.constant "SignMachine" (90 : Nat) (1073741824 : Int32))) ∈ tb := mt 511 (by decide +kernel) rfl
theorem k_513 : ((Jvm.Cond.methodLink "SignMachine" (92 : Nat) ({ cls := "SignMachine$Word", name := "number", desc := "(I)I" } : Jvm.MethodName))) ∈ tb := mt 513 (by decide +kernel) rfl
theorem k_515 : ((Jvm.Cond.instanceMethod ({ cls := "SignMachine", name := "feed", desc := "(IIIII)I" } : Jvm.MethodName))) ∈ tb := mt 515 (by decide +kernel) rfl
theorem k_516 : ((Jvm.Cond.selects "SignMachine" ({ cls := "SignMachine", name := "feed", desc := "(IIIII)I" } : Jvm.MethodName) ({ cls := "SignMachine", name := "feed", desc := "(IIIII)I" } : Jvm.MethodName))) ∈ tb := mt 516 (by decide +kernel) rfl
theorem k_517 : ((Jvm.Cond.code ({ cls := "SignMachine", name := "feed", desc := "(IIIII)I" } : Jvm.MethodName) prog_1_method_13_code (7 : Nat) (Option.some Jvm.ClassFile.FieldType.int))) ∈ tb := mt 517 (by decide +kernel) rfl
theorem k_518 : ((Jvm.Cond.methodLink "SignMachine" (95 : Nat) ({ cls := "SignMachine", name := "assembler", desc := "()LSignMachine$Assembler;" } : Jvm.MethodName))) ∈ tb := mt 518 (by decide +kernel) rfl
theorem k_520 : ((Jvm.Cond.instanceMethod ({ cls := "SignMachine", name := "assembler", desc := "()LSignMachine$Assembler;" } : Jvm.MethodName))) ∈ tb := mt 520 (by decide +kernel) rfl
theorem k_521 : ((Jvm.Cond.code ({ cls := "SignMachine", name := "assembler", desc := "()LSignMachine$Assembler;" } : Jvm.MethodName) prog_1_method_18_code (1 : Nat) (Option.some (Jvm.ClassFile.FieldType.object "SignMachine$Assembler")))) ∈ tb := mt 521 (by decide +kernel) rfl
theorem k_522 : ((Jvm.Cond.classLink "SignMachine" (100 : Nat) "SignMachine$Assembler")) ∈ tb := mt 522 (by decide +kernel) rfl
theorem k_523 : ((Jvm.Cond.instantiable "SignMachine$Assembler" (15 : Nat))) ∈ tb := mt 523 (by decide +kernel) rfl
theorem k_525 : ((Jvm.Cond.instanceMethod ({ cls := "SignMachine$Assembler", name := "<init>", desc := "()V" } : Jvm.MethodName))) ∈ tb := mt 525 (by decide +kernel) rfl
theorem k_526 : ((Jvm.Cond.code ({ cls := "SignMachine$Assembler", name := "<init>", desc := "()V" } : Jvm.MethodName) prog_2_method_1_code (1 : Nat) (Option.none : Option Jvm.ClassFile.FieldType))) ∈ tb := mt 526 (by decide +kernel) rfl
theorem k_527 : ((Jvm.Cond.methodLink "SignMachine$Assembler" (3 : Nat) ({ cls := "java/lang/Object", name := "<init>", desc := "()V" } : Jvm.MethodName))) ∈ tb := mt 527 (by decide +kernel) rfl
theorem k_528 : ((Jvm.Cond.classLink "SignMachine$Assembler" (9 : Nat) "SignMachine$Source")) ∈ tb := mt 528 (by decide +kernel) rfl
theorem k_529 : ((Jvm.Cond.instantiable "SignMachine$Source" (9 : Nat))) ∈ tb := mt 529 (by decide +kernel) rfl
theorem k_531 : ((Jvm.Cond.instanceMethod ({ cls := "SignMachine$Source", name := "<init>", desc := "()V" } : Jvm.MethodName))) ∈ tb := mt 531 (by decide +kernel) rfl
theorem k_532 : ((Jvm.Cond.code ({ cls := "SignMachine$Source", name := "<init>", desc := "()V" } : Jvm.MethodName) prog_7_method_1_code (1 : Nat) (Option.none : Option Jvm.ClassFile.FieldType))) ∈ tb := mt 532 (by decide +kernel) rfl
theorem k_533 : ((Jvm.Cond.methodLink "SignMachine$Source" (1 : Nat) ({ cls := "java/lang/Object", name := "<init>", desc := "()V" } : Jvm.MethodName))) ∈ tb := mt 533 (by decide +kernel) rfl
theorem k_534 : ((Jvm.Cond.fieldLink "SignMachine$Source" (9 : Nat) "SignMachine$Source" "bytes" "[B")) ∈ tb := mt 534 (by decide +kernel) rfl
theorem k_535 : ((Jvm.Cond.fieldLink "SignMachine$Source" (13 : Nat) "SignMachine$Source" "length" "I")) ∈ tb := mt 535 (by decide +kernel) rfl
theorem k_538 : ((Jvm.Cond.fieldLink "SignMachine$Source" (17 : Nat) "SignMachine$Source" "line" "I")) ∈ tb := mt 538 (by decide +kernel) rfl
theorem k_543 : ((Jvm.Cond.fieldLink "SignMachine$Source" (20 : Nat) "SignMachine$Source" "following" "I")) ∈ tb := mt 543 (by decide +kernel) rfl
theorem k_569 : ((Jvm.Cond.arrayClass Jvm.ClassFile.FieldType.byte)) ∈ tb := mt 569 (by decide +kernel) rfl
theorem k_570 : ((Jvm.Cond.classLink "SignMachine$Assembler" (18 : Nat) "SignMachine$Names")) ∈ tb := mt 570 (by decide +kernel) rfl
theorem k_571 : ((Jvm.Cond.instantiable "SignMachine$Names" (7 : Nat))) ∈ tb := mt 571 (by decide +kernel) rfl
theorem k_573 : ((Jvm.Cond.instanceMethod ({ cls := "SignMachine$Names", name := "<init>", desc := "()V" } : Jvm.MethodName))) ∈ tb := mt 573 (by decide +kernel) rfl
theorem k_574 : ((Jvm.Cond.code ({ cls := "SignMachine$Names", name := "<init>", desc := "()V" } : Jvm.MethodName) prog_4_method_1_code (1 : Nat) (Option.none : Option Jvm.ClassFile.FieldType))) ∈ tb := mt 574 (by decide +kernel) rfl
theorem k_575 : ((Jvm.Cond.methodLink "SignMachine$Names" (5 : Nat) ({ cls := "java/lang/Object", name := "<init>", desc := "()V" } : Jvm.MethodName))) ∈ tb := mt 575 (by decide +kernel) rfl
theorem k_576 : ((Jvm.Cond.fieldLink "SignMachine$Names" (11 : Nat) "SignMachine$Names" "names" "[J")) ∈ tb := mt 576 (by decide +kernel) rfl
theorem k_577 : ((Jvm.Cond.fieldLink "SignMachine$Names" (15 : Nat) "SignMachine$Names" "values" "[I")) ∈ tb := mt 577 (by decide +kernel) rfl
theorem k_578 : ((Jvm.Cond.fieldLink "SignMachine$Names" (19 : Nat) "SignMachine$Names" "told" "[Z")) ∈ tb := mt 578 (by decide +kernel) rfl
theorem k_579 : ((Jvm.Cond.fieldLink "SignMachine$Names" (23 : Nat) "SignMachine$Names" "localValues" "[I")) ∈ tb := mt 579 (by decide +kernel) rfl
theorem k_580 : ((Jvm.Cond.fieldLink "SignMachine$Names" (26 : Nat) "SignMachine$Names" "localTold" "[Z")) ∈ tb := mt 580 (by decide +kernel) rfl
theorem k_581 : ((Jvm.Cond.fieldLink "SignMachine$Names" (35 : Nat) "SignMachine$Names" "count" "I")) ∈ tb := mt 581 (by decide +kernel) rfl
theorem k_583 : ((Jvm.Cond.fieldLink "SignMachine$Names" (39 : Nat) "SignMachine$Names" "symbols" "I")) ∈ tb := mt 583 (by decide +kernel) rfl
theorem k_599 : ((Jvm.Cond.arrayClass Jvm.ClassFile.FieldType.long)) ∈ tb := mt 599 (by decide +kernel) rfl
theorem k_600 : ((Jvm.Cond.arrayClass Jvm.ClassFile.FieldType.boolean)) ∈ tb := mt 600 (by decide +kernel) rfl
theorem k_601 : ((Jvm.Cond.classLink "SignMachine$Assembler" (25 : Nat) "SignMachine$Output")) ∈ tb := mt 601 (by decide +kernel) rfl
theorem k_602 : ((Jvm.Cond.instantiable "SignMachine$Output" (7 : Nat))) ∈ tb := mt 602 (by decide +kernel) rfl
theorem k_604 : ((Jvm.Cond.instanceMethod ({ cls := "SignMachine$Output", name := "<init>", desc := "()V" } : Jvm.MethodName))) ∈ tb := mt 604 (by decide +kernel) rfl
theorem k_605 : ((Jvm.Cond.code ({ cls := "SignMachine$Output", name := "<init>", desc := "()V" } : Jvm.MethodName) prog_6_method_1_code (1 : Nat) (Option.none : Option Jvm.ClassFile.FieldType))) ∈ tb := mt 605 (by decide +kernel) rfl
theorem k_606 : ((Jvm.Cond.methodLink "SignMachine$Output" (7 : Nat) ({ cls := "java/lang/Object", name := "<init>", desc := "()V" } : Jvm.MethodName))) ∈ tb := mt 606 (by decide +kernel) rfl
theorem k_607 : ((Jvm.Cond.fieldLink "SignMachine$Output" (15 : Nat) "SignMachine$Output" "places" "[I")) ∈ tb := mt 607 (by decide +kernel) rfl
theorem k_608 : ((Jvm.Cond.fieldLink "SignMachine$Output" (19 : Nat) "SignMachine$Output" "words" "[I")) ∈ tb := mt 608 (by decide +kernel) rfl
theorem k_609 : ((Jvm.Cond.fieldLink "SignMachine$Output" (22 : Nat) "SignMachine$Output" "lines" "[I")) ∈ tb := mt 609 (by decide +kernel) rfl
theorem k_610 : ((Jvm.Cond.fieldLink "SignMachine$Output" (25 : Nat) "SignMachine$Output" "kinds" "[B")) ∈ tb := mt 610 (by decide +kernel) rfl
theorem k_611 : ((Jvm.Cond.fieldLink "SignMachine$Output" (29 : Nat) "SignMachine$Output" "goals" "[I")) ∈ tb := mt 611 (by decide +kernel) rfl
theorem k_612 : ((Jvm.Cond.fieldLink "SignMachine$Output" (32 : Nat) "SignMachine$Output" "lastOpen" "[I")) ∈ tb := mt 612 (by decide +kernel) rfl
theorem k_613 : ((Jvm.Cond.fieldLink "SignMachine$Output" (35 : Nat) "SignMachine$Output" "count" "I")) ∈ tb := mt 613 (by decide +kernel) rfl
theorem k_631 : ((Jvm.Cond.fieldLink "SignMachine$Assembler" (12 : Nat) "SignMachine$Assembler" "source" "LSignMachine$Source;")) ∈ tb := mt 631 (by decide +kernel) rfl
theorem k_633 : ((Jvm.Cond.fieldLink "SignMachine$Assembler" (21 : Nat) "SignMachine$Assembler" "names" "LSignMachine$Names;")) ∈ tb := mt 633 (by decide +kernel) rfl
theorem k_634 : ((Jvm.Cond.fieldLink "SignMachine$Assembler" (28 : Nat) "SignMachine$Assembler" "output" "LSignMachine$Output;")) ∈ tb := mt 634 (by decide +kernel) rfl
theorem k_636 : ((Jvm.Cond.fieldLink "SignMachine$Assembler" (43 : Nat) "SignMachine$Assembler" "fault" "I")) ∈ tb := mt 636 (by decide +kernel) rfl
theorem k_638 : ((Jvm.Cond.fieldLink "SignMachine$Assembler" (46 : Nat) "SignMachine$Assembler" "faultLine" "I")) ∈ tb := mt 638 (by decide +kernel) rfl
theorem k_640 : ((Jvm.Cond.fieldLink "SignMachine$Assembler" (32 : Nat) "SignMachine$Assembler" "firstFree" "I")) ∈ tb := mt 640 (by decide +kernel) rfl
theorem k_644 : ((Jvm.Cond.fieldLink "SignMachine$Assembler" (49 : Nat) "SignMachine$Assembler" "place" "I")) ∈ tb := mt 644 (by decide +kernel) rfl
theorem k_645 : ((Jvm.Cond.fieldLink "SignMachine$Assembler" (52 : Nat) "SignMachine$Assembler" "ended" "Z")) ∈ tb := mt 645 (by decide +kernel) rfl
theorem k_683 : ((Jvm.Cond.methodLink "SignMachine" (105 : Nat) ({ cls := "SignMachine$Source", name := "hasRoom", desc := "()Z" } : Jvm.MethodName))) ∈ tb := mt 683 (by decide +kernel) rfl
theorem k_684 : ((Jvm.Cond.instanceMethod ({ cls := "SignMachine$Source", name := "hasRoom", desc := "()Z" } : Jvm.MethodName))) ∈ tb := mt 684 (by decide +kernel) rfl
theorem k_685 : ((Jvm.Cond.selects "SignMachine$Source" ({ cls := "SignMachine$Source", name := "hasRoom", desc := "()Z" } : Jvm.MethodName) ({ cls := "SignMachine$Source", name := "hasRoom", desc := "()Z" } : Jvm.MethodName))) ∈ tb := mt 685 (by decide +kernel) rfl
theorem k_686 : ((Jvm.Cond.code ({ cls := "SignMachine$Source", name := "hasRoom", desc := "()Z" } : Jvm.MethodName) prog_7_method_2_code (1 : Nat) (Option.some Jvm.ClassFile.FieldType.boolean))) ∈ tb := mt 686 (by decide +kernel) rfl
theorem k_687 : ((Jvm.Cond.methodLink "SignMachine" (111 : Nat) ({ cls := "SignMachine$Source", name := "append", desc := "(I)V" } : Jvm.MethodName))) ∈ tb := mt 687 (by decide +kernel) rfl
theorem k_688 : ((Jvm.Cond.instanceMethod ({ cls := "SignMachine$Source", name := "append", desc := "(I)V" } : Jvm.MethodName))) ∈ tb := mt 688 (by decide +kernel) rfl
theorem k_689 : ((Jvm.Cond.selects "SignMachine$Source" ({ cls := "SignMachine$Source", name := "append", desc := "(I)V" } : Jvm.MethodName) ({ cls := "SignMachine$Source", name := "append", desc := "(I)V" } : Jvm.MethodName))) ∈ tb := mt 689 (by decide +kernel) rfl
theorem k_690 : ((Jvm.Cond.code ({ cls := "SignMachine$Source", name := "append", desc := "(I)V" } : Jvm.MethodName) prog_7_method_3_code (3 : Nat) (Option.none : Option Jvm.ClassFile.FieldType))) ∈ tb := mt 690 (by decide +kernel) rfl
theorem k_692 : ((Jvm.Cond.instanceMethod ({ cls := "SignMachine", name := "end", desc := "(I)I" } : Jvm.MethodName))) ∈ tb := mt 692 (by decide +kernel) rfl
theorem k_693 : ((Jvm.Cond.selects "SignMachine" ({ cls := "SignMachine", name := "end", desc := "(I)I" } : Jvm.MethodName) ({ cls := "SignMachine", name := "end", desc := "(I)I" } : Jvm.MethodName))) ∈ tb := mt 693 (by decide +kernel) rfl
theorem k_694 : ((Jvm.Cond.code ({ cls := "SignMachine", name := "end", desc := "(I)I" } : Jvm.MethodName) prog_1_method_14_code (3 : Nat) (Option.some Jvm.ClassFile.FieldType.int))) ∈ tb := mt 694 (by decide +kernel) rfl
theorem k_696 : ((Jvm.Cond.instanceMethod ({ cls := "SignMachine", name := "assemble", desc := "()I" } : Jvm.MethodName))) ∈ tb := mt 696 (by decide +kernel) rfl
theorem k_697 : ((Jvm.Cond.selects "SignMachine" ({ cls := "SignMachine", name := "assemble", desc := "()I" } : Jvm.MethodName) ({ cls := "SignMachine", name := "assemble", desc := "()I" } : Jvm.MethodName))) ∈ tb := mt 697 (by decide +kernel) rfl
theorem k_698 : ((Jvm.Cond.code ({ cls := "SignMachine", name := "assemble", desc := "()I" } : Jvm.MethodName) prog_1_method_15_code (3 : Nat) (Option.some Jvm.ClassFile.FieldType.int))) ∈ tb := mt 698 (by decide +kernel) rfl
theorem k_699 : ((Jvm.Cond.methodLink "SignMachine" (118 : Nat) ({ cls := "SignMachine$Assembler", name := "begin", desc := "()V" } : Jvm.MethodName))) ∈ tb := mt 699 (by decide +kernel) rfl
theorem k_700 : ((Jvm.Cond.instanceMethod ({ cls := "SignMachine$Assembler", name := "begin", desc := "()V" } : Jvm.MethodName))) ∈ tb := mt 700 (by decide +kernel) rfl
theorem k_701 : ((Jvm.Cond.selects "SignMachine$Assembler" ({ cls := "SignMachine$Assembler", name := "begin", desc := "()V" } : Jvm.MethodName) ({ cls := "SignMachine$Assembler", name := "begin", desc := "()V" } : Jvm.MethodName))) ∈ tb := mt 701 (by decide +kernel) rfl
theorem k_702 : ((Jvm.Cond.code ({ cls := "SignMachine$Assembler", name := "begin", desc := "()V" } : Jvm.MethodName) prog_2_method_2_code (1 : Nat) (Option.none : Option Jvm.ClassFile.FieldType))) ∈ tb := mt 702 (by decide +kernel) rfl
theorem k_703 : ((Jvm.Cond.methodLink "SignMachine$Assembler" (36 : Nat) ({ cls := "SignMachine$Source", name := "begin", desc := "()V" } : Jvm.MethodName))) ∈ tb := mt 703 (by decide +kernel) rfl
theorem k_704 : ((Jvm.Cond.instanceMethod ({ cls := "SignMachine$Source", name := "begin", desc := "()V" } : Jvm.MethodName))) ∈ tb := mt 704 (by decide +kernel) rfl
theorem k_705 : ((Jvm.Cond.selects "SignMachine$Source" ({ cls := "SignMachine$Source", name := "begin", desc := "()V" } : Jvm.MethodName) ({ cls := "SignMachine$Source", name := "begin", desc := "()V" } : Jvm.MethodName))) ∈ tb := mt 705 (by decide +kernel) rfl
theorem k_706 : ((Jvm.Cond.code ({ cls := "SignMachine$Source", name := "begin", desc := "()V" } : Jvm.MethodName) prog_7_method_4_code (1 : Nat) (Option.none : Option Jvm.ClassFile.FieldType))) ∈ tb := mt 706 (by decide +kernel) rfl
theorem k_707 : ((Jvm.Cond.methodLink "SignMachine$Assembler" (39 : Nat) ({ cls := "SignMachine$Names", name := "clear", desc := "()V" } : Jvm.MethodName))) ∈ tb := mt 707 (by decide +kernel) rfl
theorem k_708 : ((Jvm.Cond.instanceMethod ({ cls := "SignMachine$Names", name := "clear", desc := "()V" } : Jvm.MethodName))) ∈ tb := mt 708 (by decide +kernel) rfl
theorem k_709 : ((Jvm.Cond.selects "SignMachine$Names" ({ cls := "SignMachine$Names", name := "clear", desc := "()V" } : Jvm.MethodName) ({ cls := "SignMachine$Names", name := "clear", desc := "()V" } : Jvm.MethodName))) ∈ tb := mt 709 (by decide +kernel) rfl
theorem k_710 : ((Jvm.Cond.code ({ cls := "SignMachine$Names", name := "clear", desc := "()V" } : Jvm.MethodName) prog_4_method_6_code (2 : Nat) (Option.none : Option Jvm.ClassFile.FieldType))) ∈ tb := mt 710 (by decide +kernel) rfl
theorem k_711 : ((Jvm.Cond.methodLink "SignMachine$Assembler" (42 : Nat) ({ cls := "SignMachine$Output", name := "clear", desc := "()V" } : Jvm.MethodName))) ∈ tb := mt 711 (by decide +kernel) rfl
theorem k_712 : ((Jvm.Cond.instanceMethod ({ cls := "SignMachine$Output", name := "clear", desc := "()V" } : Jvm.MethodName))) ∈ tb := mt 712 (by decide +kernel) rfl
theorem k_713 : ((Jvm.Cond.selects "SignMachine$Output" ({ cls := "SignMachine$Output", name := "clear", desc := "()V" } : Jvm.MethodName) ({ cls := "SignMachine$Output", name := "clear", desc := "()V" } : Jvm.MethodName))) ∈ tb := mt 713 (by decide +kernel) rfl
theorem k_714 : ((Jvm.Cond.code ({ cls := "SignMachine$Output", name := "clear", desc := "()V" } : Jvm.MethodName) prog_6_method_2_code (2 : Nat) (Option.none : Option Jvm.ClassFile.FieldType))) ∈ tb := mt 714 (by decide +kernel) rfl
theorem k_715 : ((Jvm.Cond.methodLink "SignMachine" (121 : Nat) ({ cls := "SignMachine$Assembler", name := "hasLine", desc := "()Z" } : Jvm.MethodName))) ∈ tb := mt 715 (by decide +kernel) rfl
theorem k_716 : ((Jvm.Cond.instanceMethod ({ cls := "SignMachine$Assembler", name := "hasLine", desc := "()Z" } : Jvm.MethodName))) ∈ tb := mt 716 (by decide +kernel) rfl
theorem k_717 : ((Jvm.Cond.selects "SignMachine$Assembler" ({ cls := "SignMachine$Assembler", name := "hasLine", desc := "()Z" } : Jvm.MethodName) ({ cls := "SignMachine$Assembler", name := "hasLine", desc := "()Z" } : Jvm.MethodName))) ∈ tb := mt 717 (by decide +kernel) rfl
theorem k_718 : ((Jvm.Cond.code ({ cls := "SignMachine$Assembler", name := "hasLine", desc := "()Z" } : Jvm.MethodName) prog_2_method_3_code (1 : Nat) (Option.some Jvm.ClassFile.FieldType.boolean))) ∈ tb := mt 718 (by decide +kernel) rfl
theorem k_719 : ((Jvm.Cond.methodLink "SignMachine$Assembler" (56 : Nat) ({ cls := "SignMachine$Source", name := "hasLine", desc := "()Z" } : Jvm.MethodName))) ∈ tb := mt 719 (by decide +kernel) rfl
theorem k_720 : ((Jvm.Cond.instanceMethod ({ cls := "SignMachine$Source", name := "hasLine", desc := "()Z" } : Jvm.MethodName))) ∈ tb := mt 720 (by decide +kernel) rfl
theorem k_721 : ((Jvm.Cond.selects "SignMachine$Source" ({ cls := "SignMachine$Source", name := "hasLine", desc := "()Z" } : Jvm.MethodName) ({ cls := "SignMachine$Source", name := "hasLine", desc := "()Z" } : Jvm.MethodName))) ∈ tb := mt 721 (by decide +kernel) rfl
theorem k_722 : ((Jvm.Cond.code ({ cls := "SignMachine$Source", name := "hasLine", desc := "()Z" } : Jvm.MethodName) prog_7_method_5_code (1 : Nat) (Option.some Jvm.ClassFile.FieldType.boolean))) ∈ tb := mt 722 (by decide +kernel) rfl
theorem k_767 : ((Jvm.Cond.methodLink "SignMachine$Assembler" (84 : Nat) ({ cls := "SignMachine$Assembler", name := "fail", desc := "(I)I" } : Jvm.MethodName))) ∈ tb := mt 767 (by decide +kernel) rfl
theorem k_769 : ((Jvm.Cond.instanceMethod ({ cls := "SignMachine$Assembler", name := "fail", desc := "(I)I" } : Jvm.MethodName))) ∈ tb := mt 769 (by decide +kernel) rfl
theorem k_770 : ((Jvm.Cond.code ({ cls := "SignMachine$Assembler", name := "fail", desc := "(I)I" } : Jvm.MethodName) prog_2_method_10_code (2 : Nat) (Option.some Jvm.ClassFile.FieldType.int))) ∈ tb := mt 770 (by decide +kernel) rfl
theorem k_918 : ((Jvm.Cond.static ({ cls := "SignMachine$Output", name := "isWord", desc := "(I)Z" } : Jvm.MethodName))) ∈ tb := mt 918 (by decide +kernel) rfl
theorem k_919 : ((Jvm.Cond.code ({ cls := "SignMachine$Output", name := "isWord", desc := "(I)Z" } : Jvm.MethodName) prog_6_method_5_code (1 : Nat) (Option.some Jvm.ClassFile.FieldType.boolean))) ∈ tb := mt 919 (by decide +kernel) rfl
theorem k_1074 : ((Jvm.Cond.methodLink "SignMachine" (133 : Nat) ({ cls := "SignMachine$Assembler", name := "finish", desc := "()V" } : Jvm.MethodName))) ∈ tb := mt 1074 (by decide +kernel) rfl
theorem k_1075 : ((Jvm.Cond.instanceMethod ({ cls := "SignMachine$Assembler", name := "finish", desc := "()V" } : Jvm.MethodName))) ∈ tb := mt 1075 (by decide +kernel) rfl
theorem k_1076 : ((Jvm.Cond.selects "SignMachine$Assembler" ({ cls := "SignMachine$Assembler", name := "finish", desc := "()V" } : Jvm.MethodName) ({ cls := "SignMachine$Assembler", name := "finish", desc := "()V" } : Jvm.MethodName))) ∈ tb := mt 1076 (by decide +kernel) rfl
theorem k_1077 : ((Jvm.Cond.code ({ cls := "SignMachine$Assembler", name := "finish", desc := "()V" } : Jvm.MethodName) prog_2_method_7_code (2 : Nat) (Option.none : Option Jvm.ClassFile.FieldType))) ∈ tb := mt 1077 (by decide +kernel) rfl
theorem k_1112 : ((Jvm.Cond.instanceMethod ({ cls := "SignMachine", name := "about", desc := "(I)I" } : Jvm.MethodName))) ∈ tb := mt 1112 (by decide +kernel) rfl
theorem k_1113 : ((Jvm.Cond.selects "SignMachine" ({ cls := "SignMachine", name := "about", desc := "(I)I" } : Jvm.MethodName) ({ cls := "SignMachine", name := "about", desc := "(I)I" } : Jvm.MethodName))) ∈ tb := mt 1113 (by decide +kernel) rfl
theorem k_1114 : ((Jvm.Cond.code ({ cls := "SignMachine", name := "about", desc := "(I)I" } : Jvm.MethodName) prog_1_method_16_code (3 : Nat) (Option.some Jvm.ClassFile.FieldType.int))) ∈ tb := mt 1114 (by decide +kernel) rfl
theorem n_144 : ((Jvm.Cond.methodLinkNest "SignMachine" (9 : Nat) ({ cls := "SignMachine$Machine", name := "<init>", desc := "()V" } : Jvm.MethodName) "SignMachine")) ∈ nst := nn 144 (by decide +kernel) rfl
theorem n_150 : ((Jvm.Cond.methodLinkNest "SignMachine$Machine" (20 : Nat) ({ cls := "SignMachine$Tape", name := "<init>", desc := "()V" } : Jvm.MethodName) "SignMachine")) ∈ nst := nn 150 (by decide +kernel) rfl
theorem n_154 : ((Jvm.Cond.fieldLinkNest "SignMachine" (81 : Nat) "SignMachine$Tape" "place" "I" "SignMachine")) ∈ nst := nn 154 (by decide +kernel) rfl
theorem n_167 : ((Jvm.Cond.fieldLinkNest "SignMachine" (67 : Nat) "SignMachine$Machine" "toggle" "Z" "SignMachine")) ∈ nst := nn 167 (by decide +kernel) rfl
theorem n_169 : ((Jvm.Cond.fieldLinkNest "SignMachine" (71 : Nat) "SignMachine$Machine" "indicator" "I" "SignMachine")) ∈ nst := nn 169 (by decide +kernel) rfl
theorem n_171 : ((Jvm.Cond.fieldLinkNest "SignMachine" (74 : Nat) "SignMachine$Machine" "time" "I" "SignMachine")) ∈ nst := nn 171 (by decide +kernel) rfl
theorem n_173 : ((Jvm.Cond.fieldLinkNest "SignMachine" (64 : Nat) "SignMachine$Machine" "next" "I" "SignMachine")) ∈ nst := nn 173 (by decide +kernel) rfl
theorem n_175 : ((Jvm.Cond.fieldLinkNest "SignMachine" (48 : Nat) "SignMachine$Machine" "ending" "I" "SignMachine")) ∈ nst := nn 175 (by decide +kernel) rfl
theorem n_524 : ((Jvm.Cond.methodLinkNest "SignMachine" (170 : Nat) ({ cls := "SignMachine$Assembler", name := "<init>", desc := "()V" } : Jvm.MethodName) "SignMachine")) ∈ nst := nn 524 (by decide +kernel) rfl
theorem n_530 : ((Jvm.Cond.methodLinkNest "SignMachine$Assembler" (11 : Nat) ({ cls := "SignMachine$Source", name := "<init>", desc := "()V" } : Jvm.MethodName) "SignMachine")) ∈ nst := nn 530 (by decide +kernel) rfl
theorem n_536 : ((Jvm.Cond.fieldLinkNest "SignMachine$Assembler" (146 : Nat) "SignMachine$Source" "length" "I" "SignMachine")) ∈ nst := nn 536 (by decide +kernel) rfl
theorem n_537 : ((Jvm.Cond.fieldLinkNest "SignMachine" (115 : Nat) "SignMachine$Source" "length" "I" "SignMachine")) ∈ nst := nn 537 (by decide +kernel) rfl
theorem n_539 : ((Jvm.Cond.fieldLinkNest "SignMachine$Assembler" (179 : Nat) "SignMachine$Source" "line" "I" "SignMachine")) ∈ nst := nn 539 (by decide +kernel) rfl
theorem n_572 : ((Jvm.Cond.methodLinkNest "SignMachine$Assembler" (20 : Nat) ({ cls := "SignMachine$Names", name := "<init>", desc := "()V" } : Jvm.MethodName) "SignMachine")) ∈ nst := nn 572 (by decide +kernel) rfl
theorem n_603 : ((Jvm.Cond.methodLinkNest "SignMachine$Assembler" (27 : Nat) ({ cls := "SignMachine$Output", name := "<init>", desc := "()V" } : Jvm.MethodName) "SignMachine")) ∈ nst := nn 603 (by decide +kernel) rfl
theorem n_614 : ((Jvm.Cond.fieldLinkNest "SignMachine$Assembler" (149 : Nat) "SignMachine$Output" "count" "I" "SignMachine")) ∈ nst := nn 614 (by decide +kernel) rfl
theorem n_632 : ((Jvm.Cond.fieldLinkNest "SignMachine" (99 : Nat) "SignMachine$Assembler" "source" "LSignMachine$Source;" "SignMachine")) ∈ nst := nn 632 (by decide +kernel) rfl
theorem n_637 : ((Jvm.Cond.fieldLinkNest "SignMachine" (136 : Nat) "SignMachine$Assembler" "fault" "I" "SignMachine")) ∈ nst := nn 637 (by decide +kernel) rfl
theorem n_639 : ((Jvm.Cond.fieldLinkNest "SignMachine" (150 : Nat) "SignMachine$Assembler" "faultLine" "I" "SignMachine")) ∈ nst := nn 639 (by decide +kernel) rfl
theorem n_641 : ((Jvm.Cond.fieldLinkNest "SignMachine" (153 : Nat) "SignMachine$Assembler" "firstFree" "I" "SignMachine")) ∈ nst := nn 641 (by decide +kernel) rfl
theorem k_obj : (Cond.code Lib.objectInit ⟨#[0xb1]⟩ 1 none) ∈ tb := mt 141 (by decide +kernel) rfl
theorem k_absc : (Cond.code Lib.Math.abs.name Lib.Math.abs.code 1 (some .int)) ∈ tb := mt 332 (by decide +kernel) rfl
theorem k_minc : (Cond.code Lib.Math.min.name Lib.Math.min.code 2 (some .int)) ∈ tb := mt 405 (by decide +kernel) rfl
theorem d_law_0 : decode code 0 = .ok (.new 7, 3) := by decide +kernel
theorem d_law_3 : decode code 3 = .ok (.dup, 1) := by decide +kernel
theorem d_law_4 : decode code 4 = .ok (.invokespecial 9, 3) := by decide +kernel
theorem d_law_7 : decode code 7 = .ok (.astore_n 1, 1) := by decide +kernel
theorem d_law_8 : decode code 8 = .ok (.new 10, 3) := by decide +kernel
theorem d_law_11 : decode code 11 = .ok (.dup, 1) := by decide +kernel
theorem d_law_12 : decode code 12 = .ok (.invokespecial 12, 3) := by decide +kernel
theorem d_law_15 : decode code 15 = .ok (.astore_n 2, 1) := by decide +kernel
theorem d_law_16 : decode code 16 = .ok (.iconst 0, 1) := by decide +kernel
theorem d_law_17 : decode code 17 = .ok (.istore_n 3, 1) := by decide +kernel
theorem d_law_18 : decode code 18 = .ok (.iload_n 3, 1) := by decide +kernel
theorem d_law_19 : decode code 19 = .ok (.aload_n 0, 1) := by decide +kernel
theorem d_law_20 : decode code 20 = .ok (.arraylength, 1) := by decide +kernel
theorem d_law_21 : decode code 21 = .ok (.bipush 6, 2) := by decide +kernel
theorem d_law_23 : decode code 23 = .ok (.isub, 1) := by decide +kernel
theorem d_law_24 : decode code 24 = .ok (.if_icmp .gt 515, 3) := by decide +kernel
theorem d_law_27 : decode code 27 = .ok (.aload_n 0, 1) := by decide +kernel
theorem d_law_28 : decode code 28 = .ok (.iload_n 3, 1) := by decide +kernel
theorem d_law_29 : decode code 29 = .ok (.iaload, 1) := by decide +kernel
theorem d_law_30 : decode code 30 = .ok (.bipush 15, 2) := by decide +kernel
theorem d_law_32 : decode code 32 = .ok (.iand, 1) := by decide +kernel
theorem d_law_33 : decode code 33 = .ok (.tableswitch 500 0 14 #[75, 118, 141, 164, 177, 200, 223, 246, 289, 312, 335, 378, 441, 464, 477], 75) := by decide +kernel
theorem d_law_108 : decode code 108 = .ok (.aload_n 1, 1) := by decide +kernel
theorem d_law_109 : decode code 109 = .ok (.aload_n 0, 1) := by decide +kernel
theorem d_law_110 : decode code 110 = .ok (.iload_n 3, 1) := by decide +kernel
theorem d_law_111 : decode code 111 = .ok (.iconst 1, 1) := by decide +kernel
theorem d_law_112 : decode code 112 = .ok (.iadd, 1) := by decide +kernel
theorem d_law_113 : decode code 113 = .ok (.iaload, 1) := by decide +kernel
theorem d_law_114 : decode code 114 = .ok (.aload_n 0, 1) := by decide +kernel
theorem d_law_115 : decode code 115 = .ok (.iload_n 3, 1) := by decide +kernel
theorem d_law_116 : decode code 116 = .ok (.iconst 2, 1) := by decide +kernel
theorem d_law_117 : decode code 117 = .ok (.iadd, 1) := by decide +kernel
theorem d_law_118 : decode code 118 = .ok (.iaload, 1) := by decide +kernel
theorem d_law_119 : decode code 119 = .ok (.aload_n 0, 1) := by decide +kernel
theorem d_law_120 : decode code 120 = .ok (.iload_n 3, 1) := by decide +kernel
theorem d_law_121 : decode code 121 = .ok (.iconst 3, 1) := by decide +kernel
theorem d_law_122 : decode code 122 = .ok (.iadd, 1) := by decide +kernel
theorem d_law_123 : decode code 123 = .ok (.iaload, 1) := by decide +kernel
theorem d_law_124 : decode code 124 = .ok (.invokevirtual 13, 3) := by decide +kernel
theorem d_law_127 : decode code 127 = .ok (.aload_n 2, 1) := by decide +kernel
theorem d_law_128 : decode code 128 = .ok (.aload_n 0, 1) := by decide +kernel
theorem d_law_129 : decode code 129 = .ok (.iload_n 3, 1) := by decide +kernel
theorem d_law_130 : decode code 130 = .ok (.iconst 1, 1) := by decide +kernel
theorem d_law_131 : decode code 131 = .ok (.iadd, 1) := by decide +kernel
theorem d_law_132 : decode code 132 = .ok (.iaload, 1) := by decide +kernel
theorem d_law_133 : decode code 133 = .ok (.aload_n 0, 1) := by decide +kernel
theorem d_law_134 : decode code 134 = .ok (.iload_n 3, 1) := by decide +kernel
theorem d_law_135 : decode code 135 = .ok (.iconst 2, 1) := by decide +kernel
theorem d_law_136 : decode code 136 = .ok (.iadd, 1) := by decide +kernel
theorem d_law_137 : decode code 137 = .ok (.iaload, 1) := by decide +kernel
theorem d_law_138 : decode code 138 = .ok (.aload_n 0, 1) := by decide +kernel
theorem d_law_139 : decode code 139 = .ok (.iload_n 3, 1) := by decide +kernel
theorem d_law_140 : decode code 140 = .ok (.iconst 3, 1) := by decide +kernel
theorem d_law_141 : decode code 141 = .ok (.iadd, 1) := by decide +kernel
theorem d_law_142 : decode code 142 = .ok (.iaload, 1) := by decide +kernel
theorem d_law_143 : decode code 143 = .ok (.invokevirtual 17, 3) := by decide +kernel
theorem d_law_146 : decode code 146 = .ok (.if_icmp .eq 387, 3) := by decide +kernel
theorem d_law_149 : decode code 149 = .ok (.iconst 0, 1) := by decide +kernel
theorem d_law_150 : decode code 150 = .ok (.ireturn, 1) := by decide +kernel
theorem d_law_151 : decode code 151 = .ok (.aload_n 1, 1) := by decide +kernel
theorem d_law_152 : decode code 152 = .ok (.aload_n 0, 1) := by decide +kernel
theorem d_law_153 : decode code 153 = .ok (.iload_n 3, 1) := by decide +kernel
theorem d_law_154 : decode code 154 = .ok (.iconst 1, 1) := by decide +kernel
theorem d_law_155 : decode code 155 = .ok (.iadd, 1) := by decide +kernel
theorem d_law_156 : decode code 156 = .ok (.iaload, 1) := by decide +kernel
theorem d_law_157 : decode code 157 = .ok (.invokevirtual 18, 3) := by decide +kernel
theorem d_law_160 : decode code 160 = .ok (.aload_n 2, 1) := by decide +kernel
theorem d_law_161 : decode code 161 = .ok (.aload_n 0, 1) := by decide +kernel
theorem d_law_162 : decode code 162 = .ok (.iload_n 3, 1) := by decide +kernel
theorem d_law_163 : decode code 163 = .ok (.iconst 1, 1) := by decide +kernel
theorem d_law_164 : decode code 164 = .ok (.iadd, 1) := by decide +kernel
theorem d_law_165 : decode code 165 = .ok (.iaload, 1) := by decide +kernel
theorem d_law_166 : decode code 166 = .ok (.invokevirtual 22, 3) := by decide +kernel
theorem d_law_169 : decode code 169 = .ok (.if_icmp .eq 364, 3) := by decide +kernel
theorem d_law_172 : decode code 172 = .ok (.iconst 0, 1) := by decide +kernel
theorem d_law_173 : decode code 173 = .ok (.ireturn, 1) := by decide +kernel
theorem d_law_174 : decode code 174 = .ok (.aload_n 1, 1) := by decide +kernel
theorem d_law_175 : decode code 175 = .ok (.aload_n 0, 1) := by decide +kernel
theorem d_law_176 : decode code 176 = .ok (.iload_n 3, 1) := by decide +kernel
theorem d_law_177 : decode code 177 = .ok (.iconst 1, 1) := by decide +kernel
theorem d_law_178 : decode code 178 = .ok (.iadd, 1) := by decide +kernel
theorem d_law_179 : decode code 179 = .ok (.iaload, 1) := by decide +kernel
theorem d_law_180 : decode code 180 = .ok (.invokevirtual 23, 3) := by decide +kernel
theorem d_law_183 : decode code 183 = .ok (.aload_n 2, 1) := by decide +kernel
theorem d_law_184 : decode code 184 = .ok (.aload_n 0, 1) := by decide +kernel
theorem d_law_185 : decode code 185 = .ok (.iload_n 3, 1) := by decide +kernel
theorem d_law_186 : decode code 186 = .ok (.iconst 1, 1) := by decide +kernel
theorem d_law_187 : decode code 187 = .ok (.iadd, 1) := by decide +kernel
theorem d_law_188 : decode code 188 = .ok (.iaload, 1) := by decide +kernel
theorem d_law_189 : decode code 189 = .ok (.invokevirtual 26, 3) := by decide +kernel
theorem d_law_192 : decode code 192 = .ok (.if_icmp .eq 341, 3) := by decide +kernel
theorem d_law_195 : decode code 195 = .ok (.iconst 0, 1) := by decide +kernel
theorem d_law_196 : decode code 196 = .ok (.ireturn, 1) := by decide +kernel
theorem d_law_197 : decode code 197 = .ok (.aload_n 1, 1) := by decide +kernel
theorem d_law_198 : decode code 198 = .ok (.invokevirtual 27, 3) := by decide +kernel
theorem d_law_201 : decode code 201 = .ok (.aload_n 2, 1) := by decide +kernel
theorem d_law_202 : decode code 202 = .ok (.invokevirtual 31, 3) := by decide +kernel
theorem d_law_205 : decode code 205 = .ok (.if_icmp .eq 328, 3) := by decide +kernel
theorem d_law_208 : decode code 208 = .ok (.iconst 0, 1) := by decide +kernel
theorem d_law_209 : decode code 209 = .ok (.ireturn, 1) := by decide +kernel
theorem d_law_210 : decode code 210 = .ok (.aload_n 1, 1) := by decide +kernel
theorem d_law_211 : decode code 211 = .ok (.aload_n 0, 1) := by decide +kernel
theorem d_law_212 : decode code 212 = .ok (.iload_n 3, 1) := by decide +kernel
theorem d_law_213 : decode code 213 = .ok (.iconst 1, 1) := by decide +kernel
theorem d_law_214 : decode code 214 = .ok (.iadd, 1) := by decide +kernel
theorem d_law_215 : decode code 215 = .ok (.iaload, 1) := by decide +kernel
theorem d_law_216 : decode code 216 = .ok (.invokevirtual 32, 3) := by decide +kernel
theorem d_law_219 : decode code 219 = .ok (.aload_n 2, 1) := by decide +kernel
theorem d_law_220 : decode code 220 = .ok (.aload_n 0, 1) := by decide +kernel
theorem d_law_221 : decode code 221 = .ok (.iload_n 3, 1) := by decide +kernel
theorem d_law_222 : decode code 222 = .ok (.iconst 1, 1) := by decide +kernel
theorem d_law_223 : decode code 223 = .ok (.iadd, 1) := by decide +kernel
theorem d_law_224 : decode code 224 = .ok (.iaload, 1) := by decide +kernel
theorem d_law_225 : decode code 225 = .ok (.invokevirtual 35, 3) := by decide +kernel
theorem d_law_228 : decode code 228 = .ok (.if_icmp .eq 305, 3) := by decide +kernel
theorem d_law_231 : decode code 231 = .ok (.iconst 0, 1) := by decide +kernel
theorem d_law_232 : decode code 232 = .ok (.ireturn, 1) := by decide +kernel
theorem d_law_233 : decode code 233 = .ok (.aload_n 1, 1) := by decide +kernel
theorem d_law_234 : decode code 234 = .ok (.aload_n 0, 1) := by decide +kernel
theorem d_law_235 : decode code 235 = .ok (.iload_n 3, 1) := by decide +kernel
theorem d_law_236 : decode code 236 = .ok (.iconst 1, 1) := by decide +kernel
theorem d_law_237 : decode code 237 = .ok (.iadd, 1) := by decide +kernel
theorem d_law_238 : decode code 238 = .ok (.iaload, 1) := by decide +kernel
theorem d_law_239 : decode code 239 = .ok (.invokevirtual 36, 3) := by decide +kernel
theorem d_law_242 : decode code 242 = .ok (.aload_n 2, 1) := by decide +kernel
theorem d_law_243 : decode code 243 = .ok (.aload_n 0, 1) := by decide +kernel
theorem d_law_244 : decode code 244 = .ok (.iload_n 3, 1) := by decide +kernel
theorem d_law_245 : decode code 245 = .ok (.iconst 1, 1) := by decide +kernel
theorem d_law_246 : decode code 246 = .ok (.iadd, 1) := by decide +kernel
theorem d_law_247 : decode code 247 = .ok (.iaload, 1) := by decide +kernel
theorem d_law_248 : decode code 248 = .ok (.invokevirtual 39, 3) := by decide +kernel
theorem d_law_251 : decode code 251 = .ok (.if_icmp .eq 282, 3) := by decide +kernel
theorem d_law_254 : decode code 254 = .ok (.iconst 0, 1) := by decide +kernel
theorem d_law_255 : decode code 255 = .ok (.ireturn, 1) := by decide +kernel
theorem d_law_256 : decode code 256 = .ok (.aload_n 1, 1) := by decide +kernel
theorem d_law_257 : decode code 257 = .ok (.aload_n 0, 1) := by decide +kernel
theorem d_law_258 : decode code 258 = .ok (.iload_n 3, 1) := by decide +kernel
theorem d_law_259 : decode code 259 = .ok (.iconst 1, 1) := by decide +kernel
theorem d_law_260 : decode code 260 = .ok (.iadd, 1) := by decide +kernel
theorem d_law_261 : decode code 261 = .ok (.iaload, 1) := by decide +kernel
theorem d_law_262 : decode code 262 = .ok (.invokevirtual 40, 3) := by decide +kernel
theorem d_law_265 : decode code 265 = .ok (.aload_n 2, 1) := by decide +kernel
theorem d_law_266 : decode code 266 = .ok (.aload_n 0, 1) := by decide +kernel
theorem d_law_267 : decode code 267 = .ok (.iload_n 3, 1) := by decide +kernel
theorem d_law_268 : decode code 268 = .ok (.iconst 1, 1) := by decide +kernel
theorem d_law_269 : decode code 269 = .ok (.iadd, 1) := by decide +kernel
theorem d_law_270 : decode code 270 = .ok (.iaload, 1) := by decide +kernel
theorem d_law_271 : decode code 271 = .ok (.invokevirtual 43, 3) := by decide +kernel
theorem d_law_274 : decode code 274 = .ok (.if_icmp .eq 259, 3) := by decide +kernel
theorem d_law_277 : decode code 277 = .ok (.iconst 0, 1) := by decide +kernel
theorem d_law_278 : decode code 278 = .ok (.ireturn, 1) := by decide +kernel
theorem d_law_279 : decode code 279 = .ok (.aload_n 1, 1) := by decide +kernel
theorem d_law_280 : decode code 280 = .ok (.aload_n 0, 1) := by decide +kernel
theorem d_law_281 : decode code 281 = .ok (.iload_n 3, 1) := by decide +kernel
theorem d_law_282 : decode code 282 = .ok (.iconst 1, 1) := by decide +kernel
theorem d_law_283 : decode code 283 = .ok (.iadd, 1) := by decide +kernel
theorem d_law_284 : decode code 284 = .ok (.iaload, 1) := by decide +kernel
theorem d_law_285 : decode code 285 = .ok (.aload_n 0, 1) := by decide +kernel
theorem d_law_286 : decode code 286 = .ok (.iload_n 3, 1) := by decide +kernel
theorem d_law_287 : decode code 287 = .ok (.iconst 2, 1) := by decide +kernel
theorem d_law_288 : decode code 288 = .ok (.iadd, 1) := by decide +kernel
theorem d_law_289 : decode code 289 = .ok (.iaload, 1) := by decide +kernel
theorem d_law_290 : decode code 290 = .ok (.aload_n 0, 1) := by decide +kernel
theorem d_law_291 : decode code 291 = .ok (.iload_n 3, 1) := by decide +kernel
theorem d_law_292 : decode code 292 = .ok (.iconst 3, 1) := by decide +kernel
theorem d_law_293 : decode code 293 = .ok (.iadd, 1) := by decide +kernel
theorem d_law_294 : decode code 294 = .ok (.iaload, 1) := by decide +kernel
theorem d_law_295 : decode code 295 = .ok (.invokevirtual 44, 3) := by decide +kernel
theorem d_law_298 : decode code 298 = .ok (.aload_n 2, 1) := by decide +kernel
theorem d_law_299 : decode code 299 = .ok (.aload_n 0, 1) := by decide +kernel
theorem d_law_300 : decode code 300 = .ok (.iload_n 3, 1) := by decide +kernel
theorem d_law_301 : decode code 301 = .ok (.iconst 1, 1) := by decide +kernel
theorem d_law_302 : decode code 302 = .ok (.iadd, 1) := by decide +kernel
theorem d_law_303 : decode code 303 = .ok (.iaload, 1) := by decide +kernel
theorem d_law_304 : decode code 304 = .ok (.aload_n 0, 1) := by decide +kernel
theorem d_law_305 : decode code 305 = .ok (.iload_n 3, 1) := by decide +kernel
theorem d_law_306 : decode code 306 = .ok (.iconst 2, 1) := by decide +kernel
theorem d_law_307 : decode code 307 = .ok (.iadd, 1) := by decide +kernel
theorem d_law_308 : decode code 308 = .ok (.iaload, 1) := by decide +kernel
theorem d_law_309 : decode code 309 = .ok (.aload_n 0, 1) := by decide +kernel
theorem d_law_310 : decode code 310 = .ok (.iload_n 3, 1) := by decide +kernel
theorem d_law_311 : decode code 311 = .ok (.iconst 3, 1) := by decide +kernel
theorem d_law_312 : decode code 312 = .ok (.iadd, 1) := by decide +kernel
theorem d_law_313 : decode code 313 = .ok (.iaload, 1) := by decide +kernel
theorem d_law_314 : decode code 314 = .ok (.invokevirtual 47, 3) := by decide +kernel
theorem d_law_317 : decode code 317 = .ok (.if_icmp .eq 216, 3) := by decide +kernel
theorem d_law_320 : decode code 320 = .ok (.iconst 0, 1) := by decide +kernel
theorem d_law_321 : decode code 321 = .ok (.ireturn, 1) := by decide +kernel
theorem d_law_322 : decode code 322 = .ok (.aload_n 1, 1) := by decide +kernel
theorem d_law_323 : decode code 323 = .ok (.aload_n 0, 1) := by decide +kernel
theorem d_law_324 : decode code 324 = .ok (.iload_n 3, 1) := by decide +kernel
theorem d_law_325 : decode code 325 = .ok (.iconst 1, 1) := by decide +kernel
theorem d_law_326 : decode code 326 = .ok (.iadd, 1) := by decide +kernel
theorem d_law_327 : decode code 327 = .ok (.iaload, 1) := by decide +kernel
theorem d_law_328 : decode code 328 = .ok (.invokevirtual 48, 3) := by decide +kernel
theorem d_law_331 : decode code 331 = .ok (.aload_n 2, 1) := by decide +kernel
theorem d_law_332 : decode code 332 = .ok (.aload_n 0, 1) := by decide +kernel
theorem d_law_333 : decode code 333 = .ok (.iload_n 3, 1) := by decide +kernel
theorem d_law_334 : decode code 334 = .ok (.iconst 1, 1) := by decide +kernel
theorem d_law_335 : decode code 335 = .ok (.iadd, 1) := by decide +kernel
theorem d_law_336 : decode code 336 = .ok (.iaload, 1) := by decide +kernel
theorem d_law_337 : decode code 337 = .ok (.invokevirtual 51, 3) := by decide +kernel
theorem d_law_340 : decode code 340 = .ok (.if_icmp .eq 193, 3) := by decide +kernel
theorem d_law_343 : decode code 343 = .ok (.iconst 0, 1) := by decide +kernel
theorem d_law_344 : decode code 344 = .ok (.ireturn, 1) := by decide +kernel
theorem d_law_345 : decode code 345 = .ok (.aload_n 1, 1) := by decide +kernel
theorem d_law_346 : decode code 346 = .ok (.aload_n 0, 1) := by decide +kernel
theorem d_law_347 : decode code 347 = .ok (.iload_n 3, 1) := by decide +kernel
theorem d_law_348 : decode code 348 = .ok (.iconst 1, 1) := by decide +kernel
theorem d_law_349 : decode code 349 = .ok (.iadd, 1) := by decide +kernel
theorem d_law_350 : decode code 350 = .ok (.iaload, 1) := by decide +kernel
theorem d_law_351 : decode code 351 = .ok (.invokevirtual 52, 3) := by decide +kernel
theorem d_law_354 : decode code 354 = .ok (.aload_n 2, 1) := by decide +kernel
theorem d_law_355 : decode code 355 = .ok (.aload_n 0, 1) := by decide +kernel
theorem d_law_356 : decode code 356 = .ok (.iload_n 3, 1) := by decide +kernel
theorem d_law_357 : decode code 357 = .ok (.iconst 1, 1) := by decide +kernel
theorem d_law_358 : decode code 358 = .ok (.iadd, 1) := by decide +kernel
theorem d_law_359 : decode code 359 = .ok (.iaload, 1) := by decide +kernel
theorem d_law_360 : decode code 360 = .ok (.invokevirtual 56, 3) := by decide +kernel
theorem d_law_363 : decode code 363 = .ok (.if_icmp .eq 170, 3) := by decide +kernel
theorem d_law_366 : decode code 366 = .ok (.iconst 0, 1) := by decide +kernel
theorem d_law_367 : decode code 367 = .ok (.ireturn, 1) := by decide +kernel
theorem d_law_368 : decode code 368 = .ok (.aload_n 1, 1) := by decide +kernel
theorem d_law_369 : decode code 369 = .ok (.aload_n 0, 1) := by decide +kernel
theorem d_law_370 : decode code 370 = .ok (.iload_n 3, 1) := by decide +kernel
theorem d_law_371 : decode code 371 = .ok (.iconst 1, 1) := by decide +kernel
theorem d_law_372 : decode code 372 = .ok (.iadd, 1) := by decide +kernel
theorem d_law_373 : decode code 373 = .ok (.iaload, 1) := by decide +kernel
theorem d_law_374 : decode code 374 = .ok (.aload_n 0, 1) := by decide +kernel
theorem d_law_375 : decode code 375 = .ok (.iload_n 3, 1) := by decide +kernel
theorem d_law_376 : decode code 376 = .ok (.iconst 2, 1) := by decide +kernel
theorem d_law_377 : decode code 377 = .ok (.iadd, 1) := by decide +kernel
theorem d_law_378 : decode code 378 = .ok (.iaload, 1) := by decide +kernel
theorem d_law_379 : decode code 379 = .ok (.aload_n 0, 1) := by decide +kernel
theorem d_law_380 : decode code 380 = .ok (.iload_n 3, 1) := by decide +kernel
theorem d_law_381 : decode code 381 = .ok (.iconst 3, 1) := by decide +kernel
theorem d_law_382 : decode code 382 = .ok (.iadd, 1) := by decide +kernel
theorem d_law_383 : decode code 383 = .ok (.iaload, 1) := by decide +kernel
theorem d_law_384 : decode code 384 = .ok (.invokevirtual 57, 3) := by decide +kernel
theorem d_law_387 : decode code 387 = .ok (.aload_n 2, 1) := by decide +kernel
theorem d_law_388 : decode code 388 = .ok (.aload_n 0, 1) := by decide +kernel
theorem d_law_389 : decode code 389 = .ok (.iload_n 3, 1) := by decide +kernel
theorem d_law_390 : decode code 390 = .ok (.iconst 1, 1) := by decide +kernel
theorem d_law_391 : decode code 391 = .ok (.iadd, 1) := by decide +kernel
theorem d_law_392 : decode code 392 = .ok (.iaload, 1) := by decide +kernel
theorem d_law_393 : decode code 393 = .ok (.aload_n 0, 1) := by decide +kernel
theorem d_law_394 : decode code 394 = .ok (.iload_n 3, 1) := by decide +kernel
theorem d_law_395 : decode code 395 = .ok (.iconst 2, 1) := by decide +kernel
theorem d_law_396 : decode code 396 = .ok (.iadd, 1) := by decide +kernel
theorem d_law_397 : decode code 397 = .ok (.iaload, 1) := by decide +kernel
theorem d_law_398 : decode code 398 = .ok (.aload_n 0, 1) := by decide +kernel
theorem d_law_399 : decode code 399 = .ok (.iload_n 3, 1) := by decide +kernel
theorem d_law_400 : decode code 400 = .ok (.iconst 3, 1) := by decide +kernel
theorem d_law_401 : decode code 401 = .ok (.iadd, 1) := by decide +kernel
theorem d_law_402 : decode code 402 = .ok (.iaload, 1) := by decide +kernel
theorem d_law_403 : decode code 403 = .ok (.invokevirtual 61, 3) := by decide +kernel
theorem d_law_406 : decode code 406 = .ok (.if_icmp .eq 127, 3) := by decide +kernel
theorem d_law_409 : decode code 409 = .ok (.iconst 0, 1) := by decide +kernel
theorem d_law_410 : decode code 410 = .ok (.ireturn, 1) := by decide +kernel
theorem d_law_411 : decode code 411 = .ok (.aload_n 1, 1) := by decide +kernel
theorem d_law_412 : decode code 412 = .ok (.aload_n 0, 1) := by decide +kernel
theorem d_law_413 : decode code 413 = .ok (.iload_n 3, 1) := by decide +kernel
theorem d_law_414 : decode code 414 = .ok (.iconst 1, 1) := by decide +kernel
theorem d_law_415 : decode code 415 = .ok (.iadd, 1) := by decide +kernel
theorem d_law_416 : decode code 416 = .ok (.iaload, 1) := by decide +kernel
theorem d_law_417 : decode code 417 = .ok (.aload_n 0, 1) := by decide +kernel
theorem d_law_418 : decode code 418 = .ok (.iload_n 3, 1) := by decide +kernel
theorem d_law_419 : decode code 419 = .ok (.iconst 2, 1) := by decide +kernel
theorem d_law_420 : decode code 420 = .ok (.iadd, 1) := by decide +kernel
theorem d_law_421 : decode code 421 = .ok (.iaload, 1) := by decide +kernel
theorem d_law_422 : decode code 422 = .ok (.aload_n 0, 1) := by decide +kernel
theorem d_law_423 : decode code 423 = .ok (.iload_n 3, 1) := by decide +kernel
theorem d_law_424 : decode code 424 = .ok (.iconst 3, 1) := by decide +kernel
theorem d_law_425 : decode code 425 = .ok (.iadd, 1) := by decide +kernel
theorem d_law_426 : decode code 426 = .ok (.iaload, 1) := by decide +kernel
theorem d_law_427 : decode code 427 = .ok (.aload_n 0, 1) := by decide +kernel
theorem d_law_428 : decode code 428 = .ok (.iload_n 3, 1) := by decide +kernel
theorem d_law_429 : decode code 429 = .ok (.iconst 4, 1) := by decide +kernel
theorem d_law_430 : decode code 430 = .ok (.iadd, 1) := by decide +kernel
theorem d_law_431 : decode code 431 = .ok (.iaload, 1) := by decide +kernel
theorem d_law_432 : decode code 432 = .ok (.aload_n 0, 1) := by decide +kernel
theorem d_law_433 : decode code 433 = .ok (.iload_n 3, 1) := by decide +kernel
theorem d_law_434 : decode code 434 = .ok (.iconst 5, 1) := by decide +kernel
theorem d_law_435 : decode code 435 = .ok (.iadd, 1) := by decide +kernel
theorem d_law_436 : decode code 436 = .ok (.iaload, 1) := by decide +kernel
theorem d_law_437 : decode code 437 = .ok (.invokevirtual 62, 3) := by decide +kernel
theorem d_law_440 : decode code 440 = .ok (.aload_n 2, 1) := by decide +kernel
theorem d_law_441 : decode code 441 = .ok (.aload_n 0, 1) := by decide +kernel
theorem d_law_442 : decode code 442 = .ok (.iload_n 3, 1) := by decide +kernel
theorem d_law_443 : decode code 443 = .ok (.iconst 1, 1) := by decide +kernel
theorem d_law_444 : decode code 444 = .ok (.iadd, 1) := by decide +kernel
theorem d_law_445 : decode code 445 = .ok (.iaload, 1) := by decide +kernel
theorem d_law_446 : decode code 446 = .ok (.aload_n 0, 1) := by decide +kernel
theorem d_law_447 : decode code 447 = .ok (.iload_n 3, 1) := by decide +kernel
theorem d_law_448 : decode code 448 = .ok (.iconst 2, 1) := by decide +kernel
theorem d_law_449 : decode code 449 = .ok (.iadd, 1) := by decide +kernel
theorem d_law_450 : decode code 450 = .ok (.iaload, 1) := by decide +kernel
theorem d_law_451 : decode code 451 = .ok (.aload_n 0, 1) := by decide +kernel
theorem d_law_452 : decode code 452 = .ok (.iload_n 3, 1) := by decide +kernel
theorem d_law_453 : decode code 453 = .ok (.iconst 3, 1) := by decide +kernel
theorem d_law_454 : decode code 454 = .ok (.iadd, 1) := by decide +kernel
theorem d_law_455 : decode code 455 = .ok (.iaload, 1) := by decide +kernel
theorem d_law_456 : decode code 456 = .ok (.aload_n 0, 1) := by decide +kernel
theorem d_law_457 : decode code 457 = .ok (.iload_n 3, 1) := by decide +kernel
theorem d_law_458 : decode code 458 = .ok (.iconst 4, 1) := by decide +kernel
theorem d_law_459 : decode code 459 = .ok (.iadd, 1) := by decide +kernel
theorem d_law_460 : decode code 460 = .ok (.iaload, 1) := by decide +kernel
theorem d_law_461 : decode code 461 = .ok (.aload_n 0, 1) := by decide +kernel
theorem d_law_462 : decode code 462 = .ok (.iload_n 3, 1) := by decide +kernel
theorem d_law_463 : decode code 463 = .ok (.iconst 5, 1) := by decide +kernel
theorem d_law_464 : decode code 464 = .ok (.iadd, 1) := by decide +kernel
theorem d_law_465 : decode code 465 = .ok (.iaload, 1) := by decide +kernel
theorem d_law_466 : decode code 466 = .ok (.invokevirtual 66, 3) := by decide +kernel
theorem d_law_469 : decode code 469 = .ok (.if_icmp .eq 64, 3) := by decide +kernel
theorem d_law_472 : decode code 472 = .ok (.iconst 0, 1) := by decide +kernel
theorem d_law_473 : decode code 473 = .ok (.ireturn, 1) := by decide +kernel
theorem d_law_474 : decode code 474 = .ok (.aload_n 1, 1) := by decide +kernel
theorem d_law_475 : decode code 475 = .ok (.aload_n 0, 1) := by decide +kernel
theorem d_law_476 : decode code 476 = .ok (.iload_n 3, 1) := by decide +kernel
theorem d_law_477 : decode code 477 = .ok (.iconst 1, 1) := by decide +kernel
theorem d_law_478 : decode code 478 = .ok (.iadd, 1) := by decide +kernel
theorem d_law_479 : decode code 479 = .ok (.iaload, 1) := by decide +kernel
theorem d_law_480 : decode code 480 = .ok (.invokevirtual 67, 3) := by decide +kernel
theorem d_law_483 : decode code 483 = .ok (.aload_n 2, 1) := by decide +kernel
theorem d_law_484 : decode code 484 = .ok (.aload_n 0, 1) := by decide +kernel
theorem d_law_485 : decode code 485 = .ok (.iload_n 3, 1) := by decide +kernel
theorem d_law_486 : decode code 486 = .ok (.iconst 1, 1) := by decide +kernel
theorem d_law_487 : decode code 487 = .ok (.iadd, 1) := by decide +kernel
theorem d_law_488 : decode code 488 = .ok (.iaload, 1) := by decide +kernel
theorem d_law_489 : decode code 489 = .ok (.invokevirtual 70, 3) := by decide +kernel
theorem d_law_492 : decode code 492 = .ok (.if_icmp .eq 41, 3) := by decide +kernel
theorem d_law_495 : decode code 495 = .ok (.iconst 0, 1) := by decide +kernel
theorem d_law_496 : decode code 496 = .ok (.ireturn, 1) := by decide +kernel
theorem d_law_497 : decode code 497 = .ok (.aload_n 1, 1) := by decide +kernel
theorem d_law_498 : decode code 498 = .ok (.invokevirtual 71, 3) := by decide +kernel
theorem d_law_501 : decode code 501 = .ok (.aload_n 2, 1) := by decide +kernel
theorem d_law_502 : decode code 502 = .ok (.invokevirtual 74, 3) := by decide +kernel
theorem d_law_505 : decode code 505 = .ok (.if_icmp .eq 28, 3) := by decide +kernel
theorem d_law_508 : decode code 508 = .ok (.iconst 0, 1) := by decide +kernel
theorem d_law_509 : decode code 509 = .ok (.ireturn, 1) := by decide +kernel
theorem d_law_510 : decode code 510 = .ok (.aload_n 1, 1) := by decide +kernel
theorem d_law_511 : decode code 511 = .ok (.aload_n 0, 1) := by decide +kernel
theorem d_law_512 : decode code 512 = .ok (.iload_n 3, 1) := by decide +kernel
theorem d_law_513 : decode code 513 = .ok (.iconst 1, 1) := by decide +kernel
theorem d_law_514 : decode code 514 = .ok (.iadd, 1) := by decide +kernel
theorem d_law_515 : decode code 515 = .ok (.iaload, 1) := by decide +kernel
theorem d_law_516 : decode code 516 = .ok (.invokevirtual 75, 3) := by decide +kernel
theorem d_law_519 : decode code 519 = .ok (.aload_n 2, 1) := by decide +kernel
theorem d_law_520 : decode code 520 = .ok (.aload_n 0, 1) := by decide +kernel
theorem d_law_521 : decode code 521 = .ok (.iload_n 3, 1) := by decide +kernel
theorem d_law_522 : decode code 522 = .ok (.iconst 1, 1) := by decide +kernel
theorem d_law_523 : decode code 523 = .ok (.iadd, 1) := by decide +kernel
theorem d_law_524 : decode code 524 = .ok (.iaload, 1) := by decide +kernel
theorem d_law_525 : decode code 525 = .ok (.invokevirtual 78, 3) := by decide +kernel
theorem d_law_528 : decode code 528 = .ok (.if_icmp .eq 5, 3) := by decide +kernel
theorem d_law_531 : decode code 531 = .ok (.iconst 0, 1) := by decide +kernel
theorem d_law_532 : decode code 532 = .ok (.ireturn, 1) := by decide +kernel
theorem d_law_533 : decode code 533 = .ok (.iinc 3 6, 3) := by decide +kernel
theorem d_law_536 : decode code 536 = .ok (.goto (-518), 3) := by decide +kernel
theorem d_law_539 : decode code 539 = .ok (.iconst 1, 1) := by decide +kernel
theorem d_law_540 : decode code 540 = .ok (.ireturn, 1) := by decide +kernel
