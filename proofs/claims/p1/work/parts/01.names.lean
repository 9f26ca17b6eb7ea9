def tb : List Cond := lw_tbl.filter goodWord
theorem tb_good (w : Cond) (h : w ∈ tb) : (w.onTables && w.keeps) = true ∨ ∃ ty, w = .arrayClass ty := good_of_word (List.mem_filter.mp h).2
theorem mt {w : Cond} (i : Nat) (h : lw_tbl[i]? = some w) (hg : goodWord w = true) : w ∈ tb := List.mem_filter.mpr ⟨List.mem_of_getElem? h, hg⟩
theorem gi_t {c : Cond} (hc : c ∈ tb) : GoodIn tb (c :: tb) := by
  intro w hw
  rcases List.mem_cons.mp hw with rfl | h
  · exact ⟨hc, tb_good _ hc⟩
  · exact ⟨h, tb_good _ h⟩
theorem mk_s {R : Room} {s : State} {args : Array Value} {own : String} {index maxL mc ms : Nat} {y : MethodName} {bytes : ByteArray} {ret : Option FieldType} {rm : Room} (n : Nat) (hk : ∀ w ∈ tb, w.before args s = true) (hc : Cond.code y bytes maxL ret ∈ tb) (hl : Cond.methodLink own index y ∈ tb) (hs : Cond.static y ∈ tb) (hi : Cond.initialized y.cls ∈ tb) (hrc : rm.cells = mc) (hrs : rm.slots = ms)
    (hd : y.cls ≠ "java/lang/invoke/MethodHandle" ∧ y.cls ≠ "java/lang/invoke/VarHandle" ∧ (parseMethodDescriptor y.desc).map (fun d => d.parameters.length) = some n) (hR : rm.frames + 1 ≤ R.frames ∧ 8 + (maxL + 11) + rm.locals ≤ R.locals) :
    CallB R s args own index y bytes maxL ret (Cond.code y bytes maxL ret :: tb) rm mc ms n ∧ (Cond.static y).before args s = true := ⟨callB_of n hk (gi_t hc) rfl hrc hrs (hk _ hi) (hk _ hl) hd hR, hk _ hs⟩
theorem mk_v {R : Room} {s : State} {args : Array Value} {own C : String} {index maxL mc ms : Nat} {y : MethodName} {bytes : ByteArray} {ret : Option FieldType} {rm : Room} (n : Nat) (hk : ∀ w ∈ tb, w.before args s = true) (hc : Cond.code y bytes maxL ret ∈ tb) (hl : Cond.methodLink own index y ∈ tb) (hs : Cond.instanceMethod y ∈ tb) (hse : Cond.selects C y y ∈ tb) (hi : Cond.initialized y.cls ∈ tb) (hrc : rm.cells = mc) (hrs : rm.slots = ms)
    (hd : y.cls ≠ "java/lang/invoke/MethodHandle" ∧ y.cls ≠ "java/lang/invoke/VarHandle" ∧ (parseMethodDescriptor y.desc).map (fun d => d.parameters.length) = some n) (hR : rm.frames + 1 ≤ R.frames ∧ 8 + (maxL + 11) + rm.locals ≤ R.locals) :
    CallW R s args own C index y bytes maxL ret (Cond.code y bytes maxL ret :: tb) rm mc ms n := ⟨callB_of n hk (gi_t hc) rfl hrc hrs (hk _ hi) (hk _ hl) hd hR, hk _ hs, hk _ hse⟩
/-- a truth as the machine's int -/
def bI (b : Bool) : Int32 := if b = true then 1 else 0
theorem nar_bI (b : Bool) : narrow .boolean (.int (bI b)) = .int (bI b) := by cases b <;> rfl
theorem fit_bI (b : Bool) : fits .boolean (.int (bI b)) = true := by cases b <;> rfl
theorem bI_0 {b : Bool} : bI b = 0 ↔ b = false := by cases b <;> simp [bI]
theorem bI_n {b : Bool} : ¬ bI b = 0 ↔ b = true := by cases b <;> simp [bI]
/-- the words of nest mates, which ride beside the world -/
def isN : Cond → Bool
  | .fieldLinkNest .. => true
  | .methodLinkNest .. => true
  | _ => false
def nst : List Cond := lw_tbl.filter isN
theorem nn {w : Cond} (i : Nat) (h : lw_tbl[i]? = some w) (hg : isN w = true) : w ∈ nst := List.mem_filter.mpr ⟨List.mem_of_getElem? h, hg⟩
def F_S : u_T := fun k => match k with
  | 0 => ("SignMachine", "machine", "LSignMachine$Machine;", true)
  | _ => ("SignMachine", "assembler", "LSignMachine$Assembler;", false)
def ft_S : Nat → FieldType := fun k => match k with
  | 0 => .object "SignMachine$Machine"
  | _ => .object "SignMachine$Assembler"
theorem fn_S : ∀ a, a < 2 → ∀ b, b < 2 → a ≠ b → (F_S a).2.1 ≠ (F_S b).2.1 := by decide +kernel
theorem ft_S_ok : ∀ k, k < 2 → parseFieldDescriptor (F_S k).2.2.1 = some (ft_S k) := by decide +kernel
theorem fi_S : ∀ w ∈ u_ws "SignMachine" F_S 2, w ∈ tb := fun w h => List.mem_filter.mpr ((show ∀ w ∈ u_ws "SignMachine" F_S 2, w ∈ lw_tbl ∧ goodWord w = true from by decide +kernel) w h)
def F_M : u_T := fun k => match k with
  | 0 => ("SignMachine$Machine", "memory", "[I", true)
  | 1 => ("SignMachine$Machine", "registers", "[I", true)
  | 2 => ("SignMachine$Machine", "firstTape", "LSignMachine$Tape;", true)
  | 3 => ("SignMachine$Machine", "secondTape", "LSignMachine$Tape;", true)
  | 4 => ("SignMachine$Machine", "toggle", "Z", false)
  | 5 => ("SignMachine$Machine", "indicator", "I", false)
  | 6 => ("SignMachine$Machine", "time", "I", false)
  | 7 => ("SignMachine$Machine", "next", "I", false)
  | 8 => ("SignMachine$Machine", "ending", "I", false)
  | 9 => ("SignMachine$Machine", "code", "I", false)
  | 10 => ("SignMachine$Machine", "field", "I", false)
  | 11 => ("SignMachine$Machine", "index", "I", false)
  | 12 => ("SignMachine$Machine", "m", "I", false)
  | _ => ("SignMachine$Machine", "signOfZero", "I", false)
def ft_M : Nat → FieldType := fun k => match k with
  | 0 => .array .int
  | 1 => .array .int
  | 2 => .object "SignMachine$Tape"
  | 3 => .object "SignMachine$Tape"
  | 4 => .boolean
  | 5 => .int
  | 6 => .int
  | 7 => .int
  | 8 => .int
  | 9 => .int
  | 10 => .int
  | 11 => .int
  | 12 => .int
  | _ => .int
theorem fn_M : ∀ a, a < 14 → ∀ b, b < 14 → a ≠ b → (F_M a).2.1 ≠ (F_M b).2.1 := by decide +kernel
theorem ft_M_ok : ∀ k, k < 14 → parseFieldDescriptor (F_M k).2.2.1 = some (ft_M k) := by decide +kernel
theorem fi_M : ∀ w ∈ u_ws "SignMachine$Machine" F_M 14, w ∈ tb := fun w h => List.mem_filter.mpr ((show ∀ w ∈ u_ws "SignMachine$Machine" F_M 14, w ∈ lw_tbl ∧ goodWord w = true from by decide +kernel) w h)
def F_T : u_T := fun k => match k with
  | 0 => ("SignMachine$Tape", "place", "I", false)
  | _ => ("SignMachine$Tape", "words", "[I", false)
def ft_T : Nat → FieldType := fun k => match k with
  | 0 => .int
  | _ => .array .int
theorem fn_T : ∀ a, a < 2 → ∀ b, b < 2 → a ≠ b → (F_T a).2.1 ≠ (F_T b).2.1 := by decide +kernel
theorem ft_T_ok : ∀ k, k < 2 → parseFieldDescriptor (F_T k).2.2.1 = some (ft_T k) := by decide +kernel
theorem fi_T : ∀ w ∈ u_ws "SignMachine$Tape" F_T 2, w ∈ tb := fun w h => List.mem_filter.mpr ((show ∀ w ∈ u_ws "SignMachine$Tape" F_T 2, w ∈ lw_tbl ∧ goodWord w = true from by decide +kernel) w h)
def F_A : u_T := fun k => match k with
  | 0 => ("SignMachine$Assembler", "source", "LSignMachine$Source;", true)
  | 1 => ("SignMachine$Assembler", "names", "LSignMachine$Names;", true)
  | 2 => ("SignMachine$Assembler", "output", "LSignMachine$Output;", true)
  | 3 => ("SignMachine$Assembler", "fault", "I", false)
  | 4 => ("SignMachine$Assembler", "faultLine", "I", false)
  | 5 => ("SignMachine$Assembler", "firstFree", "I", false)
  | 6 => ("SignMachine$Assembler", "start", "I", false)
  | 7 => ("SignMachine$Assembler", "place", "I", false)
  | 8 => ("SignMachine$Assembler", "ended", "Z", false)
  | 9 => ("SignMachine$Assembler", "label", "J", false)
  | 10 => ("SignMachine$Assembler", "labelValue", "I", false)
  | 11 => ("SignMachine$Assembler", "op", "LSignMachine$Op;", false)
  | 12 => ("SignMachine$Assembler", "code", "I", false)
  | 13 => ("SignMachine$Assembler", "kind", "I", false)
  | _ => ("SignMachine$Assembler", "goal", "I", false)
def ft_A : Nat → FieldType := fun k => match k with
  | 0 => .object "SignMachine$Source"
  | 1 => .object "SignMachine$Names"
  | 2 => .object "SignMachine$Output"
  | 3 => .int
  | 4 => .int
  | 5 => .int
  | 6 => .int
  | 7 => .int
  | 8 => .boolean
  | 9 => .long
  | 10 => .int
  | 11 => .object "SignMachine$Op"
  | 12 => .int
  | 13 => .int
  | _ => .int
theorem fn_A : ∀ a, a < 15 → ∀ b, b < 15 → a ≠ b → (F_A a).2.1 ≠ (F_A b).2.1 := by decide +kernel
theorem ft_A_ok : ∀ k, k < 15 → parseFieldDescriptor (F_A k).2.2.1 = some (ft_A k) := by decide +kernel
theorem fi_A : ∀ w ∈ u_ws "SignMachine$Assembler" F_A 15, w ∈ tb := fun w h => List.mem_filter.mpr ((show ∀ w ∈ u_ws "SignMachine$Assembler" F_A 15, w ∈ lw_tbl ∧ goodWord w = true from by decide +kernel) w h)
def F_R : u_T := fun k => match k with
  | 0 => ("SignMachine$Source", "bytes", "[B", true)
  | 1 => ("SignMachine$Source", "length", "I", false)
  | 2 => ("SignMachine$Source", "line", "I", false)
  | 3 => ("SignMachine$Source", "at", "I", false)
  | 4 => ("SignMachine$Source", "stop", "I", false)
  | 5 => ("SignMachine$Source", "following", "I", false)
  | 6 => ("SignMachine$Source", "kind", "I", false)
  | 7 => ("SignMachine$Source", "name", "J", false)
  | _ => ("SignMachine$Source", "number", "I", false)
def ft_R : Nat → FieldType := fun k => match k with
  | 0 => .array .byte
  | 1 => .int
  | 2 => .int
  | 3 => .int
  | 4 => .int
  | 5 => .int
  | 6 => .int
  | 7 => .long
  | _ => .int
theorem fn_R : ∀ a, a < 9 → ∀ b, b < 9 → a ≠ b → (F_R a).2.1 ≠ (F_R b).2.1 := by decide +kernel
theorem ft_R_ok : ∀ k, k < 9 → parseFieldDescriptor (F_R k).2.2.1 = some (ft_R k) := by decide +kernel
theorem fi_R : ∀ w ∈ u_ws "SignMachine$Source" F_R 9, w ∈ tb := fun w h => List.mem_filter.mpr ((show ∀ w ∈ u_ws "SignMachine$Source" F_R 9, w ∈ lw_tbl ∧ goodWord w = true from by decide +kernel) w h)
def F_N : u_T := fun k => match k with
  | 0 => ("SignMachine$Names", "names", "[J", true)
  | 1 => ("SignMachine$Names", "values", "[I", true)
  | 2 => ("SignMachine$Names", "told", "[Z", true)
  | 3 => ("SignMachine$Names", "localValues", "[I", true)
  | 4 => ("SignMachine$Names", "localTold", "[Z", true)
  | 5 => ("SignMachine$Names", "count", "I", false)
  | _ => ("SignMachine$Names", "symbols", "I", false)
def ft_N : Nat → FieldType := fun k => match k with
  | 0 => .array .long
  | 1 => .array .int
  | 2 => .array .boolean
  | 3 => .array .int
  | 4 => .array .boolean
  | 5 => .int
  | _ => .int
theorem fn_N : ∀ a, a < 7 → ∀ b, b < 7 → a ≠ b → (F_N a).2.1 ≠ (F_N b).2.1 := by decide +kernel
theorem ft_N_ok : ∀ k, k < 7 → parseFieldDescriptor (F_N k).2.2.1 = some (ft_N k) := by decide +kernel
theorem fi_N : ∀ w ∈ u_ws "SignMachine$Names" F_N 7, w ∈ tb := fun w h => List.mem_filter.mpr ((show ∀ w ∈ u_ws "SignMachine$Names" F_N 7, w ∈ lw_tbl ∧ goodWord w = true from by decide +kernel) w h)
def F_O : u_T := fun k => match k with
  | 0 => ("SignMachine$Output", "places", "[I", true)
  | 1 => ("SignMachine$Output", "words", "[I", true)
  | 2 => ("SignMachine$Output", "lines", "[I", true)
  | 3 => ("SignMachine$Output", "kinds", "[B", true)
  | 4 => ("SignMachine$Output", "goals", "[I", true)
  | 5 => ("SignMachine$Output", "lastOpen", "[I", true)
  | _ => ("SignMachine$Output", "count", "I", false)
def ft_O : Nat → FieldType := fun k => match k with
  | 0 => .array .int
  | 1 => .array .int
  | 2 => .array .int
  | 3 => .array .byte
  | 4 => .array .int
  | 5 => .array .int
  | _ => .int
theorem fn_O : ∀ a, a < 7 → ∀ b, b < 7 → a ≠ b → (F_O a).2.1 ≠ (F_O b).2.1 := by decide +kernel
theorem ft_O_ok : ∀ k, k < 7 → parseFieldDescriptor (F_O k).2.2.1 = some (ft_O k) := by decide +kernel
theorem fi_O : ∀ w ∈ u_ws "SignMachine$Output" F_O 7, w ∈ tb := fun w h => List.mem_filter.mpr ((show ∀ w ∈ u_ws "SignMachine$Output" F_O 7, w ∈ lw_tbl ∧ goodWord w = true from by decide +kernel) w h)
def F_X : u_T := fun k => match k with
  | 0 => ("SignMachineModel", "sign", "[I", true)
  | 1 => ("SignMachineModel", "size", "[I", true)
  | 2 => ("SignMachineModel", "rSign", "[I", true)
  | 3 => ("SignMachineModel", "rSize", "[I", true)
  | 4 => ("SignMachineModel", "at", "I", false)
  | 5 => ("SignMachineModel", "toggle", "I", false)
  | 6 => ("SignMachineModel", "indicator", "I", false)
  | 7 => ("SignMachineModel", "time", "I", false)
  | 8 => ("SignMachineModel", "ended", "I", false)
  | 9 => ("SignMachineModel", "tapeSign", "[I", true)
  | 10 => ("SignMachineModel", "tapeSize", "[I", true)
  | 11 => ("SignMachineModel", "tapeAt", "[I", true)
  | 12 => ("SignMachineModel", "opCode", "I", false)
  | 13 => ("SignMachineModel", "field", "I", false)
  | 14 => ("SignMachineModel", "index", "I", false)
  | 15 => ("SignMachineModel", "m", "I", false)
  | 16 => ("SignMachineModel", "mSign", "I", false)
  | 17 => ("SignMachineModel", "vSign", "I", false)
  | 18 => ("SignMachineModel", "vSize", "I", false)
  | 19 => ("SignMachineModel", "ten", "[I", true)
  | 20 => ("SignMachineModel", "shifted", "[I", true)
  | 21 => ("SignMachineModel", "text", "[I", true)
  | 22 => ("SignMachineModel", "textSize", "I", false)
  | 23 => ("SignMachineModel", "line", "I", false)
  | 24 => ("SignMachineModel", "lineEnd", "I", false)
  | 25 => ("SignMachineModel", "p", "I", false)
  | 26 => ("SignMachineModel", "wrong", "I", false)
  | 27 => ("SignMachineModel", "wrongLine", "I", false)
  | 28 => ("SignMachineModel", "aboutLine", "I", false)
  | 29 => ("SignMachineModel", "aboutPlace", "I", false)
  | 30 => ("SignMachineModel", "place", "I", false)
  | 31 => ("SignMachineModel", "start", "I", false)
  | 32 => ("SignMachineModel", "isEnded", "Z", false)
  | 33 => ("SignMachineModel", "symbol", "[J", true)
  | 34 => ("SignMachineModel", "isTold", "[Z", true)
  | 35 => ("SignMachineModel", "symbolIs", "[J", true)
  | 36 => ("SignMachineModel", "symbols", "I", false)
  | 37 => ("SignMachineModel", "hasLocal", "[Z", true)
  | 38 => ("SignMachineModel", "localIs", "[J", true)
  | 39 => ("SignMachineModel", "lineLocal", "I", false)
  | 40 => ("SignMachineModel", "lineLocalIs", "J", false)
  | 41 => ("SignMachineModel", "outAt", "[I", true)
  | 42 => ("SignMachineModel", "outSign", "[I", true)
  | 43 => ("SignMachineModel", "outSize", "[I", true)
  | 44 => ("SignMachineModel", "outs", "I", false)
  | 45 => ("SignMachineModel", "laterOut", "[I", true)
  | 46 => ("SignMachineModel", "laterLine", "[I", true)
  | 47 => ("SignMachineModel", "laterOf", "[I", true)
  | 48 => ("SignMachineModel", "isPut", "[Z", true)
  | 49 => ("SignMachineModel", "laters", "I", false)
  | 50 => ("SignMachineModel", "follows", "[I", true)
  | 51 => ("SignMachineModel", "followers", "I", false)
  | 52 => ("SignMachineModel", "literal", "[J", true)
  | 53 => ("SignMachineModel", "literals", "I", false)
  | 54 => ("SignMachineModel", "atomKind", "I", false)
  | 55 => ("SignMachineModel", "atomIs", "J", false)
  | 56 => ("SignMachineModel", "atomLetter", "I", false)
  | 57 => ("SignMachineModel", "wSign", "I", false)
  | 58 => ("SignMachineModel", "wSize", "I", false)
  | 59 => ("SignMachineModel", "isLater", "Z", false)
  | 60 => ("SignMachineModel", "laterIs", "I", false)
  | 61 => ("SignMachineModel", "labelKind", "I", false)
  | 62 => ("SignMachineModel", "labelIs", "J", false)
  | _ => ("SignMachineModel", "laterValue", "[J", true)
def ft_X : Nat → FieldType := fun k => match k with
  | 0 => .array .int
  | 1 => .array .int
  | 2 => .array .int
  | 3 => .array .int
  | 4 => .int
  | 5 => .int
  | 6 => .int
  | 7 => .int
  | 8 => .int
  | 9 => .array .int
  | 10 => .array .int
  | 11 => .array .int
  | 12 => .int
  | 13 => .int
  | 14 => .int
  | 15 => .int
  | 16 => .int
  | 17 => .int
  | 18 => .int
  | 19 => .array .int
  | 20 => .array .int
  | 21 => .array .int
  | 22 => .int
  | 23 => .int
  | 24 => .int
  | 25 => .int
  | 26 => .int
  | 27 => .int
  | 28 => .int
  | 29 => .int
  | 30 => .int
  | 31 => .int
  | 32 => .boolean
  | 33 => .array .long
  | 34 => .array .boolean
  | 35 => .array .long
  | 36 => .int
  | 37 => .array .boolean
  | 38 => .array .long
  | 39 => .int
  | 40 => .long
  | 41 => .array .int
  | 42 => .array .int
  | 43 => .array .int
  | 44 => .int
  | 45 => .array .int
  | 46 => .array .int
  | 47 => .array .int
  | 48 => .array .boolean
  | 49 => .int
  | 50 => .array .int
  | 51 => .int
  | 52 => .array .long
  | 53 => .int
  | 54 => .int
  | 55 => .long
  | 56 => .int
  | 57 => .int
  | 58 => .int
  | 59 => .boolean
  | 60 => .int
  | 61 => .int
  | 62 => .long
  | _ => .array .long
theorem fn_X : ∀ a, a < 64 → ∀ b, b < 64 → a ≠ b → (F_X a).2.1 ≠ (F_X b).2.1 := by decide +kernel
theorem ft_X_ok : ∀ k, k < 64 → parseFieldDescriptor (F_X k).2.2.1 = some (ft_X k) := by decide +kernel
theorem fi_X : ∀ w ∈ u_ws "SignMachineModel" F_X 64, w ∈ tb := fun w h => List.mem_filter.mpr ((show ∀ w ∈ u_ws "SignMachineModel" F_X 64, w ∈ lw_tbl ∧ goodWord w = true from by decide +kernel) w h)
abbrev classes : List vw_C := [("SignMachine", F_S, 2), ("SignMachine$Machine", F_M, 14), ("SignMachine$Tape", F_T, 2), ("SignMachine$Assembler", F_A, 15), ("SignMachine$Source", F_R, 9), ("SignMachine$Names", F_N, 7), ("SignMachine$Output", F_O, 7), ("SignMachineModel", F_X, 64)]
abbrev b_O_isWord : ByteArray := prog_6_method_5_code
abbrev y_O_isWord : MethodName := ⟨"SignMachine$Output", "isWord", "(I)Z"⟩
theorem h_O_isWord : (y_O_isWord).cls ≠ "java/lang/invoke/MethodHandle" ∧ (y_O_isWord).cls ≠ "java/lang/invoke/VarHandle" ∧ (parseMethodDescriptor (y_O_isWord).desc).map (fun d => d.parameters.length) = some 1 := by decide +kernel
theorem d_O_isWord_0 : decode b_O_isWord 0 = .ok (.iload_n 0, 1) := by decide +kernel
theorem d_O_isWord_1 : decode b_O_isWord 1 = .ok (.ifCond .lt 14, 3) := by decide +kernel
theorem d_O_isWord_4 : decode b_O_isWord 4 = .ok (.iload_n 0, 1) := by decide +kernel
theorem d_O_isWord_5 : decode b_O_isWord 5 = .ok (.sipush 1101, 3) := by decide +kernel
theorem d_O_isWord_8 : decode b_O_isWord 8 = .ok (.if_icmp .ge 7, 3) := by decide +kernel
theorem d_O_isWord_11 : decode b_O_isWord 11 = .ok (.iconst 1, 1) := by decide +kernel
theorem d_O_isWord_12 : decode b_O_isWord 12 = .ok (.goto 4, 3) := by decide +kernel
theorem d_O_isWord_15 : decode b_O_isWord 15 = .ok (.iconst 0, 1) := by decide +kernel
theorem d_O_isWord_16 : decode b_O_isWord 16 = .ok (.ireturn, 1) := by decide +kernel
abbrev b_M_isAddress : ByteArray := prog_3_method_2_code
abbrev y_M_isAddress : MethodName := ⟨"SignMachine$Machine", "isAddress", "(I)Z"⟩
theorem h_M_isAddress : (y_M_isAddress).cls ≠ "java/lang/invoke/MethodHandle" ∧ (y_M_isAddress).cls ≠ "java/lang/invoke/VarHandle" ∧ (parseMethodDescriptor (y_M_isAddress).desc).map (fun d => d.parameters.length) = some 1 := by decide +kernel
theorem d_M_isAddress_0 : decode b_M_isAddress 0 = .ok (.iload_n 0, 1) := by decide +kernel
theorem d_M_isAddress_1 : decode b_M_isAddress 1 = .ok (.ifCond .lt 14, 3) := by decide +kernel
theorem d_M_isAddress_4 : decode b_M_isAddress 4 = .ok (.iload_n 0, 1) := by decide +kernel
theorem d_M_isAddress_5 : decode b_M_isAddress 5 = .ok (.sipush 4000, 3) := by decide +kernel
theorem d_M_isAddress_8 : decode b_M_isAddress 8 = .ok (.if_icmp .ge 7, 3) := by decide +kernel
theorem d_M_isAddress_11 : decode b_M_isAddress 11 = .ok (.iconst 1, 1) := by decide +kernel
theorem d_M_isAddress_12 : decode b_M_isAddress 12 = .ok (.goto 4, 3) := by decide +kernel
theorem d_M_isAddress_15 : decode b_M_isAddress 15 = .ok (.iconst 0, 1) := by decide +kernel
theorem d_M_isAddress_16 : decode b_M_isAddress 16 = .ok (.ireturn, 1) := by decide +kernel
abbrev b_S_init : ByteArray := prog_1_method_1_code
abbrev y_S_init : MethodName := ⟨"SignMachine", "<init>", "()V"⟩
theorem h_S_init : (y_S_init).cls ≠ "java/lang/invoke/MethodHandle" ∧ (y_S_init).cls ≠ "java/lang/invoke/VarHandle" ∧ (parseMethodDescriptor (y_S_init).desc).map (fun d => d.parameters.length) = some 0 := by decide +kernel
theorem d_S_init_0 : decode b_S_init 0 = .ok (.aload_n 0, 1) := by decide +kernel
theorem d_S_init_1 : decode b_S_init 1 = .ok (.invokespecial 1, 3) := by decide +kernel
theorem d_S_init_4 : decode b_S_init 4 = .ok (.aload_n 0, 1) := by decide +kernel
theorem d_S_init_5 : decode b_S_init 5 = .ok (.new 7, 3) := by decide +kernel
theorem d_S_init_8 : decode b_S_init 8 = .ok (.dup, 1) := by decide +kernel
theorem d_S_init_9 : decode b_S_init 9 = .ok (.invokespecial 9, 3) := by decide +kernel
theorem d_S_init_12 : decode b_S_init 12 = .ok (.putfield 10, 3) := by decide +kernel
theorem d_S_init_15 : decode b_S_init 15 = .ok (.return_, 1) := by decide +kernel
abbrev b_M_init : ByteArray := prog_3_method_1_code
abbrev y_M_init : MethodName := ⟨"SignMachine$Machine", "<init>", "()V"⟩
theorem h_M_init : (y_M_init).cls ≠ "java/lang/invoke/MethodHandle" ∧ (y_M_init).cls ≠ "java/lang/invoke/VarHandle" ∧ (parseMethodDescriptor (y_M_init).desc).map (fun d => d.parameters.length) = some 0 := by decide +kernel
theorem d_M_init_0 : decode b_M_init 0 = .ok (.aload_n 0, 1) := by decide +kernel
theorem d_M_init_1 : decode b_M_init 1 = .ok (.invokespecial 3, 3) := by decide +kernel
theorem d_M_init_4 : decode b_M_init 4 = .ok (.aload_n 0, 1) := by decide +kernel
theorem d_M_init_5 : decode b_M_init 5 = .ok (.sipush 4000, 3) := by decide +kernel
theorem d_M_init_8 : decode b_M_init 8 = .ok (.newarray .int, 2) := by decide +kernel
theorem d_M_init_10 : decode b_M_init 10 = .ok (.putfield 9, 3) := by decide +kernel
theorem d_M_init_13 : decode b_M_init 13 = .ok (.aload_n 0, 1) := by decide +kernel
theorem d_M_init_14 : decode b_M_init 14 = .ok (.bipush 9, 2) := by decide +kernel
theorem d_M_init_16 : decode b_M_init 16 = .ok (.newarray .int, 2) := by decide +kernel
theorem d_M_init_18 : decode b_M_init 18 = .ok (.putfield 15, 3) := by decide +kernel
theorem d_M_init_21 : decode b_M_init 21 = .ok (.aload_n 0, 1) := by decide +kernel
theorem d_M_init_22 : decode b_M_init 22 = .ok (.new 18, 3) := by decide +kernel
theorem d_M_init_25 : decode b_M_init 25 = .ok (.dup, 1) := by decide +kernel
theorem d_M_init_26 : decode b_M_init 26 = .ok (.invokespecial 20, 3) := by decide +kernel
theorem d_M_init_29 : decode b_M_init 29 = .ok (.putfield 21, 3) := by decide +kernel
theorem d_M_init_32 : decode b_M_init 32 = .ok (.aload_n 0, 1) := by decide +kernel
theorem d_M_init_33 : decode b_M_init 33 = .ok (.new 18, 3) := by decide +kernel
theorem d_M_init_36 : decode b_M_init 36 = .ok (.dup, 1) := by decide +kernel
theorem d_M_init_37 : decode b_M_init 37 = .ok (.invokespecial 20, 3) := by decide +kernel
theorem d_M_init_40 : decode b_M_init 40 = .ok (.putfield 25, 3) := by decide +kernel
theorem d_M_init_43 : decode b_M_init 43 = .ok (.return_, 1) := by decide +kernel
abbrev b_T_init : ByteArray := prog_8_method_1_code
abbrev y_T_init : MethodName := ⟨"SignMachine$Tape", "<init>", "()V"⟩
theorem h_T_init : (y_T_init).cls ≠ "java/lang/invoke/MethodHandle" ∧ (y_T_init).cls ≠ "java/lang/invoke/VarHandle" ∧ (parseMethodDescriptor (y_T_init).desc).map (fun d => d.parameters.length) = some 0 := by decide +kernel
theorem d_T_init_0 : decode b_T_init 0 = .ok (.aload_n 0, 1) := by decide +kernel
theorem d_T_init_1 : decode b_T_init 1 = .ok (.invokespecial 1, 3) := by decide +kernel
theorem d_T_init_4 : decode b_T_init 4 = .ok (.return_, 1) := by decide +kernel
abbrev b_S_poke : ByteArray := prog_1_method_2_code
abbrev y_S_poke : MethodName := ⟨"SignMachine", "poke", "(III)Z"⟩
theorem h_S_poke : (y_S_poke).cls ≠ "java/lang/invoke/MethodHandle" ∧ (y_S_poke).cls ≠ "java/lang/invoke/VarHandle" ∧ (parseMethodDescriptor (y_S_poke).desc).map (fun d => d.parameters.length) = some 3 := by decide +kernel
theorem d_S_poke_0 : decode b_S_poke 0 = .ok (.iload_n 1, 1) := by decide +kernel
theorem d_S_poke_1 : decode b_S_poke 1 = .ok (.invokestatic 16, 3) := by decide +kernel
theorem d_S_poke_4 : decode b_S_poke 4 = .ok (.ifCond .eq 11, 3) := by decide +kernel
theorem d_S_poke_7 : decode b_S_poke 7 = .ok (.iload_n 2, 1) := by decide +kernel
theorem d_S_poke_8 : decode b_S_poke 8 = .ok (.iload_n 3, 1) := by decide +kernel
theorem d_S_poke_9 : decode b_S_poke 9 = .ok (.invokestatic 20, 3) := by decide +kernel
theorem d_S_poke_12 : decode b_S_poke 12 = .ok (.ifCond .ne 5, 3) := by decide +kernel
theorem d_S_poke_15 : decode b_S_poke 15 = .ok (.iconst 0, 1) := by decide +kernel
theorem d_S_poke_16 : decode b_S_poke 16 = .ok (.ireturn, 1) := by decide +kernel
theorem d_S_poke_17 : decode b_S_poke 17 = .ok (.aload_n 0, 1) := by decide +kernel
theorem d_S_poke_18 : decode b_S_poke 18 = .ok (.getfield 10, 3) := by decide +kernel
theorem d_S_poke_21 : decode b_S_poke 21 = .ok (.iload_n 1, 1) := by decide +kernel
theorem d_S_poke_22 : decode b_S_poke 22 = .ok (.iload_n 2, 1) := by decide +kernel
theorem d_S_poke_23 : decode b_S_poke 23 = .ok (.iload_n 3, 1) := by decide +kernel
theorem d_S_poke_24 : decode b_S_poke 24 = .ok (.invokestatic 26, 3) := by decide +kernel
theorem d_S_poke_27 : decode b_S_poke 27 = .ok (.invokevirtual 30, 3) := by decide +kernel
theorem d_S_poke_30 : decode b_S_poke 30 = .ok (.iconst 1, 1) := by decide +kernel
theorem d_S_poke_31 : decode b_S_poke 31 = .ok (.ireturn, 1) := by decide +kernel
abbrev b_W_isWord : ByteArray := prog_9_method_2_code
abbrev y_W_isWord : MethodName := ⟨"SignMachine$Word", "isWord", "(II)Z"⟩
theorem h_W_isWord : (y_W_isWord).cls ≠ "java/lang/invoke/MethodHandle" ∧ (y_W_isWord).cls ≠ "java/lang/invoke/VarHandle" ∧ (parseMethodDescriptor (y_W_isWord).desc).map (fun d => d.parameters.length) = some 2 := by decide +kernel
theorem d_W_isWord_0 : decode b_W_isWord 0 = .ok (.iload_n 0, 1) := by decide +kernel
theorem d_W_isWord_1 : decode b_W_isWord 1 = .ok (.ifCond .eq 8, 3) := by decide +kernel
theorem d_W_isWord_4 : decode b_W_isWord 4 = .ok (.iload_n 0, 1) := by decide +kernel
theorem d_W_isWord_5 : decode b_W_isWord 5 = .ok (.iconst 1, 1) := by decide +kernel
theorem d_W_isWord_6 : decode b_W_isWord 6 = .ok (.if_icmp .ne 17, 3) := by decide +kernel
theorem d_W_isWord_9 : decode b_W_isWord 9 = .ok (.iload_n 1, 1) := by decide +kernel
theorem d_W_isWord_10 : decode b_W_isWord 10 = .ok (.ifCond .lt 13, 3) := by decide +kernel
theorem d_W_isWord_13 : decode b_W_isWord 13 = .ok (.iload_n 1, 1) := by decide +kernel
theorem d_W_isWord_14 : decode b_W_isWord 14 = .ok (.ldc 9, 2) := by decide +kernel
theorem d_W_isWord_16 : decode b_W_isWord 16 = .ok (.if_icmp .gt 7, 3) := by decide +kernel
theorem d_W_isWord_19 : decode b_W_isWord 19 = .ok (.iconst 1, 1) := by decide +kernel
theorem d_W_isWord_20 : decode b_W_isWord 20 = .ok (.goto 4, 3) := by decide +kernel
theorem d_W_isWord_23 : decode b_W_isWord 23 = .ok (.iconst 0, 1) := by decide +kernel
theorem d_W_isWord_24 : decode b_W_isWord 24 = .ok (.ireturn, 1) := by decide +kernel
abbrev b_W_make : ByteArray := prog_9_method_3_code
abbrev y_W_make : MethodName := ⟨"SignMachine$Word", "make", "(II)I"⟩
theorem h_W_make : (y_W_make).cls ≠ "java/lang/invoke/MethodHandle" ∧ (y_W_make).cls ≠ "java/lang/invoke/VarHandle" ∧ (parseMethodDescriptor (y_W_make).desc).map (fun d => d.parameters.length) = some 2 := by decide +kernel
theorem d_W_make_0 : decode b_W_make 0 = .ok (.iload_n 0, 1) := by decide +kernel
theorem d_W_make_1 : decode b_W_make 1 = .ok (.ifCond .ne 7, 3) := by decide +kernel
theorem d_W_make_4 : decode b_W_make 4 = .ok (.iload_n 1, 1) := by decide +kernel
theorem d_W_make_5 : decode b_W_make 5 = .ok (.goto 7, 3) := by decide +kernel
theorem d_W_make_8 : decode b_W_make 8 = .ok (.iload_n 1, 1) := by decide +kernel
theorem d_W_make_9 : decode b_W_make 9 = .ok (.ldc 10, 2) := by decide +kernel
theorem d_W_make_11 : decode b_W_make 11 = .ok (.ior, 1) := by decide +kernel
theorem d_W_make_12 : decode b_W_make 12 = .ok (.ireturn, 1) := by decide +kernel
abbrev b_M_putWord : ByteArray := prog_3_method_7_code
abbrev y_M_putWord : MethodName := ⟨"SignMachine$Machine", "putWord", "(II)V"⟩
theorem h_M_putWord : (y_M_putWord).cls ≠ "java/lang/invoke/MethodHandle" ∧ (y_M_putWord).cls ≠ "java/lang/invoke/VarHandle" ∧ (parseMethodDescriptor (y_M_putWord).desc).map (fun d => d.parameters.length) = some 2 := by decide +kernel
theorem d_M_putWord_0 : decode b_M_putWord 0 = .ok (.iload_n 1, 1) := by decide +kernel
theorem d_M_putWord_1 : decode b_M_putWord 1 = .ok (.ifCond .lt 17, 3) := by decide +kernel
theorem d_M_putWord_4 : decode b_M_putWord 4 = .ok (.iload_n 1, 1) := by decide +kernel
theorem d_M_putWord_5 : decode b_M_putWord 5 = .ok (.sipush 4000, 3) := by decide +kernel
theorem d_M_putWord_8 : decode b_M_putWord 8 = .ok (.if_icmp .ge 10, 3) := by decide +kernel
theorem d_M_putWord_11 : decode b_M_putWord 11 = .ok (.aload_n 0, 1) := by decide +kernel
theorem d_M_putWord_12 : decode b_M_putWord 12 = .ok (.getfield 9, 3) := by decide +kernel
theorem d_M_putWord_15 : decode b_M_putWord 15 = .ok (.iload_n 1, 1) := by decide +kernel
theorem d_M_putWord_16 : decode b_M_putWord 16 = .ok (.iload_n 2, 1) := by decide +kernel
theorem d_M_putWord_17 : decode b_M_putWord 17 = .ok (.iastore, 1) := by decide +kernel
theorem d_M_putWord_18 : decode b_M_putWord 18 = .ok (.return_, 1) := by decide +kernel
abbrev b_S_peekSign : ByteArray := prog_1_method_3_code
abbrev y_S_peekSign : MethodName := ⟨"SignMachine", "peekSign", "(I)I"⟩
theorem h_S_peekSign : (y_S_peekSign).cls ≠ "java/lang/invoke/MethodHandle" ∧ (y_S_peekSign).cls ≠ "java/lang/invoke/VarHandle" ∧ (parseMethodDescriptor (y_S_peekSign).desc).map (fun d => d.parameters.length) = some 1 := by decide +kernel
theorem d_S_peekSign_0 : decode b_S_peekSign 0 = .ok (.iload_n 1, 1) := by decide +kernel
theorem d_S_peekSign_1 : decode b_S_peekSign 1 = .ok (.invokestatic 16, 3) := by decide +kernel
theorem d_S_peekSign_4 : decode b_S_peekSign 4 = .ok (.ifCond .eq 17, 3) := by decide +kernel
theorem d_S_peekSign_7 : decode b_S_peekSign 7 = .ok (.aload_n 0, 1) := by decide +kernel
theorem d_S_peekSign_8 : decode b_S_peekSign 8 = .ok (.getfield 10, 3) := by decide +kernel
theorem d_S_peekSign_11 : decode b_S_peekSign 11 = .ok (.iload_n 1, 1) := by decide +kernel
theorem d_S_peekSign_12 : decode b_S_peekSign 12 = .ok (.invokevirtual 34, 3) := by decide +kernel
theorem d_S_peekSign_15 : decode b_S_peekSign 15 = .ok (.invokestatic 38, 3) := by decide +kernel
theorem d_S_peekSign_18 : decode b_S_peekSign 18 = .ok (.goto 4, 3) := by decide +kernel
theorem d_S_peekSign_21 : decode b_S_peekSign 21 = .ok (.iconst (-1), 1) := by decide +kernel
theorem d_S_peekSign_22 : decode b_S_peekSign 22 = .ok (.ireturn, 1) := by decide +kernel
abbrev b_M_wordAt : ByteArray := prog_3_method_6_code
abbrev y_M_wordAt : MethodName := ⟨"SignMachine$Machine", "wordAt", "(I)I"⟩
theorem h_M_wordAt : (y_M_wordAt).cls ≠ "java/lang/invoke/MethodHandle" ∧ (y_M_wordAt).cls ≠ "java/lang/invoke/VarHandle" ∧ (parseMethodDescriptor (y_M_wordAt).desc).map (fun d => d.parameters.length) = some 1 := by decide +kernel
theorem d_M_wordAt_0 : decode b_M_wordAt 0 = .ok (.iload_n 1, 1) := by decide +kernel
theorem d_M_wordAt_1 : decode b_M_wordAt 1 = .ok (.ifCond .lt 19, 3) := by decide +kernel
theorem d_M_wordAt_4 : decode b_M_wordAt 4 = .ok (.iload_n 1, 1) := by decide +kernel
theorem d_M_wordAt_5 : decode b_M_wordAt 5 = .ok (.sipush 4000, 3) := by decide +kernel
theorem d_M_wordAt_8 : decode b_M_wordAt 8 = .ok (.if_icmp .ge 12, 3) := by decide +kernel
theorem d_M_wordAt_11 : decode b_M_wordAt 11 = .ok (.aload_n 0, 1) := by decide +kernel
theorem d_M_wordAt_12 : decode b_M_wordAt 12 = .ok (.getfield 9, 3) := by decide +kernel
theorem d_M_wordAt_15 : decode b_M_wordAt 15 = .ok (.iload_n 1, 1) := by decide +kernel
theorem d_M_wordAt_16 : decode b_M_wordAt 16 = .ok (.iaload, 1) := by decide +kernel
theorem d_M_wordAt_17 : decode b_M_wordAt 17 = .ok (.goto 4, 3) := by decide +kernel
theorem d_M_wordAt_20 : decode b_M_wordAt 20 = .ok (.iconst 0, 1) := by decide +kernel
theorem d_M_wordAt_21 : decode b_M_wordAt 21 = .ok (.ireturn, 1) := by decide +kernel
abbrev b_W_sign : ByteArray := prog_9_method_4_code
abbrev y_W_sign : MethodName := ⟨"SignMachine$Word", "sign", "(I)I"⟩
theorem h_W_sign : (y_W_sign).cls ≠ "java/lang/invoke/MethodHandle" ∧ (y_W_sign).cls ≠ "java/lang/invoke/VarHandle" ∧ (parseMethodDescriptor (y_W_sign).desc).map (fun d => d.parameters.length) = some 1 := by decide +kernel
theorem d_W_sign_0 : decode b_W_sign 0 = .ok (.iload_n 0, 1) := by decide +kernel
theorem d_W_sign_1 : decode b_W_sign 1 = .ok (.ldc 10, 2) := by decide +kernel
theorem d_W_sign_3 : decode b_W_sign 3 = .ok (.iand, 1) := by decide +kernel
theorem d_W_sign_4 : decode b_W_sign 4 = .ok (.ifCond .ne 7, 3) := by decide +kernel
theorem d_W_sign_7 : decode b_W_sign 7 = .ok (.iconst 0, 1) := by decide +kernel
theorem d_W_sign_8 : decode b_W_sign 8 = .ok (.goto 4, 3) := by decide +kernel
theorem d_W_sign_11 : decode b_W_sign 11 = .ok (.iconst 1, 1) := by decide +kernel
theorem d_W_sign_12 : decode b_W_sign 12 = .ok (.ireturn, 1) := by decide +kernel
abbrev b_S_peekSize : ByteArray := prog_1_method_4_code
abbrev y_S_peekSize : MethodName := ⟨"SignMachine", "peekSize", "(I)I"⟩
theorem h_S_peekSize : (y_S_peekSize).cls ≠ "java/lang/invoke/MethodHandle" ∧ (y_S_peekSize).cls ≠ "java/lang/invoke/VarHandle" ∧ (parseMethodDescriptor (y_S_peekSize).desc).map (fun d => d.parameters.length) = some 1 := by decide +kernel
theorem d_S_peekSize_0 : decode b_S_peekSize 0 = .ok (.iload_n 1, 1) := by decide +kernel
theorem d_S_peekSize_1 : decode b_S_peekSize 1 = .ok (.invokestatic 16, 3) := by decide +kernel
theorem d_S_peekSize_4 : decode b_S_peekSize 4 = .ok (.ifCond .eq 17, 3) := by decide +kernel
theorem d_S_peekSize_7 : decode b_S_peekSize 7 = .ok (.aload_n 0, 1) := by decide +kernel
theorem d_S_peekSize_8 : decode b_S_peekSize 8 = .ok (.getfield 10, 3) := by decide +kernel
theorem d_S_peekSize_11 : decode b_S_peekSize 11 = .ok (.iload_n 1, 1) := by decide +kernel
theorem d_S_peekSize_12 : decode b_S_peekSize 12 = .ok (.invokevirtual 34, 3) := by decide +kernel
theorem d_S_peekSize_15 : decode b_S_peekSize 15 = .ok (.invokestatic 41, 3) := by decide +kernel
theorem d_S_peekSize_18 : decode b_S_peekSize 18 = .ok (.goto 4, 3) := by decide +kernel
theorem d_S_peekSize_21 : decode b_S_peekSize 21 = .ok (.iconst (-1), 1) := by decide +kernel
theorem d_S_peekSize_22 : decode b_S_peekSize 22 = .ok (.ireturn, 1) := by decide +kernel
abbrev b_W_size : ByteArray := prog_9_method_5_code
abbrev y_W_size : MethodName := ⟨"SignMachine$Word", "size", "(I)I"⟩
theorem h_W_size : (y_W_size).cls ≠ "java/lang/invoke/MethodHandle" ∧ (y_W_size).cls ≠ "java/lang/invoke/VarHandle" ∧ (parseMethodDescriptor (y_W_size).desc).map (fun d => d.parameters.length) = some 1 := by decide +kernel
theorem d_W_size_0 : decode b_W_size 0 = .ok (.iload_n 0, 1) := by decide +kernel
theorem d_W_size_1 : decode b_W_size 1 = .ok (.ldc 9, 2) := by decide +kernel
theorem d_W_size_3 : decode b_W_size 3 = .ok (.iand, 1) := by decide +kernel
theorem d_W_size_4 : decode b_W_size 4 = .ok (.ireturn, 1) := by decide +kernel
abbrev b_S_registerSign : ByteArray := prog_1_method_7_code
abbrev y_S_registerSign : MethodName := ⟨"SignMachine", "registerSign", "(I)I"⟩
theorem h_S_registerSign : (y_S_registerSign).cls ≠ "java/lang/invoke/MethodHandle" ∧ (y_S_registerSign).cls ≠ "java/lang/invoke/VarHandle" ∧ (parseMethodDescriptor (y_S_registerSign).desc).map (fun d => d.parameters.length) = some 1 := by decide +kernel
theorem d_S_registerSign_0 : decode b_S_registerSign 0 = .ok (.iload_n 1, 1) := by decide +kernel
theorem d_S_registerSign_1 : decode b_S_registerSign 1 = .ok (.invokestatic 52, 3) := by decide +kernel
theorem d_S_registerSign_4 : decode b_S_registerSign 4 = .ok (.ifCond .eq 17, 3) := by decide +kernel
theorem d_S_registerSign_7 : decode b_S_registerSign 7 = .ok (.aload_n 0, 1) := by decide +kernel
theorem d_S_registerSign_8 : decode b_S_registerSign 8 = .ok (.getfield 10, 3) := by decide +kernel
theorem d_S_registerSign_11 : decode b_S_registerSign 11 = .ok (.iload_n 1, 1) := by decide +kernel
theorem d_S_registerSign_12 : decode b_S_registerSign 12 = .ok (.invokevirtual 55, 3) := by decide +kernel
theorem d_S_registerSign_15 : decode b_S_registerSign 15 = .ok (.invokestatic 38, 3) := by decide +kernel
theorem d_S_registerSign_18 : decode b_S_registerSign 18 = .ok (.goto 4, 3) := by decide +kernel
theorem d_S_registerSign_21 : decode b_S_registerSign 21 = .ok (.iconst (-1), 1) := by decide +kernel
theorem d_S_registerSign_22 : decode b_S_registerSign 22 = .ok (.ireturn, 1) := by decide +kernel
abbrev b_M_isRegister : ByteArray := prog_3_method_3_code
abbrev y_M_isRegister : MethodName := ⟨"SignMachine$Machine", "isRegister", "(I)Z"⟩
theorem h_M_isRegister : (y_M_isRegister).cls ≠ "java/lang/invoke/MethodHandle" ∧ (y_M_isRegister).cls ≠ "java/lang/invoke/VarHandle" ∧ (parseMethodDescriptor (y_M_isRegister).desc).map (fun d => d.parameters.length) = some 1 := by decide +kernel
theorem d_M_isRegister_0 : decode b_M_isRegister 0 = .ok (.iload_n 0, 1) := by decide +kernel
theorem d_M_isRegister_1 : decode b_M_isRegister 1 = .ok (.ifCond .lt 13, 3) := by decide +kernel
theorem d_M_isRegister_4 : decode b_M_isRegister 4 = .ok (.iload_n 0, 1) := by decide +kernel
theorem d_M_isRegister_5 : decode b_M_isRegister 5 = .ok (.bipush 9, 2) := by decide +kernel
theorem d_M_isRegister_7 : decode b_M_isRegister 7 = .ok (.if_icmp .ge 7, 3) := by decide +kernel
theorem d_M_isRegister_10 : decode b_M_isRegister 10 = .ok (.iconst 1, 1) := by decide +kernel
theorem d_M_isRegister_11 : decode b_M_isRegister 11 = .ok (.goto 4, 3) := by decide +kernel
theorem d_M_isRegister_14 : decode b_M_isRegister 14 = .ok (.iconst 0, 1) := by decide +kernel
theorem d_M_isRegister_15 : decode b_M_isRegister 15 = .ok (.ireturn, 1) := by decide +kernel
abbrev b_M_register : ByteArray := prog_3_method_8_code
abbrev y_M_register : MethodName := ⟨"SignMachine$Machine", "register", "(I)I"⟩
theorem h_M_register : (y_M_register).cls ≠ "java/lang/invoke/MethodHandle" ∧ (y_M_register).cls ≠ "java/lang/invoke/VarHandle" ∧ (parseMethodDescriptor (y_M_register).desc).map (fun d => d.parameters.length) = some 1 := by decide +kernel
theorem d_M_register_0 : decode b_M_register 0 = .ok (.iload_n 1, 1) := by decide +kernel
theorem d_M_register_1 : decode b_M_register 1 = .ok (.ifCond .lt 18, 3) := by decide +kernel
theorem d_M_register_4 : decode b_M_register 4 = .ok (.iload_n 1, 1) := by decide +kernel
theorem d_M_register_5 : decode b_M_register 5 = .ok (.bipush 9, 2) := by decide +kernel
theorem d_M_register_7 : decode b_M_register 7 = .ok (.if_icmp .ge 12, 3) := by decide +kernel
theorem d_M_register_10 : decode b_M_register 10 = .ok (.aload_n 0, 1) := by decide +kernel
theorem d_M_register_11 : decode b_M_register 11 = .ok (.getfield 15, 3) := by decide +kernel
theorem d_M_register_14 : decode b_M_register 14 = .ok (.iload_n 1, 1) := by decide +kernel
theorem d_M_register_15 : decode b_M_register 15 = .ok (.iaload, 1) := by decide +kernel
theorem d_M_register_16 : decode b_M_register 16 = .ok (.goto 4, 3) := by decide +kernel
theorem d_M_register_19 : decode b_M_register 19 = .ok (.iconst 0, 1) := by decide +kernel
theorem d_M_register_20 : decode b_M_register 20 = .ok (.ireturn, 1) := by decide +kernel
abbrev b_S_registerSize : ByteArray := prog_1_method_8_code
abbrev y_S_registerSize : MethodName := ⟨"SignMachine", "registerSize", "(I)I"⟩
theorem h_S_registerSize : (y_S_registerSize).cls ≠ "java/lang/invoke/MethodHandle" ∧ (y_S_registerSize).cls ≠ "java/lang/invoke/VarHandle" ∧ (parseMethodDescriptor (y_S_registerSize).desc).map (fun d => d.parameters.length) = some 1 := by decide +kernel
theorem d_S_registerSize_0 : decode b_S_registerSize 0 = .ok (.iload_n 1, 1) := by decide +kernel
theorem d_S_registerSize_1 : decode b_S_registerSize 1 = .ok (.invokestatic 52, 3) := by decide +kernel
theorem d_S_registerSize_4 : decode b_S_registerSize 4 = .ok (.ifCond .eq 17, 3) := by decide +kernel
theorem d_S_registerSize_7 : decode b_S_registerSize 7 = .ok (.aload_n 0, 1) := by decide +kernel
theorem d_S_registerSize_8 : decode b_S_registerSize 8 = .ok (.getfield 10, 3) := by decide +kernel
theorem d_S_registerSize_11 : decode b_S_registerSize 11 = .ok (.iload_n 1, 1) := by decide +kernel
theorem d_S_registerSize_12 : decode b_S_registerSize 12 = .ok (.invokevirtual 55, 3) := by decide +kernel
theorem d_S_registerSize_15 : decode b_S_registerSize 15 = .ok (.invokestatic 41, 3) := by decide +kernel
theorem d_S_registerSize_18 : decode b_S_registerSize 18 = .ok (.goto 4, 3) := by decide +kernel
theorem d_S_registerSize_21 : decode b_S_registerSize 21 = .ok (.iconst (-1), 1) := by decide +kernel
theorem d_S_registerSize_22 : decode b_S_registerSize 22 = .ok (.ireturn, 1) := by decide +kernel
abbrev b_S_set : ByteArray := prog_1_method_9_code
abbrev y_S_set : MethodName := ⟨"SignMachine", "set", "(III)Z"⟩
theorem h_S_set : (y_S_set).cls ≠ "java/lang/invoke/MethodHandle" ∧ (y_S_set).cls ≠ "java/lang/invoke/VarHandle" ∧ (parseMethodDescriptor (y_S_set).desc).map (fun d => d.parameters.length) = some 3 := by decide +kernel
theorem d_S_set_0 : decode b_S_set 0 = .ok (.iload_n 1, 1) := by decide +kernel
theorem d_S_set_1 : decode b_S_set 1 = .ok (.invokestatic 52, 3) := by decide +kernel
theorem d_S_set_4 : decode b_S_set 4 = .ok (.ifCond .eq 11, 3) := by decide +kernel
theorem d_S_set_7 : decode b_S_set 7 = .ok (.iload_n 2, 1) := by decide +kernel
theorem d_S_set_8 : decode b_S_set 8 = .ok (.iload_n 3, 1) := by decide +kernel
theorem d_S_set_9 : decode b_S_set 9 = .ok (.invokestatic 20, 3) := by decide +kernel
theorem d_S_set_12 : decode b_S_set 12 = .ok (.ifCond .ne 5, 3) := by decide +kernel
theorem d_S_set_15 : decode b_S_set 15 = .ok (.iconst 0, 1) := by decide +kernel
theorem d_S_set_16 : decode b_S_set 16 = .ok (.ireturn, 1) := by decide +kernel
theorem d_S_set_17 : decode b_S_set 17 = .ok (.iload_n 1, 1) := by decide +kernel
theorem d_S_set_18 : decode b_S_set 18 = .ok (.invokestatic 58, 3) := by decide +kernel
theorem d_S_set_21 : decode b_S_set 21 = .ok (.ifCond .eq 12, 3) := by decide +kernel
theorem d_S_set_24 : decode b_S_set 24 = .ok (.iload_n 3, 1) := by decide +kernel
theorem d_S_set_25 : decode b_S_set 25 = .ok (.sipush 4095, 3) := by decide +kernel
theorem d_S_set_28 : decode b_S_set 28 = .ok (.if_icmp .le 5, 3) := by decide +kernel
theorem d_S_set_31 : decode b_S_set 31 = .ok (.iconst 0, 1) := by decide +kernel
theorem d_S_set_32 : decode b_S_set 32 = .ok (.ireturn, 1) := by decide +kernel
theorem d_S_set_33 : decode b_S_set 33 = .ok (.iload_n 1, 1) := by decide +kernel
theorem d_S_set_34 : decode b_S_set 34 = .ok (.bipush 8, 2) := by decide +kernel
theorem d_S_set_36 : decode b_S_set 36 = .ok (.if_icmp .ne 9, 3) := by decide +kernel
theorem d_S_set_39 : decode b_S_set 39 = .ok (.iload_n 2, 1) := by decide +kernel
theorem d_S_set_40 : decode b_S_set 40 = .ok (.ifCond .eq 5, 3) := by decide +kernel
theorem d_S_set_43 : decode b_S_set 43 = .ok (.iconst 0, 1) := by decide +kernel
theorem d_S_set_44 : decode b_S_set 44 = .ok (.ireturn, 1) := by decide +kernel
theorem d_S_set_45 : decode b_S_set 45 = .ok (.aload_n 0, 1) := by decide +kernel
theorem d_S_set_46 : decode b_S_set 46 = .ok (.getfield 10, 3) := by decide +kernel
theorem d_S_set_49 : decode b_S_set 49 = .ok (.iload_n 1, 1) := by decide +kernel
theorem d_S_set_50 : decode b_S_set 50 = .ok (.iload_n 2, 1) := by decide +kernel
theorem d_S_set_51 : decode b_S_set 51 = .ok (.iload_n 3, 1) := by decide +kernel
theorem d_S_set_52 : decode b_S_set 52 = .ok (.invokestatic 26, 3) := by decide +kernel
theorem d_S_set_55 : decode b_S_set 55 = .ok (.invokevirtual 61, 3) := by decide +kernel
theorem d_S_set_58 : decode b_S_set 58 = .ok (.iconst 1, 1) := by decide +kernel
theorem d_S_set_59 : decode b_S_set 59 = .ok (.ireturn, 1) := by decide +kernel
abbrev b_M_isIndex : ByteArray := prog_3_method_4_code
abbrev y_M_isIndex : MethodName := ⟨"SignMachine$Machine", "isIndex", "(I)Z"⟩
theorem h_M_isIndex : (y_M_isIndex).cls ≠ "java/lang/invoke/MethodHandle" ∧ (y_M_isIndex).cls ≠ "java/lang/invoke/VarHandle" ∧ (parseMethodDescriptor (y_M_isIndex).desc).map (fun d => d.parameters.length) = some 1 := by decide +kernel
theorem d_M_isIndex_0 : decode b_M_isIndex 0 = .ok (.iload_n 0, 1) := by decide +kernel
theorem d_M_isIndex_1 : decode b_M_isIndex 1 = .ok (.iconst 1, 1) := by decide +kernel
theorem d_M_isIndex_2 : decode b_M_isIndex 2 = .ok (.if_icmp .lt 13, 3) := by decide +kernel
theorem d_M_isIndex_5 : decode b_M_isIndex 5 = .ok (.iload_n 0, 1) := by decide +kernel
theorem d_M_isIndex_6 : decode b_M_isIndex 6 = .ok (.bipush 6, 2) := by decide +kernel
theorem d_M_isIndex_8 : decode b_M_isIndex 8 = .ok (.if_icmp .gt 7, 3) := by decide +kernel
theorem d_M_isIndex_11 : decode b_M_isIndex 11 = .ok (.iconst 1, 1) := by decide +kernel
theorem d_M_isIndex_12 : decode b_M_isIndex 12 = .ok (.goto 4, 3) := by decide +kernel
theorem d_M_isIndex_15 : decode b_M_isIndex 15 = .ok (.iconst 0, 1) := by decide +kernel
theorem d_M_isIndex_16 : decode b_M_isIndex 16 = .ok (.ireturn, 1) := by decide +kernel
abbrev b_M_isShort : ByteArray := prog_3_method_5_code
abbrev y_M_isShort : MethodName := ⟨"SignMachine$Machine", "isShort", "(I)Z"⟩
theorem h_M_isShort : (y_M_isShort).cls ≠ "java/lang/invoke/MethodHandle" ∧ (y_M_isShort).cls ≠ "java/lang/invoke/VarHandle" ∧ (parseMethodDescriptor (y_M_isShort).desc).map (fun d => d.parameters.length) = some 1 := by decide +kernel
theorem d_M_isShort_0 : decode b_M_isShort 0 = .ok (.iload_n 0, 1) := by decide +kernel
theorem d_M_isShort_1 : decode b_M_isShort 1 = .ok (.invokestatic 28, 3) := by decide +kernel
theorem d_M_isShort_4 : decode b_M_isShort 4 = .ok (.ifCond .ne 9, 3) := by decide +kernel
theorem d_M_isShort_7 : decode b_M_isShort 7 = .ok (.iload_n 0, 1) := by decide +kernel
theorem d_M_isShort_8 : decode b_M_isShort 8 = .ok (.bipush 8, 2) := by decide +kernel
theorem d_M_isShort_10 : decode b_M_isShort 10 = .ok (.if_icmp .ne 7, 3) := by decide +kernel
theorem d_M_isShort_13 : decode b_M_isShort 13 = .ok (.iconst 1, 1) := by decide +kernel
theorem d_M_isShort_14 : decode b_M_isShort 14 = .ok (.goto 4, 3) := by decide +kernel
theorem d_M_isShort_17 : decode b_M_isShort 17 = .ok (.iconst 0, 1) := by decide +kernel
theorem d_M_isShort_18 : decode b_M_isShort 18 = .ok (.ireturn, 1) := by decide +kernel
abbrev b_M_putRegister : ByteArray := prog_3_method_9_code
abbrev y_M_putRegister : MethodName := ⟨"SignMachine$Machine", "putRegister", "(II)V"⟩
theorem h_M_putRegister : (y_M_putRegister).cls ≠ "java/lang/invoke/MethodHandle" ∧ (y_M_putRegister).cls ≠ "java/lang/invoke/VarHandle" ∧ (parseMethodDescriptor (y_M_putRegister).desc).map (fun d => d.parameters.length) = some 2 := by decide +kernel
theorem d_M_putRegister_0 : decode b_M_putRegister 0 = .ok (.iload_n 1, 1) := by decide +kernel
theorem d_M_putRegister_1 : decode b_M_putRegister 1 = .ok (.ifCond .lt 16, 3) := by decide +kernel
theorem d_M_putRegister_4 : decode b_M_putRegister 4 = .ok (.iload_n 1, 1) := by decide +kernel
theorem d_M_putRegister_5 : decode b_M_putRegister 5 = .ok (.bipush 9, 2) := by decide +kernel
theorem d_M_putRegister_7 : decode b_M_putRegister 7 = .ok (.if_icmp .ge 10, 3) := by decide +kernel
theorem d_M_putRegister_10 : decode b_M_putRegister 10 = .ok (.aload_n 0, 1) := by decide +kernel
theorem d_M_putRegister_11 : decode b_M_putRegister 11 = .ok (.getfield 15, 3) := by decide +kernel
theorem d_M_putRegister_14 : decode b_M_putRegister 14 = .ok (.iload_n 1, 1) := by decide +kernel
theorem d_M_putRegister_15 : decode b_M_putRegister 15 = .ok (.iload_n 2, 1) := by decide +kernel
theorem d_M_putRegister_16 : decode b_M_putRegister 16 = .ok (.iastore, 1) := by decide +kernel
theorem d_M_putRegister_17 : decode b_M_putRegister 17 = .ok (.return_, 1) := by decide +kernel
abbrev b_S_state : ByteArray := prog_1_method_10_code
abbrev y_S_state : MethodName := ⟨"SignMachine", "state", "(I)I"⟩
theorem h_S_state : (y_S_state).cls ≠ "java/lang/invoke/MethodHandle" ∧ (y_S_state).cls ≠ "java/lang/invoke/VarHandle" ∧ (parseMethodDescriptor (y_S_state).desc).map (fun d => d.parameters.length) = some 1 := by decide +kernel
theorem d_S_state_0 : decode b_S_state 0 = .ok (.iload_n 1, 1) := by decide +kernel
theorem d_S_state_1 : decode b_S_state 1 = .ok (.tableswitch 115 0 6 #[43, 51, 67, 75, 83, 95, 107], 43) := by decide +kernel
theorem d_S_state_44 : decode b_S_state 44 = .ok (.aload_n 0, 1) := by decide +kernel
theorem d_S_state_45 : decode b_S_state 45 = .ok (.getfield 10, 3) := by decide +kernel
theorem d_S_state_48 : decode b_S_state 48 = .ok (.getfield 64, 3) := by decide +kernel
theorem d_S_state_51 : decode b_S_state 51 = .ok (.ireturn, 1) := by decide +kernel
theorem d_S_state_52 : decode b_S_state 52 = .ok (.aload_n 0, 1) := by decide +kernel
theorem d_S_state_53 : decode b_S_state 53 = .ok (.getfield 10, 3) := by decide +kernel
theorem d_S_state_56 : decode b_S_state 56 = .ok (.getfield 67, 3) := by decide +kernel
theorem d_S_state_59 : decode b_S_state 59 = .ok (.ifCond .eq 7, 3) := by decide +kernel
theorem d_S_state_62 : decode b_S_state 62 = .ok (.iconst 1, 1) := by decide +kernel
theorem d_S_state_63 : decode b_S_state 63 = .ok (.goto 4, 3) := by decide +kernel
theorem d_S_state_66 : decode b_S_state 66 = .ok (.iconst 0, 1) := by decide +kernel
theorem d_S_state_67 : decode b_S_state 67 = .ok (.ireturn, 1) := by decide +kernel
theorem d_S_state_68 : decode b_S_state 68 = .ok (.aload_n 0, 1) := by decide +kernel
theorem d_S_state_69 : decode b_S_state 69 = .ok (.getfield 10, 3) := by decide +kernel
theorem d_S_state_72 : decode b_S_state 72 = .ok (.getfield 71, 3) := by decide +kernel
theorem d_S_state_75 : decode b_S_state 75 = .ok (.ireturn, 1) := by decide +kernel
theorem d_S_state_76 : decode b_S_state 76 = .ok (.aload_n 0, 1) := by decide +kernel
theorem d_S_state_77 : decode b_S_state 77 = .ok (.getfield 10, 3) := by decide +kernel
theorem d_S_state_80 : decode b_S_state 80 = .ok (.getfield 74, 3) := by decide +kernel
theorem d_S_state_83 : decode b_S_state 83 = .ok (.ireturn, 1) := by decide +kernel
theorem d_S_state_84 : decode b_S_state 84 = .ok (.aload_n 0, 1) := by decide +kernel
theorem d_S_state_85 : decode b_S_state 85 = .ok (.getfield 10, 3) := by decide +kernel
theorem d_S_state_88 : decode b_S_state 88 = .ok (.iconst 0, 1) := by decide +kernel
theorem d_S_state_89 : decode b_S_state 89 = .ok (.invokevirtual 77, 3) := by decide +kernel
theorem d_S_state_92 : decode b_S_state 92 = .ok (.getfield 81, 3) := by decide +kernel
theorem d_S_state_95 : decode b_S_state 95 = .ok (.ireturn, 1) := by decide +kernel
theorem d_S_state_96 : decode b_S_state 96 = .ok (.aload_n 0, 1) := by decide +kernel
theorem d_S_state_97 : decode b_S_state 97 = .ok (.getfield 10, 3) := by decide +kernel
theorem d_S_state_100 : decode b_S_state 100 = .ok (.iconst 1, 1) := by decide +kernel
theorem d_S_state_101 : decode b_S_state 101 = .ok (.invokevirtual 77, 3) := by decide +kernel
theorem d_S_state_104 : decode b_S_state 104 = .ok (.getfield 81, 3) := by decide +kernel
theorem d_S_state_107 : decode b_S_state 107 = .ok (.ireturn, 1) := by decide +kernel
theorem d_S_state_108 : decode b_S_state 108 = .ok (.aload_n 0, 1) := by decide +kernel
theorem d_S_state_109 : decode b_S_state 109 = .ok (.getfield 10, 3) := by decide +kernel
theorem d_S_state_112 : decode b_S_state 112 = .ok (.getfield 48, 3) := by decide +kernel
theorem d_S_state_115 : decode b_S_state 115 = .ok (.ireturn, 1) := by decide +kernel
theorem d_S_state_116 : decode b_S_state 116 = .ok (.bipush (-2), 2) := by decide +kernel
theorem d_S_state_118 : decode b_S_state 118 = .ok (.ireturn, 1) := by decide +kernel
abbrev b_M_unit : ByteArray := prog_3_method_10_code
abbrev y_M_unit : MethodName := ⟨"SignMachine$Machine", "unit", "(I)LSignMachine$Tape;"⟩
theorem h_M_unit : (y_M_unit).cls ≠ "java/lang/invoke/MethodHandle" ∧ (y_M_unit).cls ≠ "java/lang/invoke/VarHandle" ∧ (parseMethodDescriptor (y_M_unit).desc).map (fun d => d.parameters.length) = some 1 := by decide +kernel
theorem d_M_unit_0 : decode b_M_unit 0 = .ok (.iload_n 1, 1) := by decide +kernel
theorem d_M_unit_1 : decode b_M_unit 1 = .ok (.ifCond .ne 10, 3) := by decide +kernel
theorem d_M_unit_4 : decode b_M_unit 4 = .ok (.aload_n 0, 1) := by decide +kernel
theorem d_M_unit_5 : decode b_M_unit 5 = .ok (.getfield 21, 3) := by decide +kernel
theorem d_M_unit_8 : decode b_M_unit 8 = .ok (.goto 7, 3) := by decide +kernel
theorem d_M_unit_11 : decode b_M_unit 11 = .ok (.aload_n 0, 1) := by decide +kernel
theorem d_M_unit_12 : decode b_M_unit 12 = .ok (.getfield 25, 3) := by decide +kernel
theorem d_M_unit_15 : decode b_M_unit 15 = .ok (.areturn, 1) := by decide +kernel
abbrev b_S_go : ByteArray := prog_1_method_11_code
abbrev y_S_go : MethodName := ⟨"SignMachine", "go", "(I)Z"⟩
theorem h_S_go : (y_S_go).cls ≠ "java/lang/invoke/MethodHandle" ∧ (y_S_go).cls ≠ "java/lang/invoke/VarHandle" ∧ (parseMethodDescriptor (y_S_go).desc).map (fun d => d.parameters.length) = some 1 := by decide +kernel
theorem d_S_go_0 : decode b_S_go 0 = .ok (.iload_n 1, 1) := by decide +kernel
theorem d_S_go_1 : decode b_S_go 1 = .ok (.invokestatic 16, 3) := by decide +kernel
theorem d_S_go_4 : decode b_S_go 4 = .ok (.ifCond .ne 5, 3) := by decide +kernel
theorem d_S_go_7 : decode b_S_go 7 = .ok (.iconst 0, 1) := by decide +kernel
theorem d_S_go_8 : decode b_S_go 8 = .ok (.ireturn, 1) := by decide +kernel
theorem d_S_go_9 : decode b_S_go 9 = .ok (.aload_n 0, 1) := by decide +kernel
theorem d_S_go_10 : decode b_S_go 10 = .ok (.getfield 10, 3) := by decide +kernel
theorem d_S_go_13 : decode b_S_go 13 = .ok (.iload_n 1, 1) := by decide +kernel
theorem d_S_go_14 : decode b_S_go 14 = .ok (.putfield 64, 3) := by decide +kernel
theorem d_S_go_17 : decode b_S_go 17 = .ok (.iconst 1, 1) := by decide +kernel
theorem d_S_go_18 : decode b_S_go 18 = .ok (.ireturn, 1) := by decide +kernel
abbrev b_S_tape : ByteArray := prog_1_method_12_code
abbrev y_S_tape : MethodName := ⟨"SignMachine", "tape", "(III)I"⟩
theorem h_S_tape : (y_S_tape).cls ≠ "java/lang/invoke/MethodHandle" ∧ (y_S_tape).cls ≠ "java/lang/invoke/VarHandle" ∧ (parseMethodDescriptor (y_S_tape).desc).map (fun d => d.parameters.length) = some 3 := by decide +kernel
theorem d_S_tape_0 : decode b_S_tape 0 = .ok (.iload_n 1, 1) := by decide +kernel
theorem d_S_tape_1 : decode b_S_tape 1 = .ok (.ifCond .lt 16, 3) := by decide +kernel
theorem d_S_tape_4 : decode b_S_tape 4 = .ok (.iload_n 1, 1) := by decide +kernel
theorem d_S_tape_5 : decode b_S_tape 5 = .ok (.iconst 1, 1) := by decide +kernel
theorem d_S_tape_6 : decode b_S_tape 6 = .ok (.if_icmp .gt 11, 3) := by decide +kernel
theorem d_S_tape_9 : decode b_S_tape 9 = .ok (.iload_n 2, 1) := by decide +kernel
theorem d_S_tape_10 : decode b_S_tape 10 = .ok (.iload_n 3, 1) := by decide +kernel
theorem d_S_tape_11 : decode b_S_tape 11 = .ok (.invokestatic 86, 3) := by decide +kernel
theorem d_S_tape_14 : decode b_S_tape 14 = .ok (.ifCond .ne 6, 3) := by decide +kernel
theorem d_S_tape_17 : decode b_S_tape 17 = .ok (.ldc 87, 2) := by decide +kernel
theorem d_S_tape_19 : decode b_S_tape 19 = .ok (.ireturn, 1) := by decide +kernel
theorem d_S_tape_20 : decode b_S_tape 20 = .ok (.aload_n 0, 1) := by decide +kernel
theorem d_S_tape_21 : decode b_S_tape 21 = .ok (.getfield 10, 3) := by decide +kernel
theorem d_S_tape_24 : decode b_S_tape 24 = .ok (.iload_n 1, 1) := by decide +kernel
theorem d_S_tape_25 : decode b_S_tape 25 = .ok (.invokevirtual 77, 3) := by decide +kernel
theorem d_S_tape_28 : decode b_S_tape 28 = .ok (.iload_n 2, 1) := by decide +kernel
theorem d_S_tape_29 : decode b_S_tape 29 = .ok (.iload_n 3, 1) := by decide +kernel
theorem d_S_tape_30 : decode b_S_tape 30 = .ok (.invokevirtual 88, 3) := by decide +kernel
theorem d_S_tape_33 : decode b_S_tape 33 = .ok (.istore 4, 2) := by decide +kernel
theorem d_S_tape_35 : decode b_S_tape 35 = .ok (.iload 4, 2) := by decide +kernel
theorem d_S_tape_37 : decode b_S_tape 37 = .ok (.ldc 90, 2) := by decide +kernel
theorem d_S_tape_39 : decode b_S_tape 39 = .ok (.if_icmp .ne 8, 3) := by decide +kernel
theorem d_S_tape_42 : decode b_S_tape 42 = .ok (.ldc 91, 2) := by decide +kernel
theorem d_S_tape_44 : decode b_S_tape 44 = .ok (.goto 8, 3) := by decide +kernel
theorem d_S_tape_47 : decode b_S_tape 47 = .ok (.iload 4, 2) := by decide +kernel
theorem d_S_tape_49 : decode b_S_tape 49 = .ok (.invokestatic 92, 3) := by decide +kernel
theorem d_S_tape_52 : decode b_S_tape 52 = .ok (.ireturn, 1) := by decide +kernel
abbrev b_T_isWord : ByteArray := prog_8_method_2_code
abbrev y_T_isWord : MethodName := ⟨"SignMachine$Tape", "isWord", "(II)Z"⟩
theorem h_T_isWord : (y_T_isWord).cls ≠ "java/lang/invoke/MethodHandle" ∧ (y_T_isWord).cls ≠ "java/lang/invoke/VarHandle" ∧ (parseMethodDescriptor (y_T_isWord).desc).map (fun d => d.parameters.length) = some 2 := by decide +kernel
theorem d_T_isWord_0 : decode b_T_isWord 0 = .ok (.iload_n 0, 1) := by decide +kernel
theorem d_T_isWord_1 : decode b_T_isWord 1 = .ok (.ifCond .lt 23, 3) := by decide +kernel
theorem d_T_isWord_4 : decode b_T_isWord 4 = .ok (.iload_n 0, 1) := by decide +kernel
theorem d_T_isWord_5 : decode b_T_isWord 5 = .ok (.bipush 40, 2) := by decide +kernel
theorem d_T_isWord_7 : decode b_T_isWord 7 = .ok (.if_icmp .ge 17, 3) := by decide +kernel
theorem d_T_isWord_10 : decode b_T_isWord 10 = .ok (.iload_n 1, 1) := by decide +kernel
theorem d_T_isWord_11 : decode b_T_isWord 11 = .ok (.ifCond .lt 13, 3) := by decide +kernel
theorem d_T_isWord_14 : decode b_T_isWord 14 = .ok (.iload_n 1, 1) := by decide +kernel
theorem d_T_isWord_15 : decode b_T_isWord 15 = .ok (.bipush 100, 2) := by decide +kernel
theorem d_T_isWord_17 : decode b_T_isWord 17 = .ok (.if_icmp .ge 7, 3) := by decide +kernel
theorem d_T_isWord_20 : decode b_T_isWord 20 = .ok (.iconst 1, 1) := by decide +kernel
theorem d_T_isWord_21 : decode b_T_isWord 21 = .ok (.goto 4, 3) := by decide +kernel
theorem d_T_isWord_24 : decode b_T_isWord 24 = .ok (.iconst 0, 1) := by decide +kernel
theorem d_T_isWord_25 : decode b_T_isWord 25 = .ok (.ireturn, 1) := by decide +kernel
abbrev b_T_wordAt : ByteArray := prog_8_method_3_code
abbrev y_T_wordAt : MethodName := ⟨"SignMachine$Tape", "wordAt", "(II)I"⟩
theorem h_T_wordAt : (y_T_wordAt).cls ≠ "java/lang/invoke/MethodHandle" ∧ (y_T_wordAt).cls ≠ "java/lang/invoke/VarHandle" ∧ (parseMethodDescriptor (y_T_wordAt).desc).map (fun d => d.parameters.length) = some 2 := by decide +kernel
theorem d_T_wordAt_0 : decode b_T_wordAt 0 = .ok (.aload_n 0, 1) := by decide +kernel
theorem d_T_wordAt_1 : decode b_T_wordAt 1 = .ok (.getfield 9, 3) := by decide +kernel
theorem d_T_wordAt_4 : decode b_T_wordAt 4 = .ok (.ifnull 25, 3) := by decide +kernel
theorem d_T_wordAt_7 : decode b_T_wordAt 7 = .ok (.iload_n 1, 1) := by decide +kernel
theorem d_T_wordAt_8 : decode b_T_wordAt 8 = .ok (.iload_n 2, 1) := by decide +kernel
theorem d_T_wordAt_9 : decode b_T_wordAt 9 = .ok (.invokestatic 13, 3) := by decide +kernel
theorem d_T_wordAt_12 : decode b_T_wordAt 12 = .ok (.ifCond .eq 17, 3) := by decide +kernel
theorem d_T_wordAt_15 : decode b_T_wordAt 15 = .ok (.aload_n 0, 1) := by decide +kernel
theorem d_T_wordAt_16 : decode b_T_wordAt 16 = .ok (.getfield 9, 3) := by decide +kernel
theorem d_T_wordAt_19 : decode b_T_wordAt 19 = .ok (.iload_n 1, 1) := by decide +kernel
theorem d_T_wordAt_20 : decode b_T_wordAt 20 = .ok (.bipush 100, 2) := by decide +kernel
theorem d_T_wordAt_22 : decode b_T_wordAt 22 = .ok (.imul, 1) := by decide +kernel
theorem d_T_wordAt_23 : decode b_T_wordAt 23 = .ok (.iload_n 2, 1) := by decide +kernel
theorem d_T_wordAt_24 : decode b_T_wordAt 24 = .ok (.iadd, 1) := by decide +kernel
theorem d_T_wordAt_25 : decode b_T_wordAt 25 = .ok (.iaload, 1) := by decide +kernel
theorem d_T_wordAt_26 : decode b_T_wordAt 26 = .ok (.goto 4, 3) := by decide +kernel
theorem d_T_wordAt_29 : decode b_T_wordAt 29 = .ok (.iconst 0, 1) := by decide +kernel
theorem d_T_wordAt_30 : decode b_T_wordAt 30 = .ok (.ireturn, 1) := by decide +kernel
abbrev b_W_number : ByteArray := prog_9_method_6_code
abbrev y_W_number : MethodName := ⟨"SignMachine$Word", "number", "(I)I"⟩
theorem h_W_number : (y_W_number).cls ≠ "java/lang/invoke/MethodHandle" ∧ (y_W_number).cls ≠ "java/lang/invoke/VarHandle" ∧ (parseMethodDescriptor (y_W_number).desc).map (fun d => d.parameters.length) = some 1 := by decide +kernel
theorem d_W_number_0 : decode b_W_number 0 = .ok (.iload_n 0, 1) := by decide +kernel
theorem d_W_number_1 : decode b_W_number 1 = .ok (.ldc 10, 2) := by decide +kernel
theorem d_W_number_3 : decode b_W_number 3 = .ok (.iand, 1) := by decide +kernel
theorem d_W_number_4 : decode b_W_number 4 = .ok (.ifCond .ne 10, 3) := by decide +kernel
theorem d_W_number_7 : decode b_W_number 7 = .ok (.iload_n 0, 1) := by decide +kernel
theorem d_W_number_8 : decode b_W_number 8 = .ok (.ldc 9, 2) := by decide +kernel
theorem d_W_number_10 : decode b_W_number 10 = .ok (.iand, 1) := by decide +kernel
theorem d_W_number_11 : decode b_W_number 11 = .ok (.goto 8, 3) := by decide +kernel
theorem d_W_number_14 : decode b_W_number 14 = .ok (.iload_n 0, 1) := by decide +kernel
theorem d_W_number_15 : decode b_W_number 15 = .ok (.ldc 9, 2) := by decide +kernel
theorem d_W_number_17 : decode b_W_number 17 = .ok (.iand, 1) := by decide +kernel
theorem d_W_number_18 : decode b_W_number 18 = .ok (.ineg, 1) := by decide +kernel
theorem d_W_number_19 : decode b_W_number 19 = .ok (.ireturn, 1) := by decide +kernel
abbrev b_S_step : ByteArray := prog_1_method_5_code
abbrev y_S_step : MethodName := ⟨"SignMachine", "step", "()I"⟩
theorem h_S_step : (y_S_step).cls ≠ "java/lang/invoke/MethodHandle" ∧ (y_S_step).cls ≠ "java/lang/invoke/VarHandle" ∧ (parseMethodDescriptor (y_S_step).desc).map (fun d => d.parameters.length) = some 0 := by decide +kernel
theorem d_S_step_0 : decode b_S_step 0 = .ok (.aload_n 0, 1) := by decide +kernel
theorem d_S_step_1 : decode b_S_step 1 = .ok (.getfield 10, 3) := by decide +kernel
theorem d_S_step_4 : decode b_S_step 4 = .ok (.aload_n 0, 1) := by decide +kernel
theorem d_S_step_5 : decode b_S_step 5 = .ok (.getfield 10, 3) := by decide +kernel
theorem d_S_step_8 : decode b_S_step 8 = .ok (.invokevirtual 44, 3) := by decide +kernel
theorem d_S_step_11 : decode b_S_step 11 = .ok (.putfield 48, 3) := by decide +kernel
theorem d_S_step_14 : decode b_S_step 14 = .ok (.aload_n 0, 1) := by decide +kernel
theorem d_S_step_15 : decode b_S_step 15 = .ok (.getfield 10, 3) := by decide +kernel
theorem d_S_step_18 : decode b_S_step 18 = .ok (.getfield 48, 3) := by decide +kernel
theorem d_S_step_21 : decode b_S_step 21 = .ok (.ireturn, 1) := by decide +kernel
abbrev b_M_execute : ByteArray := prog_3_method_11_code
abbrev y_M_execute : MethodName := ⟨"SignMachine$Machine", "execute", "()I"⟩
theorem h_M_execute : (y_M_execute).cls ≠ "java/lang/invoke/MethodHandle" ∧ (y_M_execute).cls ≠ "java/lang/invoke/VarHandle" ∧ (parseMethodDescriptor (y_M_execute).desc).map (fun d => d.parameters.length) = some 0 := by decide +kernel
theorem d_M_execute_0 : decode b_M_execute 0 = .ok (.aload_n 0, 1) := by decide +kernel
theorem d_M_execute_1 : decode b_M_execute 1 = .ok (.getfield 32, 3) := by decide +kernel
theorem d_M_execute_4 : decode b_M_execute 4 = .ok (.invokestatic 36, 3) := by decide +kernel
theorem d_M_execute_7 : decode b_M_execute 7 = .ok (.ifCond .ne 5, 3) := by decide +kernel
theorem d_M_execute_10 : decode b_M_execute 10 = .ok (.iconst 3, 1) := by decide +kernel
theorem d_M_execute_11 : decode b_M_execute 11 = .ok (.ireturn, 1) := by decide +kernel
theorem d_M_execute_12 : decode b_M_execute 12 = .ok (.aload_n 0, 1) := by decide +kernel
theorem d_M_execute_13 : decode b_M_execute 13 = .ok (.aload_n 0, 1) := by decide +kernel
theorem d_M_execute_14 : decode b_M_execute 14 = .ok (.aload_n 0, 1) := by decide +kernel
theorem d_M_execute_15 : decode b_M_execute 15 = .ok (.getfield 32, 3) := by decide +kernel
theorem d_M_execute_18 : decode b_M_execute 18 = .ok (.invokevirtual 39, 3) := by decide +kernel
theorem d_M_execute_21 : decode b_M_execute 21 = .ok (.invokevirtual 43, 3) := by decide +kernel
theorem d_M_execute_24 : decode b_M_execute 24 = .ok (.aload_n 0, 1) := by decide +kernel
theorem d_M_execute_25 : decode b_M_execute 25 = .ok (.invokevirtual 47, 3) := by decide +kernel
theorem d_M_execute_28 : decode b_M_execute 28 = .ok (.istore_n 1, 1) := by decide +kernel
theorem d_M_execute_29 : decode b_M_execute 29 = .ok (.iload_n 1, 1) := by decide +kernel
theorem d_M_execute_30 : decode b_M_execute 30 = .ok (.ifCond .eq 5, 3) := by decide +kernel
theorem d_M_execute_33 : decode b_M_execute 33 = .ok (.iload_n 1, 1) := by decide +kernel
theorem d_M_execute_34 : decode b_M_execute 34 = .ok (.ireturn, 1) := by decide +kernel
theorem d_M_execute_35 : decode b_M_execute 35 = .ok (.aload_n 0, 1) := by decide +kernel
theorem d_M_execute_36 : decode b_M_execute 36 = .ok (.aload_n 0, 1) := by decide +kernel
theorem d_M_execute_37 : decode b_M_execute 37 = .ok (.getfield 51, 3) := by decide +kernel
theorem d_M_execute_40 : decode b_M_execute 40 = .ok (.aload_n 0, 1) := by decide +kernel
theorem d_M_execute_41 : decode b_M_execute 41 = .ok (.invokevirtual 54, 3) := by decide +kernel
theorem d_M_execute_44 : decode b_M_execute 44 = .ok (.iadd, 1) := by decide +kernel
theorem d_M_execute_45 : decode b_M_execute 45 = .ok (.ldc 57, 2) := by decide +kernel
theorem d_M_execute_47 : decode b_M_execute 47 = .ok (.iand, 1) := by decide +kernel
theorem d_M_execute_48 : decode b_M_execute 48 = .ok (.putfield 51, 3) := by decide +kernel
theorem d_M_execute_51 : decode b_M_execute 51 = .ok (.aload_n 0, 1) := by decide +kernel
theorem d_M_execute_52 : decode b_M_execute 52 = .ok (.dup, 1) := by decide +kernel
theorem d_M_execute_53 : decode b_M_execute 53 = .ok (.getfield 32, 3) := by decide +kernel
theorem d_M_execute_56 : decode b_M_execute 56 = .ok (.iconst 1, 1) := by decide +kernel
theorem d_M_execute_57 : decode b_M_execute 57 = .ok (.iadd, 1) := by decide +kernel
theorem d_M_execute_58 : decode b_M_execute 58 = .ok (.putfield 32, 3) := by decide +kernel
theorem d_M_execute_61 : decode b_M_execute 61 = .ok (.aload_n 0, 1) := by decide +kernel
theorem d_M_execute_62 : decode b_M_execute 62 = .ok (.invokevirtual 58, 3) := by decide +kernel
theorem d_M_execute_65 : decode b_M_execute 65 = .ok (.aload_n 0, 1) := by decide +kernel
theorem d_M_execute_66 : decode b_M_execute 66 = .ok (.getfield 61, 3) := by decide +kernel
theorem d_M_execute_69 : decode b_M_execute 69 = .ok (.iconst 5, 1) := by decide +kernel
theorem d_M_execute_70 : decode b_M_execute 70 = .ok (.if_icmp .ne 15, 3) := by decide +kernel
theorem d_M_execute_73 : decode b_M_execute 73 = .ok (.aload_n 0, 1) := by decide +kernel
theorem d_M_execute_74 : decode b_M_execute 74 = .ok (.getfield 64, 3) := by decide +kernel
theorem d_M_execute_77 : decode b_M_execute 77 = .ok (.iconst 2, 1) := by decide +kernel
theorem d_M_execute_78 : decode b_M_execute 78 = .ok (.if_icmp .ne 7, 3) := by decide +kernel
theorem d_M_execute_81 : decode b_M_execute 81 = .ok (.iconst 1, 1) := by decide +kernel
theorem d_M_execute_82 : decode b_M_execute 82 = .ok (.goto 4, 3) := by decide +kernel
theorem d_M_execute_85 : decode b_M_execute 85 = .ok (.iconst 0, 1) := by decide +kernel
theorem d_M_execute_86 : decode b_M_execute 86 = .ok (.ireturn, 1) := by decide +kernel
abbrev b_M_decode : ByteArray := prog_3_method_12_code
abbrev y_M_decode : MethodName := ⟨"SignMachine$Machine", "decode", "(I)V"⟩
theorem h_M_decode : (y_M_decode).cls ≠ "java/lang/invoke/MethodHandle" ∧ (y_M_decode).cls ≠ "java/lang/invoke/VarHandle" ∧ (parseMethodDescriptor (y_M_decode).desc).map (fun d => d.parameters.length) = some 1 := by decide +kernel
theorem d_M_decode_0 : decode b_M_decode 0 = .ok (.iload_n 1, 1) := by decide +kernel
theorem d_M_decode_1 : decode b_M_decode 1 = .ok (.invokestatic 67, 3) := by decide +kernel
theorem d_M_decode_4 : decode b_M_decode 4 = .ok (.istore_n 2, 1) := by decide +kernel
theorem d_M_decode_5 : decode b_M_decode 5 = .ok (.aload_n 0, 1) := by decide +kernel
theorem d_M_decode_6 : decode b_M_decode 6 = .ok (.iload_n 2, 1) := by decide +kernel
theorem d_M_decode_7 : decode b_M_decode 7 = .ok (.bipush 63, 2) := by decide +kernel
theorem d_M_decode_9 : decode b_M_decode 9 = .ok (.iand, 1) := by decide +kernel
theorem d_M_decode_10 : decode b_M_decode 10 = .ok (.putfield 61, 3) := by decide +kernel
theorem d_M_decode_13 : decode b_M_decode 13 = .ok (.aload_n 0, 1) := by decide +kernel
theorem d_M_decode_14 : decode b_M_decode 14 = .ok (.iload_n 2, 1) := by decide +kernel
theorem d_M_decode_15 : decode b_M_decode 15 = .ok (.bipush 6, 2) := by decide +kernel
theorem d_M_decode_17 : decode b_M_decode 17 = .ok (.ishr, 1) := by decide +kernel
theorem d_M_decode_18 : decode b_M_decode 18 = .ok (.bipush 63, 2) := by decide +kernel
theorem d_M_decode_20 : decode b_M_decode 20 = .ok (.iand, 1) := by decide +kernel
theorem d_M_decode_21 : decode b_M_decode 21 = .ok (.putfield 64, 3) := by decide +kernel
theorem d_M_decode_24 : decode b_M_decode 24 = .ok (.aload_n 0, 1) := by decide +kernel
theorem d_M_decode_25 : decode b_M_decode 25 = .ok (.iload_n 2, 1) := by decide +kernel
theorem d_M_decode_26 : decode b_M_decode 26 = .ok (.bipush 12, 2) := by decide +kernel
theorem d_M_decode_28 : decode b_M_decode 28 = .ok (.ishr, 1) := by decide +kernel
theorem d_M_decode_29 : decode b_M_decode 29 = .ok (.bipush 63, 2) := by decide +kernel
theorem d_M_decode_31 : decode b_M_decode 31 = .ok (.iand, 1) := by decide +kernel
theorem d_M_decode_32 : decode b_M_decode 32 = .ok (.putfield 72, 3) := by decide +kernel
theorem d_M_decode_35 : decode b_M_decode 35 = .ok (.aload_n 0, 1) := by decide +kernel
theorem d_M_decode_36 : decode b_M_decode 36 = .ok (.iload_n 1, 1) := by decide +kernel
theorem d_M_decode_37 : decode b_M_decode 37 = .ok (.invokestatic 75, 3) := by decide +kernel
theorem d_M_decode_40 : decode b_M_decode 40 = .ok (.putfield 78, 3) := by decide +kernel
theorem d_M_decode_43 : decode b_M_decode 43 = .ok (.iload_n 2, 1) := by decide +kernel
theorem d_M_decode_44 : decode b_M_decode 44 = .ok (.bipush 18, 2) := by decide +kernel
theorem d_M_decode_46 : decode b_M_decode 46 = .ok (.ishr, 1) := by decide +kernel
theorem d_M_decode_47 : decode b_M_decode 47 = .ok (.istore_n 3, 1) := by decide +kernel
theorem d_M_decode_48 : decode b_M_decode 48 = .ok (.aload_n 0, 1) := by decide +kernel
theorem d_M_decode_49 : decode b_M_decode 49 = .ok (.aload_n 0, 1) := by decide +kernel
theorem d_M_decode_50 : decode b_M_decode 50 = .ok (.getfield 78, 3) := by decide +kernel
theorem d_M_decode_53 : decode b_M_decode 53 = .ok (.ifCond .ne 7, 3) := by decide +kernel
theorem d_M_decode_56 : decode b_M_decode 56 = .ok (.iload_n 3, 1) := by decide +kernel
theorem d_M_decode_57 : decode b_M_decode 57 = .ok (.goto 5, 3) := by decide +kernel
theorem d_M_decode_60 : decode b_M_decode 60 = .ok (.iload_n 3, 1) := by decide +kernel
theorem d_M_decode_61 : decode b_M_decode 61 = .ok (.ineg, 1) := by decide +kernel
theorem d_M_decode_62 : decode b_M_decode 62 = .ok (.putfield 81, 3) := by decide +kernel
theorem d_M_decode_65 : decode b_M_decode 65 = .ok (.aload_n 0, 1) := by decide +kernel
theorem d_M_decode_66 : decode b_M_decode 66 = .ok (.getfield 72, 3) := by decide +kernel
theorem d_M_decode_69 : decode b_M_decode 69 = .ok (.invokestatic 28, 3) := by decide +kernel
theorem d_M_decode_72 : decode b_M_decode 72 = .ok (.ifCond .eq 23, 3) := by decide +kernel
theorem d_M_decode_75 : decode b_M_decode 75 = .ok (.aload_n 0, 1) := by decide +kernel
theorem d_M_decode_76 : decode b_M_decode 76 = .ok (.dup, 1) := by decide +kernel
theorem d_M_decode_77 : decode b_M_decode 77 = .ok (.getfield 81, 3) := by decide +kernel
theorem d_M_decode_80 : decode b_M_decode 80 = .ok (.aload_n 0, 1) := by decide +kernel
theorem d_M_decode_81 : decode b_M_decode 81 = .ok (.aload_n 0, 1) := by decide +kernel
theorem d_M_decode_82 : decode b_M_decode 82 = .ok (.getfield 72, 3) := by decide +kernel
theorem d_M_decode_85 : decode b_M_decode 85 = .ok (.invokevirtual 84, 3) := by decide +kernel
theorem d_M_decode_88 : decode b_M_decode 88 = .ok (.invokestatic 87, 3) := by decide +kernel
theorem d_M_decode_91 : decode b_M_decode 91 = .ok (.iadd, 1) := by decide +kernel
theorem d_M_decode_92 : decode b_M_decode 92 = .ok (.putfield 81, 3) := by decide +kernel
theorem d_M_decode_95 : decode b_M_decode 95 = .ok (.return_, 1) := by decide +kernel
abbrev b_M_reasonAgainst : ByteArray := prog_3_method_13_code
abbrev y_M_reasonAgainst : MethodName := ⟨"SignMachine$Machine", "reasonAgainst", "()I"⟩
theorem h_M_reasonAgainst : (y_M_reasonAgainst).cls ≠ "java/lang/invoke/MethodHandle" ∧ (y_M_reasonAgainst).cls ≠ "java/lang/invoke/VarHandle" ∧ (parseMethodDescriptor (y_M_reasonAgainst).desc).map (fun d => d.parameters.length) = some 0 := by decide +kernel
theorem d_M_reasonAgainst_0 : decode b_M_reasonAgainst 0 = .ok (.aload_n 0, 1) := by decide +kernel
theorem d_M_reasonAgainst_1 : decode b_M_reasonAgainst 1 = .ok (.invokevirtual 90, 3) := by decide +kernel
theorem d_M_reasonAgainst_4 : decode b_M_reasonAgainst 4 = .ok (.ifCond .ne 5, 3) := by decide +kernel
theorem d_M_reasonAgainst_7 : decode b_M_reasonAgainst 7 = .ok (.iconst 2, 1) := by decide +kernel
theorem d_M_reasonAgainst_8 : decode b_M_reasonAgainst 8 = .ok (.ireturn, 1) := by decide +kernel
theorem d_M_reasonAgainst_9 : decode b_M_reasonAgainst 9 = .ok (.aload_n 0, 1) := by decide +kernel
theorem d_M_reasonAgainst_10 : decode b_M_reasonAgainst 10 = .ok (.invokevirtual 94, 3) := by decide +kernel
theorem d_M_reasonAgainst_13 : decode b_M_reasonAgainst 13 = .ok (.ifCond .ne 5, 3) := by decide +kernel
theorem d_M_reasonAgainst_16 : decode b_M_reasonAgainst 16 = .ok (.iconst 3, 1) := by decide +kernel
theorem d_M_reasonAgainst_17 : decode b_M_reasonAgainst 17 = .ok (.ireturn, 1) := by decide +kernel
theorem d_M_reasonAgainst_18 : decode b_M_reasonAgainst 18 = .ok (.aload_n 0, 1) := by decide +kernel
theorem d_M_reasonAgainst_19 : decode b_M_reasonAgainst 19 = .ok (.invokevirtual 97, 3) := by decide +kernel
theorem d_M_reasonAgainst_22 : decode b_M_reasonAgainst 22 = .ok (.ifCond .ne 5, 3) := by decide +kernel
theorem d_M_reasonAgainst_25 : decode b_M_reasonAgainst 25 = .ok (.iconst 4, 1) := by decide +kernel
theorem d_M_reasonAgainst_26 : decode b_M_reasonAgainst 26 = .ok (.ireturn, 1) := by decide +kernel
theorem d_M_reasonAgainst_27 : decode b_M_reasonAgainst 27 = .ok (.aload_n 0, 1) := by decide +kernel
theorem d_M_reasonAgainst_28 : decode b_M_reasonAgainst 28 = .ok (.invokevirtual 100, 3) := by decide +kernel
theorem d_M_reasonAgainst_31 : decode b_M_reasonAgainst 31 = .ok (.ifCond .eq 7, 3) := by decide +kernel
theorem d_M_reasonAgainst_34 : decode b_M_reasonAgainst 34 = .ok (.iconst 0, 1) := by decide +kernel
theorem d_M_reasonAgainst_35 : decode b_M_reasonAgainst 35 = .ok (.goto 4, 3) := by decide +kernel
theorem d_M_reasonAgainst_38 : decode b_M_reasonAgainst 38 = .ok (.iconst 5, 1) := by decide +kernel
theorem d_M_reasonAgainst_39 : decode b_M_reasonAgainst 39 = .ok (.ireturn, 1) := by decide +kernel
abbrev b_M_shapeCanBe : ByteArray := prog_3_method_15_code
abbrev y_M_shapeCanBe : MethodName := ⟨"SignMachine$Machine", "shapeCanBe", "()Z"⟩
theorem h_M_shapeCanBe : (y_M_shapeCanBe).cls ≠ "java/lang/invoke/MethodHandle" ∧ (y_M_shapeCanBe).cls ≠ "java/lang/invoke/VarHandle" ∧ (parseMethodDescriptor (y_M_shapeCanBe).desc).map (fun d => d.parameters.length) = some 0 := by decide +kernel
theorem d_M_shapeCanBe_0 : decode b_M_shapeCanBe 0 = .ok (.aload_n 0, 1) := by decide +kernel
theorem d_M_shapeCanBe_1 : decode b_M_shapeCanBe 1 = .ok (.getfield 72, 3) := by decide +kernel
theorem d_M_shapeCanBe_4 : decode b_M_shapeCanBe 4 = .ok (.bipush 6, 2) := by decide +kernel
theorem d_M_shapeCanBe_6 : decode b_M_shapeCanBe 6 = .ok (.if_icmp .le 5, 3) := by decide +kernel
theorem d_M_shapeCanBe_9 : decode b_M_shapeCanBe 9 = .ok (.iconst 0, 1) := by decide +kernel
theorem d_M_shapeCanBe_10 : decode b_M_shapeCanBe 10 = .ok (.ireturn, 1) := by decide +kernel
theorem d_M_shapeCanBe_11 : decode b_M_shapeCanBe 11 = .ok (.aload_n 0, 1) := by decide +kernel
theorem d_M_shapeCanBe_12 : decode b_M_shapeCanBe 12 = .ok (.invokevirtual 103, 3) := by decide +kernel
theorem d_M_shapeCanBe_15 : decode b_M_shapeCanBe 15 = .ok (.ifCond .eq 11, 3) := by decide +kernel
theorem d_M_shapeCanBe_18 : decode b_M_shapeCanBe 18 = .ok (.aload_n 0, 1) := by decide +kernel
theorem d_M_shapeCanBe_19 : decode b_M_shapeCanBe 19 = .ok (.getfield 64, 3) := by decide +kernel
theorem d_M_shapeCanBe_22 : decode b_M_shapeCanBe 22 = .ok (.invokestatic 106, 3) := by decide +kernel
theorem d_M_shapeCanBe_25 : decode b_M_shapeCanBe 25 = .ok (.ireturn, 1) := by decide +kernel
theorem d_M_shapeCanBe_26 : decode b_M_shapeCanBe 26 = .ok (.aload_n 0, 1) := by decide +kernel
theorem d_M_shapeCanBe_27 : decode b_M_shapeCanBe 27 = .ok (.getfield 61, 3) := by decide +kernel
theorem d_M_shapeCanBe_30 : decode b_M_shapeCanBe 30 = .ok (.tableswitch 233 0 39 #[174, 233, 233, 233, 233, 176, 190, 174, 233, 233, 233, 233, 233, 233, 233, 233, 233, 233, 233, 233, 233, 233, 233, 233, 233, 233, 233, 233, 233, 233, 233, 233, 233, 233, 204, 204, 204, 204, 204, 218], 174) := by decide +kernel
theorem d_M_shapeCanBe_204 : decode b_M_shapeCanBe 204 = .ok (.iconst 1, 1) := by decide +kernel
theorem d_M_shapeCanBe_205 : decode b_M_shapeCanBe 205 = .ok (.ireturn, 1) := by decide +kernel
theorem d_M_shapeCanBe_206 : decode b_M_shapeCanBe 206 = .ok (.aload_n 0, 1) := by decide +kernel
theorem d_M_shapeCanBe_207 : decode b_M_shapeCanBe 207 = .ok (.getfield 64, 3) := by decide +kernel
theorem d_M_shapeCanBe_210 : decode b_M_shapeCanBe 210 = .ok (.iconst 2, 1) := by decide +kernel
theorem d_M_shapeCanBe_211 : decode b_M_shapeCanBe 211 = .ok (.if_icmp .gt 7, 3) := by decide +kernel
theorem d_M_shapeCanBe_214 : decode b_M_shapeCanBe 214 = .ok (.iconst 1, 1) := by decide +kernel
theorem d_M_shapeCanBe_215 : decode b_M_shapeCanBe 215 = .ok (.goto 4, 3) := by decide +kernel
theorem d_M_shapeCanBe_218 : decode b_M_shapeCanBe 218 = .ok (.iconst 0, 1) := by decide +kernel
theorem d_M_shapeCanBe_219 : decode b_M_shapeCanBe 219 = .ok (.ireturn, 1) := by decide +kernel
theorem d_M_shapeCanBe_220 : decode b_M_shapeCanBe 220 = .ok (.aload_n 0, 1) := by decide +kernel
theorem d_M_shapeCanBe_221 : decode b_M_shapeCanBe 221 = .ok (.getfield 64, 3) := by decide +kernel
theorem d_M_shapeCanBe_224 : decode b_M_shapeCanBe 224 = .ok (.iconst 5, 1) := by decide +kernel
theorem d_M_shapeCanBe_225 : decode b_M_shapeCanBe 225 = .ok (.if_icmp .gt 7, 3) := by decide +kernel
theorem d_M_shapeCanBe_228 : decode b_M_shapeCanBe 228 = .ok (.iconst 1, 1) := by decide +kernel
theorem d_M_shapeCanBe_229 : decode b_M_shapeCanBe 229 = .ok (.goto 4, 3) := by decide +kernel
theorem d_M_shapeCanBe_232 : decode b_M_shapeCanBe 232 = .ok (.iconst 0, 1) := by decide +kernel
theorem d_M_shapeCanBe_233 : decode b_M_shapeCanBe 233 = .ok (.ireturn, 1) := by decide +kernel
theorem d_M_shapeCanBe_234 : decode b_M_shapeCanBe 234 = .ok (.aload_n 0, 1) := by decide +kernel
theorem d_M_shapeCanBe_235 : decode b_M_shapeCanBe 235 = .ok (.getfield 64, 3) := by decide +kernel
theorem d_M_shapeCanBe_238 : decode b_M_shapeCanBe 238 = .ok (.iconst 1, 1) := by decide +kernel
theorem d_M_shapeCanBe_239 : decode b_M_shapeCanBe 239 = .ok (.if_icmp .gt 7, 3) := by decide +kernel
theorem d_M_shapeCanBe_242 : decode b_M_shapeCanBe 242 = .ok (.iconst 1, 1) := by decide +kernel
theorem d_M_shapeCanBe_243 : decode b_M_shapeCanBe 243 = .ok (.goto 4, 3) := by decide +kernel
theorem d_M_shapeCanBe_246 : decode b_M_shapeCanBe 246 = .ok (.iconst 0, 1) := by decide +kernel
theorem d_M_shapeCanBe_247 : decode b_M_shapeCanBe 247 = .ok (.ireturn, 1) := by decide +kernel
theorem d_M_shapeCanBe_248 : decode b_M_shapeCanBe 248 = .ok (.aload_n 0, 1) := by decide +kernel
theorem d_M_shapeCanBe_249 : decode b_M_shapeCanBe 249 = .ok (.getfield 64, 3) := by decide +kernel
theorem d_M_shapeCanBe_252 : decode b_M_shapeCanBe 252 = .ok (.bipush 9, 2) := by decide +kernel
theorem d_M_shapeCanBe_254 : decode b_M_shapeCanBe 254 = .ok (.if_icmp .gt 7, 3) := by decide +kernel
theorem d_M_shapeCanBe_257 : decode b_M_shapeCanBe 257 = .ok (.iconst 1, 1) := by decide +kernel
theorem d_M_shapeCanBe_258 : decode b_M_shapeCanBe 258 = .ok (.goto 4, 3) := by decide +kernel
theorem d_M_shapeCanBe_261 : decode b_M_shapeCanBe 261 = .ok (.iconst 0, 1) := by decide +kernel
theorem d_M_shapeCanBe_262 : decode b_M_shapeCanBe 262 = .ok (.ireturn, 1) := by decide +kernel
theorem d_M_shapeCanBe_263 : decode b_M_shapeCanBe 263 = .ok (.aload_n 0, 1) := by decide +kernel
theorem d_M_shapeCanBe_264 : decode b_M_shapeCanBe 264 = .ok (.getfield 64, 3) := by decide +kernel
theorem d_M_shapeCanBe_267 : decode b_M_shapeCanBe 267 = .ok (.aload_n 0, 1) := by decide +kernel
theorem d_M_shapeCanBe_268 : decode b_M_shapeCanBe 268 = .ok (.getfield 61, 3) := by decide +kernel
theorem d_M_shapeCanBe_271 : decode b_M_shapeCanBe 271 = .ok (.bipush 47, 2) := by decide +kernel
theorem d_M_shapeCanBe_273 : decode b_M_shapeCanBe 273 = .ok (.if_icmp .gt 7, 3) := by decide +kernel
theorem d_M_shapeCanBe_276 : decode b_M_shapeCanBe 276 = .ok (.iconst 5, 1) := by decide +kernel
theorem d_M_shapeCanBe_277 : decode b_M_shapeCanBe 277 = .ok (.goto 4, 3) := by decide +kernel
theorem d_M_shapeCanBe_280 : decode b_M_shapeCanBe 280 = .ok (.iconst 3, 1) := by decide +kernel
theorem d_M_shapeCanBe_281 : decode b_M_shapeCanBe 281 = .ok (.if_icmp .gt 7, 3) := by decide +kernel
theorem d_M_shapeCanBe_284 : decode b_M_shapeCanBe 284 = .ok (.iconst 1, 1) := by decide +kernel
theorem d_M_shapeCanBe_285 : decode b_M_shapeCanBe 285 = .ok (.goto 4, 3) := by decide +kernel
theorem d_M_shapeCanBe_288 : decode b_M_shapeCanBe 288 = .ok (.iconst 0, 1) := by decide +kernel
theorem d_M_shapeCanBe_289 : decode b_M_shapeCanBe 289 = .ok (.ireturn, 1) := by decide +kernel
abbrev b_M_hasFieldOfWord : ByteArray := prog_3_method_14_code
abbrev y_M_hasFieldOfWord : MethodName := ⟨"SignMachine$Machine", "hasFieldOfWord", "()Z"⟩
theorem h_M_hasFieldOfWord : (y_M_hasFieldOfWord).cls ≠ "java/lang/invoke/MethodHandle" ∧ (y_M_hasFieldOfWord).cls ≠ "java/lang/invoke/VarHandle" ∧ (parseMethodDescriptor (y_M_hasFieldOfWord).desc).map (fun d => d.parameters.length) = some 0 := by decide +kernel
theorem d_M_hasFieldOfWord_0 : decode b_M_hasFieldOfWord 0 = .ok (.aload_n 0, 1) := by decide +kernel
theorem d_M_hasFieldOfWord_1 : decode b_M_hasFieldOfWord 1 = .ok (.getfield 61, 3) := by decide +kernel
theorem d_M_hasFieldOfWord_4 : decode b_M_hasFieldOfWord 4 = .ok (.iconst 1, 1) := by decide +kernel
theorem d_M_hasFieldOfWord_5 : decode b_M_hasFieldOfWord 5 = .ok (.if_icmp .lt 11, 3) := by decide +kernel
theorem d_M_hasFieldOfWord_8 : decode b_M_hasFieldOfWord 8 = .ok (.aload_n 0, 1) := by decide +kernel
theorem d_M_hasFieldOfWord_9 : decode b_M_hasFieldOfWord 9 = .ok (.getfield 61, 3) := by decide +kernel
theorem d_M_hasFieldOfWord_12 : decode b_M_hasFieldOfWord 12 = .ok (.iconst 4, 1) := by decide +kernel
theorem d_M_hasFieldOfWord_13 : decode b_M_hasFieldOfWord 13 = .ok (.if_icmp .le 30, 3) := by decide +kernel
theorem d_M_hasFieldOfWord_16 : decode b_M_hasFieldOfWord 16 = .ok (.aload_n 0, 1) := by decide +kernel
theorem d_M_hasFieldOfWord_17 : decode b_M_hasFieldOfWord 17 = .ok (.getfield 61, 3) := by decide +kernel
theorem d_M_hasFieldOfWord_20 : decode b_M_hasFieldOfWord 20 = .ok (.bipush 8, 2) := by decide +kernel
theorem d_M_hasFieldOfWord_22 : decode b_M_hasFieldOfWord 22 = .ok (.if_icmp .lt 12, 3) := by decide +kernel
theorem d_M_hasFieldOfWord_25 : decode b_M_hasFieldOfWord 25 = .ok (.aload_n 0, 1) := by decide +kernel
theorem d_M_hasFieldOfWord_26 : decode b_M_hasFieldOfWord 26 = .ok (.getfield 61, 3) := by decide +kernel
theorem d_M_hasFieldOfWord_29 : decode b_M_hasFieldOfWord 29 = .ok (.bipush 33, 2) := by decide +kernel
theorem d_M_hasFieldOfWord_31 : decode b_M_hasFieldOfWord 31 = .ok (.if_icmp .le 12, 3) := by decide +kernel
theorem d_M_hasFieldOfWord_34 : decode b_M_hasFieldOfWord 34 = .ok (.aload_n 0, 1) := by decide +kernel
theorem d_M_hasFieldOfWord_35 : decode b_M_hasFieldOfWord 35 = .ok (.getfield 61, 3) := by decide +kernel
theorem d_M_hasFieldOfWord_38 : decode b_M_hasFieldOfWord 38 = .ok (.bipush 56, 2) := by decide +kernel
theorem d_M_hasFieldOfWord_40 : decode b_M_hasFieldOfWord 40 = .ok (.if_icmp .lt 7, 3) := by decide +kernel
theorem d_M_hasFieldOfWord_43 : decode b_M_hasFieldOfWord 43 = .ok (.iconst 1, 1) := by decide +kernel
theorem d_M_hasFieldOfWord_44 : decode b_M_hasFieldOfWord 44 = .ok (.goto 4, 3) := by decide +kernel
theorem d_M_hasFieldOfWord_47 : decode b_M_hasFieldOfWord 47 = .ok (.iconst 0, 1) := by decide +kernel
theorem d_M_hasFieldOfWord_48 : decode b_M_hasFieldOfWord 48 = .ok (.ireturn, 1) := by decide +kernel
abbrev b_M_addressCanBe : ByteArray := prog_3_method_16_code
abbrev y_M_addressCanBe : MethodName := ⟨"SignMachine$Machine", "addressCanBe", "()Z"⟩
theorem h_M_addressCanBe : (y_M_addressCanBe).cls ≠ "java/lang/invoke/MethodHandle" ∧ (y_M_addressCanBe).cls ≠ "java/lang/invoke/VarHandle" ∧ (parseMethodDescriptor (y_M_addressCanBe).desc).map (fun d => d.parameters.length) = some 0 := by decide +kernel
theorem d_M_addressCanBe_0 : decode b_M_addressCanBe 0 = .ok (.aload_n 0, 1) := by decide +kernel
theorem d_M_addressCanBe_1 : decode b_M_addressCanBe 1 = .ok (.invokevirtual 103, 3) := by decide +kernel
theorem d_M_addressCanBe_4 : decode b_M_addressCanBe 4 = .ok (.ifCond .eq 11, 3) := by decide +kernel
theorem d_M_addressCanBe_7 : decode b_M_addressCanBe 7 = .ok (.aload_n 0, 1) := by decide +kernel
theorem d_M_addressCanBe_8 : decode b_M_addressCanBe 8 = .ok (.getfield 81, 3) := by decide +kernel
theorem d_M_addressCanBe_11 : decode b_M_addressCanBe 11 = .ok (.invokestatic 36, 3) := by decide +kernel
theorem d_M_addressCanBe_14 : decode b_M_addressCanBe 14 = .ok (.ireturn, 1) := by decide +kernel
theorem d_M_addressCanBe_15 : decode b_M_addressCanBe 15 = .ok (.aload_n 0, 1) := by decide +kernel
theorem d_M_addressCanBe_16 : decode b_M_addressCanBe 16 = .ok (.getfield 61, 3) := by decide +kernel
theorem d_M_addressCanBe_19 : decode b_M_addressCanBe 19 = .ok (.lookupswitch 95 #[(0, 65), (5, 65), (6, 67), (7, 80), (35, 65), (36, 85), (37, 85)], 65) := by decide +kernel
theorem d_M_addressCanBe_84 : decode b_M_addressCanBe 84 = .ok (.iconst 1, 1) := by decide +kernel
theorem d_M_addressCanBe_85 : decode b_M_addressCanBe 85 = .ok (.ireturn, 1) := by decide +kernel
theorem d_M_addressCanBe_86 : decode b_M_addressCanBe 86 = .ok (.aload_n 0, 1) := by decide +kernel
theorem d_M_addressCanBe_87 : decode b_M_addressCanBe 87 = .ok (.getfield 81, 3) := by decide +kernel
theorem d_M_addressCanBe_90 : decode b_M_addressCanBe 90 = .ok (.ifCond .lt 7, 3) := by decide +kernel
theorem d_M_addressCanBe_93 : decode b_M_addressCanBe 93 = .ok (.iconst 1, 1) := by decide +kernel
theorem d_M_addressCanBe_94 : decode b_M_addressCanBe 94 = .ok (.goto 4, 3) := by decide +kernel
theorem d_M_addressCanBe_97 : decode b_M_addressCanBe 97 = .ok (.iconst 0, 1) := by decide +kernel
theorem d_M_addressCanBe_98 : decode b_M_addressCanBe 98 = .ok (.ireturn, 1) := by decide +kernel
theorem d_M_addressCanBe_99 : decode b_M_addressCanBe 99 = .ok (.aload_n 0, 1) := by decide +kernel
theorem d_M_addressCanBe_100 : decode b_M_addressCanBe 100 = .ok (.invokevirtual 109, 3) := by decide +kernel
theorem d_M_addressCanBe_103 : decode b_M_addressCanBe 103 = .ok (.ireturn, 1) := by decide +kernel
theorem d_M_addressCanBe_104 : decode b_M_addressCanBe 104 = .ok (.aload_n 0, 1) := by decide +kernel
theorem d_M_addressCanBe_105 : decode b_M_addressCanBe 105 = .ok (.getfield 81, 3) := by decide +kernel
theorem d_M_addressCanBe_108 : decode b_M_addressCanBe 108 = .ok (.bipush 100, 2) := by decide +kernel
theorem d_M_addressCanBe_110 : decode b_M_addressCanBe 110 = .ok (.invokestatic 112, 3) := by decide +kernel
theorem d_M_addressCanBe_113 : decode b_M_addressCanBe 113 = .ok (.ireturn, 1) := by decide +kernel
theorem d_M_addressCanBe_114 : decode b_M_addressCanBe 114 = .ok (.aload_n 0, 1) := by decide +kernel
theorem d_M_addressCanBe_115 : decode b_M_addressCanBe 115 = .ok (.getfield 61, 3) := by decide +kernel
theorem d_M_addressCanBe_118 : decode b_M_addressCanBe 118 = .ok (.bipush 48, 2) := by decide +kernel
theorem d_M_addressCanBe_120 : decode b_M_addressCanBe 120 = .ok (.if_icmp .ge 13, 3) := by decide +kernel
theorem d_M_addressCanBe_123 : decode b_M_addressCanBe 123 = .ok (.aload_n 0, 1) := by decide +kernel
theorem d_M_addressCanBe_124 : decode b_M_addressCanBe 124 = .ok (.getfield 81, 3) := by decide +kernel
theorem d_M_addressCanBe_127 : decode b_M_addressCanBe 127 = .ok (.invokestatic 36, 3) := by decide +kernel
theorem d_M_addressCanBe_130 : decode b_M_addressCanBe 130 = .ok (.ifCond .eq 7, 3) := by decide +kernel
theorem d_M_addressCanBe_133 : decode b_M_addressCanBe 133 = .ok (.iconst 1, 1) := by decide +kernel
theorem d_M_addressCanBe_134 : decode b_M_addressCanBe 134 = .ok (.goto 4, 3) := by decide +kernel
theorem d_M_addressCanBe_137 : decode b_M_addressCanBe 137 = .ok (.iconst 0, 1) := by decide +kernel
theorem d_M_addressCanBe_138 : decode b_M_addressCanBe 138 = .ok (.ireturn, 1) := by decide +kernel
abbrev b_M_indexCanBe : ByteArray := prog_3_method_19_code
abbrev y_M_indexCanBe : MethodName := ⟨"SignMachine$Machine", "indexCanBe", "()Z"⟩
theorem h_M_indexCanBe : (y_M_indexCanBe).cls ≠ "java/lang/invoke/MethodHandle" ∧ (y_M_indexCanBe).cls ≠ "java/lang/invoke/VarHandle" ∧ (parseMethodDescriptor (y_M_indexCanBe).desc).map (fun d => d.parameters.length) = some 0 := by decide +kernel
theorem d_M_indexCanBe_0 : decode b_M_indexCanBe 0 = .ok (.aload_n 0, 1) := by decide +kernel
theorem d_M_indexCanBe_1 : decode b_M_indexCanBe 1 = .ok (.getfield 61, 3) := by decide +kernel
theorem d_M_indexCanBe_4 : decode b_M_indexCanBe 4 = .ok (.bipush 7, 2) := by decide +kernel
theorem d_M_indexCanBe_6 : decode b_M_indexCanBe 6 = .ok (.iand, 1) := by decide +kernel
theorem d_M_indexCanBe_7 : decode b_M_indexCanBe 7 = .ok (.invokestatic 28, 3) := by decide +kernel
theorem d_M_indexCanBe_10 : decode b_M_indexCanBe 10 = .ok (.ifCond .ne 5, 3) := by decide +kernel
theorem d_M_indexCanBe_13 : decode b_M_indexCanBe 13 = .ok (.iconst 1, 1) := by decide +kernel
theorem d_M_indexCanBe_14 : decode b_M_indexCanBe 14 = .ok (.ireturn, 1) := by decide +kernel
theorem d_M_indexCanBe_15 : decode b_M_indexCanBe 15 = .ok (.aload_n 0, 1) := by decide +kernel
theorem d_M_indexCanBe_16 : decode b_M_indexCanBe 16 = .ok (.getfield 61, 3) := by decide +kernel
theorem d_M_indexCanBe_19 : decode b_M_indexCanBe 19 = .ok (.iconst 3, 1) := by decide +kernel
theorem d_M_indexCanBe_20 : decode b_M_indexCanBe 20 = .ok (.ishr, 1) := by decide +kernel
theorem d_M_indexCanBe_21 : decode b_M_indexCanBe 21 = .ok (.lookupswitch 73 #[(1, 35), (2, 35), (6, 54)], 35) := by decide +kernel
theorem d_M_indexCanBe_56 : decode b_M_indexCanBe 56 = .ok (.aload_n 0, 1) := by decide +kernel
theorem d_M_indexCanBe_57 : decode b_M_indexCanBe 57 = .ok (.invokevirtual 116, 3) := by decide +kernel
theorem d_M_indexCanBe_60 : decode b_M_indexCanBe 60 = .ok (.invokestatic 67, 3) := by decide +kernel
theorem d_M_indexCanBe_63 : decode b_M_indexCanBe 63 = .ok (.sipush 4095, 3) := by decide +kernel
theorem d_M_indexCanBe_66 : decode b_M_indexCanBe 66 = .ok (.if_icmp .gt 7, 3) := by decide +kernel
theorem d_M_indexCanBe_69 : decode b_M_indexCanBe 69 = .ok (.iconst 1, 1) := by decide +kernel
theorem d_M_indexCanBe_70 : decode b_M_indexCanBe 70 = .ok (.goto 4, 3) := by decide +kernel
theorem d_M_indexCanBe_73 : decode b_M_indexCanBe 73 = .ok (.iconst 0, 1) := by decide +kernel
theorem d_M_indexCanBe_74 : decode b_M_indexCanBe 74 = .ok (.ireturn, 1) := by decide +kernel
theorem d_M_indexCanBe_75 : decode b_M_indexCanBe 75 = .ok (.aload_n 0, 1) := by decide +kernel
theorem d_M_indexCanBe_76 : decode b_M_indexCanBe 76 = .ok (.invokevirtual 119, 3) := by decide +kernel
theorem d_M_indexCanBe_79 : decode b_M_indexCanBe 79 = .ok (.invokestatic 122, 3) := by decide +kernel
theorem d_M_indexCanBe_82 : decode b_M_indexCanBe 82 = .ok (.sipush 4095, 3) := by decide +kernel
theorem d_M_indexCanBe_85 : decode b_M_indexCanBe 85 = .ok (.if_icmp .gt 7, 3) := by decide +kernel
theorem d_M_indexCanBe_88 : decode b_M_indexCanBe 88 = .ok (.iconst 1, 1) := by decide +kernel
theorem d_M_indexCanBe_89 : decode b_M_indexCanBe 89 = .ok (.goto 4, 3) := by decide +kernel
theorem d_M_indexCanBe_92 : decode b_M_indexCanBe 92 = .ok (.iconst 0, 1) := by decide +kernel
theorem d_M_indexCanBe_93 : decode b_M_indexCanBe 93 = .ok (.ireturn, 1) := by decide +kernel
theorem d_M_indexCanBe_94 : decode b_M_indexCanBe 94 = .ok (.iconst 1, 1) := by decide +kernel
theorem d_M_indexCanBe_95 : decode b_M_indexCanBe 95 = .ok (.ireturn, 1) := by decide +kernel
abbrev b_M_blockCanBe : ByteArray := prog_3_method_20_code
abbrev y_M_blockCanBe : MethodName := ⟨"SignMachine$Machine", "blockCanBe", "()Z"⟩
theorem h_M_blockCanBe : (y_M_blockCanBe).cls ≠ "java/lang/invoke/MethodHandle" ∧ (y_M_blockCanBe).cls ≠ "java/lang/invoke/VarHandle" ∧ (parseMethodDescriptor (y_M_blockCanBe).desc).map (fun d => d.parameters.length) = some 0 := by decide +kernel
theorem d_M_blockCanBe_0 : decode b_M_blockCanBe 0 = .ok (.aload_n 0, 1) := by decide +kernel
theorem d_M_blockCanBe_1 : decode b_M_blockCanBe 1 = .ok (.getfield 61, 3) := by decide +kernel
theorem d_M_blockCanBe_4 : decode b_M_blockCanBe 4 = .ok (.bipush 35, 2) := by decide +kernel
theorem d_M_blockCanBe_6 : decode b_M_blockCanBe 6 = .ok (.if_icmp .lt 12, 3) := by decide +kernel
theorem d_M_blockCanBe_9 : decode b_M_blockCanBe 9 = .ok (.aload_n 0, 1) := by decide +kernel
theorem d_M_blockCanBe_10 : decode b_M_blockCanBe 10 = .ok (.getfield 61, 3) := by decide +kernel
theorem d_M_blockCanBe_13 : decode b_M_blockCanBe 13 = .ok (.bipush 37, 2) := by decide +kernel
theorem d_M_blockCanBe_15 : decode b_M_blockCanBe 15 = .ok (.if_icmp .le 5, 3) := by decide +kernel
theorem d_M_blockCanBe_18 : decode b_M_blockCanBe 18 = .ok (.iconst 1, 1) := by decide +kernel
theorem d_M_blockCanBe_19 : decode b_M_blockCanBe 19 = .ok (.ireturn, 1) := by decide +kernel
theorem d_M_blockCanBe_20 : decode b_M_blockCanBe 20 = .ok (.aload_n 0, 1) := by decide +kernel
theorem d_M_blockCanBe_21 : decode b_M_blockCanBe 21 = .ok (.aload_n 0, 1) := by decide +kernel
theorem d_M_blockCanBe_22 : decode b_M_blockCanBe 22 = .ok (.getfield 64, 3) := by decide +kernel
theorem d_M_blockCanBe_25 : decode b_M_blockCanBe 25 = .ok (.invokevirtual 127, 3) := by decide +kernel
theorem d_M_blockCanBe_28 : decode b_M_blockCanBe 28 = .ok (.getfield 131, 3) := by decide +kernel
theorem d_M_blockCanBe_31 : decode b_M_blockCanBe 31 = .ok (.istore_n 1, 1) := by decide +kernel
theorem d_M_blockCanBe_32 : decode b_M_blockCanBe 32 = .ok (.aload_n 0, 1) := by decide +kernel
theorem d_M_blockCanBe_33 : decode b_M_blockCanBe 33 = .ok (.getfield 61, 3) := by decide +kernel
theorem d_M_blockCanBe_36 : decode b_M_blockCanBe 36 = .ok (.bipush 35, 2) := by decide +kernel
theorem d_M_blockCanBe_38 : decode b_M_blockCanBe 38 = .ok (.if_icmp .eq 15, 3) := by decide +kernel
theorem d_M_blockCanBe_41 : decode b_M_blockCanBe 41 = .ok (.iload_n 1, 1) := by decide +kernel
theorem d_M_blockCanBe_42 : decode b_M_blockCanBe 42 = .ok (.bipush 40, 2) := by decide +kernel
theorem d_M_blockCanBe_44 : decode b_M_blockCanBe 44 = .ok (.if_icmp .ge 7, 3) := by decide +kernel
theorem d_M_blockCanBe_47 : decode b_M_blockCanBe 47 = .ok (.iconst 1, 1) := by decide +kernel
theorem d_M_blockCanBe_48 : decode b_M_blockCanBe 48 = .ok (.goto 4, 3) := by decide +kernel
theorem d_M_blockCanBe_51 : decode b_M_blockCanBe 51 = .ok (.iconst 0, 1) := by decide +kernel
theorem d_M_blockCanBe_52 : decode b_M_blockCanBe 52 = .ok (.ireturn, 1) := by decide +kernel
theorem d_M_blockCanBe_53 : decode b_M_blockCanBe 53 = .ok (.aload_n 0, 1) := by decide +kernel
theorem d_M_blockCanBe_54 : decode b_M_blockCanBe 54 = .ok (.getfield 81, 3) := by decide +kernel
theorem d_M_blockCanBe_57 : decode b_M_blockCanBe 57 = .ok (.ifCond .eq 23, 3) := by decide +kernel
theorem d_M_blockCanBe_60 : decode b_M_blockCanBe 60 = .ok (.iload_n 1, 1) := by decide +kernel
theorem d_M_blockCanBe_61 : decode b_M_blockCanBe 61 = .ok (.aload_n 0, 1) := by decide +kernel
theorem d_M_blockCanBe_62 : decode b_M_blockCanBe 62 = .ok (.getfield 81, 3) := by decide +kernel
theorem d_M_blockCanBe_65 : decode b_M_blockCanBe 65 = .ok (.iadd, 1) := by decide +kernel
theorem d_M_blockCanBe_66 : decode b_M_blockCanBe 66 = .ok (.ifCond .lt 18, 3) := by decide +kernel
theorem d_M_blockCanBe_69 : decode b_M_blockCanBe 69 = .ok (.iload_n 1, 1) := by decide +kernel
theorem d_M_blockCanBe_70 : decode b_M_blockCanBe 70 = .ok (.aload_n 0, 1) := by decide +kernel
theorem d_M_blockCanBe_71 : decode b_M_blockCanBe 71 = .ok (.getfield 81, 3) := by decide +kernel
theorem d_M_blockCanBe_74 : decode b_M_blockCanBe 74 = .ok (.iadd, 1) := by decide +kernel
theorem d_M_blockCanBe_75 : decode b_M_blockCanBe 75 = .ok (.bipush 40, 2) := by decide +kernel
theorem d_M_blockCanBe_77 : decode b_M_blockCanBe 77 = .ok (.if_icmp .gt 7, 3) := by decide +kernel
theorem d_M_blockCanBe_80 : decode b_M_blockCanBe 80 = .ok (.iconst 1, 1) := by decide +kernel
theorem d_M_blockCanBe_81 : decode b_M_blockCanBe 81 = .ok (.goto 4, 3) := by decide +kernel
theorem d_M_blockCanBe_84 : decode b_M_blockCanBe 84 = .ok (.iconst 0, 1) := by decide +kernel
theorem d_M_blockCanBe_85 : decode b_M_blockCanBe 85 = .ok (.ireturn, 1) := by decide +kernel
abbrev b_M_duration : ByteArray := prog_3_method_21_code
abbrev y_M_duration : MethodName := ⟨"SignMachine$Machine", "duration", "()I"⟩
theorem h_M_duration : (y_M_duration).cls ≠ "java/lang/invoke/MethodHandle" ∧ (y_M_duration).cls ≠ "java/lang/invoke/VarHandle" ∧ (parseMethodDescriptor (y_M_duration).desc).map (fun d => d.parameters.length) = some 0 := by decide +kernel
theorem d_M_duration_0 : decode b_M_duration 0 = .ok (.aload_n 0, 1) := by decide +kernel
theorem d_M_duration_1 : decode b_M_duration 1 = .ok (.invokevirtual 103, 3) := by decide +kernel
theorem d_M_duration_4 : decode b_M_duration 4 = .ok (.ifCond .eq 31, 3) := by decide +kernel
theorem d_M_duration_7 : decode b_M_duration 7 = .ok (.aload_n 0, 1) := by decide +kernel
theorem d_M_duration_8 : decode b_M_duration 8 = .ok (.getfield 61, 3) := by decide +kernel
theorem d_M_duration_11 : decode b_M_duration 11 = .ok (.iconst 3, 1) := by decide +kernel
theorem d_M_duration_12 : decode b_M_duration 12 = .ok (.if_icmp .ne 8, 3) := by decide +kernel
theorem d_M_duration_15 : decode b_M_duration 15 = .ok (.bipush 10, 2) := by decide +kernel
theorem d_M_duration_17 : decode b_M_duration 17 = .ok (.goto 17, 3) := by decide +kernel
theorem d_M_duration_20 : decode b_M_duration 20 = .ok (.aload_n 0, 1) := by decide +kernel
theorem d_M_duration_21 : decode b_M_duration 21 = .ok (.getfield 61, 3) := by decide +kernel
theorem d_M_duration_24 : decode b_M_duration 24 = .ok (.iconst 4, 1) := by decide +kernel
theorem d_M_duration_25 : decode b_M_duration 25 = .ok (.if_icmp .ne 8, 3) := by decide +kernel
theorem d_M_duration_28 : decode b_M_duration 28 = .ok (.bipush 12, 2) := by decide +kernel
theorem d_M_duration_30 : decode b_M_duration 30 = .ok (.goto 4, 3) := by decide +kernel
theorem d_M_duration_33 : decode b_M_duration 33 = .ok (.iconst 2, 1) := by decide +kernel
theorem d_M_duration_34 : decode b_M_duration 34 = .ok (.ireturn, 1) := by decide +kernel
theorem d_M_duration_35 : decode b_M_duration 35 = .ok (.aload_n 0, 1) := by decide +kernel
theorem d_M_duration_36 : decode b_M_duration 36 = .ok (.getfield 61, 3) := by decide +kernel
theorem d_M_duration_39 : decode b_M_duration 39 = .ok (.tableswitch 39 5 7 #[25, 28, 30], 25) := by decide +kernel
theorem d_M_duration_64 : decode b_M_duration 64 = .ok (.bipush 10, 2) := by decide +kernel
theorem d_M_duration_66 : decode b_M_duration 66 = .ok (.ireturn, 1) := by decide +kernel
theorem d_M_duration_67 : decode b_M_duration 67 = .ok (.iconst 2, 1) := by decide +kernel
theorem d_M_duration_68 : decode b_M_duration 68 = .ok (.ireturn, 1) := by decide +kernel
theorem d_M_duration_69 : decode b_M_duration 69 = .ok (.iconst 1, 1) := by decide +kernel
theorem d_M_duration_70 : decode b_M_duration 70 = .ok (.iconst 2, 1) := by decide +kernel
theorem d_M_duration_71 : decode b_M_duration 71 = .ok (.aload_n 0, 1) := by decide +kernel
theorem d_M_duration_72 : decode b_M_duration 72 = .ok (.getfield 64, 3) := by decide +kernel
theorem d_M_duration_75 : decode b_M_duration 75 = .ok (.imul, 1) := by decide +kernel
theorem d_M_duration_76 : decode b_M_duration 76 = .ok (.iadd, 1) := by decide +kernel
theorem d_M_duration_77 : decode b_M_duration 77 = .ok (.ireturn, 1) := by decide +kernel
theorem d_M_duration_78 : decode b_M_duration 78 = .ok (.iconst 1, 1) := by decide +kernel
theorem d_M_duration_79 : decode b_M_duration 79 = .ok (.ireturn, 1) := by decide +kernel
abbrev b_M_perform : ByteArray := prog_3_method_23_code
abbrev y_M_perform : MethodName := ⟨"SignMachine$Machine", "perform", "()V"⟩
theorem h_M_perform : (y_M_perform).cls ≠ "java/lang/invoke/MethodHandle" ∧ (y_M_perform).cls ≠ "java/lang/invoke/VarHandle" ∧ (parseMethodDescriptor (y_M_perform).desc).map (fun d => d.parameters.length) = some 0 := by decide +kernel
theorem d_M_perform_0 : decode b_M_perform 0 = .ok (.aload_n 0, 1) := by decide +kernel
theorem d_M_perform_1 : decode b_M_perform 1 = .ok (.getfield 61, 3) := by decide +kernel
theorem d_M_perform_4 : decode b_M_perform 4 = .ok (.iconst 3, 1) := by decide +kernel
theorem d_M_perform_5 : decode b_M_perform 5 = .ok (.ishr, 1) := by decide +kernel
theorem d_M_perform_6 : decode b_M_perform 6 = .ok (.tableswitch 152 0 6 #[42, 49, 67, 88, 106, 113, 138], 42) := by decide +kernel
theorem d_M_perform_48 : decode b_M_perform 48 = .ok (.aload_n 0, 1) := by decide +kernel
theorem d_M_perform_49 : decode b_M_perform 49 = .ok (.invokevirtual 137, 3) := by decide +kernel
theorem d_M_perform_52 : decode b_M_perform 52 = .ok (.goto 121, 3) := by decide +kernel
theorem d_M_perform_55 : decode b_M_perform 55 = .ok (.aload_n 0, 1) := by decide +kernel
theorem d_M_perform_56 : decode b_M_perform 56 = .ok (.aload_n 0, 1) := by decide +kernel
theorem d_M_perform_57 : decode b_M_perform 57 = .ok (.getfield 61, 3) := by decide +kernel
theorem d_M_perform_60 : decode b_M_perform 60 = .ok (.bipush 7, 2) := by decide +kernel
theorem d_M_perform_62 : decode b_M_perform 62 = .ok (.iand, 1) := by decide +kernel
theorem d_M_perform_63 : decode b_M_perform 63 = .ok (.aload_n 0, 1) := by decide +kernel
theorem d_M_perform_64 : decode b_M_perform 64 = .ok (.invokevirtual 116, 3) := by decide +kernel
theorem d_M_perform_67 : decode b_M_perform 67 = .ok (.invokevirtual 140, 3) := by decide +kernel
theorem d_M_perform_70 : decode b_M_perform 70 = .ok (.goto 103, 3) := by decide +kernel
theorem d_M_perform_73 : decode b_M_perform 73 = .ok (.aload_n 0, 1) := by decide +kernel
theorem d_M_perform_74 : decode b_M_perform 74 = .ok (.aload_n 0, 1) := by decide +kernel
theorem d_M_perform_75 : decode b_M_perform 75 = .ok (.getfield 61, 3) := by decide +kernel
theorem d_M_perform_78 : decode b_M_perform 78 = .ok (.bipush 7, 2) := by decide +kernel
theorem d_M_perform_80 : decode b_M_perform 80 = .ok (.iand, 1) := by decide +kernel
theorem d_M_perform_81 : decode b_M_perform 81 = .ok (.aload_n 0, 1) := by decide +kernel
theorem d_M_perform_82 : decode b_M_perform 82 = .ok (.invokevirtual 116, 3) := by decide +kernel
theorem d_M_perform_85 : decode b_M_perform 85 = .ok (.invokestatic 144, 3) := by decide +kernel
theorem d_M_perform_88 : decode b_M_perform 88 = .ok (.invokevirtual 140, 3) := by decide +kernel
theorem d_M_perform_91 : decode b_M_perform 91 = .ok (.goto 82, 3) := by decide +kernel
theorem d_M_perform_94 : decode b_M_perform 94 = .ok (.aload_n 0, 1) := by decide +kernel
theorem d_M_perform_95 : decode b_M_perform 95 = .ok (.aload_n 0, 1) := by decide +kernel
theorem d_M_perform_96 : decode b_M_perform 96 = .ok (.aload_n 0, 1) := by decide +kernel
theorem d_M_perform_97 : decode b_M_perform 97 = .ok (.getfield 61, 3) := by decide +kernel
theorem d_M_perform_100 : decode b_M_perform 100 = .ok (.bipush 7, 2) := by decide +kernel
theorem d_M_perform_102 : decode b_M_perform 102 = .ok (.iand, 1) := by decide +kernel
theorem d_M_perform_103 : decode b_M_perform 103 = .ok (.invokevirtual 84, 3) := by decide +kernel
theorem d_M_perform_106 : decode b_M_perform 106 = .ok (.invokevirtual 147, 3) := by decide +kernel
theorem d_M_perform_109 : decode b_M_perform 109 = .ok (.goto 64, 3) := by decide +kernel
theorem d_M_perform_112 : decode b_M_perform 112 = .ok (.aload_n 0, 1) := by decide +kernel
theorem d_M_perform_113 : decode b_M_perform 113 = .ok (.invokevirtual 150, 3) := by decide +kernel
theorem d_M_perform_116 : decode b_M_perform 116 = .ok (.goto 57, 3) := by decide +kernel
theorem d_M_perform_119 : decode b_M_perform 119 = .ok (.aload_n 0, 1) := by decide +kernel
theorem d_M_perform_120 : decode b_M_perform 120 = .ok (.aload_n 0, 1) := by decide +kernel
theorem d_M_perform_121 : decode b_M_perform 121 = .ok (.aload_n 0, 1) := by decide +kernel
theorem d_M_perform_122 : decode b_M_perform 122 = .ok (.aload_n 0, 1) := by decide +kernel
theorem d_M_perform_123 : decode b_M_perform 123 = .ok (.getfield 61, 3) := by decide +kernel
theorem d_M_perform_126 : decode b_M_perform 126 = .ok (.bipush 7, 2) := by decide +kernel
theorem d_M_perform_128 : decode b_M_perform 128 = .ok (.iand, 1) := by decide +kernel
theorem d_M_perform_129 : decode b_M_perform 129 = .ok (.invokevirtual 84, 3) := by decide +kernel
theorem d_M_perform_132 : decode b_M_perform 132 = .ok (.invokestatic 87, 3) := by decide +kernel
theorem d_M_perform_135 : decode b_M_perform 135 = .ok (.invokevirtual 153, 3) := by decide +kernel
theorem d_M_perform_138 : decode b_M_perform 138 = .ok (.invokevirtual 156, 3) := by decide +kernel
theorem d_M_perform_141 : decode b_M_perform 141 = .ok (.goto 32, 3) := by decide +kernel
theorem d_M_perform_144 : decode b_M_perform 144 = .ok (.aload_n 0, 1) := by decide +kernel
theorem d_M_perform_145 : decode b_M_perform 145 = .ok (.aload_n 0, 1) := by decide +kernel
theorem d_M_perform_146 : decode b_M_perform 146 = .ok (.getfield 61, 3) := by decide +kernel
theorem d_M_perform_149 : decode b_M_perform 149 = .ok (.bipush 7, 2) := by decide +kernel
theorem d_M_perform_151 : decode b_M_perform 151 = .ok (.iand, 1) := by decide +kernel
theorem d_M_perform_152 : decode b_M_perform 152 = .ok (.invokevirtual 160, 3) := by decide +kernel
theorem d_M_perform_155 : decode b_M_perform 155 = .ok (.goto 18, 3) := by decide +kernel
theorem d_M_perform_158 : decode b_M_perform 158 = .ok (.aload_n 0, 1) := by decide +kernel
theorem d_M_perform_159 : decode b_M_perform 159 = .ok (.aload_n 0, 1) := by decide +kernel
theorem d_M_perform_160 : decode b_M_perform 160 = .ok (.aload_n 0, 1) := by decide +kernel
theorem d_M_perform_161 : decode b_M_perform 161 = .ok (.getfield 61, 3) := by decide +kernel
theorem d_M_perform_164 : decode b_M_perform 164 = .ok (.bipush 7, 2) := by decide +kernel
theorem d_M_perform_166 : decode b_M_perform 166 = .ok (.iand, 1) := by decide +kernel
theorem d_M_perform_167 : decode b_M_perform 167 = .ok (.invokevirtual 84, 3) := by decide +kernel
theorem d_M_perform_170 : decode b_M_perform 170 = .ok (.invokevirtual 163, 3) := by decide +kernel
theorem d_M_perform_173 : decode b_M_perform 173 = .ok (.return_, 1) := by decide +kernel
abbrev b_M_performLow : ByteArray := prog_3_method_24_code
abbrev y_M_performLow : MethodName := ⟨"SignMachine$Machine", "performLow", "()V"⟩
theorem h_M_performLow : (y_M_performLow).cls ≠ "java/lang/invoke/MethodHandle" ∧ (y_M_performLow).cls ≠ "java/lang/invoke/VarHandle" ∧ (parseMethodDescriptor (y_M_performLow).desc).map (fun d => d.parameters.length) = some 0 := by decide +kernel
theorem d_M_performLow_0 : decode b_M_performLow 0 = .ok (.aload_n 0, 1) := by decide +kernel
theorem d_M_performLow_1 : decode b_M_performLow 1 = .ok (.getfield 61, 3) := by decide +kernel
theorem d_M_performLow_4 : decode b_M_performLow 4 = .ok (.tableswitch 118 1 7 #[44, 59, 75, 86, 97, 104, 111], 44) := by decide +kernel
theorem d_M_performLow_48 : decode b_M_performLow 48 = .ok (.aload_n 0, 1) := by decide +kernel
theorem d_M_performLow_49 : decode b_M_performLow 49 = .ok (.iconst 0, 1) := by decide +kernel
theorem d_M_performLow_50 : decode b_M_performLow 50 = .ok (.aload_n 0, 1) := by decide +kernel
theorem d_M_performLow_51 : decode b_M_performLow 51 = .ok (.invokevirtual 116, 3) := by decide +kernel
theorem d_M_performLow_54 : decode b_M_performLow 54 = .ok (.invokestatic 87, 3) := by decide +kernel
theorem d_M_performLow_57 : decode b_M_performLow 57 = .ok (.invokevirtual 166, 3) := by decide +kernel
theorem d_M_performLow_60 : decode b_M_performLow 60 = .ok (.goto 62, 3) := by decide +kernel
theorem d_M_performLow_63 : decode b_M_performLow 63 = .ok (.aload_n 0, 1) := by decide +kernel
theorem d_M_performLow_64 : decode b_M_performLow 64 = .ok (.iconst 0, 1) := by decide +kernel
theorem d_M_performLow_65 : decode b_M_performLow 65 = .ok (.aload_n 0, 1) := by decide +kernel
theorem d_M_performLow_66 : decode b_M_performLow 66 = .ok (.invokevirtual 116, 3) := by decide +kernel
theorem d_M_performLow_69 : decode b_M_performLow 69 = .ok (.invokestatic 87, 3) := by decide +kernel
theorem d_M_performLow_72 : decode b_M_performLow 72 = .ok (.ineg, 1) := by decide +kernel
theorem d_M_performLow_73 : decode b_M_performLow 73 = .ok (.invokevirtual 166, 3) := by decide +kernel
theorem d_M_performLow_76 : decode b_M_performLow 76 = .ok (.goto 46, 3) := by decide +kernel
theorem d_M_performLow_79 : decode b_M_performLow 79 = .ok (.aload_n 0, 1) := by decide +kernel
theorem d_M_performLow_80 : decode b_M_performLow 80 = .ok (.aload_n 0, 1) := by decide +kernel
theorem d_M_performLow_81 : decode b_M_performLow 81 = .ok (.invokevirtual 116, 3) := by decide +kernel
theorem d_M_performLow_84 : decode b_M_performLow 84 = .ok (.invokevirtual 169, 3) := by decide +kernel
theorem d_M_performLow_87 : decode b_M_performLow 87 = .ok (.goto 35, 3) := by decide +kernel
theorem d_M_performLow_90 : decode b_M_performLow 90 = .ok (.aload_n 0, 1) := by decide +kernel
theorem d_M_performLow_91 : decode b_M_performLow 91 = .ok (.aload_n 0, 1) := by decide +kernel
theorem d_M_performLow_92 : decode b_M_performLow 92 = .ok (.invokevirtual 116, 3) := by decide +kernel
theorem d_M_performLow_95 : decode b_M_performLow 95 = .ok (.invokevirtual 172, 3) := by decide +kernel
theorem d_M_performLow_98 : decode b_M_performLow 98 = .ok (.goto 24, 3) := by decide +kernel
theorem d_M_performLow_101 : decode b_M_performLow 101 = .ok (.aload_n 0, 1) := by decide +kernel
theorem d_M_performLow_102 : decode b_M_performLow 102 = .ok (.invokevirtual 175, 3) := by decide +kernel
theorem d_M_performLow_105 : decode b_M_performLow 105 = .ok (.goto 17, 3) := by decide +kernel
theorem d_M_performLow_108 : decode b_M_performLow 108 = .ok (.aload_n 0, 1) := by decide +kernel
theorem d_M_performLow_109 : decode b_M_performLow 109 = .ok (.invokevirtual 178, 3) := by decide +kernel
theorem d_M_performLow_112 : decode b_M_performLow 112 = .ok (.goto 10, 3) := by decide +kernel
theorem d_M_performLow_115 : decode b_M_performLow 115 = .ok (.aload_n 0, 1) := by decide +kernel
theorem d_M_performLow_116 : decode b_M_performLow 116 = .ok (.invokevirtual 181, 3) := by decide +kernel
theorem d_M_performLow_119 : decode b_M_performLow 119 = .ok (.goto 3, 3) := by decide +kernel
theorem d_M_performLow_122 : decode b_M_performLow 122 = .ok (.return_, 1) := by decide +kernel
abbrev b_S_run : ByteArray := prog_1_method_6_code
abbrev y_S_run : MethodName := ⟨"SignMachine", "run", "(I)I"⟩
theorem h_S_run : (y_S_run).cls ≠ "java/lang/invoke/MethodHandle" ∧ (y_S_run).cls ≠ "java/lang/invoke/VarHandle" ∧ (parseMethodDescriptor (y_S_run).desc).map (fun d => d.parameters.length) = some 1 := by decide +kernel
theorem d_S_run_0 : decode b_S_run 0 = .ok (.iload_n 1, 1) := by decide +kernel
theorem d_S_run_1 : decode b_S_run 1 = .ok (.iconst 1, 1) := by decide +kernel
theorem d_S_run_2 : decode b_S_run 2 = .ok (.if_icmp .lt 10, 3) := by decide +kernel
theorem d_S_run_5 : decode b_S_run 5 = .ok (.iload_n 1, 1) := by decide +kernel
theorem d_S_run_6 : decode b_S_run 6 = .ok (.sipush 20000, 3) := by decide +kernel
theorem d_S_run_9 : decode b_S_run 9 = .ok (.if_icmp .le 5, 3) := by decide +kernel
theorem d_S_run_12 : decode b_S_run 12 = .ok (.iconst (-1), 1) := by decide +kernel
theorem d_S_run_13 : decode b_S_run 13 = .ok (.ireturn, 1) := by decide +kernel
theorem d_S_run_14 : decode b_S_run 14 = .ok (.iconst 0, 1) := by decide +kernel
theorem d_S_run_15 : decode b_S_run 15 = .ok (.istore_n 2, 1) := by decide +kernel
theorem d_S_run_16 : decode b_S_run 16 = .ok (.iconst 0, 1) := by decide +kernel
theorem d_S_run_17 : decode b_S_run 17 = .ok (.istore_n 3, 1) := by decide +kernel
theorem d_S_run_18 : decode b_S_run 18 = .ok (.iconst 0, 1) := by decide +kernel
theorem d_S_run_19 : decode b_S_run 19 = .ok (.istore 4, 2) := by decide +kernel
theorem d_S_run_21 : decode b_S_run 21 = .ok (.iload 4, 2) := by decide +kernel
theorem d_S_run_23 : decode b_S_run 23 = .ok (.iload_n 1, 1) := by decide +kernel
theorem d_S_run_24 : decode b_S_run 24 = .ok (.if_icmp .ge 29, 3) := by decide +kernel
theorem d_S_run_27 : decode b_S_run 27 = .ok (.iload_n 3, 1) := by decide +kernel
theorem d_S_run_28 : decode b_S_run 28 = .ok (.ifCond .ne 25, 3) := by decide +kernel
theorem d_S_run_31 : decode b_S_run 31 = .ok (.aload_n 0, 1) := by decide +kernel
theorem d_S_run_32 : decode b_S_run 32 = .ok (.getfield 10, 3) := by decide +kernel
theorem d_S_run_35 : decode b_S_run 35 = .ok (.invokevirtual 44, 3) := by decide +kernel
theorem d_S_run_38 : decode b_S_run 38 = .ok (.istore_n 3, 1) := by decide +kernel
theorem d_S_run_39 : decode b_S_run 39 = .ok (.iload_n 3, 1) := by decide +kernel
theorem d_S_run_40 : decode b_S_run 40 = .ok (.iconst 1, 1) := by decide +kernel
theorem d_S_run_41 : decode b_S_run 41 = .ok (.if_icmp .gt 6, 3) := by decide +kernel
theorem d_S_run_44 : decode b_S_run 44 = .ok (.iinc 2 1, 3) := by decide +kernel
theorem d_S_run_47 : decode b_S_run 47 = .ok (.iinc 4 1, 3) := by decide +kernel
theorem d_S_run_50 : decode b_S_run 50 = .ok (.goto (-29), 3) := by decide +kernel
theorem d_S_run_53 : decode b_S_run 53 = .ok (.aload_n 0, 1) := by decide +kernel
theorem d_S_run_54 : decode b_S_run 54 = .ok (.getfield 10, 3) := by decide +kernel
theorem d_S_run_57 : decode b_S_run 57 = .ok (.iload_n 3, 1) := by decide +kernel
theorem d_S_run_58 : decode b_S_run 58 = .ok (.putfield 48, 3) := by decide +kernel
theorem d_S_run_61 : decode b_S_run 61 = .ok (.iload_n 2, 1) := by decide +kernel
theorem d_S_run_62 : decode b_S_run 62 = .ok (.ireturn, 1) := by decide +kernel
abbrev b_S_feed : ByteArray := prog_1_method_13_code
abbrev y_S_feed : MethodName := ⟨"SignMachine", "feed", "(IIIII)I"⟩
theorem h_S_feed : (y_S_feed).cls ≠ "java/lang/invoke/MethodHandle" ∧ (y_S_feed).cls ≠ "java/lang/invoke/VarHandle" ∧ (parseMethodDescriptor (y_S_feed).desc).map (fun d => d.parameters.length) = some 5 := by decide +kernel
theorem d_S_feed_0 : decode b_S_feed 0 = .ok (.aload_n 0, 1) := by decide +kernel
theorem d_S_feed_1 : decode b_S_feed 1 = .ok (.invokevirtual 95, 3) := by decide +kernel
theorem d_S_feed_4 : decode b_S_feed 4 = .ok (.getfield 99, 3) := by decide +kernel
theorem d_S_feed_7 : decode b_S_feed 7 = .ok (.astore 6, 2) := by decide +kernel
theorem d_S_feed_9 : decode b_S_feed 9 = .ok (.aload 6, 2) := by decide +kernel
theorem d_S_feed_11 : decode b_S_feed 11 = .ok (.invokevirtual 105, 3) := by decide +kernel
theorem d_S_feed_14 : decode b_S_feed 14 = .ok (.ifCond .ne 5, 3) := by decide +kernel
theorem d_S_feed_17 : decode b_S_feed 17 = .ok (.iconst (-1), 1) := by decide +kernel
theorem d_S_feed_18 : decode b_S_feed 18 = .ok (.ireturn, 1) := by decide +kernel
theorem d_S_feed_19 : decode b_S_feed 19 = .ok (.aload 6, 2) := by decide +kernel
theorem d_S_feed_21 : decode b_S_feed 21 = .ok (.iload_n 1, 1) := by decide +kernel
theorem d_S_feed_22 : decode b_S_feed 22 = .ok (.invokevirtual 111, 3) := by decide +kernel
theorem d_S_feed_25 : decode b_S_feed 25 = .ok (.aload 6, 2) := by decide +kernel
theorem d_S_feed_27 : decode b_S_feed 27 = .ok (.iload_n 2, 1) := by decide +kernel
theorem d_S_feed_28 : decode b_S_feed 28 = .ok (.invokevirtual 111, 3) := by decide +kernel
theorem d_S_feed_31 : decode b_S_feed 31 = .ok (.aload 6, 2) := by decide +kernel
theorem d_S_feed_33 : decode b_S_feed 33 = .ok (.iload_n 3, 1) := by decide +kernel
theorem d_S_feed_34 : decode b_S_feed 34 = .ok (.invokevirtual 111, 3) := by decide +kernel
theorem d_S_feed_37 : decode b_S_feed 37 = .ok (.aload 6, 2) := by decide +kernel
theorem d_S_feed_39 : decode b_S_feed 39 = .ok (.iload 4, 2) := by decide +kernel
theorem d_S_feed_41 : decode b_S_feed 41 = .ok (.invokevirtual 111, 3) := by decide +kernel
theorem d_S_feed_44 : decode b_S_feed 44 = .ok (.aload 6, 2) := by decide +kernel
theorem d_S_feed_46 : decode b_S_feed 46 = .ok (.iload 5, 2) := by decide +kernel
theorem d_S_feed_48 : decode b_S_feed 48 = .ok (.invokevirtual 111, 3) := by decide +kernel
theorem d_S_feed_51 : decode b_S_feed 51 = .ok (.aload 6, 2) := by decide +kernel
theorem d_S_feed_53 : decode b_S_feed 53 = .ok (.getfield 115, 3) := by decide +kernel
theorem d_S_feed_56 : decode b_S_feed 56 = .ok (.ireturn, 1) := by decide +kernel
abbrev b_S_assembler : ByteArray := prog_1_method_18_code
abbrev y_S_assembler : MethodName := ⟨"SignMachine", "assembler", "()LSignMachine$Assembler;"⟩
theorem h_S_assembler : (y_S_assembler).cls ≠ "java/lang/invoke/MethodHandle" ∧ (y_S_assembler).cls ≠ "java/lang/invoke/VarHandle" ∧ (parseMethodDescriptor (y_S_assembler).desc).map (fun d => d.parameters.length) = some 0 := by decide +kernel
theorem d_S_assembler_0 : decode b_S_assembler 0 = .ok (.aload_n 0, 1) := by decide +kernel
theorem d_S_assembler_1 : decode b_S_assembler 1 = .ok (.getfield 167, 3) := by decide +kernel
theorem d_S_assembler_4 : decode b_S_assembler 4 = .ok (.ifnonnull 14, 3) := by decide +kernel
theorem d_S_assembler_7 : decode b_S_assembler 7 = .ok (.aload_n 0, 1) := by decide +kernel
theorem d_S_assembler_8 : decode b_S_assembler 8 = .ok (.new 100, 3) := by decide +kernel
theorem d_S_assembler_11 : decode b_S_assembler 11 = .ok (.dup, 1) := by decide +kernel
theorem d_S_assembler_12 : decode b_S_assembler 12 = .ok (.invokespecial 170, 3) := by decide +kernel
theorem d_S_assembler_15 : decode b_S_assembler 15 = .ok (.putfield 167, 3) := by decide +kernel
theorem d_S_assembler_18 : decode b_S_assembler 18 = .ok (.aload_n 0, 1) := by decide +kernel
theorem d_S_assembler_19 : decode b_S_assembler 19 = .ok (.getfield 167, 3) := by decide +kernel
theorem d_S_assembler_22 : decode b_S_assembler 22 = .ok (.areturn, 1) := by decide +kernel
abbrev b_A_init : ByteArray := prog_2_method_1_code
abbrev y_A_init : MethodName := ⟨"SignMachine$Assembler", "<init>", "()V"⟩
theorem h_A_init : (y_A_init).cls ≠ "java/lang/invoke/MethodHandle" ∧ (y_A_init).cls ≠ "java/lang/invoke/VarHandle" ∧ (parseMethodDescriptor (y_A_init).desc).map (fun d => d.parameters.length) = some 0 := by decide +kernel
theorem d_A_init_0 : decode b_A_init 0 = .ok (.aload_n 0, 1) := by decide +kernel
theorem d_A_init_1 : decode b_A_init 1 = .ok (.invokespecial 3, 3) := by decide +kernel
theorem d_A_init_4 : decode b_A_init 4 = .ok (.aload_n 0, 1) := by decide +kernel
theorem d_A_init_5 : decode b_A_init 5 = .ok (.new 9, 3) := by decide +kernel
theorem d_A_init_8 : decode b_A_init 8 = .ok (.dup, 1) := by decide +kernel
theorem d_A_init_9 : decode b_A_init 9 = .ok (.invokespecial 11, 3) := by decide +kernel
theorem d_A_init_12 : decode b_A_init 12 = .ok (.putfield 12, 3) := by decide +kernel
theorem d_A_init_15 : decode b_A_init 15 = .ok (.aload_n 0, 1) := by decide +kernel
theorem d_A_init_16 : decode b_A_init 16 = .ok (.new 18, 3) := by decide +kernel
theorem d_A_init_19 : decode b_A_init 19 = .ok (.dup, 1) := by decide +kernel
theorem d_A_init_20 : decode b_A_init 20 = .ok (.invokespecial 20, 3) := by decide +kernel
theorem d_A_init_23 : decode b_A_init 23 = .ok (.putfield 21, 3) := by decide +kernel
theorem d_A_init_26 : decode b_A_init 26 = .ok (.aload_n 0, 1) := by decide +kernel
theorem d_A_init_27 : decode b_A_init 27 = .ok (.new 25, 3) := by decide +kernel
theorem d_A_init_30 : decode b_A_init 30 = .ok (.dup, 1) := by decide +kernel
theorem d_A_init_31 : decode b_A_init 31 = .ok (.invokespecial 27, 3) := by decide +kernel
theorem d_A_init_34 : decode b_A_init 34 = .ok (.putfield 28, 3) := by decide +kernel
theorem d_A_init_37 : decode b_A_init 37 = .ok (.aload_n 0, 1) := by decide +kernel
theorem d_A_init_38 : decode b_A_init 38 = .ok (.iconst (-1), 1) := by decide +kernel
theorem d_A_init_39 : decode b_A_init 39 = .ok (.putfield 32, 3) := by decide +kernel
theorem d_A_init_42 : decode b_A_init 42 = .ok (.return_, 1) := by decide +kernel
abbrev b_R_init : ByteArray := prog_7_method_1_code
abbrev y_R_init : MethodName := ⟨"SignMachine$Source", "<init>", "()V"⟩
theorem h_R_init : (y_R_init).cls ≠ "java/lang/invoke/MethodHandle" ∧ (y_R_init).cls ≠ "java/lang/invoke/VarHandle" ∧ (parseMethodDescriptor (y_R_init).desc).map (fun d => d.parameters.length) = some 0 := by decide +kernel
theorem d_R_init_0 : decode b_R_init 0 = .ok (.aload_n 0, 1) := by decide +kernel
theorem d_R_init_1 : decode b_R_init 1 = .ok (.invokespecial 1, 3) := by decide +kernel
theorem d_R_init_4 : decode b_R_init 4 = .ok (.aload_n 0, 1) := by decide +kernel
theorem d_R_init_5 : decode b_R_init 5 = .ok (.sipush 4000, 3) := by decide +kernel
theorem d_R_init_8 : decode b_R_init 8 = .ok (.newarray .byte, 2) := by decide +kernel
theorem d_R_init_10 : decode b_R_init 10 = .ok (.putfield 9, 3) := by decide +kernel
theorem d_R_init_13 : decode b_R_init 13 = .ok (.return_, 1) := by decide +kernel
abbrev b_N_init : ByteArray := prog_4_method_1_code
abbrev y_N_init : MethodName := ⟨"SignMachine$Names", "<init>", "()V"⟩
theorem h_N_init : (y_N_init).cls ≠ "java/lang/invoke/MethodHandle" ∧ (y_N_init).cls ≠ "java/lang/invoke/VarHandle" ∧ (parseMethodDescriptor (y_N_init).desc).map (fun d => d.parameters.length) = some 0 := by decide +kernel
theorem d_N_init_0 : decode b_N_init 0 = .ok (.aload_n 0, 1) := by decide +kernel
theorem d_N_init_1 : decode b_N_init 1 = .ok (.invokespecial 5, 3) := by decide +kernel
theorem d_N_init_4 : decode b_N_init 4 = .ok (.aload_n 0, 1) := by decide +kernel
theorem d_N_init_5 : decode b_N_init 5 = .ok (.bipush 100, 2) := by decide +kernel
theorem d_N_init_7 : decode b_N_init 7 = .ok (.newarray .long, 2) := by decide +kernel
theorem d_N_init_9 : decode b_N_init 9 = .ok (.putfield 11, 3) := by decide +kernel
theorem d_N_init_12 : decode b_N_init 12 = .ok (.aload_n 0, 1) := by decide +kernel
theorem d_N_init_13 : decode b_N_init 13 = .ok (.bipush 100, 2) := by decide +kernel
theorem d_N_init_15 : decode b_N_init 15 = .ok (.newarray .int, 2) := by decide +kernel
theorem d_N_init_17 : decode b_N_init 17 = .ok (.putfield 15, 3) := by decide +kernel
theorem d_N_init_20 : decode b_N_init 20 = .ok (.aload_n 0, 1) := by decide +kernel
theorem d_N_init_21 : decode b_N_init 21 = .ok (.bipush 100, 2) := by decide +kernel
theorem d_N_init_23 : decode b_N_init 23 = .ok (.newarray .boolean, 2) := by decide +kernel
theorem d_N_init_25 : decode b_N_init 25 = .ok (.putfield 19, 3) := by decide +kernel
theorem d_N_init_28 : decode b_N_init 28 = .ok (.aload_n 0, 1) := by decide +kernel
theorem d_N_init_29 : decode b_N_init 29 = .ok (.bipush 10, 2) := by decide +kernel
theorem d_N_init_31 : decode b_N_init 31 = .ok (.newarray .int, 2) := by decide +kernel
theorem d_N_init_33 : decode b_N_init 33 = .ok (.putfield 23, 3) := by decide +kernel
theorem d_N_init_36 : decode b_N_init 36 = .ok (.aload_n 0, 1) := by decide +kernel
theorem d_N_init_37 : decode b_N_init 37 = .ok (.bipush 10, 2) := by decide +kernel
theorem d_N_init_39 : decode b_N_init 39 = .ok (.newarray .boolean, 2) := by decide +kernel
theorem d_N_init_41 : decode b_N_init 41 = .ok (.putfield 26, 3) := by decide +kernel
theorem d_N_init_44 : decode b_N_init 44 = .ok (.return_, 1) := by decide +kernel
abbrev b_O_init : ByteArray := prog_6_method_1_code
abbrev y_O_init : MethodName := ⟨"SignMachine$Output", "<init>", "()V"⟩
theorem h_O_init : (y_O_init).cls ≠ "java/lang/invoke/MethodHandle" ∧ (y_O_init).cls ≠ "java/lang/invoke/VarHandle" ∧ (parseMethodDescriptor (y_O_init).desc).map (fun d => d.parameters.length) = some 0 := by decide +kernel
theorem d_O_init_0 : decode b_O_init 0 = .ok (.aload_n 0, 1) := by decide +kernel
theorem d_O_init_1 : decode b_O_init 1 = .ok (.invokespecial 7, 3) := by decide +kernel
theorem d_O_init_4 : decode b_O_init 4 = .ok (.aload_n 0, 1) := by decide +kernel
theorem d_O_init_5 : decode b_O_init 5 = .ok (.sipush 1101, 3) := by decide +kernel
theorem d_O_init_8 : decode b_O_init 8 = .ok (.newarray .int, 2) := by decide +kernel
theorem d_O_init_10 : decode b_O_init 10 = .ok (.putfield 15, 3) := by decide +kernel
theorem d_O_init_13 : decode b_O_init 13 = .ok (.aload_n 0, 1) := by decide +kernel
theorem d_O_init_14 : decode b_O_init 14 = .ok (.sipush 1101, 3) := by decide +kernel
theorem d_O_init_17 : decode b_O_init 17 = .ok (.newarray .int, 2) := by decide +kernel
theorem d_O_init_19 : decode b_O_init 19 = .ok (.putfield 19, 3) := by decide +kernel
theorem d_O_init_22 : decode b_O_init 22 = .ok (.aload_n 0, 1) := by decide +kernel
theorem d_O_init_23 : decode b_O_init 23 = .ok (.sipush 1101, 3) := by decide +kernel
theorem d_O_init_26 : decode b_O_init 26 = .ok (.newarray .int, 2) := by decide +kernel
theorem d_O_init_28 : decode b_O_init 28 = .ok (.putfield 22, 3) := by decide +kernel
theorem d_O_init_31 : decode b_O_init 31 = .ok (.aload_n 0, 1) := by decide +kernel
theorem d_O_init_32 : decode b_O_init 32 = .ok (.sipush 1101, 3) := by decide +kernel
theorem d_O_init_35 : decode b_O_init 35 = .ok (.newarray .byte, 2) := by decide +kernel
theorem d_O_init_37 : decode b_O_init 37 = .ok (.putfield 25, 3) := by decide +kernel
theorem d_O_init_40 : decode b_O_init 40 = .ok (.aload_n 0, 1) := by decide +kernel
theorem d_O_init_41 : decode b_O_init 41 = .ok (.sipush 1101, 3) := by decide +kernel
theorem d_O_init_44 : decode b_O_init 44 = .ok (.newarray .int, 2) := by decide +kernel
theorem d_O_init_46 : decode b_O_init 46 = .ok (.putfield 29, 3) := by decide +kernel
theorem d_O_init_49 : decode b_O_init 49 = .ok (.aload_n 0, 1) := by decide +kernel
theorem d_O_init_50 : decode b_O_init 50 = .ok (.bipush 10, 2) := by decide +kernel
theorem d_O_init_52 : decode b_O_init 52 = .ok (.newarray .int, 2) := by decide +kernel
theorem d_O_init_54 : decode b_O_init 54 = .ok (.putfield 32, 3) := by decide +kernel
theorem d_O_init_57 : decode b_O_init 57 = .ok (.return_, 1) := by decide +kernel
abbrev b_R_hasRoom : ByteArray := prog_7_method_2_code
abbrev y_R_hasRoom : MethodName := ⟨"SignMachine$Source", "hasRoom", "()Z"⟩
theorem h_R_hasRoom : (y_R_hasRoom).cls ≠ "java/lang/invoke/MethodHandle" ∧ (y_R_hasRoom).cls ≠ "java/lang/invoke/VarHandle" ∧ (parseMethodDescriptor (y_R_hasRoom).desc).map (fun d => d.parameters.length) = some 0 := by decide +kernel
theorem d_R_hasRoom_0 : decode b_R_hasRoom 0 = .ok (.aload_n 0, 1) := by decide +kernel
theorem d_R_hasRoom_1 : decode b_R_hasRoom 1 = .ok (.getfield 13, 3) := by decide +kernel
theorem d_R_hasRoom_4 : decode b_R_hasRoom 4 = .ok (.bipush 20, 2) := by decide +kernel
theorem d_R_hasRoom_6 : decode b_R_hasRoom 6 = .ok (.iadd, 1) := by decide +kernel
theorem d_R_hasRoom_7 : decode b_R_hasRoom 7 = .ok (.sipush 4000, 3) := by decide +kernel
theorem d_R_hasRoom_10 : decode b_R_hasRoom 10 = .ok (.if_icmp .gt 7, 3) := by decide +kernel
theorem d_R_hasRoom_13 : decode b_R_hasRoom 13 = .ok (.iconst 1, 1) := by decide +kernel
theorem d_R_hasRoom_14 : decode b_R_hasRoom 14 = .ok (.goto 4, 3) := by decide +kernel
theorem d_R_hasRoom_17 : decode b_R_hasRoom 17 = .ok (.iconst 0, 1) := by decide +kernel
theorem d_R_hasRoom_18 : decode b_R_hasRoom 18 = .ok (.ireturn, 1) := by decide +kernel
abbrev b_R_append : ByteArray := prog_7_method_3_code
abbrev y_R_append : MethodName := ⟨"SignMachine$Source", "append", "(I)V"⟩
theorem h_R_append : (y_R_append).cls ≠ "java/lang/invoke/MethodHandle" ∧ (y_R_append).cls ≠ "java/lang/invoke/VarHandle" ∧ (parseMethodDescriptor (y_R_append).desc).map (fun d => d.parameters.length) = some 1 := by decide +kernel
theorem d_R_append_0 : decode b_R_append 0 = .ok (.bipush 24, 2) := by decide +kernel
theorem d_R_append_2 : decode b_R_append 2 = .ok (.istore_n 2, 1) := by decide +kernel
theorem d_R_append_3 : decode b_R_append 3 = .ok (.iload_n 2, 1) := by decide +kernel
theorem d_R_append_4 : decode b_R_append 4 = .ok (.ifCond .lt 49, 3) := by decide +kernel
theorem d_R_append_7 : decode b_R_append 7 = .ok (.aload_n 0, 1) := by decide +kernel
theorem d_R_append_8 : decode b_R_append 8 = .ok (.getfield 13, 3) := by decide +kernel
theorem d_R_append_11 : decode b_R_append 11 = .ok (.ifCond .lt 36, 3) := by decide +kernel
theorem d_R_append_14 : decode b_R_append 14 = .ok (.aload_n 0, 1) := by decide +kernel
theorem d_R_append_15 : decode b_R_append 15 = .ok (.getfield 13, 3) := by decide +kernel
theorem d_R_append_18 : decode b_R_append 18 = .ok (.sipush 4000, 3) := by decide +kernel
theorem d_R_append_21 : decode b_R_append 21 = .ok (.if_icmp .ge 26, 3) := by decide +kernel
theorem d_R_append_24 : decode b_R_append 24 = .ok (.aload_n 0, 1) := by decide +kernel
theorem d_R_append_25 : decode b_R_append 25 = .ok (.getfield 9, 3) := by decide +kernel
theorem d_R_append_28 : decode b_R_append 28 = .ok (.aload_n 0, 1) := by decide +kernel
theorem d_R_append_29 : decode b_R_append 29 = .ok (.getfield 13, 3) := by decide +kernel
theorem d_R_append_32 : decode b_R_append 32 = .ok (.iload_n 1, 1) := by decide +kernel
theorem d_R_append_33 : decode b_R_append 33 = .ok (.iload_n 2, 1) := by decide +kernel
theorem d_R_append_34 : decode b_R_append 34 = .ok (.ishr, 1) := by decide +kernel
theorem d_R_append_35 : decode b_R_append 35 = .ok (.i2b, 1) := by decide +kernel
theorem d_R_append_36 : decode b_R_append 36 = .ok (.bastore, 1) := by decide +kernel
theorem d_R_append_37 : decode b_R_append 37 = .ok (.aload_n 0, 1) := by decide +kernel
theorem d_R_append_38 : decode b_R_append 38 = .ok (.dup, 1) := by decide +kernel
theorem d_R_append_39 : decode b_R_append 39 = .ok (.getfield 13, 3) := by decide +kernel
theorem d_R_append_42 : decode b_R_append 42 = .ok (.iconst 1, 1) := by decide +kernel
theorem d_R_append_43 : decode b_R_append 43 = .ok (.iadd, 1) := by decide +kernel
theorem d_R_append_44 : decode b_R_append 44 = .ok (.putfield 13, 3) := by decide +kernel
theorem d_R_append_47 : decode b_R_append 47 = .ok (.iinc 2 (-8), 3) := by decide +kernel
theorem d_R_append_50 : decode b_R_append 50 = .ok (.goto (-47), 3) := by decide +kernel
theorem d_R_append_53 : decode b_R_append 53 = .ok (.return_, 1) := by decide +kernel
abbrev b_S_end : ByteArray := prog_1_method_14_code
abbrev y_S_end : MethodName := ⟨"SignMachine", "end", "(I)I"⟩
theorem h_S_end : (y_S_end).cls ≠ "java/lang/invoke/MethodHandle" ∧ (y_S_end).cls ≠ "java/lang/invoke/VarHandle" ∧ (parseMethodDescriptor (y_S_end).desc).map (fun d => d.parameters.length) = some 1 := by decide +kernel
theorem d_S_end_0 : decode b_S_end 0 = .ok (.aload_n 0, 1) := by decide +kernel
theorem d_S_end_1 : decode b_S_end 1 = .ok (.invokevirtual 95, 3) := by decide +kernel
theorem d_S_end_4 : decode b_S_end 4 = .ok (.getfield 99, 3) := by decide +kernel
theorem d_S_end_7 : decode b_S_end 7 = .ok (.astore_n 2, 1) := by decide +kernel
theorem d_S_end_8 : decode b_S_end 8 = .ok (.iload_n 1, 1) := by decide +kernel
theorem d_S_end_9 : decode b_S_end 9 = .ok (.ifCond .lt 18, 3) := by decide +kernel
theorem d_S_end_12 : decode b_S_end 12 = .ok (.iload_n 1, 1) := by decide +kernel
theorem d_S_end_13 : decode b_S_end 13 = .ok (.bipush 20, 2) := by decide +kernel
theorem d_S_end_15 : decode b_S_end 15 = .ok (.if_icmp .gt 12, 3) := by decide +kernel
theorem d_S_end_18 : decode b_S_end 18 = .ok (.aload_n 2, 1) := by decide +kernel
theorem d_S_end_19 : decode b_S_end 19 = .ok (.getfield 115, 3) := by decide +kernel
theorem d_S_end_22 : decode b_S_end 22 = .ok (.bipush 20, 2) := by decide +kernel
theorem d_S_end_24 : decode b_S_end 24 = .ok (.if_icmp .ge 5, 3) := by decide +kernel
theorem d_S_end_27 : decode b_S_end 27 = .ok (.iconst (-1), 1) := by decide +kernel
theorem d_S_end_28 : decode b_S_end 28 = .ok (.ireturn, 1) := by decide +kernel
theorem d_S_end_29 : decode b_S_end 29 = .ok (.aload_n 2, 1) := by decide +kernel
theorem d_S_end_30 : decode b_S_end 30 = .ok (.aload_n 2, 1) := by decide +kernel
theorem d_S_end_31 : decode b_S_end 31 = .ok (.getfield 115, 3) := by decide +kernel
theorem d_S_end_34 : decode b_S_end 34 = .ok (.bipush 20, 2) := by decide +kernel
theorem d_S_end_36 : decode b_S_end 36 = .ok (.isub, 1) := by decide +kernel
theorem d_S_end_37 : decode b_S_end 37 = .ok (.iload_n 1, 1) := by decide +kernel
theorem d_S_end_38 : decode b_S_end 38 = .ok (.iadd, 1) := by decide +kernel
theorem d_S_end_39 : decode b_S_end 39 = .ok (.putfield 115, 3) := by decide +kernel
theorem d_S_end_42 : decode b_S_end 42 = .ok (.aload_n 2, 1) := by decide +kernel
theorem d_S_end_43 : decode b_S_end 43 = .ok (.getfield 115, 3) := by decide +kernel
theorem d_S_end_46 : decode b_S_end 46 = .ok (.ireturn, 1) := by decide +kernel
abbrev b_S_assemble : ByteArray := prog_1_method_15_code
abbrev y_S_assemble : MethodName := ⟨"SignMachine", "assemble", "()I"⟩
theorem h_S_assemble : (y_S_assemble).cls ≠ "java/lang/invoke/MethodHandle" ∧ (y_S_assemble).cls ≠ "java/lang/invoke/VarHandle" ∧ (parseMethodDescriptor (y_S_assemble).desc).map (fun d => d.parameters.length) = some 0 := by decide +kernel
theorem d_S_assemble_0 : decode b_S_assemble 0 = .ok (.aload_n 0, 1) := by decide +kernel
theorem d_S_assemble_1 : decode b_S_assemble 1 = .ok (.invokevirtual 95, 3) := by decide +kernel
theorem d_S_assemble_4 : decode b_S_assemble 4 = .ok (.astore_n 1, 1) := by decide +kernel
theorem d_S_assemble_5 : decode b_S_assemble 5 = .ok (.aload_n 1, 1) := by decide +kernel
theorem d_S_assemble_6 : decode b_S_assemble 6 = .ok (.invokevirtual 118, 3) := by decide +kernel
theorem d_S_assemble_9 : decode b_S_assemble 9 = .ok (.iconst 0, 1) := by decide +kernel
theorem d_S_assemble_10 : decode b_S_assemble 10 = .ok (.istore_n 2, 1) := by decide +kernel
theorem d_S_assemble_11 : decode b_S_assemble 11 = .ok (.iload_n 2, 1) := by decide +kernel
theorem d_S_assemble_12 : decode b_S_assemble 12 = .ok (.sipush 4000, 3) := by decide +kernel
theorem d_S_assemble_15 : decode b_S_assemble 15 = .ok (.if_icmp .ge 28, 3) := by decide +kernel
theorem d_S_assemble_18 : decode b_S_assemble 18 = .ok (.aload_n 1, 1) := by decide +kernel
theorem d_S_assemble_19 : decode b_S_assemble 19 = .ok (.invokevirtual 121, 3) := by decide +kernel
theorem d_S_assemble_22 : decode b_S_assemble 22 = .ok (.ifCond .eq 21, 3) := by decide +kernel
theorem d_S_assemble_25 : decode b_S_assemble 25 = .ok (.aload_n 1, 1) := by decide +kernel
theorem d_S_assemble_26 : decode b_S_assemble 26 = .ok (.invokevirtual 124, 3) := by decide +kernel
theorem d_S_assemble_29 : decode b_S_assemble 29 = .ok (.aload_n 1, 1) := by decide +kernel
theorem d_S_assemble_30 : decode b_S_assemble 30 = .ok (.invokevirtual 127, 3) := by decide +kernel
theorem d_S_assemble_33 : decode b_S_assemble 33 = .ok (.aload_n 1, 1) := by decide +kernel
theorem d_S_assemble_34 : decode b_S_assemble 34 = .ok (.invokevirtual 130, 3) := by decide +kernel
theorem d_S_assemble_37 : decode b_S_assemble 37 = .ok (.iinc 2 1, 3) := by decide +kernel
theorem d_S_assemble_40 : decode b_S_assemble 40 = .ok (.goto (-29), 3) := by decide +kernel
theorem d_S_assemble_43 : decode b_S_assemble 43 = .ok (.aload_n 1, 1) := by decide +kernel
theorem d_S_assemble_44 : decode b_S_assemble 44 = .ok (.invokevirtual 133, 3) := by decide +kernel
theorem d_S_assemble_47 : decode b_S_assemble 47 = .ok (.aload_n 1, 1) := by decide +kernel
theorem d_S_assemble_48 : decode b_S_assemble 48 = .ok (.getfield 136, 3) := by decide +kernel
theorem d_S_assemble_51 : decode b_S_assemble 51 = .ok (.ifCond .ne 22, 3) := by decide +kernel
theorem d_S_assemble_54 : decode b_S_assemble 54 = .ok (.aload_n 0, 1) := by decide +kernel
theorem d_S_assemble_55 : decode b_S_assemble 55 = .ok (.aload_n 1, 1) := by decide +kernel
theorem d_S_assemble_56 : decode b_S_assemble 56 = .ok (.getfield 139, 3) := by decide +kernel
theorem d_S_assemble_59 : decode b_S_assemble 59 = .ok (.invokevirtual 143, 3) := by decide +kernel
theorem d_S_assemble_62 : decode b_S_assemble 62 = .ok (.aload_n 0, 1) := by decide +kernel
theorem d_S_assemble_63 : decode b_S_assemble 63 = .ok (.getfield 10, 3) := by decide +kernel
theorem d_S_assemble_66 : decode b_S_assemble 66 = .ok (.aload_n 1, 1) := by decide +kernel
theorem d_S_assemble_67 : decode b_S_assemble 67 = .ok (.getfield 147, 3) := by decide +kernel
theorem d_S_assemble_70 : decode b_S_assemble 70 = .ok (.putfield 64, 3) := by decide +kernel
theorem d_S_assemble_73 : decode b_S_assemble 73 = .ok (.aload_n 1, 1) := by decide +kernel
theorem d_S_assemble_74 : decode b_S_assemble 74 = .ok (.getfield 136, 3) := by decide +kernel
theorem d_S_assemble_77 : decode b_S_assemble 77 = .ok (.ireturn, 1) := by decide +kernel
abbrev b_A_begin : ByteArray := prog_2_method_2_code
abbrev y_A_begin : MethodName := ⟨"SignMachine$Assembler", "begin", "()V"⟩
theorem h_A_begin : (y_A_begin).cls ≠ "java/lang/invoke/MethodHandle" ∧ (y_A_begin).cls ≠ "java/lang/invoke/VarHandle" ∧ (parseMethodDescriptor (y_A_begin).desc).map (fun d => d.parameters.length) = some 0 := by decide +kernel
theorem d_A_begin_0 : decode b_A_begin 0 = .ok (.aload_n 0, 1) := by decide +kernel
theorem d_A_begin_1 : decode b_A_begin 1 = .ok (.getfield 12, 3) := by decide +kernel
theorem d_A_begin_4 : decode b_A_begin 4 = .ok (.invokevirtual 36, 3) := by decide +kernel
theorem d_A_begin_7 : decode b_A_begin 7 = .ok (.aload_n 0, 1) := by decide +kernel
theorem d_A_begin_8 : decode b_A_begin 8 = .ok (.getfield 21, 3) := by decide +kernel
theorem d_A_begin_11 : decode b_A_begin 11 = .ok (.invokevirtual 39, 3) := by decide +kernel
theorem d_A_begin_14 : decode b_A_begin 14 = .ok (.aload_n 0, 1) := by decide +kernel
theorem d_A_begin_15 : decode b_A_begin 15 = .ok (.getfield 28, 3) := by decide +kernel
theorem d_A_begin_18 : decode b_A_begin 18 = .ok (.invokevirtual 42, 3) := by decide +kernel
theorem d_A_begin_21 : decode b_A_begin 21 = .ok (.aload_n 0, 1) := by decide +kernel
theorem d_A_begin_22 : decode b_A_begin 22 = .ok (.iconst 0, 1) := by decide +kernel
theorem d_A_begin_23 : decode b_A_begin 23 = .ok (.putfield 43, 3) := by decide +kernel
theorem d_A_begin_26 : decode b_A_begin 26 = .ok (.aload_n 0, 1) := by decide +kernel
theorem d_A_begin_27 : decode b_A_begin 27 = .ok (.iconst 0, 1) := by decide +kernel
theorem d_A_begin_28 : decode b_A_begin 28 = .ok (.putfield 46, 3) := by decide +kernel
theorem d_A_begin_31 : decode b_A_begin 31 = .ok (.aload_n 0, 1) := by decide +kernel
theorem d_A_begin_32 : decode b_A_begin 32 = .ok (.iconst 0, 1) := by decide +kernel
theorem d_A_begin_33 : decode b_A_begin 33 = .ok (.putfield 49, 3) := by decide +kernel
theorem d_A_begin_36 : decode b_A_begin 36 = .ok (.aload_n 0, 1) := by decide +kernel
theorem d_A_begin_37 : decode b_A_begin 37 = .ok (.iconst 0, 1) := by decide +kernel
theorem d_A_begin_38 : decode b_A_begin 38 = .ok (.putfield 52, 3) := by decide +kernel
theorem d_A_begin_41 : decode b_A_begin 41 = .ok (.return_, 1) := by decide +kernel
abbrev b_R_begin : ByteArray := prog_7_method_4_code
abbrev y_R_begin : MethodName := ⟨"SignMachine$Source", "begin", "()V"⟩
theorem h_R_begin : (y_R_begin).cls ≠ "java/lang/invoke/MethodHandle" ∧ (y_R_begin).cls ≠ "java/lang/invoke/VarHandle" ∧ (parseMethodDescriptor (y_R_begin).desc).map (fun d => d.parameters.length) = some 0 := by decide +kernel
theorem d_R_begin_0 : decode b_R_begin 0 = .ok (.aload_n 0, 1) := by decide +kernel
theorem d_R_begin_1 : decode b_R_begin 1 = .ok (.iconst 0, 1) := by decide +kernel
theorem d_R_begin_2 : decode b_R_begin 2 = .ok (.putfield 17, 3) := by decide +kernel
theorem d_R_begin_5 : decode b_R_begin 5 = .ok (.aload_n 0, 1) := by decide +kernel
theorem d_R_begin_6 : decode b_R_begin 6 = .ok (.iconst 0, 1) := by decide +kernel
theorem d_R_begin_7 : decode b_R_begin 7 = .ok (.putfield 20, 3) := by decide +kernel
theorem d_R_begin_10 : decode b_R_begin 10 = .ok (.return_, 1) := by decide +kernel
abbrev b_N_clear : ByteArray := prog_4_method_6_code
abbrev y_N_clear : MethodName := ⟨"SignMachine$Names", "clear", "()V"⟩
theorem h_N_clear : (y_N_clear).cls ≠ "java/lang/invoke/MethodHandle" ∧ (y_N_clear).cls ≠ "java/lang/invoke/VarHandle" ∧ (parseMethodDescriptor (y_N_clear).desc).map (fun d => d.parameters.length) = some 0 := by decide +kernel
theorem d_N_clear_0 : decode b_N_clear 0 = .ok (.aload_n 0, 1) := by decide +kernel
theorem d_N_clear_1 : decode b_N_clear 1 = .ok (.iconst 0, 1) := by decide +kernel
theorem d_N_clear_2 : decode b_N_clear 2 = .ok (.putfield 35, 3) := by decide +kernel
theorem d_N_clear_5 : decode b_N_clear 5 = .ok (.aload_n 0, 1) := by decide +kernel
theorem d_N_clear_6 : decode b_N_clear 6 = .ok (.iconst 0, 1) := by decide +kernel
theorem d_N_clear_7 : decode b_N_clear 7 = .ok (.putfield 39, 3) := by decide +kernel
theorem d_N_clear_10 : decode b_N_clear 10 = .ok (.iconst 0, 1) := by decide +kernel
theorem d_N_clear_11 : decode b_N_clear 11 = .ok (.istore_n 1, 1) := by decide +kernel
theorem d_N_clear_12 : decode b_N_clear 12 = .ok (.iload_n 1, 1) := by decide +kernel
theorem d_N_clear_13 : decode b_N_clear 13 = .ok (.bipush 10, 2) := by decide +kernel
theorem d_N_clear_15 : decode b_N_clear 15 = .ok (.if_icmp .ge 16, 3) := by decide +kernel
theorem d_N_clear_18 : decode b_N_clear 18 = .ok (.aload_n 0, 1) := by decide +kernel
theorem d_N_clear_19 : decode b_N_clear 19 = .ok (.getfield 26, 3) := by decide +kernel
theorem d_N_clear_22 : decode b_N_clear 22 = .ok (.iload_n 1, 1) := by decide +kernel
theorem d_N_clear_23 : decode b_N_clear 23 = .ok (.iconst 0, 1) := by decide +kernel
theorem d_N_clear_24 : decode b_N_clear 24 = .ok (.bastore, 1) := by decide +kernel
theorem d_N_clear_25 : decode b_N_clear 25 = .ok (.iinc 1 1, 3) := by decide +kernel
theorem d_N_clear_28 : decode b_N_clear 28 = .ok (.goto (-16), 3) := by decide +kernel
theorem d_N_clear_31 : decode b_N_clear 31 = .ok (.return_, 1) := by decide +kernel
abbrev b_O_clear : ByteArray := prog_6_method_2_code
abbrev y_O_clear : MethodName := ⟨"SignMachine$Output", "clear", "()V"⟩
theorem h_O_clear : (y_O_clear).cls ≠ "java/lang/invoke/MethodHandle" ∧ (y_O_clear).cls ≠ "java/lang/invoke/VarHandle" ∧ (parseMethodDescriptor (y_O_clear).desc).map (fun d => d.parameters.length) = some 0 := by decide +kernel
theorem d_O_clear_0 : decode b_O_clear 0 = .ok (.aload_n 0, 1) := by decide +kernel
theorem d_O_clear_1 : decode b_O_clear 1 = .ok (.iconst 0, 1) := by decide +kernel
theorem d_O_clear_2 : decode b_O_clear 2 = .ok (.putfield 35, 3) := by decide +kernel
theorem d_O_clear_5 : decode b_O_clear 5 = .ok (.iconst 0, 1) := by decide +kernel
theorem d_O_clear_6 : decode b_O_clear 6 = .ok (.istore_n 1, 1) := by decide +kernel
theorem d_O_clear_7 : decode b_O_clear 7 = .ok (.iload_n 1, 1) := by decide +kernel
theorem d_O_clear_8 : decode b_O_clear 8 = .ok (.aload_n 0, 1) := by decide +kernel
theorem d_O_clear_9 : decode b_O_clear 9 = .ok (.getfield 32, 3) := by decide +kernel
theorem d_O_clear_12 : decode b_O_clear 12 = .ok (.arraylength, 1) := by decide +kernel
theorem d_O_clear_13 : decode b_O_clear 13 = .ok (.if_icmp .ge 17, 3) := by decide +kernel
theorem d_O_clear_16 : decode b_O_clear 16 = .ok (.aload_n 0, 1) := by decide +kernel
theorem d_O_clear_17 : decode b_O_clear 17 = .ok (.getfield 32, 3) := by decide +kernel
theorem d_O_clear_20 : decode b_O_clear 20 = .ok (.iload_n 1, 1) := by decide +kernel
theorem d_O_clear_21 : decode b_O_clear 21 = .ok (.bipush (-2), 2) := by decide +kernel
theorem d_O_clear_23 : decode b_O_clear 23 = .ok (.iastore, 1) := by decide +kernel
theorem d_O_clear_24 : decode b_O_clear 24 = .ok (.iinc 1 1, 3) := by decide +kernel
theorem d_O_clear_27 : decode b_O_clear 27 = .ok (.goto (-20), 3) := by decide +kernel
theorem d_O_clear_30 : decode b_O_clear 30 = .ok (.return_, 1) := by decide +kernel
abbrev b_A_hasLine : ByteArray := prog_2_method_3_code
abbrev y_A_hasLine : MethodName := ⟨"SignMachine$Assembler", "hasLine", "()Z"⟩
theorem h_A_hasLine : (y_A_hasLine).cls ≠ "java/lang/invoke/MethodHandle" ∧ (y_A_hasLine).cls ≠ "java/lang/invoke/VarHandle" ∧ (parseMethodDescriptor (y_A_hasLine).desc).map (fun d => d.parameters.length) = some 0 := by decide +kernel
theorem d_A_hasLine_0 : decode b_A_hasLine 0 = .ok (.aload_n 0, 1) := by decide +kernel
theorem d_A_hasLine_1 : decode b_A_hasLine 1 = .ok (.getfield 43, 3) := by decide +kernel
theorem d_A_hasLine_4 : decode b_A_hasLine 4 = .ok (.ifCond .ne 24, 3) := by decide +kernel
theorem d_A_hasLine_7 : decode b_A_hasLine 7 = .ok (.aload_n 0, 1) := by decide +kernel
theorem d_A_hasLine_8 : decode b_A_hasLine 8 = .ok (.getfield 52, 3) := by decide +kernel
theorem d_A_hasLine_11 : decode b_A_hasLine 11 = .ok (.ifCond .ne 17, 3) := by decide +kernel
theorem d_A_hasLine_14 : decode b_A_hasLine 14 = .ok (.aload_n 0, 1) := by decide +kernel
theorem d_A_hasLine_15 : decode b_A_hasLine 15 = .ok (.getfield 12, 3) := by decide +kernel
theorem d_A_hasLine_18 : decode b_A_hasLine 18 = .ok (.invokevirtual 56, 3) := by decide +kernel
theorem d_A_hasLine_21 : decode b_A_hasLine 21 = .ok (.ifCond .eq 7, 3) := by decide +kernel
theorem d_A_hasLine_24 : decode b_A_hasLine 24 = .ok (.iconst 1, 1) := by decide +kernel
theorem d_A_hasLine_25 : decode b_A_hasLine 25 = .ok (.goto 4, 3) := by decide +kernel
theorem d_A_hasLine_28 : decode b_A_hasLine 28 = .ok (.iconst 0, 1) := by decide +kernel
theorem d_A_hasLine_29 : decode b_A_hasLine 29 = .ok (.ireturn, 1) := by decide +kernel
abbrev b_R_hasLine : ByteArray := prog_7_method_5_code
abbrev y_R_hasLine : MethodName := ⟨"SignMachine$Source", "hasLine", "()Z"⟩
theorem h_R_hasLine : (y_R_hasLine).cls ≠ "java/lang/invoke/MethodHandle" ∧ (y_R_hasLine).cls ≠ "java/lang/invoke/VarHandle" ∧ (parseMethodDescriptor (y_R_hasLine).desc).map (fun d => d.parameters.length) = some 0 := by decide +kernel
theorem d_R_hasLine_0 : decode b_R_hasLine 0 = .ok (.aload_n 0, 1) := by decide +kernel
theorem d_R_hasLine_1 : decode b_R_hasLine 1 = .ok (.getfield 20, 3) := by decide +kernel
theorem d_R_hasLine_4 : decode b_R_hasLine 4 = .ok (.aload_n 0, 1) := by decide +kernel
theorem d_R_hasLine_5 : decode b_R_hasLine 5 = .ok (.getfield 13, 3) := by decide +kernel
theorem d_R_hasLine_8 : decode b_R_hasLine 8 = .ok (.if_icmp .ge 7, 3) := by decide +kernel
theorem d_R_hasLine_11 : decode b_R_hasLine 11 = .ok (.iconst 1, 1) := by decide +kernel
theorem d_R_hasLine_12 : decode b_R_hasLine 12 = .ok (.goto 4, 3) := by decide +kernel
theorem d_R_hasLine_15 : decode b_R_hasLine 15 = .ok (.iconst 0, 1) := by decide +kernel
theorem d_R_hasLine_16 : decode b_R_hasLine 16 = .ok (.ireturn, 1) := by decide +kernel
abbrev b_A_finish : ByteArray := prog_2_method_7_code
abbrev y_A_finish : MethodName := ⟨"SignMachine$Assembler", "finish", "()V"⟩
theorem h_A_finish : (y_A_finish).cls ≠ "java/lang/invoke/MethodHandle" ∧ (y_A_finish).cls ≠ "java/lang/invoke/VarHandle" ∧ (parseMethodDescriptor (y_A_finish).desc).map (fun d => d.parameters.length) = some 0 := by decide +kernel
theorem d_A_finish_0 : decode b_A_finish 0 = .ok (.aload_n 0, 1) := by decide +kernel
theorem d_A_finish_1 : decode b_A_finish 1 = .ok (.getfield 12, 3) := by decide +kernel
theorem d_A_finish_4 : decode b_A_finish 4 = .ok (.iconst 0, 1) := by decide +kernel
theorem d_A_finish_5 : decode b_A_finish 5 = .ok (.putfield 146, 3) := by decide +kernel
theorem d_A_finish_8 : decode b_A_finish 8 = .ok (.aload_n 0, 1) := by decide +kernel
theorem d_A_finish_9 : decode b_A_finish 9 = .ok (.getfield 43, 3) := by decide +kernel
theorem d_A_finish_12 : decode b_A_finish 12 = .ok (.ifCond .ne 17, 3) := by decide +kernel
theorem d_A_finish_15 : decode b_A_finish 15 = .ok (.aload_n 0, 1) := by decide +kernel
theorem d_A_finish_16 : decode b_A_finish 16 = .ok (.getfield 52, 3) := by decide +kernel
theorem d_A_finish_19 : decode b_A_finish 19 = .ok (.ifCond .ne 10, 3) := by decide +kernel
theorem d_A_finish_22 : decode b_A_finish 22 = .ok (.aload_n 0, 1) := by decide +kernel
theorem d_A_finish_23 : decode b_A_finish 23 = .ok (.bipush 6, 2) := by decide +kernel
theorem d_A_finish_25 : decode b_A_finish 25 = .ok (.invokevirtual 84, 3) := by decide +kernel
theorem d_A_finish_28 : decode b_A_finish 28 = .ok (.pop, 1) := by decide +kernel
theorem d_A_finish_29 : decode b_A_finish 29 = .ok (.iconst 0, 1) := by decide +kernel
theorem d_A_finish_30 : decode b_A_finish 30 = .ok (.istore_n 1, 1) := by decide +kernel
theorem d_A_finish_31 : decode b_A_finish 31 = .ok (.iload_n 1, 1) := by decide +kernel
theorem d_A_finish_32 : decode b_A_finish 32 = .ok (.aload_n 0, 1) := by decide +kernel
theorem d_A_finish_33 : decode b_A_finish 33 = .ok (.getfield 28, 3) := by decide +kernel
theorem d_A_finish_36 : decode b_A_finish 36 = .ok (.getfield 149, 3) := by decide +kernel
theorem d_A_finish_39 : decode b_A_finish 39 = .ok (.if_icmp .ge 21, 3) := by decide +kernel
theorem d_A_finish_42 : decode b_A_finish 42 = .ok (.aload_n 0, 1) := by decide +kernel
theorem d_A_finish_43 : decode b_A_finish 43 = .ok (.getfield 43, 3) := by decide +kernel
theorem d_A_finish_46 : decode b_A_finish 46 = .ok (.ifCond .ne 14, 3) := by decide +kernel
theorem d_A_finish_49 : decode b_A_finish 49 = .ok (.aload_n 0, 1) := by decide +kernel
theorem d_A_finish_50 : decode b_A_finish 50 = .ok (.iload_n 1, 1) := by decide +kernel
theorem d_A_finish_51 : decode b_A_finish 51 = .ok (.invokevirtual 152, 3) := by decide +kernel
theorem d_A_finish_54 : decode b_A_finish 54 = .ok (.iinc 1 1, 3) := by decide +kernel
theorem d_A_finish_57 : decode b_A_finish 57 = .ok (.goto (-26), 3) := by decide +kernel
theorem d_A_finish_60 : decode b_A_finish 60 = .ok (.aload_n 0, 1) := by decide +kernel
theorem d_A_finish_61 : decode b_A_finish 61 = .ok (.getfield 43, 3) := by decide +kernel
theorem d_A_finish_64 : decode b_A_finish 64 = .ok (.ifCond .eq 8, 3) := by decide +kernel
theorem d_A_finish_67 : decode b_A_finish 67 = .ok (.aload_n 0, 1) := by decide +kernel
theorem d_A_finish_68 : decode b_A_finish 68 = .ok (.iconst (-1), 1) := by decide +kernel
theorem d_A_finish_69 : decode b_A_finish 69 = .ok (.putfield 32, 3) := by decide +kernel
theorem d_A_finish_72 : decode b_A_finish 72 = .ok (.return_, 1) := by decide +kernel
abbrev b_A_fail : ByteArray := prog_2_method_10_code
abbrev y_A_fail : MethodName := ⟨"SignMachine$Assembler", "fail", "(I)I"⟩
theorem h_A_fail : (y_A_fail).cls ≠ "java/lang/invoke/MethodHandle" ∧ (y_A_fail).cls ≠ "java/lang/invoke/VarHandle" ∧ (parseMethodDescriptor (y_A_fail).desc).map (fun d => d.parameters.length) = some 1 := by decide +kernel
theorem d_A_fail_0 : decode b_A_fail 0 = .ok (.aload_n 0, 1) := by decide +kernel
theorem d_A_fail_1 : decode b_A_fail 1 = .ok (.getfield 43, 3) := by decide +kernel
theorem d_A_fail_4 : decode b_A_fail 4 = .ok (.ifCond .ne 19, 3) := by decide +kernel
theorem d_A_fail_7 : decode b_A_fail 7 = .ok (.aload_n 0, 1) := by decide +kernel
theorem d_A_fail_8 : decode b_A_fail 8 = .ok (.iload_n 1, 1) := by decide +kernel
theorem d_A_fail_9 : decode b_A_fail 9 = .ok (.putfield 43, 3) := by decide +kernel
theorem d_A_fail_12 : decode b_A_fail 12 = .ok (.aload_n 0, 1) := by decide +kernel
theorem d_A_fail_13 : decode b_A_fail 13 = .ok (.aload_n 0, 1) := by decide +kernel
theorem d_A_fail_14 : decode b_A_fail 14 = .ok (.getfield 12, 3) := by decide +kernel
theorem d_A_fail_17 : decode b_A_fail 17 = .ok (.getfield 179, 3) := by decide +kernel
theorem d_A_fail_20 : decode b_A_fail 20 = .ok (.putfield 46, 3) := by decide +kernel
theorem d_A_fail_23 : decode b_A_fail 23 = .ok (.iconst 0, 1) := by decide +kernel
theorem d_A_fail_24 : decode b_A_fail 24 = .ok (.ireturn, 1) := by decide +kernel
abbrev b_S_about : ByteArray := prog_1_method_16_code
abbrev y_S_about : MethodName := ⟨"SignMachine", "about", "(I)I"⟩
theorem h_S_about : (y_S_about).cls ≠ "java/lang/invoke/MethodHandle" ∧ (y_S_about).cls ≠ "java/lang/invoke/VarHandle" ∧ (parseMethodDescriptor (y_S_about).desc).map (fun d => d.parameters.length) = some 1 := by decide +kernel
theorem d_S_about_0 : decode b_S_about 0 = .ok (.aload_n 0, 1) := by decide +kernel
theorem d_S_about_1 : decode b_S_about 1 = .ok (.invokevirtual 95, 3) := by decide +kernel
theorem d_S_about_4 : decode b_S_about 4 = .ok (.astore_n 2, 1) := by decide +kernel
theorem d_S_about_5 : decode b_S_about 5 = .ok (.iload_n 1, 1) := by decide +kernel
theorem d_S_about_6 : decode b_S_about 6 = .ok (.tableswitch 44 0 2 #[26, 31, 36], 26) := by decide +kernel
theorem d_S_about_32 : decode b_S_about 32 = .ok (.aload_n 2, 1) := by decide +kernel
theorem d_S_about_33 : decode b_S_about 33 = .ok (.getfield 150, 3) := by decide +kernel
theorem d_S_about_36 : decode b_S_about 36 = .ok (.ireturn, 1) := by decide +kernel
theorem d_S_about_37 : decode b_S_about 37 = .ok (.aload_n 2, 1) := by decide +kernel
theorem d_S_about_38 : decode b_S_about 38 = .ok (.getfield 153, 3) := by decide +kernel
theorem d_S_about_41 : decode b_S_about 41 = .ok (.ireturn, 1) := by decide +kernel
theorem d_S_about_42 : decode b_S_about 42 = .ok (.aload_n 2, 1) := by decide +kernel
theorem d_S_about_43 : decode b_S_about 43 = .ok (.getfield 99, 3) := by decide +kernel
theorem d_S_about_46 : decode b_S_about 46 = .ok (.getfield 115, 3) := by decide +kernel
theorem d_S_about_49 : decode b_S_about 49 = .ok (.ireturn, 1) := by decide +kernel
theorem d_S_about_50 : decode b_S_about 50 = .ok (.iconst (-1), 1) := by decide +kernel
theorem d_S_about_51 : decode b_S_about 51 = .ok (.ireturn, 1) := by decide +kernel
abbrev b_X_init : ByteArray := prog_11_method_1_code
abbrev y_X_init : MethodName := ⟨"SignMachineModel", "<init>", "()V"⟩
theorem h_X_init : (y_X_init).cls ≠ "java/lang/invoke/MethodHandle" ∧ (y_X_init).cls ≠ "java/lang/invoke/VarHandle" ∧ (parseMethodDescriptor (y_X_init).desc).map (fun d => d.parameters.length) = some 0 := by decide +kernel
theorem d_X_init_0 : decode b_X_init 0 = .ok (.aload_n 0, 1) := by decide +kernel
theorem d_X_init_1 : decode b_X_init 1 = .ok (.invokespecial 1, 3) := by decide +kernel
theorem d_X_init_4 : decode b_X_init 4 = .ok (.aload_n 0, 1) := by decide +kernel
theorem d_X_init_5 : decode b_X_init 5 = .ok (.sipush 4000, 3) := by decide +kernel
theorem d_X_init_8 : decode b_X_init 8 = .ok (.newarray .int, 2) := by decide +kernel
theorem d_X_init_10 : decode b_X_init 10 = .ok (.putfield 7, 3) := by decide +kernel
theorem d_X_init_13 : decode b_X_init 13 = .ok (.aload_n 0, 1) := by decide +kernel
theorem d_X_init_14 : decode b_X_init 14 = .ok (.sipush 4000, 3) := by decide +kernel
theorem d_X_init_17 : decode b_X_init 17 = .ok (.newarray .int, 2) := by decide +kernel
theorem d_X_init_19 : decode b_X_init 19 = .ok (.putfield 13, 3) := by decide +kernel
theorem d_X_init_22 : decode b_X_init 22 = .ok (.aload_n 0, 1) := by decide +kernel
theorem d_X_init_23 : decode b_X_init 23 = .ok (.bipush 9, 2) := by decide +kernel
theorem d_X_init_25 : decode b_X_init 25 = .ok (.newarray .int, 2) := by decide +kernel
theorem d_X_init_27 : decode b_X_init 27 = .ok (.putfield 16, 3) := by decide +kernel
theorem d_X_init_30 : decode b_X_init 30 = .ok (.aload_n 0, 1) := by decide +kernel
theorem d_X_init_31 : decode b_X_init 31 = .ok (.bipush 9, 2) := by decide +kernel
theorem d_X_init_33 : decode b_X_init 33 = .ok (.newarray .int, 2) := by decide +kernel
theorem d_X_init_35 : decode b_X_init 35 = .ok (.putfield 19, 3) := by decide +kernel
theorem d_X_init_38 : decode b_X_init 38 = .ok (.aload_n 0, 1) := by decide +kernel
theorem d_X_init_39 : decode b_X_init 39 = .ok (.sipush 8000, 3) := by decide +kernel
theorem d_X_init_42 : decode b_X_init 42 = .ok (.newarray .int, 2) := by decide +kernel
theorem d_X_init_44 : decode b_X_init 44 = .ok (.putfield 22, 3) := by decide +kernel
theorem d_X_init_47 : decode b_X_init 47 = .ok (.aload_n 0, 1) := by decide +kernel
theorem d_X_init_48 : decode b_X_init 48 = .ok (.sipush 8000, 3) := by decide +kernel
theorem d_X_init_51 : decode b_X_init 51 = .ok (.newarray .int, 2) := by decide +kernel
theorem d_X_init_53 : decode b_X_init 53 = .ok (.putfield 25, 3) := by decide +kernel
theorem d_X_init_56 : decode b_X_init 56 = .ok (.aload_n 0, 1) := by decide +kernel
theorem d_X_init_57 : decode b_X_init 57 = .ok (.iconst 2, 1) := by decide +kernel
theorem d_X_init_58 : decode b_X_init 58 = .ok (.newarray .int, 2) := by decide +kernel
theorem d_X_init_60 : decode b_X_init 60 = .ok (.putfield 28, 3) := by decide +kernel
theorem d_X_init_63 : decode b_X_init 63 = .ok (.aload_n 0, 1) := by decide +kernel
theorem d_X_init_64 : decode b_X_init 64 = .ok (.bipush 10, 2) := by decide +kernel
theorem d_X_init_66 : decode b_X_init 66 = .ok (.newarray .int, 2) := by decide +kernel
theorem d_X_init_68 : decode b_X_init 68 = .ok (.putfield 31, 3) := by decide +kernel
theorem d_X_init_71 : decode b_X_init 71 = .ok (.aload_n 0, 1) := by decide +kernel
theorem d_X_init_72 : decode b_X_init 72 = .ok (.bipush 10, 2) := by decide +kernel
theorem d_X_init_74 : decode b_X_init 74 = .ok (.newarray .int, 2) := by decide +kernel
theorem d_X_init_76 : decode b_X_init 76 = .ok (.putfield 34, 3) := by decide +kernel
theorem d_X_init_79 : decode b_X_init 79 = .ok (.aload_n 0, 1) := by decide +kernel
theorem d_X_init_80 : decode b_X_init 80 = .ok (.sipush 4000, 3) := by decide +kernel
theorem d_X_init_83 : decode b_X_init 83 = .ok (.newarray .int, 2) := by decide +kernel
theorem d_X_init_85 : decode b_X_init 85 = .ok (.putfield 37, 3) := by decide +kernel
theorem d_X_init_88 : decode b_X_init 88 = .ok (.aload_n 0, 1) := by decide +kernel
theorem d_X_init_89 : decode b_X_init 89 = .ok (.iconst (-1), 1) := by decide +kernel
theorem d_X_init_90 : decode b_X_init 90 = .ok (.putfield 40, 3) := by decide +kernel
theorem d_X_init_93 : decode b_X_init 93 = .ok (.aload_n 0, 1) := by decide +kernel
theorem d_X_init_94 : decode b_X_init 94 = .ok (.bipush 61, 2) := by decide +kernel
theorem d_X_init_96 : decode b_X_init 96 = .ok (.newarray .long, 2) := by decide +kernel
theorem d_X_init_98 : decode b_X_init 98 = .ok (.putfield 44, 3) := by decide +kernel
theorem d_X_init_101 : decode b_X_init 101 = .ok (.aload_n 0, 1) := by decide +kernel
theorem d_X_init_102 : decode b_X_init 102 = .ok (.bipush 61, 2) := by decide +kernel
theorem d_X_init_104 : decode b_X_init 104 = .ok (.newarray .boolean, 2) := by decide +kernel
theorem d_X_init_106 : decode b_X_init 106 = .ok (.putfield 48, 3) := by decide +kernel
theorem d_X_init_109 : decode b_X_init 109 = .ok (.aload_n 0, 1) := by decide +kernel
theorem d_X_init_110 : decode b_X_init 110 = .ok (.bipush 61, 2) := by decide +kernel
theorem d_X_init_112 : decode b_X_init 112 = .ok (.newarray .long, 2) := by decide +kernel
theorem d_X_init_114 : decode b_X_init 114 = .ok (.putfield 52, 3) := by decide +kernel
theorem d_X_init_117 : decode b_X_init 117 = .ok (.aload_n 0, 1) := by decide +kernel
theorem d_X_init_118 : decode b_X_init 118 = .ok (.bipush 10, 2) := by decide +kernel
theorem d_X_init_120 : decode b_X_init 120 = .ok (.newarray .boolean, 2) := by decide +kernel
theorem d_X_init_122 : decode b_X_init 122 = .ok (.putfield 55, 3) := by decide +kernel
theorem d_X_init_125 : decode b_X_init 125 = .ok (.aload_n 0, 1) := by decide +kernel
theorem d_X_init_126 : decode b_X_init 126 = .ok (.bipush 10, 2) := by decide +kernel
theorem d_X_init_128 : decode b_X_init 128 = .ok (.newarray .long, 2) := by decide +kernel
theorem d_X_init_130 : decode b_X_init 130 = .ok (.putfield 58, 3) := by decide +kernel
theorem d_X_init_133 : decode b_X_init 133 = .ok (.aload_n 0, 1) := by decide +kernel
theorem d_X_init_134 : decode b_X_init 134 = .ok (.sipush 4200, 3) := by decide +kernel
theorem d_X_init_137 : decode b_X_init 137 = .ok (.newarray .int, 2) := by decide +kernel
theorem d_X_init_139 : decode b_X_init 139 = .ok (.putfield 61, 3) := by decide +kernel
theorem d_X_init_142 : decode b_X_init 142 = .ok (.aload_n 0, 1) := by decide +kernel
theorem d_X_init_143 : decode b_X_init 143 = .ok (.sipush 4200, 3) := by decide +kernel
theorem d_X_init_146 : decode b_X_init 146 = .ok (.newarray .int, 2) := by decide +kernel
theorem d_X_init_148 : decode b_X_init 148 = .ok (.putfield 64, 3) := by decide +kernel
theorem d_X_init_151 : decode b_X_init 151 = .ok (.aload_n 0, 1) := by decide +kernel
theorem d_X_init_152 : decode b_X_init 152 = .ok (.sipush 4200, 3) := by decide +kernel
theorem d_X_init_155 : decode b_X_init 155 = .ok (.newarray .int, 2) := by decide +kernel
theorem d_X_init_157 : decode b_X_init 157 = .ok (.putfield 67, 3) := by decide +kernel
theorem d_X_init_160 : decode b_X_init 160 = .ok (.aload_n 0, 1) := by decide +kernel
theorem d_X_init_161 : decode b_X_init 161 = .ok (.sipush 4200, 3) := by decide +kernel
theorem d_X_init_164 : decode b_X_init 164 = .ok (.newarray .int, 2) := by decide +kernel
theorem d_X_init_166 : decode b_X_init 166 = .ok (.putfield 70, 3) := by decide +kernel
theorem d_X_init_169 : decode b_X_init 169 = .ok (.aload_n 0, 1) := by decide +kernel
theorem d_X_init_170 : decode b_X_init 170 = .ok (.sipush 4200, 3) := by decide +kernel
theorem d_X_init_173 : decode b_X_init 173 = .ok (.newarray .int, 2) := by decide +kernel
theorem d_X_init_175 : decode b_X_init 175 = .ok (.putfield 73, 3) := by decide +kernel
theorem d_X_init_178 : decode b_X_init 178 = .ok (.aload_n 0, 1) := by decide +kernel
theorem d_X_init_179 : decode b_X_init 179 = .ok (.sipush 4200, 3) := by decide +kernel
theorem d_X_init_182 : decode b_X_init 182 = .ok (.newarray .int, 2) := by decide +kernel
theorem d_X_init_184 : decode b_X_init 184 = .ok (.putfield 76, 3) := by decide +kernel
theorem d_X_init_187 : decode b_X_init 187 = .ok (.aload_n 0, 1) := by decide +kernel
theorem d_X_init_188 : decode b_X_init 188 = .ok (.sipush 4200, 3) := by decide +kernel
theorem d_X_init_191 : decode b_X_init 191 = .ok (.newarray .boolean, 2) := by decide +kernel
theorem d_X_init_193 : decode b_X_init 193 = .ok (.putfield 79, 3) := by decide +kernel
theorem d_X_init_196 : decode b_X_init 196 = .ok (.aload_n 0, 1) := by decide +kernel
theorem d_X_init_197 : decode b_X_init 197 = .ok (.bipush 110, 2) := by decide +kernel
theorem d_X_init_199 : decode b_X_init 199 = .ok (.newarray .int, 2) := by decide +kernel
theorem d_X_init_201 : decode b_X_init 201 = .ok (.putfield 82, 3) := by decide +kernel
theorem d_X_init_204 : decode b_X_init 204 = .ok (.aload_n 0, 1) := by decide +kernel
theorem d_X_init_205 : decode b_X_init 205 = .ok (.bipush 41, 2) := by decide +kernel
theorem d_X_init_207 : decode b_X_init 207 = .ok (.newarray .long, 2) := by decide +kernel
theorem d_X_init_209 : decode b_X_init 209 = .ok (.putfield 85, 3) := by decide +kernel
theorem d_X_init_212 : decode b_X_init 212 = .ok (.aload_n 0, 1) := by decide +kernel
theorem d_X_init_213 : decode b_X_init 213 = .ok (.sipush 4200, 3) := by decide +kernel
theorem d_X_init_216 : decode b_X_init 216 = .ok (.newarray .long, 2) := by decide +kernel
theorem d_X_init_218 : decode b_X_init 218 = .ok (.putfield 88, 3) := by decide +kernel
theorem d_X_init_221 : decode b_X_init 221 = .ok (.aload_n 0, 1) := by decide +kernel
theorem d_X_init_222 : decode b_X_init 222 = .ok (.iconst 0, 1) := by decide +kernel
theorem d_X_init_223 : decode b_X_init 223 = .ok (.putfield 91, 3) := by decide +kernel
theorem d_X_init_226 : decode b_X_init 226 = .ok (.return_, 1) := by decide +kernel
abbrev b_X_poke : ByteArray := prog_11_method_4_code
abbrev y_X_poke : MethodName := ⟨"SignMachineModel", "poke", "(III)Z"⟩
theorem h_X_poke : (y_X_poke).cls ≠ "java/lang/invoke/MethodHandle" ∧ (y_X_poke).cls ≠ "java/lang/invoke/VarHandle" ∧ (parseMethodDescriptor (y_X_poke).desc).map (fun d => d.parameters.length) = some 3 := by decide +kernel
theorem d_X_poke_0 : decode b_X_poke 0 = .ok (.iload_n 1, 1) := by decide +kernel
theorem d_X_poke_1 : decode b_X_poke 1 = .ok (.i2l, 1) := by decide +kernel
theorem d_X_poke_2 : decode b_X_poke 2 = .ok (.lconst 0, 1) := by decide +kernel
theorem d_X_poke_3 : decode b_X_poke 3 = .ok (.ldc2_w 94, 3) := by decide +kernel
theorem d_X_poke_6 : decode b_X_poke 6 = .ok (.invokestatic 96, 3) := by decide +kernel
theorem d_X_poke_9 : decode b_X_poke 9 = .ok (.ifCond .eq 25, 3) := by decide +kernel
theorem d_X_poke_12 : decode b_X_poke 12 = .ok (.iload_n 2, 1) := by decide +kernel
theorem d_X_poke_13 : decode b_X_poke 13 = .ok (.i2l, 1) := by decide +kernel
theorem d_X_poke_14 : decode b_X_poke 14 = .ok (.lconst 0, 1) := by decide +kernel
theorem d_X_poke_15 : decode b_X_poke 15 = .ok (.lconst 1, 1) := by decide +kernel
theorem d_X_poke_16 : decode b_X_poke 16 = .ok (.invokestatic 96, 3) := by decide +kernel
theorem d_X_poke_19 : decode b_X_poke 19 = .ok (.ifCond .eq 15, 3) := by decide +kernel
theorem d_X_poke_22 : decode b_X_poke 22 = .ok (.iload_n 3, 1) := by decide +kernel
theorem d_X_poke_23 : decode b_X_poke 23 = .ok (.i2l, 1) := by decide +kernel
theorem d_X_poke_24 : decode b_X_poke 24 = .ok (.lconst 0, 1) := by decide +kernel
theorem d_X_poke_25 : decode b_X_poke 25 = .ok (.ldc2_w 100, 3) := by decide +kernel
theorem d_X_poke_28 : decode b_X_poke 28 = .ok (.invokestatic 96, 3) := by decide +kernel
theorem d_X_poke_31 : decode b_X_poke 31 = .ok (.ifCond .ne 5, 3) := by decide +kernel
theorem d_X_poke_34 : decode b_X_poke 34 = .ok (.iconst 0, 1) := by decide +kernel
theorem d_X_poke_35 : decode b_X_poke 35 = .ok (.ireturn, 1) := by decide +kernel
theorem d_X_poke_36 : decode b_X_poke 36 = .ok (.aload_n 0, 1) := by decide +kernel
theorem d_X_poke_37 : decode b_X_poke 37 = .ok (.getfield 7, 3) := by decide +kernel
theorem d_X_poke_40 : decode b_X_poke 40 = .ok (.iload_n 1, 1) := by decide +kernel
theorem d_X_poke_41 : decode b_X_poke 41 = .ok (.iload_n 2, 1) := by decide +kernel
theorem d_X_poke_42 : decode b_X_poke 42 = .ok (.iastore, 1) := by decide +kernel
theorem d_X_poke_43 : decode b_X_poke 43 = .ok (.aload_n 0, 1) := by decide +kernel
theorem d_X_poke_44 : decode b_X_poke 44 = .ok (.getfield 13, 3) := by decide +kernel
theorem d_X_poke_47 : decode b_X_poke 47 = .ok (.iload_n 1, 1) := by decide +kernel
theorem d_X_poke_48 : decode b_X_poke 48 = .ok (.iload_n 3, 1) := by decide +kernel
theorem d_X_poke_49 : decode b_X_poke 49 = .ok (.iastore, 1) := by decide +kernel
theorem d_X_poke_50 : decode b_X_poke 50 = .ok (.iconst 1, 1) := by decide +kernel
theorem d_X_poke_51 : decode b_X_poke 51 = .ok (.ireturn, 1) := by decide +kernel
abbrev b_X_isIn : ByteArray := prog_11_method_3_code
abbrev y_X_isIn : MethodName := ⟨"SignMachineModel", "isIn", "(JJJ)Z"⟩
theorem h_X_isIn : (y_X_isIn).cls ≠ "java/lang/invoke/MethodHandle" ∧ (y_X_isIn).cls ≠ "java/lang/invoke/VarHandle" ∧ (parseMethodDescriptor (y_X_isIn).desc).map (fun d => d.parameters.length) = some 3 := by decide +kernel
theorem d_X_isIn_0 : decode b_X_isIn 0 = .ok (.lload_n 0, 1) := by decide +kernel
theorem d_X_isIn_1 : decode b_X_isIn 1 = .ok (.lload_n 2, 1) := by decide +kernel
theorem d_X_isIn_2 : decode b_X_isIn 2 = .ok (.lcmp, 1) := by decide +kernel
theorem d_X_isIn_3 : decode b_X_isIn 3 = .ok (.ifCond .lt 14, 3) := by decide +kernel
theorem d_X_isIn_6 : decode b_X_isIn 6 = .ok (.lload_n 0, 1) := by decide +kernel
theorem d_X_isIn_7 : decode b_X_isIn 7 = .ok (.lload 4, 2) := by decide +kernel
theorem d_X_isIn_9 : decode b_X_isIn 9 = .ok (.lcmp, 1) := by decide +kernel
theorem d_X_isIn_10 : decode b_X_isIn 10 = .ok (.ifCond .gt 7, 3) := by decide +kernel
theorem d_X_isIn_13 : decode b_X_isIn 13 = .ok (.iconst 1, 1) := by decide +kernel
theorem d_X_isIn_14 : decode b_X_isIn 14 = .ok (.goto 4, 3) := by decide +kernel
theorem d_X_isIn_17 : decode b_X_isIn 17 = .ok (.iconst 0, 1) := by decide +kernel
theorem d_X_isIn_18 : decode b_X_isIn 18 = .ok (.ireturn, 1) := by decide +kernel
abbrev b_X_peekSign : ByteArray := prog_11_method_5_code
abbrev y_X_peekSign : MethodName := ⟨"SignMachineModel", "peekSign", "(I)I"⟩
theorem h_X_peekSign : (y_X_peekSign).cls ≠ "java/lang/invoke/MethodHandle" ∧ (y_X_peekSign).cls ≠ "java/lang/invoke/VarHandle" ∧ (parseMethodDescriptor (y_X_peekSign).desc).map (fun d => d.parameters.length) = some 1 := by decide +kernel
theorem d_X_peekSign_0 : decode b_X_peekSign 0 = .ok (.iload_n 1, 1) := by decide +kernel
theorem d_X_peekSign_1 : decode b_X_peekSign 1 = .ok (.i2l, 1) := by decide +kernel
theorem d_X_peekSign_2 : decode b_X_peekSign 2 = .ok (.lconst 0, 1) := by decide +kernel
theorem d_X_peekSign_3 : decode b_X_peekSign 3 = .ok (.ldc2_w 94, 3) := by decide +kernel
theorem d_X_peekSign_6 : decode b_X_peekSign 6 = .ok (.invokestatic 96, 3) := by decide +kernel
theorem d_X_peekSign_9 : decode b_X_peekSign 9 = .ok (.ifCond .eq 12, 3) := by decide +kernel
theorem d_X_peekSign_12 : decode b_X_peekSign 12 = .ok (.aload_n 0, 1) := by decide +kernel
theorem d_X_peekSign_13 : decode b_X_peekSign 13 = .ok (.getfield 7, 3) := by decide +kernel
theorem d_X_peekSign_16 : decode b_X_peekSign 16 = .ok (.iload_n 1, 1) := by decide +kernel
theorem d_X_peekSign_17 : decode b_X_peekSign 17 = .ok (.iaload, 1) := by decide +kernel
theorem d_X_peekSign_18 : decode b_X_peekSign 18 = .ok (.goto 4, 3) := by decide +kernel
theorem d_X_peekSign_21 : decode b_X_peekSign 21 = .ok (.iconst (-1), 1) := by decide +kernel
theorem d_X_peekSign_22 : decode b_X_peekSign 22 = .ok (.ireturn, 1) := by decide +kernel
abbrev b_X_peekSize : ByteArray := prog_11_method_6_code
abbrev y_X_peekSize : MethodName := ⟨"SignMachineModel", "peekSize", "(I)I"⟩
theorem h_X_peekSize : (y_X_peekSize).cls ≠ "java/lang/invoke/MethodHandle" ∧ (y_X_peekSize).cls ≠ "java/lang/invoke/VarHandle" ∧ (parseMethodDescriptor (y_X_peekSize).desc).map (fun d => d.parameters.length) = some 1 := by decide +kernel
theorem d_X_peekSize_0 : decode b_X_peekSize 0 = .ok (.iload_n 1, 1) := by decide +kernel
theorem d_X_peekSize_1 : decode b_X_peekSize 1 = .ok (.i2l, 1) := by decide +kernel
theorem d_X_peekSize_2 : decode b_X_peekSize 2 = .ok (.lconst 0, 1) := by decide +kernel
theorem d_X_peekSize_3 : decode b_X_peekSize 3 = .ok (.ldc2_w 94, 3) := by decide +kernel
theorem d_X_peekSize_6 : decode b_X_peekSize 6 = .ok (.invokestatic 96, 3) := by decide +kernel
theorem d_X_peekSize_9 : decode b_X_peekSize 9 = .ok (.ifCond .eq 12, 3) := by decide +kernel
theorem d_X_peekSize_12 : decode b_X_peekSize 12 = .ok (.aload_n 0, 1) := by decide +kernel
theorem d_X_peekSize_13 : decode b_X_peekSize 13 = .ok (.getfield 13, 3) := by decide +kernel
theorem d_X_peekSize_16 : decode b_X_peekSize 16 = .ok (.iload_n 1, 1) := by decide +kernel
theorem d_X_peekSize_17 : decode b_X_peekSize 17 = .ok (.iaload, 1) := by decide +kernel
theorem d_X_peekSize_18 : decode b_X_peekSize 18 = .ok (.goto 4, 3) := by decide +kernel
theorem d_X_peekSize_21 : decode b_X_peekSize 21 = .ok (.iconst (-1), 1) := by decide +kernel
theorem d_X_peekSize_22 : decode b_X_peekSize 22 = .ok (.ireturn, 1) := by decide +kernel
abbrev b_X_registerSign : ByteArray := prog_11_method_7_code
abbrev y_X_registerSign : MethodName := ⟨"SignMachineModel", "registerSign", "(I)I"⟩
theorem h_X_registerSign : (y_X_registerSign).cls ≠ "java/lang/invoke/MethodHandle" ∧ (y_X_registerSign).cls ≠ "java/lang/invoke/VarHandle" ∧ (parseMethodDescriptor (y_X_registerSign).desc).map (fun d => d.parameters.length) = some 1 := by decide +kernel
theorem d_X_registerSign_0 : decode b_X_registerSign 0 = .ok (.iload_n 1, 1) := by decide +kernel
theorem d_X_registerSign_1 : decode b_X_registerSign 1 = .ok (.i2l, 1) := by decide +kernel
theorem d_X_registerSign_2 : decode b_X_registerSign 2 = .ok (.lconst 0, 1) := by decide +kernel
theorem d_X_registerSign_3 : decode b_X_registerSign 3 = .ok (.ldc2_w 102, 3) := by decide +kernel
theorem d_X_registerSign_6 : decode b_X_registerSign 6 = .ok (.invokestatic 96, 3) := by decide +kernel
theorem d_X_registerSign_9 : decode b_X_registerSign 9 = .ok (.ifCond .eq 12, 3) := by decide +kernel
theorem d_X_registerSign_12 : decode b_X_registerSign 12 = .ok (.aload_n 0, 1) := by decide +kernel
theorem d_X_registerSign_13 : decode b_X_registerSign 13 = .ok (.getfield 16, 3) := by decide +kernel
theorem d_X_registerSign_16 : decode b_X_registerSign 16 = .ok (.iload_n 1, 1) := by decide +kernel
theorem d_X_registerSign_17 : decode b_X_registerSign 17 = .ok (.iaload, 1) := by decide +kernel
theorem d_X_registerSign_18 : decode b_X_registerSign 18 = .ok (.goto 4, 3) := by decide +kernel
theorem d_X_registerSign_21 : decode b_X_registerSign 21 = .ok (.iconst (-1), 1) := by decide +kernel
theorem d_X_registerSign_22 : decode b_X_registerSign 22 = .ok (.ireturn, 1) := by decide +kernel
abbrev b_X_registerSize : ByteArray := prog_11_method_8_code
abbrev y_X_registerSize : MethodName := ⟨"SignMachineModel", "registerSize", "(I)I"⟩
theorem h_X_registerSize : (y_X_registerSize).cls ≠ "java/lang/invoke/MethodHandle" ∧ (y_X_registerSize).cls ≠ "java/lang/invoke/VarHandle" ∧ (parseMethodDescriptor (y_X_registerSize).desc).map (fun d => d.parameters.length) = some 1 := by decide +kernel
theorem d_X_registerSize_0 : decode b_X_registerSize 0 = .ok (.iload_n 1, 1) := by decide +kernel
theorem d_X_registerSize_1 : decode b_X_registerSize 1 = .ok (.i2l, 1) := by decide +kernel
theorem d_X_registerSize_2 : decode b_X_registerSize 2 = .ok (.lconst 0, 1) := by decide +kernel
theorem d_X_registerSize_3 : decode b_X_registerSize 3 = .ok (.ldc2_w 102, 3) := by decide +kernel
theorem d_X_registerSize_6 : decode b_X_registerSize 6 = .ok (.invokestatic 96, 3) := by decide +kernel
theorem d_X_registerSize_9 : decode b_X_registerSize 9 = .ok (.ifCond .eq 12, 3) := by decide +kernel
theorem d_X_registerSize_12 : decode b_X_registerSize 12 = .ok (.aload_n 0, 1) := by decide +kernel
theorem d_X_registerSize_13 : decode b_X_registerSize 13 = .ok (.getfield 19, 3) := by decide +kernel
theorem d_X_registerSize_16 : decode b_X_registerSize 16 = .ok (.iload_n 1, 1) := by decide +kernel
theorem d_X_registerSize_17 : decode b_X_registerSize 17 = .ok (.iaload, 1) := by decide +kernel
theorem d_X_registerSize_18 : decode b_X_registerSize 18 = .ok (.goto 4, 3) := by decide +kernel
theorem d_X_registerSize_21 : decode b_X_registerSize 21 = .ok (.iconst (-1), 1) := by decide +kernel
theorem d_X_registerSize_22 : decode b_X_registerSize 22 = .ok (.ireturn, 1) := by decide +kernel
abbrev b_X_set : ByteArray := prog_11_method_10_code
abbrev y_X_set : MethodName := ⟨"SignMachineModel", "set", "(III)Z"⟩
theorem h_X_set : (y_X_set).cls ≠ "java/lang/invoke/MethodHandle" ∧ (y_X_set).cls ≠ "java/lang/invoke/VarHandle" ∧ (parseMethodDescriptor (y_X_set).desc).map (fun d => d.parameters.length) = some 3 := by decide +kernel
theorem d_X_set_0 : decode b_X_set 0 = .ok (.iload_n 1, 1) := by decide +kernel
theorem d_X_set_1 : decode b_X_set 1 = .ok (.i2l, 1) := by decide +kernel
theorem d_X_set_2 : decode b_X_set 2 = .ok (.lconst 0, 1) := by decide +kernel
theorem d_X_set_3 : decode b_X_set 3 = .ok (.ldc2_w 102, 3) := by decide +kernel
theorem d_X_set_6 : decode b_X_set 6 = .ok (.invokestatic 96, 3) := by decide +kernel
theorem d_X_set_9 : decode b_X_set 9 = .ok (.ifCond .eq 48, 3) := by decide +kernel
theorem d_X_set_12 : decode b_X_set 12 = .ok (.iload_n 2, 1) := by decide +kernel
theorem d_X_set_13 : decode b_X_set 13 = .ok (.i2l, 1) := by decide +kernel
theorem d_X_set_14 : decode b_X_set 14 = .ok (.lconst 0, 1) := by decide +kernel
theorem d_X_set_15 : decode b_X_set 15 = .ok (.iload_n 1, 1) := by decide +kernel
theorem d_X_set_16 : decode b_X_set 16 = .ok (.bipush 8, 2) := by decide +kernel
theorem d_X_set_18 : decode b_X_set 18 = .ok (.if_icmp .ne 7, 3) := by decide +kernel
theorem d_X_set_21 : decode b_X_set 21 = .ok (.lconst 0, 1) := by decide +kernel
theorem d_X_set_22 : decode b_X_set 22 = .ok (.goto 4, 3) := by decide +kernel
theorem d_X_set_25 : decode b_X_set 25 = .ok (.lconst 1, 1) := by decide +kernel
theorem d_X_set_26 : decode b_X_set 26 = .ok (.invokestatic 96, 3) := by decide +kernel
theorem d_X_set_29 : decode b_X_set 29 = .ok (.ifCond .eq 28, 3) := by decide +kernel
theorem d_X_set_32 : decode b_X_set 32 = .ok (.iload_n 3, 1) := by decide +kernel
theorem d_X_set_33 : decode b_X_set 33 = .ok (.i2l, 1) := by decide +kernel
theorem d_X_set_34 : decode b_X_set 34 = .ok (.lconst 0, 1) := by decide +kernel
theorem d_X_set_35 : decode b_X_set 35 = .ok (.iload_n 1, 1) := by decide +kernel
theorem d_X_set_36 : decode b_X_set 36 = .ok (.invokestatic 104, 3) := by decide +kernel
theorem d_X_set_39 : decode b_X_set 39 = .ok (.ifCond .eq 9, 3) := by decide +kernel
theorem d_X_set_42 : decode b_X_set 42 = .ok (.ldc2_w 108, 3) := by decide +kernel
theorem d_X_set_45 : decode b_X_set 45 = .ok (.goto 6, 3) := by decide +kernel
theorem d_X_set_48 : decode b_X_set 48 = .ok (.ldc2_w 100, 3) := by decide +kernel
theorem d_X_set_51 : decode b_X_set 51 = .ok (.invokestatic 96, 3) := by decide +kernel
theorem d_X_set_54 : decode b_X_set 54 = .ok (.ifCond .ne 5, 3) := by decide +kernel
theorem d_X_set_57 : decode b_X_set 57 = .ok (.iconst 0, 1) := by decide +kernel
theorem d_X_set_58 : decode b_X_set 58 = .ok (.ireturn, 1) := by decide +kernel
theorem d_X_set_59 : decode b_X_set 59 = .ok (.aload_n 0, 1) := by decide +kernel
theorem d_X_set_60 : decode b_X_set 60 = .ok (.getfield 16, 3) := by decide +kernel
theorem d_X_set_63 : decode b_X_set 63 = .ok (.iload_n 1, 1) := by decide +kernel
theorem d_X_set_64 : decode b_X_set 64 = .ok (.iload_n 2, 1) := by decide +kernel
theorem d_X_set_65 : decode b_X_set 65 = .ok (.iastore, 1) := by decide +kernel
theorem d_X_set_66 : decode b_X_set 66 = .ok (.aload_n 0, 1) := by decide +kernel
theorem d_X_set_67 : decode b_X_set 67 = .ok (.getfield 19, 3) := by decide +kernel
theorem d_X_set_70 : decode b_X_set 70 = .ok (.iload_n 1, 1) := by decide +kernel
theorem d_X_set_71 : decode b_X_set 71 = .ok (.iload_n 3, 1) := by decide +kernel
theorem d_X_set_72 : decode b_X_set 72 = .ok (.iastore, 1) := by decide +kernel
theorem d_X_set_73 : decode b_X_set 73 = .ok (.iconst 1, 1) := by decide +kernel
theorem d_X_set_74 : decode b_X_set 74 = .ok (.ireturn, 1) := by decide +kernel
abbrev b_X_isShort : ByteArray := prog_11_method_9_code
abbrev y_X_isShort : MethodName := ⟨"SignMachineModel", "isShort", "(I)Z"⟩
theorem h_X_isShort : (y_X_isShort).cls ≠ "java/lang/invoke/MethodHandle" ∧ (y_X_isShort).cls ≠ "java/lang/invoke/VarHandle" ∧ (parseMethodDescriptor (y_X_isShort).desc).map (fun d => d.parameters.length) = some 1 := by decide +kernel
theorem d_X_isShort_0 : decode b_X_isShort 0 = .ok (.iload_n 0, 1) := by decide +kernel
theorem d_X_isShort_1 : decode b_X_isShort 1 = .ok (.ifCond .eq 13, 3) := by decide +kernel
theorem d_X_isShort_4 : decode b_X_isShort 4 = .ok (.iload_n 0, 1) := by decide +kernel
theorem d_X_isShort_5 : decode b_X_isShort 5 = .ok (.bipush 7, 2) := by decide +kernel
theorem d_X_isShort_7 : decode b_X_isShort 7 = .ok (.if_icmp .eq 7, 3) := by decide +kernel
theorem d_X_isShort_10 : decode b_X_isShort 10 = .ok (.iconst 1, 1) := by decide +kernel
theorem d_X_isShort_11 : decode b_X_isShort 11 = .ok (.goto 4, 3) := by decide +kernel
theorem d_X_isShort_14 : decode b_X_isShort 14 = .ok (.iconst 0, 1) := by decide +kernel
theorem d_X_isShort_15 : decode b_X_isShort 15 = .ok (.ireturn, 1) := by decide +kernel
abbrev b_X_state : ByteArray := prog_11_method_11_code
abbrev y_X_state : MethodName := ⟨"SignMachineModel", "state", "(I)I"⟩
theorem h_X_state : (y_X_state).cls ≠ "java/lang/invoke/MethodHandle" ∧ (y_X_state).cls ≠ "java/lang/invoke/VarHandle" ∧ (parseMethodDescriptor (y_X_state).desc).map (fun d => d.parameters.length) = some 1 := by decide +kernel
theorem d_X_state_0 : decode b_X_state 0 = .ok (.iload_n 1, 1) := by decide +kernel
theorem d_X_state_1 : decode b_X_state 1 = .ok (.tableswitch 82 0 6 #[43, 48, 53, 58, 63, 70, 77], 43) := by decide +kernel
theorem d_X_state_44 : decode b_X_state 44 = .ok (.aload_n 0, 1) := by decide +kernel
theorem d_X_state_45 : decode b_X_state 45 = .ok (.getfield 110, 3) := by decide +kernel
theorem d_X_state_48 : decode b_X_state 48 = .ok (.ireturn, 1) := by decide +kernel
theorem d_X_state_49 : decode b_X_state 49 = .ok (.aload_n 0, 1) := by decide +kernel
theorem d_X_state_50 : decode b_X_state 50 = .ok (.getfield 113, 3) := by decide +kernel
theorem d_X_state_53 : decode b_X_state 53 = .ok (.ireturn, 1) := by decide +kernel
theorem d_X_state_54 : decode b_X_state 54 = .ok (.aload_n 0, 1) := by decide +kernel
theorem d_X_state_55 : decode b_X_state 55 = .ok (.getfield 116, 3) := by decide +kernel
theorem d_X_state_58 : decode b_X_state 58 = .ok (.ireturn, 1) := by decide +kernel
theorem d_X_state_59 : decode b_X_state 59 = .ok (.aload_n 0, 1) := by decide +kernel
theorem d_X_state_60 : decode b_X_state 60 = .ok (.getfield 119, 3) := by decide +kernel
theorem d_X_state_63 : decode b_X_state 63 = .ok (.ireturn, 1) := by decide +kernel
theorem d_X_state_64 : decode b_X_state 64 = .ok (.aload_n 0, 1) := by decide +kernel
theorem d_X_state_65 : decode b_X_state 65 = .ok (.getfield 28, 3) := by decide +kernel
theorem d_X_state_68 : decode b_X_state 68 = .ok (.iconst 0, 1) := by decide +kernel
theorem d_X_state_69 : decode b_X_state 69 = .ok (.iaload, 1) := by decide +kernel
theorem d_X_state_70 : decode b_X_state 70 = .ok (.ireturn, 1) := by decide +kernel
theorem d_X_state_71 : decode b_X_state 71 = .ok (.aload_n 0, 1) := by decide +kernel
theorem d_X_state_72 : decode b_X_state 72 = .ok (.getfield 28, 3) := by decide +kernel
theorem d_X_state_75 : decode b_X_state 75 = .ok (.iconst 1, 1) := by decide +kernel
theorem d_X_state_76 : decode b_X_state 76 = .ok (.iaload, 1) := by decide +kernel
theorem d_X_state_77 : decode b_X_state 77 = .ok (.ireturn, 1) := by decide +kernel
theorem d_X_state_78 : decode b_X_state 78 = .ok (.aload_n 0, 1) := by decide +kernel
theorem d_X_state_79 : decode b_X_state 79 = .ok (.getfield 91, 3) := by decide +kernel
theorem d_X_state_82 : decode b_X_state 82 = .ok (.ireturn, 1) := by decide +kernel
theorem d_X_state_83 : decode b_X_state 83 = .ok (.bipush (-2), 2) := by decide +kernel
theorem d_X_state_85 : decode b_X_state 85 = .ok (.ireturn, 1) := by decide +kernel
abbrev b_X_go : ByteArray := prog_11_method_12_code
abbrev y_X_go : MethodName := ⟨"SignMachineModel", "go", "(I)Z"⟩
theorem h_X_go : (y_X_go).cls ≠ "java/lang/invoke/MethodHandle" ∧ (y_X_go).cls ≠ "java/lang/invoke/VarHandle" ∧ (parseMethodDescriptor (y_X_go).desc).map (fun d => d.parameters.length) = some 1 := by decide +kernel
theorem d_X_go_0 : decode b_X_go 0 = .ok (.iload_n 1, 1) := by decide +kernel
theorem d_X_go_1 : decode b_X_go 1 = .ok (.i2l, 1) := by decide +kernel
theorem d_X_go_2 : decode b_X_go 2 = .ok (.lconst 0, 1) := by decide +kernel
theorem d_X_go_3 : decode b_X_go 3 = .ok (.ldc2_w 94, 3) := by decide +kernel
theorem d_X_go_6 : decode b_X_go 6 = .ok (.invokestatic 96, 3) := by decide +kernel
theorem d_X_go_9 : decode b_X_go 9 = .ok (.istore_n 2, 1) := by decide +kernel
theorem d_X_go_10 : decode b_X_go 10 = .ok (.aload_n 0, 1) := by decide +kernel
theorem d_X_go_11 : decode b_X_go 11 = .ok (.iload_n 2, 1) := by decide +kernel
theorem d_X_go_12 : decode b_X_go 12 = .ok (.ifCond .eq 7, 3) := by decide +kernel
theorem d_X_go_15 : decode b_X_go 15 = .ok (.iload_n 1, 1) := by decide +kernel
theorem d_X_go_16 : decode b_X_go 16 = .ok (.goto 7, 3) := by decide +kernel
theorem d_X_go_19 : decode b_X_go 19 = .ok (.aload_n 0, 1) := by decide +kernel
theorem d_X_go_20 : decode b_X_go 20 = .ok (.getfield 110, 3) := by decide +kernel
theorem d_X_go_23 : decode b_X_go 23 = .ok (.putfield 110, 3) := by decide +kernel
theorem d_X_go_26 : decode b_X_go 26 = .ok (.iload_n 2, 1) := by decide +kernel
theorem d_X_go_27 : decode b_X_go 27 = .ok (.ireturn, 1) := by decide +kernel
abbrev b_X_tape : ByteArray := prog_11_method_13_code
abbrev y_X_tape : MethodName := ⟨"SignMachineModel", "tape", "(III)I"⟩
theorem h_X_tape : (y_X_tape).cls ≠ "java/lang/invoke/MethodHandle" ∧ (y_X_tape).cls ≠ "java/lang/invoke/VarHandle" ∧ (parseMethodDescriptor (y_X_tape).desc).map (fun d => d.parameters.length) = some 3 := by decide +kernel
theorem d_X_tape_0 : decode b_X_tape 0 = .ok (.iload_n 1, 1) := by decide +kernel
theorem d_X_tape_1 : decode b_X_tape 1 = .ok (.i2l, 1) := by decide +kernel
theorem d_X_tape_2 : decode b_X_tape 2 = .ok (.lconst 0, 1) := by decide +kernel
theorem d_X_tape_3 : decode b_X_tape 3 = .ok (.lconst 1, 1) := by decide +kernel
theorem d_X_tape_4 : decode b_X_tape 4 = .ok (.invokestatic 96, 3) := by decide +kernel
theorem d_X_tape_7 : decode b_X_tape 7 = .ok (.ifCond .eq 27, 3) := by decide +kernel
theorem d_X_tape_10 : decode b_X_tape 10 = .ok (.iload_n 2, 1) := by decide +kernel
theorem d_X_tape_11 : decode b_X_tape 11 = .ok (.i2l, 1) := by decide +kernel
theorem d_X_tape_12 : decode b_X_tape 12 = .ok (.lconst 0, 1) := by decide +kernel
theorem d_X_tape_13 : decode b_X_tape 13 = .ok (.ldc2_w 122, 3) := by decide +kernel
theorem d_X_tape_16 : decode b_X_tape 16 = .ok (.invokestatic 96, 3) := by decide +kernel
theorem d_X_tape_19 : decode b_X_tape 19 = .ok (.ifCond .eq 15, 3) := by decide +kernel
theorem d_X_tape_22 : decode b_X_tape 22 = .ok (.iload_n 3, 1) := by decide +kernel
theorem d_X_tape_23 : decode b_X_tape 23 = .ok (.i2l, 1) := by decide +kernel
theorem d_X_tape_24 : decode b_X_tape 24 = .ok (.lconst 0, 1) := by decide +kernel
theorem d_X_tape_25 : decode b_X_tape 25 = .ok (.ldc2_w 124, 3) := by decide +kernel
theorem d_X_tape_28 : decode b_X_tape 28 = .ok (.invokestatic 96, 3) := by decide +kernel
theorem d_X_tape_31 : decode b_X_tape 31 = .ok (.ifCond .ne 6, 3) := by decide +kernel
theorem d_X_tape_34 : decode b_X_tape 34 = .ok (.ldc 126, 2) := by decide +kernel
theorem d_X_tape_36 : decode b_X_tape 36 = .ok (.ireturn, 1) := by decide +kernel
theorem d_X_tape_37 : decode b_X_tape 37 = .ok (.sipush 4000, 3) := by decide +kernel
theorem d_X_tape_40 : decode b_X_tape 40 = .ok (.iload_n 1, 1) := by decide +kernel
theorem d_X_tape_41 : decode b_X_tape 41 = .ok (.imul, 1) := by decide +kernel
theorem d_X_tape_42 : decode b_X_tape 42 = .ok (.bipush 100, 2) := by decide +kernel
theorem d_X_tape_44 : decode b_X_tape 44 = .ok (.iload_n 2, 1) := by decide +kernel
theorem d_X_tape_45 : decode b_X_tape 45 = .ok (.imul, 1) := by decide +kernel
theorem d_X_tape_46 : decode b_X_tape 46 = .ok (.iadd, 1) := by decide +kernel
theorem d_X_tape_47 : decode b_X_tape 47 = .ok (.iload_n 3, 1) := by decide +kernel
theorem d_X_tape_48 : decode b_X_tape 48 = .ok (.iadd, 1) := by decide +kernel
theorem d_X_tape_49 : decode b_X_tape 49 = .ok (.istore 4, 2) := by decide +kernel
theorem d_X_tape_51 : decode b_X_tape 51 = .ok (.aload_n 0, 1) := by decide +kernel
theorem d_X_tape_52 : decode b_X_tape 52 = .ok (.getfield 22, 3) := by decide +kernel
theorem d_X_tape_55 : decode b_X_tape 55 = .ok (.iload 4, 2) := by decide +kernel
theorem d_X_tape_57 : decode b_X_tape 57 = .ok (.iaload, 1) := by decide +kernel
theorem d_X_tape_58 : decode b_X_tape 58 = .ok (.ifCond .ne 13, 3) := by decide +kernel
theorem d_X_tape_61 : decode b_X_tape 61 = .ok (.aload_n 0, 1) := by decide +kernel
theorem d_X_tape_62 : decode b_X_tape 62 = .ok (.getfield 25, 3) := by decide +kernel
theorem d_X_tape_65 : decode b_X_tape 65 = .ok (.iload 4, 2) := by decide +kernel
theorem d_X_tape_67 : decode b_X_tape 67 = .ok (.iaload, 1) := by decide +kernel
theorem d_X_tape_68 : decode b_X_tape 68 = .ok (.goto 26, 3) := by decide +kernel
theorem d_X_tape_71 : decode b_X_tape 71 = .ok (.aload_n 0, 1) := by decide +kernel
theorem d_X_tape_72 : decode b_X_tape 72 = .ok (.getfield 25, 3) := by decide +kernel
theorem d_X_tape_75 : decode b_X_tape 75 = .ok (.iload 4, 2) := by decide +kernel
theorem d_X_tape_77 : decode b_X_tape 77 = .ok (.iaload, 1) := by decide +kernel
theorem d_X_tape_78 : decode b_X_tape 78 = .ok (.ifCond .ne 8, 3) := by decide +kernel
theorem d_X_tape_81 : decode b_X_tape 81 = .ok (.ldc 127, 2) := by decide +kernel
theorem d_X_tape_83 : decode b_X_tape 83 = .ok (.goto 11, 3) := by decide +kernel
theorem d_X_tape_86 : decode b_X_tape 86 = .ok (.aload_n 0, 1) := by decide +kernel
theorem d_X_tape_87 : decode b_X_tape 87 = .ok (.getfield 25, 3) := by decide +kernel
theorem d_X_tape_90 : decode b_X_tape 90 = .ok (.iload 4, 2) := by decide +kernel
theorem d_X_tape_92 : decode b_X_tape 92 = .ok (.iaload, 1) := by decide +kernel
theorem d_X_tape_93 : decode b_X_tape 93 = .ok (.ineg, 1) := by decide +kernel
theorem d_X_tape_94 : decode b_X_tape 94 = .ok (.ireturn, 1) := by decide +kernel
abbrev b_X_step : ByteArray := prog_11_method_47_code
abbrev y_X_step : MethodName := ⟨"SignMachineModel", "step", "()I"⟩
theorem h_X_step : (y_X_step).cls ≠ "java/lang/invoke/MethodHandle" ∧ (y_X_step).cls ≠ "java/lang/invoke/VarHandle" ∧ (parseMethodDescriptor (y_X_step).desc).map (fun d => d.parameters.length) = some 0 := by decide +kernel
theorem d_X_step_0 : decode b_X_step 0 = .ok (.aload_n 0, 1) := by decide +kernel
theorem d_X_step_1 : decode b_X_step 1 = .ok (.aload_n 0, 1) := by decide +kernel
theorem d_X_step_2 : decode b_X_step 2 = .ok (.invokevirtual 269, 3) := by decide +kernel
theorem d_X_step_5 : decode b_X_step 5 = .ok (.putfield 91, 3) := by decide +kernel
theorem d_X_step_8 : decode b_X_step 8 = .ok (.aload_n 0, 1) := by decide +kernel
theorem d_X_step_9 : decode b_X_step 9 = .ok (.getfield 91, 3) := by decide +kernel
theorem d_X_step_12 : decode b_X_step 12 = .ok (.ireturn, 1) := by decide +kernel
abbrev b_X_one : ByteArray := prog_11_method_46_code
abbrev y_X_one : MethodName := ⟨"SignMachineModel", "one", "()I"⟩
theorem h_X_one : (y_X_one).cls ≠ "java/lang/invoke/MethodHandle" ∧ (y_X_one).cls ≠ "java/lang/invoke/VarHandle" ∧ (parseMethodDescriptor (y_X_one).desc).map (fun d => d.parameters.length) = some 0 := by decide +kernel
theorem d_X_one_0 : decode b_X_one 0 = .ok (.aload_n 0, 1) := by decide +kernel
theorem d_X_one_1 : decode b_X_one 1 = .ok (.invokevirtual 262, 3) := by decide +kernel
theorem d_X_one_4 : decode b_X_one 4 = .ok (.istore_n 1, 1) := by decide +kernel
theorem d_X_one_5 : decode b_X_one 5 = .ok (.iload_n 1, 1) := by decide +kernel
theorem d_X_one_6 : decode b_X_one 6 = .ok (.ifCond .le 5, 3) := by decide +kernel
theorem d_X_one_9 : decode b_X_one 9 = .ok (.iload_n 1, 1) := by decide +kernel
theorem d_X_one_10 : decode b_X_one 10 = .ok (.ireturn, 1) := by decide +kernel
theorem d_X_one_11 : decode b_X_one 11 = .ok (.aload_n 0, 1) := by decide +kernel
theorem d_X_one_12 : decode b_X_one 12 = .ok (.getfield 132, 3) := by decide +kernel
theorem d_X_one_15 : decode b_X_one 15 = .ok (.iconst 5, 1) := by decide +kernel
theorem d_X_one_16 : decode b_X_one 16 = .ok (.if_icmp .ne 15, 3) := by decide +kernel
theorem d_X_one_19 : decode b_X_one 19 = .ok (.aload_n 0, 1) := by decide +kernel
theorem d_X_one_20 : decode b_X_one 20 = .ok (.getfield 135, 3) := by decide +kernel
theorem d_X_one_23 : decode b_X_one 23 = .ok (.iconst 2, 1) := by decide +kernel
theorem d_X_one_24 : decode b_X_one 24 = .ok (.if_icmp .ne 7, 3) := by decide +kernel
theorem d_X_one_27 : decode b_X_one 27 = .ok (.iconst 1, 1) := by decide +kernel
theorem d_X_one_28 : decode b_X_one 28 = .ok (.goto 4, 3) := by decide +kernel
theorem d_X_one_31 : decode b_X_one 31 = .ok (.iconst 0, 1) := by decide +kernel
theorem d_X_one_32 : decode b_X_one 32 = .ok (.istore_n 2, 1) := by decide +kernel
theorem d_X_one_33 : decode b_X_one 33 = .ok (.aload_n 0, 1) := by decide +kernel
theorem d_X_one_34 : decode b_X_one 34 = .ok (.invokevirtual 266, 3) := by decide +kernel
theorem d_X_one_37 : decode b_X_one 37 = .ok (.ifCond .eq 13, 3) := by decide +kernel
theorem d_X_one_40 : decode b_X_one 40 = .ok (.aload_n 0, 1) := by decide +kernel
theorem d_X_one_41 : decode b_X_one 41 = .ok (.dup, 1) := by decide +kernel
theorem d_X_one_42 : decode b_X_one 42 = .ok (.getfield 110, 3) := by decide +kernel
theorem d_X_one_45 : decode b_X_one 45 = .ok (.iconst 1, 1) := by decide +kernel
theorem d_X_one_46 : decode b_X_one 46 = .ok (.iadd, 1) := by decide +kernel
theorem d_X_one_47 : decode b_X_one 47 = .ok (.putfield 110, 3) := by decide +kernel
theorem d_X_one_50 : decode b_X_one 50 = .ok (.iload_n 2, 1) := by decide +kernel
theorem d_X_one_51 : decode b_X_one 51 = .ok (.ifCond .eq 7, 3) := by decide +kernel
theorem d_X_one_54 : decode b_X_one 54 = .ok (.iconst 1, 1) := by decide +kernel
theorem d_X_one_55 : decode b_X_one 55 = .ok (.goto 4, 3) := by decide +kernel
theorem d_X_one_58 : decode b_X_one 58 = .ok (.iconst 0, 1) := by decide +kernel
theorem d_X_one_59 : decode b_X_one 59 = .ok (.ireturn, 1) := by decide +kernel
abbrev b_X_judge : ByteArray := prog_11_method_26_code
abbrev y_X_judge : MethodName := ⟨"SignMachineModel", "judge", "()I"⟩
theorem h_X_judge : (y_X_judge).cls ≠ "java/lang/invoke/MethodHandle" ∧ (y_X_judge).cls ≠ "java/lang/invoke/VarHandle" ∧ (parseMethodDescriptor (y_X_judge).desc).map (fun d => d.parameters.length) = some 0 := by decide +kernel
theorem d_X_judge_0 : decode b_X_judge 0 = .ok (.aload_n 0, 1) := by decide +kernel
theorem d_X_judge_1 : decode b_X_judge 1 = .ok (.getfield 110, 3) := by decide +kernel
theorem d_X_judge_4 : decode b_X_judge 4 = .ok (.sipush 4000, 3) := by decide +kernel
theorem d_X_judge_7 : decode b_X_judge 7 = .ok (.if_icmp .lt 5, 3) := by decide +kernel
theorem d_X_judge_10 : decode b_X_judge 10 = .ok (.iconst 3, 1) := by decide +kernel
theorem d_X_judge_11 : decode b_X_judge 11 = .ok (.ireturn, 1) := by decide +kernel
theorem d_X_judge_12 : decode b_X_judge 12 = .ok (.aload_n 0, 1) := by decide +kernel
theorem d_X_judge_13 : decode b_X_judge 13 = .ok (.invokevirtual 182, 3) := by decide +kernel
theorem d_X_judge_16 : decode b_X_judge 16 = .ok (.aload_n 0, 1) := by decide +kernel
theorem d_X_judge_17 : decode b_X_judge 17 = .ok (.getfield 138, 3) := by decide +kernel
theorem d_X_judge_20 : decode b_X_judge 20 = .ok (.bipush 6, 2) := by decide +kernel
theorem d_X_judge_22 : decode b_X_judge 22 = .ok (.if_icmp .gt 10, 3) := by decide +kernel
theorem d_X_judge_25 : decode b_X_judge 25 = .ok (.aload_n 0, 1) := by decide +kernel
theorem d_X_judge_26 : decode b_X_judge 26 = .ok (.invokevirtual 185, 3) := by decide +kernel
theorem d_X_judge_29 : decode b_X_judge 29 = .ok (.ifCond .ne 5, 3) := by decide +kernel
theorem d_X_judge_32 : decode b_X_judge 32 = .ok (.iconst 2, 1) := by decide +kernel
theorem d_X_judge_33 : decode b_X_judge 33 = .ok (.ireturn, 1) := by decide +kernel
theorem d_X_judge_34 : decode b_X_judge 34 = .ok (.aload_n 0, 1) := by decide +kernel
theorem d_X_judge_35 : decode b_X_judge 35 = .ok (.invokevirtual 189, 3) := by decide +kernel
theorem d_X_judge_38 : decode b_X_judge 38 = .ok (.ifCond .ne 7, 3) := by decide +kernel
theorem d_X_judge_41 : decode b_X_judge 41 = .ok (.iconst 3, 1) := by decide +kernel
theorem d_X_judge_42 : decode b_X_judge 42 = .ok (.goto 26, 3) := by decide +kernel
theorem d_X_judge_45 : decode b_X_judge 45 = .ok (.aload_n 0, 1) := by decide +kernel
theorem d_X_judge_46 : decode b_X_judge 46 = .ok (.invokevirtual 192, 3) := by decide +kernel
theorem d_X_judge_49 : decode b_X_judge 49 = .ok (.ifCond .ne 7, 3) := by decide +kernel
theorem d_X_judge_52 : decode b_X_judge 52 = .ok (.iconst 4, 1) := by decide +kernel
theorem d_X_judge_53 : decode b_X_judge 53 = .ok (.goto 15, 3) := by decide +kernel
theorem d_X_judge_56 : decode b_X_judge 56 = .ok (.aload_n 0, 1) := by decide +kernel
theorem d_X_judge_57 : decode b_X_judge 57 = .ok (.invokevirtual 195, 3) := by decide +kernel
theorem d_X_judge_60 : decode b_X_judge 60 = .ok (.ifCond .ne 7, 3) := by decide +kernel
theorem d_X_judge_63 : decode b_X_judge 63 = .ok (.iconst 5, 1) := by decide +kernel
theorem d_X_judge_64 : decode b_X_judge 64 = .ok (.goto 4, 3) := by decide +kernel
theorem d_X_judge_67 : decode b_X_judge 67 = .ok (.iconst 0, 1) := by decide +kernel
theorem d_X_judge_68 : decode b_X_judge 68 = .ok (.ireturn, 1) := by decide +kernel
abbrev b_X_take : ByteArray := prog_11_method_18_code
abbrev y_X_take : MethodName := ⟨"SignMachineModel", "take", "()V"⟩
theorem h_X_take : (y_X_take).cls ≠ "java/lang/invoke/MethodHandle" ∧ (y_X_take).cls ≠ "java/lang/invoke/VarHandle" ∧ (parseMethodDescriptor (y_X_take).desc).map (fun d => d.parameters.length) = some 0 := by decide +kernel
theorem d_X_take_0 : decode b_X_take 0 = .ok (.aload_n 0, 1) := by decide +kernel
theorem d_X_take_1 : decode b_X_take 1 = .ok (.getfield 13, 3) := by decide +kernel
theorem d_X_take_4 : decode b_X_take 4 = .ok (.aload_n 0, 1) := by decide +kernel
theorem d_X_take_5 : decode b_X_take 5 = .ok (.getfield 110, 3) := by decide +kernel
theorem d_X_take_8 : decode b_X_take 8 = .ok (.iaload, 1) := by decide +kernel
theorem d_X_take_9 : decode b_X_take 9 = .ok (.istore_n 1, 1) := by decide +kernel
theorem d_X_take_10 : decode b_X_take 10 = .ok (.aload_n 0, 1) := by decide +kernel
theorem d_X_take_11 : decode b_X_take 11 = .ok (.iload_n 1, 1) := by decide +kernel
theorem d_X_take_12 : decode b_X_take 12 = .ok (.bipush 64, 2) := by decide +kernel
theorem d_X_take_14 : decode b_X_take 14 = .ok (.irem, 1) := by decide +kernel
theorem d_X_take_15 : decode b_X_take 15 = .ok (.putfield 132, 3) := by decide +kernel
theorem d_X_take_18 : decode b_X_take 18 = .ok (.aload_n 0, 1) := by decide +kernel
theorem d_X_take_19 : decode b_X_take 19 = .ok (.iload_n 1, 1) := by decide +kernel
theorem d_X_take_20 : decode b_X_take 20 = .ok (.bipush 64, 2) := by decide +kernel
theorem d_X_take_22 : decode b_X_take 22 = .ok (.idiv, 1) := by decide +kernel
theorem d_X_take_23 : decode b_X_take 23 = .ok (.bipush 64, 2) := by decide +kernel
theorem d_X_take_25 : decode b_X_take 25 = .ok (.irem, 1) := by decide +kernel
theorem d_X_take_26 : decode b_X_take 26 = .ok (.putfield 135, 3) := by decide +kernel
theorem d_X_take_29 : decode b_X_take 29 = .ok (.aload_n 0, 1) := by decide +kernel
theorem d_X_take_30 : decode b_X_take 30 = .ok (.iload_n 1, 1) := by decide +kernel
theorem d_X_take_31 : decode b_X_take 31 = .ok (.sipush 4096, 3) := by decide +kernel
theorem d_X_take_34 : decode b_X_take 34 = .ok (.idiv, 1) := by decide +kernel
theorem d_X_take_35 : decode b_X_take 35 = .ok (.bipush 64, 2) := by decide +kernel
theorem d_X_take_37 : decode b_X_take 37 = .ok (.irem, 1) := by decide +kernel
theorem d_X_take_38 : decode b_X_take 38 = .ok (.putfield 138, 3) := by decide +kernel
theorem d_X_take_41 : decode b_X_take 41 = .ok (.iload_n 1, 1) := by decide +kernel
theorem d_X_take_42 : decode b_X_take 42 = .ok (.ldc 141, 2) := by decide +kernel
theorem d_X_take_44 : decode b_X_take 44 = .ok (.idiv, 1) := by decide +kernel
theorem d_X_take_45 : decode b_X_take 45 = .ok (.istore_n 2, 1) := by decide +kernel
theorem d_X_take_46 : decode b_X_take 46 = .ok (.aload_n 0, 1) := by decide +kernel
theorem d_X_take_47 : decode b_X_take 47 = .ok (.aload_n 0, 1) := by decide +kernel
theorem d_X_take_48 : decode b_X_take 48 = .ok (.getfield 7, 3) := by decide +kernel
theorem d_X_take_51 : decode b_X_take 51 = .ok (.aload_n 0, 1) := by decide +kernel
theorem d_X_take_52 : decode b_X_take 52 = .ok (.getfield 110, 3) := by decide +kernel
theorem d_X_take_55 : decode b_X_take 55 = .ok (.iaload, 1) := by decide +kernel
theorem d_X_take_56 : decode b_X_take 56 = .ok (.iconst 1, 1) := by decide +kernel
theorem d_X_take_57 : decode b_X_take 57 = .ok (.if_icmp .ne 8, 3) := by decide +kernel
theorem d_X_take_60 : decode b_X_take 60 = .ok (.iload_n 2, 1) := by decide +kernel
theorem d_X_take_61 : decode b_X_take 61 = .ok (.ineg, 1) := by decide +kernel
theorem d_X_take_62 : decode b_X_take 62 = .ok (.goto 4, 3) := by decide +kernel
theorem d_X_take_65 : decode b_X_take 65 = .ok (.iload_n 2, 1) := by decide +kernel
theorem d_X_take_66 : decode b_X_take 66 = .ok (.putfield 142, 3) := by decide +kernel
theorem d_X_take_69 : decode b_X_take 69 = .ok (.aload_n 0, 1) := by decide +kernel
theorem d_X_take_70 : decode b_X_take 70 = .ok (.getfield 138, 3) := by decide +kernel
theorem d_X_take_73 : decode b_X_take 73 = .ok (.i2l, 1) := by decide +kernel
theorem d_X_take_74 : decode b_X_take 74 = .ok (.lconst 1, 1) := by decide +kernel
theorem d_X_take_75 : decode b_X_take 75 = .ok (.ldc2_w 145, 3) := by decide +kernel
theorem d_X_take_78 : decode b_X_take 78 = .ok (.invokestatic 96, 3) := by decide +kernel
theorem d_X_take_81 : decode b_X_take 81 = .ok (.ifCond .eq 47, 3) := by decide +kernel
theorem d_X_take_84 : decode b_X_take 84 = .ok (.aload_n 0, 1) := by decide +kernel
theorem d_X_take_85 : decode b_X_take 85 = .ok (.dup, 1) := by decide +kernel
theorem d_X_take_86 : decode b_X_take 86 = .ok (.getfield 142, 3) := by decide +kernel
theorem d_X_take_89 : decode b_X_take 89 = .ok (.aload_n 0, 1) := by decide +kernel
theorem d_X_take_90 : decode b_X_take 90 = .ok (.getfield 16, 3) := by decide +kernel
theorem d_X_take_93 : decode b_X_take 93 = .ok (.aload_n 0, 1) := by decide +kernel
theorem d_X_take_94 : decode b_X_take 94 = .ok (.getfield 138, 3) := by decide +kernel
theorem d_X_take_97 : decode b_X_take 97 = .ok (.iaload, 1) := by decide +kernel
theorem d_X_take_98 : decode b_X_take 98 = .ok (.iconst 1, 1) := by decide +kernel
theorem d_X_take_99 : decode b_X_take 99 = .ok (.if_icmp .ne 16, 3) := by decide +kernel
theorem d_X_take_102 : decode b_X_take 102 = .ok (.aload_n 0, 1) := by decide +kernel
theorem d_X_take_103 : decode b_X_take 103 = .ok (.getfield 19, 3) := by decide +kernel
theorem d_X_take_106 : decode b_X_take 106 = .ok (.aload_n 0, 1) := by decide +kernel
theorem d_X_take_107 : decode b_X_take 107 = .ok (.getfield 138, 3) := by decide +kernel
theorem d_X_take_110 : decode b_X_take 110 = .ok (.iaload, 1) := by decide +kernel
theorem d_X_take_111 : decode b_X_take 111 = .ok (.ineg, 1) := by decide +kernel
theorem d_X_take_112 : decode b_X_take 112 = .ok (.goto 12, 3) := by decide +kernel
theorem d_X_take_115 : decode b_X_take 115 = .ok (.aload_n 0, 1) := by decide +kernel
theorem d_X_take_116 : decode b_X_take 116 = .ok (.getfield 19, 3) := by decide +kernel
theorem d_X_take_119 : decode b_X_take 119 = .ok (.aload_n 0, 1) := by decide +kernel
theorem d_X_take_120 : decode b_X_take 120 = .ok (.getfield 138, 3) := by decide +kernel
theorem d_X_take_123 : decode b_X_take 123 = .ok (.iaload, 1) := by decide +kernel
theorem d_X_take_124 : decode b_X_take 124 = .ok (.iadd, 1) := by decide +kernel
theorem d_X_take_125 : decode b_X_take 125 = .ok (.putfield 142, 3) := by decide +kernel
theorem d_X_take_128 : decode b_X_take 128 = .ok (.aload_n 0, 1) := by decide +kernel
theorem d_X_take_129 : decode b_X_take 129 = .ok (.aload_n 0, 1) := by decide +kernel
theorem d_X_take_130 : decode b_X_take 130 = .ok (.getfield 142, 3) := by decide +kernel
theorem d_X_take_133 : decode b_X_take 133 = .ok (.ifCond .ge 7, 3) := by decide +kernel
theorem d_X_take_136 : decode b_X_take 136 = .ok (.iconst 1, 1) := by decide +kernel
theorem d_X_take_137 : decode b_X_take 137 = .ok (.goto 23, 3) := by decide +kernel
theorem d_X_take_140 : decode b_X_take 140 = .ok (.aload_n 0, 1) := by decide +kernel
theorem d_X_take_141 : decode b_X_take 141 = .ok (.getfield 142, 3) := by decide +kernel
theorem d_X_take_144 : decode b_X_take 144 = .ok (.ifCond .le 7, 3) := by decide +kernel
theorem d_X_take_147 : decode b_X_take 147 = .ok (.iconst 0, 1) := by decide +kernel
theorem d_X_take_148 : decode b_X_take 148 = .ok (.goto 12, 3) := by decide +kernel
theorem d_X_take_151 : decode b_X_take 151 = .ok (.aload_n 0, 1) := by decide +kernel
theorem d_X_take_152 : decode b_X_take 152 = .ok (.getfield 7, 3) := by decide +kernel
theorem d_X_take_155 : decode b_X_take 155 = .ok (.aload_n 0, 1) := by decide +kernel
theorem d_X_take_156 : decode b_X_take 156 = .ok (.getfield 110, 3) := by decide +kernel
theorem d_X_take_159 : decode b_X_take 159 = .ok (.iaload, 1) := by decide +kernel
theorem d_X_take_160 : decode b_X_take 160 = .ok (.putfield 147, 3) := by decide +kernel
theorem d_X_take_163 : decode b_X_take 163 = .ok (.return_, 1) := by decide +kernel
abbrev b_X_isFieldRight : ByteArray := prog_11_method_19_code
abbrev y_X_isFieldRight : MethodName := ⟨"SignMachineModel", "isFieldRight", "()Z"⟩
theorem h_X_isFieldRight : (y_X_isFieldRight).cls ≠ "java/lang/invoke/MethodHandle" ∧ (y_X_isFieldRight).cls ≠ "java/lang/invoke/VarHandle" ∧ (parseMethodDescriptor (y_X_isFieldRight).desc).map (fun d => d.parameters.length) = some 0 := by decide +kernel
theorem d_X_isFieldRight_0 : decode b_X_isFieldRight 0 = .ok (.aload_n 0, 1) := by decide +kernel
theorem d_X_isFieldRight_1 : decode b_X_isFieldRight 1 = .ok (.getfield 132, 3) := by decide +kernel
theorem d_X_isFieldRight_4 : decode b_X_isFieldRight 4 = .ok (.invokestatic 150, 3) := by decide +kernel
theorem d_X_isFieldRight_7 : decode b_X_isFieldRight 7 = .ok (.ifCond .eq 11, 3) := by decide +kernel
theorem d_X_isFieldRight_10 : decode b_X_isFieldRight 10 = .ok (.aload_n 0, 1) := by decide +kernel
theorem d_X_isFieldRight_11 : decode b_X_isFieldRight 11 = .ok (.getfield 135, 3) := by decide +kernel
theorem d_X_isFieldRight_14 : decode b_X_isFieldRight 14 = .ok (.invokestatic 153, 3) := by decide +kernel
theorem d_X_isFieldRight_17 : decode b_X_isFieldRight 17 = .ok (.ireturn, 1) := by decide +kernel
theorem d_X_isFieldRight_18 : decode b_X_isFieldRight 18 = .ok (.aload_n 0, 1) := by decide +kernel
theorem d_X_isFieldRight_19 : decode b_X_isFieldRight 19 = .ok (.getfield 132, 3) := by decide +kernel
theorem d_X_isFieldRight_22 : decode b_X_isFieldRight 22 = .ok (.tableswitch 233 0 39 #[174, 233, 233, 233, 233, 176, 190, 174, 233, 233, 233, 233, 233, 233, 233, 233, 233, 233, 233, 233, 233, 233, 233, 233, 233, 233, 233, 233, 233, 233, 233, 233, 233, 233, 204, 204, 204, 204, 204, 218], 174) := by decide +kernel
theorem d_X_isFieldRight_196 : decode b_X_isFieldRight 196 = .ok (.iconst 1, 1) := by decide +kernel
theorem d_X_isFieldRight_197 : decode b_X_isFieldRight 197 = .ok (.ireturn, 1) := by decide +kernel
theorem d_X_isFieldRight_198 : decode b_X_isFieldRight 198 = .ok (.aload_n 0, 1) := by decide +kernel
theorem d_X_isFieldRight_199 : decode b_X_isFieldRight 199 = .ok (.getfield 135, 3) := by decide +kernel
theorem d_X_isFieldRight_202 : decode b_X_isFieldRight 202 = .ok (.iconst 2, 1) := by decide +kernel
theorem d_X_isFieldRight_203 : decode b_X_isFieldRight 203 = .ok (.if_icmp .gt 7, 3) := by decide +kernel
theorem d_X_isFieldRight_206 : decode b_X_isFieldRight 206 = .ok (.iconst 1, 1) := by decide +kernel
theorem d_X_isFieldRight_207 : decode b_X_isFieldRight 207 = .ok (.goto 4, 3) := by decide +kernel
theorem d_X_isFieldRight_210 : decode b_X_isFieldRight 210 = .ok (.iconst 0, 1) := by decide +kernel
theorem d_X_isFieldRight_211 : decode b_X_isFieldRight 211 = .ok (.ireturn, 1) := by decide +kernel
theorem d_X_isFieldRight_212 : decode b_X_isFieldRight 212 = .ok (.aload_n 0, 1) := by decide +kernel
theorem d_X_isFieldRight_213 : decode b_X_isFieldRight 213 = .ok (.getfield 135, 3) := by decide +kernel
theorem d_X_isFieldRight_216 : decode b_X_isFieldRight 216 = .ok (.iconst 5, 1) := by decide +kernel
theorem d_X_isFieldRight_217 : decode b_X_isFieldRight 217 = .ok (.if_icmp .gt 7, 3) := by decide +kernel
theorem d_X_isFieldRight_220 : decode b_X_isFieldRight 220 = .ok (.iconst 1, 1) := by decide +kernel
theorem d_X_isFieldRight_221 : decode b_X_isFieldRight 221 = .ok (.goto 4, 3) := by decide +kernel
theorem d_X_isFieldRight_224 : decode b_X_isFieldRight 224 = .ok (.iconst 0, 1) := by decide +kernel
theorem d_X_isFieldRight_225 : decode b_X_isFieldRight 225 = .ok (.ireturn, 1) := by decide +kernel
theorem d_X_isFieldRight_226 : decode b_X_isFieldRight 226 = .ok (.aload_n 0, 1) := by decide +kernel
theorem d_X_isFieldRight_227 : decode b_X_isFieldRight 227 = .ok (.getfield 135, 3) := by decide +kernel
theorem d_X_isFieldRight_230 : decode b_X_isFieldRight 230 = .ok (.iconst 1, 1) := by decide +kernel
theorem d_X_isFieldRight_231 : decode b_X_isFieldRight 231 = .ok (.if_icmp .gt 7, 3) := by decide +kernel
theorem d_X_isFieldRight_234 : decode b_X_isFieldRight 234 = .ok (.iconst 1, 1) := by decide +kernel
theorem d_X_isFieldRight_235 : decode b_X_isFieldRight 235 = .ok (.goto 4, 3) := by decide +kernel
theorem d_X_isFieldRight_238 : decode b_X_isFieldRight 238 = .ok (.iconst 0, 1) := by decide +kernel
theorem d_X_isFieldRight_239 : decode b_X_isFieldRight 239 = .ok (.ireturn, 1) := by decide +kernel
theorem d_X_isFieldRight_240 : decode b_X_isFieldRight 240 = .ok (.aload_n 0, 1) := by decide +kernel
theorem d_X_isFieldRight_241 : decode b_X_isFieldRight 241 = .ok (.getfield 135, 3) := by decide +kernel
theorem d_X_isFieldRight_244 : decode b_X_isFieldRight 244 = .ok (.bipush 9, 2) := by decide +kernel
theorem d_X_isFieldRight_246 : decode b_X_isFieldRight 246 = .ok (.if_icmp .gt 7, 3) := by decide +kernel
theorem d_X_isFieldRight_249 : decode b_X_isFieldRight 249 = .ok (.iconst 1, 1) := by decide +kernel
theorem d_X_isFieldRight_250 : decode b_X_isFieldRight 250 = .ok (.goto 4, 3) := by decide +kernel
theorem d_X_isFieldRight_253 : decode b_X_isFieldRight 253 = .ok (.iconst 0, 1) := by decide +kernel
theorem d_X_isFieldRight_254 : decode b_X_isFieldRight 254 = .ok (.ireturn, 1) := by decide +kernel
theorem d_X_isFieldRight_255 : decode b_X_isFieldRight 255 = .ok (.aload_n 0, 1) := by decide +kernel
theorem d_X_isFieldRight_256 : decode b_X_isFieldRight 256 = .ok (.getfield 132, 3) := by decide +kernel
theorem d_X_isFieldRight_259 : decode b_X_isFieldRight 259 = .ok (.bipush 47, 2) := by decide +kernel
theorem d_X_isFieldRight_261 : decode b_X_isFieldRight 261 = .ok (.if_icmp .gt 19, 3) := by decide +kernel
theorem d_X_isFieldRight_264 : decode b_X_isFieldRight 264 = .ok (.aload_n 0, 1) := by decide +kernel
theorem d_X_isFieldRight_265 : decode b_X_isFieldRight 265 = .ok (.getfield 135, 3) := by decide +kernel
theorem d_X_isFieldRight_268 : decode b_X_isFieldRight 268 = .ok (.iconst 5, 1) := by decide +kernel
theorem d_X_isFieldRight_269 : decode b_X_isFieldRight 269 = .ok (.if_icmp .gt 7, 3) := by decide +kernel
theorem d_X_isFieldRight_272 : decode b_X_isFieldRight 272 = .ok (.iconst 1, 1) := by decide +kernel
theorem d_X_isFieldRight_273 : decode b_X_isFieldRight 273 = .ok (.goto 20, 3) := by decide +kernel
theorem d_X_isFieldRight_276 : decode b_X_isFieldRight 276 = .ok (.iconst 0, 1) := by decide +kernel
theorem d_X_isFieldRight_277 : decode b_X_isFieldRight 277 = .ok (.goto 16, 3) := by decide +kernel
theorem d_X_isFieldRight_280 : decode b_X_isFieldRight 280 = .ok (.aload_n 0, 1) := by decide +kernel
theorem d_X_isFieldRight_281 : decode b_X_isFieldRight 281 = .ok (.getfield 135, 3) := by decide +kernel
theorem d_X_isFieldRight_284 : decode b_X_isFieldRight 284 = .ok (.iconst 3, 1) := by decide +kernel
theorem d_X_isFieldRight_285 : decode b_X_isFieldRight 285 = .ok (.if_icmp .gt 7, 3) := by decide +kernel
theorem d_X_isFieldRight_288 : decode b_X_isFieldRight 288 = .ok (.iconst 1, 1) := by decide +kernel
theorem d_X_isFieldRight_289 : decode b_X_isFieldRight 289 = .ok (.goto 4, 3) := by decide +kernel
theorem d_X_isFieldRight_292 : decode b_X_isFieldRight 292 = .ok (.iconst 0, 1) := by decide +kernel
theorem d_X_isFieldRight_293 : decode b_X_isFieldRight 293 = .ok (.ireturn, 1) := by decide +kernel
abbrev b_X_takesWord : ByteArray := prog_11_method_17_code
abbrev y_X_takesWord : MethodName := ⟨"SignMachineModel", "takesWord", "(I)Z"⟩
theorem h_X_takesWord : (y_X_takesWord).cls ≠ "java/lang/invoke/MethodHandle" ∧ (y_X_takesWord).cls ≠ "java/lang/invoke/VarHandle" ∧ (parseMethodDescriptor (y_X_takesWord).desc).map (fun d => d.parameters.length) = some 1 := by decide +kernel
theorem d_X_takesWord_0 : decode b_X_takesWord 0 = .ok (.iload_n 0, 1) := by decide +kernel
theorem d_X_takesWord_1 : decode b_X_takesWord 1 = .ok (.iconst 1, 1) := by decide +kernel
theorem d_X_takesWord_2 : decode b_X_takesWord 2 = .ok (.if_icmp .lt 8, 3) := by decide +kernel
theorem d_X_takesWord_5 : decode b_X_takesWord 5 = .ok (.iload_n 0, 1) := by decide +kernel
theorem d_X_takesWord_6 : decode b_X_takesWord 6 = .ok (.iconst 4, 1) := by decide +kernel
theorem d_X_takesWord_7 : decode b_X_takesWord 7 = .ok (.if_icmp .le 21, 3) := by decide +kernel
theorem d_X_takesWord_10 : decode b_X_takesWord 10 = .ok (.iload_n 0, 1) := by decide +kernel
theorem d_X_takesWord_11 : decode b_X_takesWord 11 = .ok (.bipush 8, 2) := by decide +kernel
theorem d_X_takesWord_13 : decode b_X_takesWord 13 = .ok (.if_icmp .lt 9, 3) := by decide +kernel
theorem d_X_takesWord_16 : decode b_X_takesWord 16 = .ok (.iload_n 0, 1) := by decide +kernel
theorem d_X_takesWord_17 : decode b_X_takesWord 17 = .ok (.bipush 33, 2) := by decide +kernel
theorem d_X_takesWord_19 : decode b_X_takesWord 19 = .ok (.if_icmp .le 9, 3) := by decide +kernel
theorem d_X_takesWord_22 : decode b_X_takesWord 22 = .ok (.iload_n 0, 1) := by decide +kernel
theorem d_X_takesWord_23 : decode b_X_takesWord 23 = .ok (.bipush 56, 2) := by decide +kernel
theorem d_X_takesWord_25 : decode b_X_takesWord 25 = .ok (.if_icmp .lt 7, 3) := by decide +kernel
theorem d_X_takesWord_28 : decode b_X_takesWord 28 = .ok (.iconst 1, 1) := by decide +kernel
theorem d_X_takesWord_29 : decode b_X_takesWord 29 = .ok (.goto 4, 3) := by decide +kernel
theorem d_X_takesWord_32 : decode b_X_takesWord 32 = .ok (.iconst 0, 1) := by decide +kernel
theorem d_X_takesWord_33 : decode b_X_takesWord 33 = .ok (.ireturn, 1) := by decide +kernel
abbrev b_X_areAddresses : ByteArray := prog_11_method_22_code
abbrev y_X_areAddresses : MethodName := ⟨"SignMachineModel", "areAddresses", "()Z"⟩
theorem h_X_areAddresses : (y_X_areAddresses).cls ≠ "java/lang/invoke/MethodHandle" ∧ (y_X_areAddresses).cls ≠ "java/lang/invoke/VarHandle" ∧ (parseMethodDescriptor (y_X_areAddresses).desc).map (fun d => d.parameters.length) = some 0 := by decide +kernel
theorem d_X_areAddresses_0 : decode b_X_areAddresses 0 = .ok (.aload_n 0, 1) := by decide +kernel
theorem d_X_areAddresses_1 : decode b_X_areAddresses 1 = .ok (.getfield 132, 3) := by decide +kernel
theorem d_X_areAddresses_4 : decode b_X_areAddresses 4 = .ok (.invokestatic 150, 3) := by decide +kernel
theorem d_X_areAddresses_7 : decode b_X_areAddresses 7 = .ok (.ifCond .ne 30, 3) := by decide +kernel
theorem d_X_areAddresses_10 : decode b_X_areAddresses 10 = .ok (.aload_n 0, 1) := by decide +kernel
theorem d_X_areAddresses_11 : decode b_X_areAddresses 11 = .ok (.getfield 132, 3) := by decide +kernel
theorem d_X_areAddresses_14 : decode b_X_areAddresses 14 = .ok (.bipush 34, 2) := by decide +kernel
theorem d_X_areAddresses_16 : decode b_X_areAddresses 16 = .ok (.if_icmp .eq 21, 3) := by decide +kernel
theorem d_X_areAddresses_19 : decode b_X_areAddresses 19 = .ok (.aload_n 0, 1) := by decide +kernel
theorem d_X_areAddresses_20 : decode b_X_areAddresses 20 = .ok (.getfield 132, 3) := by decide +kernel
theorem d_X_areAddresses_23 : decode b_X_areAddresses 23 = .ok (.bipush 38, 2) := by decide +kernel
theorem d_X_areAddresses_25 : decode b_X_areAddresses 25 = .ok (.if_icmp .lt 21, 3) := by decide +kernel
theorem d_X_areAddresses_28 : decode b_X_areAddresses 28 = .ok (.aload_n 0, 1) := by decide +kernel
theorem d_X_areAddresses_29 : decode b_X_areAddresses 29 = .ok (.getfield 132, 3) := by decide +kernel
theorem d_X_areAddresses_32 : decode b_X_areAddresses 32 = .ok (.bipush 47, 2) := by decide +kernel
theorem d_X_areAddresses_34 : decode b_X_areAddresses 34 = .ok (.if_icmp .gt 12, 3) := by decide +kernel
theorem d_X_areAddresses_37 : decode b_X_areAddresses 37 = .ok (.aload_n 0, 1) := by decide +kernel
theorem d_X_areAddresses_38 : decode b_X_areAddresses 38 = .ok (.getfield 142, 3) := by decide +kernel
theorem d_X_areAddresses_41 : decode b_X_areAddresses 41 = .ok (.i2l, 1) := by decide +kernel
theorem d_X_areAddresses_42 : decode b_X_areAddresses 42 = .ok (.invokestatic 158, 3) := by decide +kernel
theorem d_X_areAddresses_45 : decode b_X_areAddresses 45 = .ok (.ireturn, 1) := by decide +kernel
theorem d_X_areAddresses_46 : decode b_X_areAddresses 46 = .ok (.aload_n 0, 1) := by decide +kernel
theorem d_X_areAddresses_47 : decode b_X_areAddresses 47 = .ok (.getfield 132, 3) := by decide +kernel
theorem d_X_areAddresses_50 : decode b_X_areAddresses 50 = .ok (.bipush 6, 2) := by decide +kernel
theorem d_X_areAddresses_52 : decode b_X_areAddresses 52 = .ok (.if_icmp .ne 16, 3) := by decide +kernel
theorem d_X_areAddresses_55 : decode b_X_areAddresses 55 = .ok (.aload_n 0, 1) := by decide +kernel
theorem d_X_areAddresses_56 : decode b_X_areAddresses 56 = .ok (.getfield 142, 3) := by decide +kernel
theorem d_X_areAddresses_59 : decode b_X_areAddresses 59 = .ok (.ifCond .lt 7, 3) := by decide +kernel
theorem d_X_areAddresses_62 : decode b_X_areAddresses 62 = .ok (.iconst 1, 1) := by decide +kernel
theorem d_X_areAddresses_63 : decode b_X_areAddresses 63 = .ok (.goto 4, 3) := by decide +kernel
theorem d_X_areAddresses_66 : decode b_X_areAddresses 66 = .ok (.iconst 0, 1) := by decide +kernel
theorem d_X_areAddresses_67 : decode b_X_areAddresses 67 = .ok (.ireturn, 1) := by decide +kernel
theorem d_X_areAddresses_68 : decode b_X_areAddresses 68 = .ok (.aload_n 0, 1) := by decide +kernel
theorem d_X_areAddresses_69 : decode b_X_areAddresses 69 = .ok (.getfield 132, 3) := by decide +kernel
theorem d_X_areAddresses_72 : decode b_X_areAddresses 72 = .ok (.bipush 7, 2) := by decide +kernel
theorem d_X_areAddresses_74 : decode b_X_areAddresses 74 = .ok (.if_icmp .ne 74, 3) := by decide +kernel
theorem d_X_areAddresses_77 : decode b_X_areAddresses 77 = .ok (.aload_n 0, 1) := by decide +kernel
theorem d_X_areAddresses_78 : decode b_X_areAddresses 78 = .ok (.getfield 135, 3) := by decide +kernel
theorem d_X_areAddresses_81 : decode b_X_areAddresses 81 = .ok (.ifCond .le 67, 3) := by decide +kernel
theorem d_X_areAddresses_84 : decode b_X_areAddresses 84 = .ok (.aload_n 0, 1) := by decide +kernel
theorem d_X_areAddresses_85 : decode b_X_areAddresses 85 = .ok (.iconst 1, 1) := by decide +kernel
theorem d_X_areAddresses_86 : decode b_X_areAddresses 86 = .ok (.invokevirtual 162, 3) := by decide +kernel
theorem d_X_areAddresses_89 : decode b_X_areAddresses 89 = .ok (.istore_n 1, 1) := by decide +kernel
theorem d_X_areAddresses_90 : decode b_X_areAddresses 90 = .ok (.aload_n 0, 1) := by decide +kernel
theorem d_X_areAddresses_91 : decode b_X_areAddresses 91 = .ok (.getfield 142, 3) := by decide +kernel
theorem d_X_areAddresses_94 : decode b_X_areAddresses 94 = .ok (.i2l, 1) := by decide +kernel
theorem d_X_areAddresses_95 : decode b_X_areAddresses 95 = .ok (.invokestatic 158, 3) := by decide +kernel
theorem d_X_areAddresses_98 : decode b_X_areAddresses 98 = .ok (.ifCond .eq 48, 3) := by decide +kernel
theorem d_X_areAddresses_101 : decode b_X_areAddresses 101 = .ok (.aload_n 0, 1) := by decide +kernel
theorem d_X_areAddresses_102 : decode b_X_areAddresses 102 = .ok (.getfield 142, 3) := by decide +kernel
theorem d_X_areAddresses_105 : decode b_X_areAddresses 105 = .ok (.aload_n 0, 1) := by decide +kernel
theorem d_X_areAddresses_106 : decode b_X_areAddresses 106 = .ok (.getfield 135, 3) := by decide +kernel
theorem d_X_areAddresses_109 : decode b_X_areAddresses 109 = .ok (.iadd, 1) := by decide +kernel
theorem d_X_areAddresses_110 : decode b_X_areAddresses 110 = .ok (.i2l, 1) := by decide +kernel
theorem d_X_areAddresses_111 : decode b_X_areAddresses 111 = .ok (.lconst 1, 1) := by decide +kernel
theorem d_X_areAddresses_112 : decode b_X_areAddresses 112 = .ok (.lsub, 1) := by decide +kernel
theorem d_X_areAddresses_113 : decode b_X_areAddresses 113 = .ok (.invokestatic 158, 3) := by decide +kernel
theorem d_X_areAddresses_116 : decode b_X_areAddresses 116 = .ok (.ifCond .eq 30, 3) := by decide +kernel
theorem d_X_areAddresses_119 : decode b_X_areAddresses 119 = .ok (.iload_n 1, 1) := by decide +kernel
theorem d_X_areAddresses_120 : decode b_X_areAddresses 120 = .ok (.i2l, 1) := by decide +kernel
theorem d_X_areAddresses_121 : decode b_X_areAddresses 121 = .ok (.invokestatic 158, 3) := by decide +kernel
theorem d_X_areAddresses_124 : decode b_X_areAddresses 124 = .ok (.ifCond .eq 22, 3) := by decide +kernel
theorem d_X_areAddresses_127 : decode b_X_areAddresses 127 = .ok (.iload_n 1, 1) := by decide +kernel
theorem d_X_areAddresses_128 : decode b_X_areAddresses 128 = .ok (.aload_n 0, 1) := by decide +kernel
theorem d_X_areAddresses_129 : decode b_X_areAddresses 129 = .ok (.getfield 135, 3) := by decide +kernel
theorem d_X_areAddresses_132 : decode b_X_areAddresses 132 = .ok (.iadd, 1) := by decide +kernel
theorem d_X_areAddresses_133 : decode b_X_areAddresses 133 = .ok (.i2l, 1) := by decide +kernel
theorem d_X_areAddresses_134 : decode b_X_areAddresses 134 = .ok (.lconst 1, 1) := by decide +kernel
theorem d_X_areAddresses_135 : decode b_X_areAddresses 135 = .ok (.lsub, 1) := by decide +kernel
theorem d_X_areAddresses_136 : decode b_X_areAddresses 136 = .ok (.invokestatic 158, 3) := by decide +kernel
theorem d_X_areAddresses_139 : decode b_X_areAddresses 139 = .ok (.ifCond .eq 7, 3) := by decide +kernel
theorem d_X_areAddresses_142 : decode b_X_areAddresses 142 = .ok (.iconst 1, 1) := by decide +kernel
theorem d_X_areAddresses_143 : decode b_X_areAddresses 143 = .ok (.goto 4, 3) := by decide +kernel
theorem d_X_areAddresses_146 : decode b_X_areAddresses 146 = .ok (.iconst 0, 1) := by decide +kernel
theorem d_X_areAddresses_147 : decode b_X_areAddresses 147 = .ok (.ireturn, 1) := by decide +kernel
theorem d_X_areAddresses_148 : decode b_X_areAddresses 148 = .ok (.aload_n 0, 1) := by decide +kernel
theorem d_X_areAddresses_149 : decode b_X_areAddresses 149 = .ok (.getfield 132, 3) := by decide +kernel
theorem d_X_areAddresses_152 : decode b_X_areAddresses 152 = .ok (.bipush 36, 2) := by decide +kernel
theorem d_X_areAddresses_154 : decode b_X_areAddresses 154 = .ok (.if_icmp .eq 12, 3) := by decide +kernel
theorem d_X_areAddresses_157 : decode b_X_areAddresses 157 = .ok (.aload_n 0, 1) := by decide +kernel
theorem d_X_areAddresses_158 : decode b_X_areAddresses 158 = .ok (.getfield 132, 3) := by decide +kernel
theorem d_X_areAddresses_161 : decode b_X_areAddresses 161 = .ok (.bipush 37, 2) := by decide +kernel
theorem d_X_areAddresses_163 : decode b_X_areAddresses 163 = .ok (.if_icmp .ne 29, 3) := by decide +kernel
theorem d_X_areAddresses_166 : decode b_X_areAddresses 166 = .ok (.aload_n 0, 1) := by decide +kernel
theorem d_X_areAddresses_167 : decode b_X_areAddresses 167 = .ok (.getfield 142, 3) := by decide +kernel
theorem d_X_areAddresses_170 : decode b_X_areAddresses 170 = .ok (.i2l, 1) := by decide +kernel
theorem d_X_areAddresses_171 : decode b_X_areAddresses 171 = .ok (.invokestatic 158, 3) := by decide +kernel
theorem d_X_areAddresses_174 : decode b_X_areAddresses 174 = .ok (.ifCond .eq 22, 3) := by decide +kernel
theorem d_X_areAddresses_177 : decode b_X_areAddresses 177 = .ok (.aload_n 0, 1) := by decide +kernel
theorem d_X_areAddresses_178 : decode b_X_areAddresses 178 = .ok (.getfield 142, 3) := by decide +kernel
theorem d_X_areAddresses_181 : decode b_X_areAddresses 181 = .ok (.i2l, 1) := by decide +kernel
theorem d_X_areAddresses_182 : decode b_X_areAddresses 182 = .ok (.ldc2_w 124, 3) := by decide +kernel
theorem d_X_areAddresses_185 : decode b_X_areAddresses 185 = .ok (.ladd, 1) := by decide +kernel
theorem d_X_areAddresses_186 : decode b_X_areAddresses 186 = .ok (.invokestatic 158, 3) := by decide +kernel
theorem d_X_areAddresses_189 : decode b_X_areAddresses 189 = .ok (.ifCond .eq 7, 3) := by decide +kernel
theorem d_X_areAddresses_192 : decode b_X_areAddresses 192 = .ok (.iconst 1, 1) := by decide +kernel
theorem d_X_areAddresses_193 : decode b_X_areAddresses 193 = .ok (.goto 4, 3) := by decide +kernel
theorem d_X_areAddresses_196 : decode b_X_areAddresses 196 = .ok (.iconst 0, 1) := by decide +kernel
theorem d_X_areAddresses_197 : decode b_X_areAddresses 197 = .ok (.ireturn, 1) := by decide +kernel
abbrev b_X_fitsIndex : ByteArray := prog_11_method_24_code
abbrev y_X_fitsIndex : MethodName := ⟨"SignMachineModel", "fitsIndex", "()Z"⟩
theorem h_X_fitsIndex : (y_X_fitsIndex).cls ≠ "java/lang/invoke/MethodHandle" ∧ (y_X_fitsIndex).cls ≠ "java/lang/invoke/VarHandle" ∧ (parseMethodDescriptor (y_X_fitsIndex).desc).map (fun d => d.parameters.length) = some 0 := by decide +kernel
theorem d_X_fitsIndex_0 : decode b_X_fitsIndex 0 = .ok (.aload_n 0, 1) := by decide +kernel
theorem d_X_fitsIndex_1 : decode b_X_fitsIndex 1 = .ok (.getfield 132, 3) := by decide +kernel
theorem d_X_fitsIndex_4 : decode b_X_fitsIndex 4 = .ok (.bipush 8, 2) := by decide +kernel
theorem d_X_fitsIndex_6 : decode b_X_fitsIndex 6 = .ok (.if_icmp .lt 45, 3) := by decide +kernel
theorem d_X_fitsIndex_9 : decode b_X_fitsIndex 9 = .ok (.aload_n 0, 1) := by decide +kernel
theorem d_X_fitsIndex_10 : decode b_X_fitsIndex 10 = .ok (.getfield 132, 3) := by decide +kernel
theorem d_X_fitsIndex_13 : decode b_X_fitsIndex 13 = .ok (.bipush 23, 2) := by decide +kernel
theorem d_X_fitsIndex_15 : decode b_X_fitsIndex 15 = .ok (.if_icmp .gt 36, 3) := by decide +kernel
theorem d_X_fitsIndex_18 : decode b_X_fitsIndex 18 = .ok (.aload_n 0, 1) := by decide +kernel
theorem d_X_fitsIndex_19 : decode b_X_fitsIndex 19 = .ok (.invokevirtual 175, 3) := by decide +kernel
theorem d_X_fitsIndex_22 : decode b_X_fitsIndex 22 = .ok (.aload_n 0, 1) := by decide +kernel
theorem d_X_fitsIndex_23 : decode b_X_fitsIndex 23 = .ok (.getfield 132, 3) := by decide +kernel
theorem d_X_fitsIndex_26 : decode b_X_fitsIndex 26 = .ok (.bipush 8, 2) := by decide +kernel
theorem d_X_fitsIndex_28 : decode b_X_fitsIndex 28 = .ok (.irem, 1) := by decide +kernel
theorem d_X_fitsIndex_29 : decode b_X_fitsIndex 29 = .ok (.invokestatic 104, 3) := by decide +kernel
theorem d_X_fitsIndex_32 : decode b_X_fitsIndex 32 = .ok (.ifCond .eq 13, 3) := by decide +kernel
theorem d_X_fitsIndex_35 : decode b_X_fitsIndex 35 = .ok (.aload_n 0, 1) := by decide +kernel
theorem d_X_fitsIndex_36 : decode b_X_fitsIndex 36 = .ok (.getfield 172, 3) := by decide +kernel
theorem d_X_fitsIndex_39 : decode b_X_fitsIndex 39 = .ok (.sipush 4095, 3) := by decide +kernel
theorem d_X_fitsIndex_42 : decode b_X_fitsIndex 42 = .ok (.if_icmp .gt 7, 3) := by decide +kernel
theorem d_X_fitsIndex_45 : decode b_X_fitsIndex 45 = .ok (.iconst 1, 1) := by decide +kernel
theorem d_X_fitsIndex_46 : decode b_X_fitsIndex 46 = .ok (.goto 4, 3) := by decide +kernel
theorem d_X_fitsIndex_49 : decode b_X_fitsIndex 49 = .ok (.iconst 0, 1) := by decide +kernel
theorem d_X_fitsIndex_50 : decode b_X_fitsIndex 50 = .ok (.ireturn, 1) := by decide +kernel
theorem d_X_fitsIndex_51 : decode b_X_fitsIndex 51 = .ok (.aload_n 0, 1) := by decide +kernel
theorem d_X_fitsIndex_52 : decode b_X_fitsIndex 52 = .ok (.getfield 132, 3) := by decide +kernel
theorem d_X_fitsIndex_55 : decode b_X_fitsIndex 55 = .ok (.bipush 48, 2) := by decide +kernel
theorem d_X_fitsIndex_57 : decode b_X_fitsIndex 57 = .ok (.if_icmp .lt 87, 3) := by decide +kernel
theorem d_X_fitsIndex_60 : decode b_X_fitsIndex 60 = .ok (.aload_n 0, 1) := by decide +kernel
theorem d_X_fitsIndex_61 : decode b_X_fitsIndex 61 = .ok (.getfield 132, 3) := by decide +kernel
theorem d_X_fitsIndex_64 : decode b_X_fitsIndex 64 = .ok (.bipush 55, 2) := by decide +kernel
theorem d_X_fitsIndex_66 : decode b_X_fitsIndex 66 = .ok (.if_icmp .gt 78, 3) := by decide +kernel
theorem d_X_fitsIndex_69 : decode b_X_fitsIndex 69 = .ok (.aload_n 0, 1) := by decide +kernel
theorem d_X_fitsIndex_70 : decode b_X_fitsIndex 70 = .ok (.getfield 132, 3) := by decide +kernel
theorem d_X_fitsIndex_73 : decode b_X_fitsIndex 73 = .ok (.bipush 48, 2) := by decide +kernel
theorem d_X_fitsIndex_75 : decode b_X_fitsIndex 75 = .ok (.isub, 1) := by decide +kernel
theorem d_X_fitsIndex_76 : decode b_X_fitsIndex 76 = .ok (.invokestatic 104, 3) := by decide +kernel
theorem d_X_fitsIndex_79 : decode b_X_fitsIndex 79 = .ok (.ifCond .eq 65, 3) := by decide +kernel
theorem d_X_fitsIndex_82 : decode b_X_fitsIndex 82 = .ok (.aload_n 0, 1) := by decide +kernel
theorem d_X_fitsIndex_83 : decode b_X_fitsIndex 83 = .ok (.aload_n 0, 1) := by decide +kernel
theorem d_X_fitsIndex_84 : decode b_X_fitsIndex 84 = .ok (.getfield 132, 3) := by decide +kernel
theorem d_X_fitsIndex_87 : decode b_X_fitsIndex 87 = .ok (.bipush 48, 2) := by decide +kernel
theorem d_X_fitsIndex_89 : decode b_X_fitsIndex 89 = .ok (.isub, 1) := by decide +kernel
theorem d_X_fitsIndex_90 : decode b_X_fitsIndex 90 = .ok (.invokevirtual 162, 3) := by decide +kernel
theorem d_X_fitsIndex_93 : decode b_X_fitsIndex 93 = .ok (.istore_n 1, 1) := by decide +kernel
theorem d_X_fitsIndex_94 : decode b_X_fitsIndex 94 = .ok (.aload_n 0, 1) := by decide +kernel
theorem d_X_fitsIndex_95 : decode b_X_fitsIndex 95 = .ok (.getfield 135, 3) := by decide +kernel
theorem d_X_fitsIndex_98 : decode b_X_fitsIndex 98 = .ok (.ifCond .ne 12, 3) := by decide +kernel
theorem d_X_fitsIndex_101 : decode b_X_fitsIndex 101 = .ok (.iload_n 1, 1) := by decide +kernel
theorem d_X_fitsIndex_102 : decode b_X_fitsIndex 102 = .ok (.aload_n 0, 1) := by decide +kernel
theorem d_X_fitsIndex_103 : decode b_X_fitsIndex 103 = .ok (.getfield 142, 3) := by decide +kernel
theorem d_X_fitsIndex_106 : decode b_X_fitsIndex 106 = .ok (.iadd, 1) := by decide +kernel
theorem d_X_fitsIndex_107 : decode b_X_fitsIndex 107 = .ok (.goto 24, 3) := by decide +kernel
theorem d_X_fitsIndex_110 : decode b_X_fitsIndex 110 = .ok (.aload_n 0, 1) := by decide +kernel
theorem d_X_fitsIndex_111 : decode b_X_fitsIndex 111 = .ok (.getfield 135, 3) := by decide +kernel
theorem d_X_fitsIndex_114 : decode b_X_fitsIndex 114 = .ok (.iconst 1, 1) := by decide +kernel
theorem d_X_fitsIndex_115 : decode b_X_fitsIndex 115 = .ok (.if_icmp .ne 12, 3) := by decide +kernel
theorem d_X_fitsIndex_118 : decode b_X_fitsIndex 118 = .ok (.iload_n 1, 1) := by decide +kernel
theorem d_X_fitsIndex_119 : decode b_X_fitsIndex 119 = .ok (.aload_n 0, 1) := by decide +kernel
theorem d_X_fitsIndex_120 : decode b_X_fitsIndex 120 = .ok (.getfield 142, 3) := by decide +kernel
theorem d_X_fitsIndex_123 : decode b_X_fitsIndex 123 = .ok (.isub, 1) := by decide +kernel
theorem d_X_fitsIndex_124 : decode b_X_fitsIndex 124 = .ok (.goto 7, 3) := by decide +kernel
theorem d_X_fitsIndex_127 : decode b_X_fitsIndex 127 = .ok (.aload_n 0, 1) := by decide +kernel
theorem d_X_fitsIndex_128 : decode b_X_fitsIndex 128 = .ok (.getfield 142, 3) := by decide +kernel
theorem d_X_fitsIndex_131 : decode b_X_fitsIndex 131 = .ok (.istore_n 2, 1) := by decide +kernel
theorem d_X_fitsIndex_132 : decode b_X_fitsIndex 132 = .ok (.iload_n 2, 1) := by decide +kernel
theorem d_X_fitsIndex_133 : decode b_X_fitsIndex 133 = .ok (.i2l, 1) := by decide +kernel
theorem d_X_fitsIndex_134 : decode b_X_fitsIndex 134 = .ok (.ldc2_w 178, 3) := by decide +kernel
theorem d_X_fitsIndex_137 : decode b_X_fitsIndex 137 = .ok (.ldc2_w 108, 3) := by decide +kernel
theorem d_X_fitsIndex_140 : decode b_X_fitsIndex 140 = .ok (.invokestatic 96, 3) := by decide +kernel
theorem d_X_fitsIndex_143 : decode b_X_fitsIndex 143 = .ok (.ireturn, 1) := by decide +kernel
theorem d_X_fitsIndex_144 : decode b_X_fitsIndex 144 = .ok (.aload_n 0, 1) := by decide +kernel
theorem d_X_fitsIndex_145 : decode b_X_fitsIndex 145 = .ok (.getfield 132, 3) := by decide +kernel
theorem d_X_fitsIndex_148 : decode b_X_fitsIndex 148 = .ok (.bipush 7, 2) := by decide +kernel
theorem d_X_fitsIndex_150 : decode b_X_fitsIndex 150 = .ok (.if_icmp .ne 19, 3) := by decide +kernel
theorem d_X_fitsIndex_153 : decode b_X_fitsIndex 153 = .ok (.aload_n 0, 1) := by decide +kernel
theorem d_X_fitsIndex_154 : decode b_X_fitsIndex 154 = .ok (.iconst 1, 1) := by decide +kernel
theorem d_X_fitsIndex_155 : decode b_X_fitsIndex 155 = .ok (.invokevirtual 162, 3) := by decide +kernel
theorem d_X_fitsIndex_158 : decode b_X_fitsIndex 158 = .ok (.aload_n 0, 1) := by decide +kernel
theorem d_X_fitsIndex_159 : decode b_X_fitsIndex 159 = .ok (.getfield 135, 3) := by decide +kernel
theorem d_X_fitsIndex_162 : decode b_X_fitsIndex 162 = .ok (.iadd, 1) := by decide +kernel
theorem d_X_fitsIndex_163 : decode b_X_fitsIndex 163 = .ok (.sipush 4095, 3) := by decide +kernel
theorem d_X_fitsIndex_166 : decode b_X_fitsIndex 166 = .ok (.if_icmp .gt 7, 3) := by decide +kernel
theorem d_X_fitsIndex_169 : decode b_X_fitsIndex 169 = .ok (.iconst 1, 1) := by decide +kernel
theorem d_X_fitsIndex_170 : decode b_X_fitsIndex 170 = .ok (.goto 4, 3) := by decide +kernel
theorem d_X_fitsIndex_173 : decode b_X_fitsIndex 173 = .ok (.iconst 0, 1) := by decide +kernel
theorem d_X_fitsIndex_174 : decode b_X_fitsIndex 174 = .ok (.ireturn, 1) := by decide +kernel
abbrev b_X_isBlock : ByteArray := prog_11_method_25_code
abbrev y_X_isBlock : MethodName := ⟨"SignMachineModel", "isBlock", "()Z"⟩
theorem h_X_isBlock : (y_X_isBlock).cls ≠ "java/lang/invoke/MethodHandle" ∧ (y_X_isBlock).cls ≠ "java/lang/invoke/VarHandle" ∧ (parseMethodDescriptor (y_X_isBlock).desc).map (fun d => d.parameters.length) = some 0 := by decide +kernel
theorem d_X_isBlock_0 : decode b_X_isBlock 0 = .ok (.aload_n 0, 1) := by decide +kernel
theorem d_X_isBlock_1 : decode b_X_isBlock 1 = .ok (.getfield 132, 3) := by decide +kernel
theorem d_X_isBlock_4 : decode b_X_isBlock 4 = .ok (.bipush 35, 2) := by decide +kernel
theorem d_X_isBlock_6 : decode b_X_isBlock 6 = .ok (.if_icmp .ne 41, 3) := by decide +kernel
theorem d_X_isBlock_9 : decode b_X_isBlock 9 = .ok (.aload_n 0, 1) := by decide +kernel
theorem d_X_isBlock_10 : decode b_X_isBlock 10 = .ok (.getfield 142, 3) := by decide +kernel
theorem d_X_isBlock_13 : decode b_X_isBlock 13 = .ok (.ifCond .eq 28, 3) := by decide +kernel
theorem d_X_isBlock_16 : decode b_X_isBlock 16 = .ok (.aload_n 0, 1) := by decide +kernel
theorem d_X_isBlock_17 : decode b_X_isBlock 17 = .ok (.getfield 28, 3) := by decide +kernel
theorem d_X_isBlock_20 : decode b_X_isBlock 20 = .ok (.aload_n 0, 1) := by decide +kernel
theorem d_X_isBlock_21 : decode b_X_isBlock 21 = .ok (.getfield 135, 3) := by decide +kernel
theorem d_X_isBlock_24 : decode b_X_isBlock 24 = .ok (.iaload, 1) := by decide +kernel
theorem d_X_isBlock_25 : decode b_X_isBlock 25 = .ok (.aload_n 0, 1) := by decide +kernel
theorem d_X_isBlock_26 : decode b_X_isBlock 26 = .ok (.getfield 142, 3) := by decide +kernel
theorem d_X_isBlock_29 : decode b_X_isBlock 29 = .ok (.iadd, 1) := by decide +kernel
theorem d_X_isBlock_30 : decode b_X_isBlock 30 = .ok (.i2l, 1) := by decide +kernel
theorem d_X_isBlock_31 : decode b_X_isBlock 31 = .ok (.lconst 0, 1) := by decide +kernel
theorem d_X_isBlock_32 : decode b_X_isBlock 32 = .ok (.ldc2_w 180, 3) := by decide +kernel
theorem d_X_isBlock_35 : decode b_X_isBlock 35 = .ok (.invokestatic 96, 3) := by decide +kernel
theorem d_X_isBlock_38 : decode b_X_isBlock 38 = .ok (.ifCond .eq 7, 3) := by decide +kernel
theorem d_X_isBlock_41 : decode b_X_isBlock 41 = .ok (.iconst 1, 1) := by decide +kernel
theorem d_X_isBlock_42 : decode b_X_isBlock 42 = .ok (.goto 4, 3) := by decide +kernel
theorem d_X_isBlock_45 : decode b_X_isBlock 45 = .ok (.iconst 0, 1) := by decide +kernel
theorem d_X_isBlock_46 : decode b_X_isBlock 46 = .ok (.ireturn, 1) := by decide +kernel
theorem d_X_isBlock_47 : decode b_X_isBlock 47 = .ok (.aload_n 0, 1) := by decide +kernel
theorem d_X_isBlock_48 : decode b_X_isBlock 48 = .ok (.getfield 132, 3) := by decide +kernel
theorem d_X_isBlock_51 : decode b_X_isBlock 51 = .ok (.bipush 36, 2) := by decide +kernel
theorem d_X_isBlock_53 : decode b_X_isBlock 53 = .ok (.if_icmp .eq 12, 3) := by decide +kernel
theorem d_X_isBlock_56 : decode b_X_isBlock 56 = .ok (.aload_n 0, 1) := by decide +kernel
theorem d_X_isBlock_57 : decode b_X_isBlock 57 = .ok (.getfield 132, 3) := by decide +kernel
theorem d_X_isBlock_60 : decode b_X_isBlock 60 = .ok (.bipush 37, 2) := by decide +kernel
theorem d_X_isBlock_62 : decode b_X_isBlock 62 = .ok (.if_icmp .ne 17, 3) := by decide +kernel
theorem d_X_isBlock_65 : decode b_X_isBlock 65 = .ok (.aload_n 0, 1) := by decide +kernel
theorem d_X_isBlock_66 : decode b_X_isBlock 66 = .ok (.getfield 28, 3) := by decide +kernel
theorem d_X_isBlock_69 : decode b_X_isBlock 69 = .ok (.aload_n 0, 1) := by decide +kernel
theorem d_X_isBlock_70 : decode b_X_isBlock 70 = .ok (.getfield 135, 3) := by decide +kernel
theorem d_X_isBlock_73 : decode b_X_isBlock 73 = .ok (.iaload, 1) := by decide +kernel
theorem d_X_isBlock_74 : decode b_X_isBlock 74 = .ok (.bipush 40, 2) := by decide +kernel
theorem d_X_isBlock_76 : decode b_X_isBlock 76 = .ok (.if_icmp .ge 7, 3) := by decide +kernel
theorem d_X_isBlock_79 : decode b_X_isBlock 79 = .ok (.iconst 1, 1) := by decide +kernel
theorem d_X_isBlock_80 : decode b_X_isBlock 80 = .ok (.goto 4, 3) := by decide +kernel
theorem d_X_isBlock_83 : decode b_X_isBlock 83 = .ok (.iconst 0, 1) := by decide +kernel
theorem d_X_isBlock_84 : decode b_X_isBlock 84 = .ok (.ireturn, 1) := by decide +kernel
abbrev b_X_done : ByteArray := prog_11_method_44_code
abbrev y_X_done : MethodName := ⟨"SignMachineModel", "done", "()Z"⟩
theorem h_X_done : (y_X_done).cls ≠ "java/lang/invoke/MethodHandle" ∧ (y_X_done).cls ≠ "java/lang/invoke/VarHandle" ∧ (parseMethodDescriptor (y_X_done).desc).map (fun d => d.parameters.length) = some 0 := by decide +kernel
theorem d_X_done_0 : decode b_X_done 0 = .ok (.aload_n 0, 1) := by decide +kernel
theorem d_X_done_1 : decode b_X_done 1 = .ok (.getfield 132, 3) := by decide +kernel
theorem d_X_done_4 : decode b_X_done 4 = .ok (.bipush 39, 2) := by decide +kernel
theorem d_X_done_6 : decode b_X_done 6 = .ok (.if_icmp .lt 51, 3) := by decide +kernel
theorem d_X_done_9 : decode b_X_done 9 = .ok (.aload_n 0, 1) := by decide +kernel
theorem d_X_done_10 : decode b_X_done 10 = .ok (.getfield 132, 3) := by decide +kernel
theorem d_X_done_13 : decode b_X_done 13 = .ok (.bipush 47, 2) := by decide +kernel
theorem d_X_done_15 : decode b_X_done 15 = .ok (.if_icmp .gt 42, 3) := by decide +kernel
theorem d_X_done_18 : decode b_X_done 18 = .ok (.aload_n 0, 1) := by decide +kernel
theorem d_X_done_19 : decode b_X_done 19 = .ok (.iconst 1, 1) := by decide +kernel
theorem d_X_done_20 : decode b_X_done 20 = .ok (.invokevirtual 218, 3) := by decide +kernel
theorem d_X_done_23 : decode b_X_done 23 = .ok (.aload_n 0, 1) := by decide +kernel
theorem d_X_done_24 : decode b_X_done 24 = .ok (.getfield 132, 3) := by decide +kernel
theorem d_X_done_27 : decode b_X_done 27 = .ok (.bipush 39, 2) := by decide +kernel
theorem d_X_done_29 : decode b_X_done 29 = .ok (.if_icmp .ne 10, 3) := by decide +kernel
theorem d_X_done_32 : decode b_X_done 32 = .ok (.aload_n 0, 1) := by decide +kernel
theorem d_X_done_33 : decode b_X_done 33 = .ok (.invokevirtual 222, 3) := by decide +kernel
theorem d_X_done_36 : decode b_X_done 36 = .ok (.goto 19, 3) := by decide +kernel
theorem d_X_done_39 : decode b_X_done 39 = .ok (.aload_n 0, 1) := by decide +kernel
theorem d_X_done_40 : decode b_X_done 40 = .ok (.aload_n 0, 1) := by decide +kernel
theorem d_X_done_41 : decode b_X_done 41 = .ok (.aload_n 0, 1) := by decide +kernel
theorem d_X_done_42 : decode b_X_done 42 = .ok (.getfield 132, 3) := by decide +kernel
theorem d_X_done_45 : decode b_X_done 45 = .ok (.bipush 40, 2) := by decide +kernel
theorem d_X_done_47 : decode b_X_done 47 = .ok (.isub, 1) := by decide +kernel
theorem d_X_done_48 : decode b_X_done 48 = .ok (.invokevirtual 225, 3) := by decide +kernel
theorem d_X_done_51 : decode b_X_done 51 = .ok (.iconst 0, 1) := by decide +kernel
theorem d_X_done_52 : decode b_X_done 52 = .ok (.invokevirtual 210, 3) := by decide +kernel
theorem d_X_done_55 : decode b_X_done 55 = .ok (.iconst 0, 1) := by decide +kernel
theorem d_X_done_56 : decode b_X_done 56 = .ok (.ireturn, 1) := by decide +kernel
theorem d_X_done_57 : decode b_X_done 57 = .ok (.aload_n 0, 1) := by decide +kernel
theorem d_X_done_58 : decode b_X_done 58 = .ok (.getfield 132, 3) := by decide +kernel
theorem d_X_done_61 : decode b_X_done 61 = .ok (.bipush 34, 2) := by decide +kernel
theorem d_X_done_63 : decode b_X_done 63 = .ok (.if_icmp .eq 12, 3) := by decide +kernel
theorem d_X_done_66 : decode b_X_done 66 = .ok (.aload_n 0, 1) := by decide +kernel
theorem d_X_done_67 : decode b_X_done 67 = .ok (.getfield 132, 3) := by decide +kernel
theorem d_X_done_70 : decode b_X_done 70 = .ok (.bipush 38, 2) := by decide +kernel
theorem d_X_done_72 : decode b_X_done 72 = .ok (.if_icmp .ne 29, 3) := by decide +kernel
theorem d_X_done_75 : decode b_X_done 75 = .ok (.aload_n 0, 1) := by decide +kernel
theorem d_X_done_76 : decode b_X_done 76 = .ok (.iconst 1, 1) := by decide +kernel
theorem d_X_done_77 : decode b_X_done 77 = .ok (.invokevirtual 218, 3) := by decide +kernel
theorem d_X_done_80 : decode b_X_done 80 = .ok (.aload_n 0, 1) := by decide +kernel
theorem d_X_done_81 : decode b_X_done 81 = .ok (.aload_n 0, 1) := by decide +kernel
theorem d_X_done_82 : decode b_X_done 82 = .ok (.getfield 132, 3) := by decide +kernel
theorem d_X_done_85 : decode b_X_done 85 = .ok (.bipush 38, 2) := by decide +kernel
theorem d_X_done_87 : decode b_X_done 87 = .ok (.if_icmp .ne 7, 3) := by decide +kernel
theorem d_X_done_90 : decode b_X_done 90 = .ok (.iconst 1, 1) := by decide +kernel
theorem d_X_done_91 : decode b_X_done 91 = .ok (.goto 4, 3) := by decide +kernel
theorem d_X_done_94 : decode b_X_done 94 = .ok (.iconst 0, 1) := by decide +kernel
theorem d_X_done_95 : decode b_X_done 95 = .ok (.iconst 0, 1) := by decide +kernel
theorem d_X_done_96 : decode b_X_done 96 = .ok (.invokevirtual 210, 3) := by decide +kernel
theorem d_X_done_99 : decode b_X_done 99 = .ok (.iconst 0, 1) := by decide +kernel
theorem d_X_done_100 : decode b_X_done 100 = .ok (.ireturn, 1) := by decide +kernel
theorem d_X_done_101 : decode b_X_done 101 = .ok (.aload_n 0, 1) := by decide +kernel
theorem d_X_done_102 : decode b_X_done 102 = .ok (.getfield 132, 3) := by decide +kernel
theorem d_X_done_105 : decode b_X_done 105 = .ok (.bipush 56, 2) := by decide +kernel
theorem d_X_done_107 : decode b_X_done 107 = .ok (.if_icmp .lt 22, 3) := by decide +kernel
theorem d_X_done_110 : decode b_X_done 110 = .ok (.aload_n 0, 1) := by decide +kernel
theorem d_X_done_111 : decode b_X_done 111 = .ok (.iconst 2, 1) := by decide +kernel
theorem d_X_done_112 : decode b_X_done 112 = .ok (.invokevirtual 218, 3) := by decide +kernel
theorem d_X_done_115 : decode b_X_done 115 = .ok (.aload_n 0, 1) := by decide +kernel
theorem d_X_done_116 : decode b_X_done 116 = .ok (.aload_n 0, 1) := by decide +kernel
theorem d_X_done_117 : decode b_X_done 117 = .ok (.getfield 132, 3) := by decide +kernel
theorem d_X_done_120 : decode b_X_done 120 = .ok (.bipush 56, 2) := by decide +kernel
theorem d_X_done_122 : decode b_X_done 122 = .ok (.isub, 1) := by decide +kernel
theorem d_X_done_123 : decode b_X_done 123 = .ok (.invokevirtual 228, 3) := by decide +kernel
theorem d_X_done_126 : decode b_X_done 126 = .ok (.goto 188, 3) := by decide +kernel
theorem d_X_done_129 : decode b_X_done 129 = .ok (.aload_n 0, 1) := by decide +kernel
theorem d_X_done_130 : decode b_X_done 130 = .ok (.getfield 132, 3) := by decide +kernel
theorem d_X_done_133 : decode b_X_done 133 = .ok (.bipush 48, 2) := by decide +kernel
theorem d_X_done_135 : decode b_X_done 135 = .ok (.if_icmp .lt 22, 3) := by decide +kernel
theorem d_X_done_138 : decode b_X_done 138 = .ok (.aload_n 0, 1) := by decide +kernel
theorem d_X_done_139 : decode b_X_done 139 = .ok (.iconst 1, 1) := by decide +kernel
theorem d_X_done_140 : decode b_X_done 140 = .ok (.invokevirtual 218, 3) := by decide +kernel
theorem d_X_done_143 : decode b_X_done 143 = .ok (.aload_n 0, 1) := by decide +kernel
theorem d_X_done_144 : decode b_X_done 144 = .ok (.aload_n 0, 1) := by decide +kernel
theorem d_X_done_145 : decode b_X_done 145 = .ok (.getfield 132, 3) := by decide +kernel
theorem d_X_done_148 : decode b_X_done 148 = .ok (.bipush 48, 2) := by decide +kernel
theorem d_X_done_150 : decode b_X_done 150 = .ok (.isub, 1) := by decide +kernel
theorem d_X_done_151 : decode b_X_done 151 = .ok (.invokevirtual 231, 3) := by decide +kernel
theorem d_X_done_154 : decode b_X_done 154 = .ok (.goto 160, 3) := by decide +kernel
theorem d_X_done_157 : decode b_X_done 157 = .ok (.aload_n 0, 1) := by decide +kernel
theorem d_X_done_158 : decode b_X_done 158 = .ok (.getfield 132, 3) := by decide +kernel
theorem d_X_done_161 : decode b_X_done 161 = .ok (.bipush 35, 2) := by decide +kernel
theorem d_X_done_163 : decode b_X_done 163 = .ok (.if_icmp .lt 15, 3) := by decide +kernel
theorem d_X_done_166 : decode b_X_done 166 = .ok (.aload_n 0, 1) := by decide +kernel
theorem d_X_done_167 : decode b_X_done 167 = .ok (.iconst 1, 1) := by decide +kernel
theorem d_X_done_168 : decode b_X_done 168 = .ok (.invokevirtual 218, 3) := by decide +kernel
theorem d_X_done_171 : decode b_X_done 171 = .ok (.aload_n 0, 1) := by decide +kernel
theorem d_X_done_172 : decode b_X_done 172 = .ok (.invokevirtual 234, 3) := by decide +kernel
theorem d_X_done_175 : decode b_X_done 175 = .ok (.goto 139, 3) := by decide +kernel
theorem d_X_done_178 : decode b_X_done 178 = .ok (.aload_n 0, 1) := by decide +kernel
theorem d_X_done_179 : decode b_X_done 179 = .ok (.getfield 132, 3) := by decide +kernel
theorem d_X_done_182 : decode b_X_done 182 = .ok (.bipush 24, 2) := by decide +kernel
theorem d_X_done_184 : decode b_X_done 184 = .ok (.if_icmp .lt 55, 3) := by decide +kernel
theorem d_X_done_187 : decode b_X_done 187 = .ok (.aload_n 0, 1) := by decide +kernel
theorem d_X_done_188 : decode b_X_done 188 = .ok (.iconst 2, 1) := by decide +kernel
theorem d_X_done_189 : decode b_X_done 189 = .ok (.invokevirtual 218, 3) := by decide +kernel
theorem d_X_done_192 : decode b_X_done 192 = .ok (.aload_n 0, 1) := by decide +kernel
theorem d_X_done_193 : decode b_X_done 193 = .ok (.getfield 132, 3) := by decide +kernel
theorem d_X_done_196 : decode b_X_done 196 = .ok (.bipush 24, 2) := by decide +kernel
theorem d_X_done_198 : decode b_X_done 198 = .ok (.isub, 1) := by decide +kernel
theorem d_X_done_199 : decode b_X_done 199 = .ok (.istore_n 1, 1) := by decide +kernel
theorem d_X_done_200 : decode b_X_done 200 = .ok (.aload_n 0, 1) := by decide +kernel
theorem d_X_done_201 : decode b_X_done 201 = .ok (.iload_n 1, 1) := by decide +kernel
theorem d_X_done_202 : decode b_X_done 202 = .ok (.bipush 9, 2) := by decide +kernel
theorem d_X_done_204 : decode b_X_done 204 = .ok (.if_icmp .ne 7, 3) := by decide +kernel
theorem d_X_done_207 : decode b_X_done 207 = .ok (.iconst 0, 1) := by decide +kernel
theorem d_X_done_208 : decode b_X_done 208 = .ok (.goto 9, 3) := by decide +kernel
theorem d_X_done_211 : decode b_X_done 211 = .ok (.aload_n 0, 1) := by decide +kernel
theorem d_X_done_212 : decode b_X_done 212 = .ok (.getfield 16, 3) := by decide +kernel
theorem d_X_done_215 : decode b_X_done 215 = .ok (.iload_n 1, 1) := by decide +kernel
theorem d_X_done_216 : decode b_X_done 216 = .ok (.iaload, 1) := by decide +kernel
theorem d_X_done_217 : decode b_X_done 217 = .ok (.iload_n 1, 1) := by decide +kernel
theorem d_X_done_218 : decode b_X_done 218 = .ok (.bipush 9, 2) := by decide +kernel
theorem d_X_done_220 : decode b_X_done 220 = .ok (.if_icmp .ne 7, 3) := by decide +kernel
theorem d_X_done_223 : decode b_X_done 223 = .ok (.iconst 0, 1) := by decide +kernel
theorem d_X_done_224 : decode b_X_done 224 = .ok (.goto 9, 3) := by decide +kernel
theorem d_X_done_227 : decode b_X_done 227 = .ok (.aload_n 0, 1) := by decide +kernel
theorem d_X_done_228 : decode b_X_done 228 = .ok (.getfield 19, 3) := by decide +kernel
theorem d_X_done_231 : decode b_X_done 231 = .ok (.iload_n 1, 1) := by decide +kernel
theorem d_X_done_232 : decode b_X_done 232 = .ok (.iaload, 1) := by decide +kernel
theorem d_X_done_233 : decode b_X_done 233 = .ok (.invokevirtual 237, 3) := by decide +kernel
theorem d_X_done_236 : decode b_X_done 236 = .ok (.goto 78, 3) := by decide +kernel
theorem d_X_done_239 : decode b_X_done 239 = .ok (.aload_n 0, 1) := by decide +kernel
theorem d_X_done_240 : decode b_X_done 240 = .ok (.getfield 132, 3) := by decide +kernel
theorem d_X_done_243 : decode b_X_done 243 = .ok (.bipush 8, 2) := by decide +kernel
theorem d_X_done_245 : decode b_X_done 245 = .ok (.if_icmp .lt 65, 3) := by decide +kernel
theorem d_X_done_248 : decode b_X_done 248 = .ok (.aload_n 0, 1) := by decide +kernel
theorem d_X_done_249 : decode b_X_done 249 = .ok (.iconst 2, 1) := by decide +kernel
theorem d_X_done_250 : decode b_X_done 250 = .ok (.invokevirtual 218, 3) := by decide +kernel
theorem d_X_done_253 : decode b_X_done 253 = .ok (.aload_n 0, 1) := by decide +kernel
theorem d_X_done_254 : decode b_X_done 254 = .ok (.invokevirtual 175, 3) := by decide +kernel
theorem d_X_done_257 : decode b_X_done 257 = .ok (.aload_n 0, 1) := by decide +kernel
theorem d_X_done_258 : decode b_X_done 258 = .ok (.getfield 16, 3) := by decide +kernel
theorem d_X_done_261 : decode b_X_done 261 = .ok (.aload_n 0, 1) := by decide +kernel
theorem d_X_done_262 : decode b_X_done 262 = .ok (.getfield 132, 3) := by decide +kernel
theorem d_X_done_265 : decode b_X_done 265 = .ok (.bipush 8, 2) := by decide +kernel
theorem d_X_done_267 : decode b_X_done 267 = .ok (.irem, 1) := by decide +kernel
theorem d_X_done_268 : decode b_X_done 268 = .ok (.aload_n 0, 1) := by decide +kernel
theorem d_X_done_269 : decode b_X_done 269 = .ok (.getfield 132, 3) := by decide +kernel
theorem d_X_done_272 : decode b_X_done 272 = .ok (.bipush 16, 2) := by decide +kernel
theorem d_X_done_274 : decode b_X_done 274 = .ok (.if_icmp .ge 10, 3) := by decide +kernel
theorem d_X_done_277 : decode b_X_done 277 = .ok (.aload_n 0, 1) := by decide +kernel
theorem d_X_done_278 : decode b_X_done 278 = .ok (.getfield 165, 3) := by decide +kernel
theorem d_X_done_281 : decode b_X_done 281 = .ok (.goto 9, 3) := by decide +kernel
theorem d_X_done_284 : decode b_X_done 284 = .ok (.iconst 1, 1) := by decide +kernel
theorem d_X_done_285 : decode b_X_done 285 = .ok (.aload_n 0, 1) := by decide +kernel
theorem d_X_done_286 : decode b_X_done 286 = .ok (.getfield 165, 3) := by decide +kernel
theorem d_X_done_289 : decode b_X_done 289 = .ok (.isub, 1) := by decide +kernel
theorem d_X_done_290 : decode b_X_done 290 = .ok (.iastore, 1) := by decide +kernel
theorem d_X_done_291 : decode b_X_done 291 = .ok (.aload_n 0, 1) := by decide +kernel
theorem d_X_done_292 : decode b_X_done 292 = .ok (.getfield 19, 3) := by decide +kernel
theorem d_X_done_295 : decode b_X_done 295 = .ok (.aload_n 0, 1) := by decide +kernel
theorem d_X_done_296 : decode b_X_done 296 = .ok (.getfield 132, 3) := by decide +kernel
theorem d_X_done_299 : decode b_X_done 299 = .ok (.bipush 8, 2) := by decide +kernel
theorem d_X_done_301 : decode b_X_done 301 = .ok (.irem, 1) := by decide +kernel
theorem d_X_done_302 : decode b_X_done 302 = .ok (.aload_n 0, 1) := by decide +kernel
theorem d_X_done_303 : decode b_X_done 303 = .ok (.getfield 172, 3) := by decide +kernel
theorem d_X_done_306 : decode b_X_done 306 = .ok (.iastore, 1) := by decide +kernel
theorem d_X_done_307 : decode b_X_done 307 = .ok (.goto 7, 3) := by decide +kernel
theorem d_X_done_310 : decode b_X_done 310 = .ok (.aload_n 0, 1) := by decide +kernel
theorem d_X_done_311 : decode b_X_done 311 = .ok (.invokevirtual 241, 3) := by decide +kernel
theorem d_X_done_314 : decode b_X_done 314 = .ok (.iconst 1, 1) := by decide +kernel
theorem d_X_done_315 : decode b_X_done 315 = .ok (.ireturn, 1) := by decide +kernel
abbrev b_X_doFirst : ByteArray := prog_11_method_45_code
abbrev y_X_doFirst : MethodName := ⟨"SignMachineModel", "doFirst", "()V"⟩
theorem h_X_doFirst : (y_X_doFirst).cls ≠ "java/lang/invoke/MethodHandle" ∧ (y_X_doFirst).cls ≠ "java/lang/invoke/VarHandle" ∧ (parseMethodDescriptor (y_X_doFirst).desc).map (fun d => d.parameters.length) = some 0 := by decide +kernel
theorem d_X_doFirst_0 : decode b_X_doFirst 0 = .ok (.aload_n 0, 1) := by decide +kernel
theorem d_X_doFirst_1 : decode b_X_doFirst 1 = .ok (.getfield 132, 3) := by decide +kernel
theorem d_X_doFirst_4 : decode b_X_doFirst 4 = .ok (.tableswitch 175 0 6 #[44, 52, 52, 94, 111, 128, 163], 44) := by decide +kernel
theorem d_X_doFirst_48 : decode b_X_doFirst 48 = .ok (.aload_n 0, 1) := by decide +kernel
theorem d_X_doFirst_49 : decode b_X_doFirst 49 = .ok (.iconst 1, 1) := by decide +kernel
theorem d_X_doFirst_50 : decode b_X_doFirst 50 = .ok (.invokevirtual 218, 3) := by decide +kernel
theorem d_X_doFirst_53 : decode b_X_doFirst 53 = .ok (.goto 142, 3) := by decide +kernel
theorem d_X_doFirst_56 : decode b_X_doFirst 56 = .ok (.aload_n 0, 1) := by decide +kernel
theorem d_X_doFirst_57 : decode b_X_doFirst 57 = .ok (.iconst 2, 1) := by decide +kernel
theorem d_X_doFirst_58 : decode b_X_doFirst 58 = .ok (.invokevirtual 218, 3) := by decide +kernel
theorem d_X_doFirst_61 : decode b_X_doFirst 61 = .ok (.aload_n 0, 1) := by decide +kernel
theorem d_X_doFirst_62 : decode b_X_doFirst 62 = .ok (.invokevirtual 175, 3) := by decide +kernel
theorem d_X_doFirst_65 : decode b_X_doFirst 65 = .ok (.aload_n 0, 1) := by decide +kernel
theorem d_X_doFirst_66 : decode b_X_doFirst 66 = .ok (.iconst 0, 1) := by decide +kernel
theorem d_X_doFirst_67 : decode b_X_doFirst 67 = .ok (.aload_n 0, 1) := by decide +kernel
theorem d_X_doFirst_68 : decode b_X_doFirst 68 = .ok (.getfield 132, 3) := by decide +kernel
theorem d_X_doFirst_71 : decode b_X_doFirst 71 = .ok (.iconst 1, 1) := by decide +kernel
theorem d_X_doFirst_72 : decode b_X_doFirst 72 = .ok (.if_icmp .ne 10, 3) := by decide +kernel
theorem d_X_doFirst_75 : decode b_X_doFirst 75 = .ok (.aload_n 0, 1) := by decide +kernel
theorem d_X_doFirst_76 : decode b_X_doFirst 76 = .ok (.getfield 165, 3) := by decide +kernel
theorem d_X_doFirst_79 : decode b_X_doFirst 79 = .ok (.goto 9, 3) := by decide +kernel
theorem d_X_doFirst_82 : decode b_X_doFirst 82 = .ok (.iconst 1, 1) := by decide +kernel
theorem d_X_doFirst_83 : decode b_X_doFirst 83 = .ok (.aload_n 0, 1) := by decide +kernel
theorem d_X_doFirst_84 : decode b_X_doFirst 84 = .ok (.getfield 165, 3) := by decide +kernel
theorem d_X_doFirst_87 : decode b_X_doFirst 87 = .ok (.isub, 1) := by decide +kernel
theorem d_X_doFirst_88 : decode b_X_doFirst 88 = .ok (.aload_n 0, 1) := by decide +kernel
theorem d_X_doFirst_89 : decode b_X_doFirst 89 = .ok (.getfield 172, 3) := by decide +kernel
theorem d_X_doFirst_92 : decode b_X_doFirst 92 = .ok (.invokevirtual 214, 3) := by decide +kernel
theorem d_X_doFirst_95 : decode b_X_doFirst 95 = .ok (.goto 100, 3) := by decide +kernel
theorem d_X_doFirst_98 : decode b_X_doFirst 98 = .ok (.aload_n 0, 1) := by decide +kernel
theorem d_X_doFirst_99 : decode b_X_doFirst 99 = .ok (.bipush 10, 2) := by decide +kernel
theorem d_X_doFirst_101 : decode b_X_doFirst 101 = .ok (.invokevirtual 218, 3) := by decide +kernel
theorem d_X_doFirst_104 : decode b_X_doFirst 104 = .ok (.aload_n 0, 1) := by decide +kernel
theorem d_X_doFirst_105 : decode b_X_doFirst 105 = .ok (.invokevirtual 175, 3) := by decide +kernel
theorem d_X_doFirst_108 : decode b_X_doFirst 108 = .ok (.aload_n 0, 1) := by decide +kernel
theorem d_X_doFirst_109 : decode b_X_doFirst 109 = .ok (.invokevirtual 244, 3) := by decide +kernel
theorem d_X_doFirst_112 : decode b_X_doFirst 112 = .ok (.goto 83, 3) := by decide +kernel
theorem d_X_doFirst_115 : decode b_X_doFirst 115 = .ok (.aload_n 0, 1) := by decide +kernel
theorem d_X_doFirst_116 : decode b_X_doFirst 116 = .ok (.bipush 12, 2) := by decide +kernel
theorem d_X_doFirst_118 : decode b_X_doFirst 118 = .ok (.invokevirtual 218, 3) := by decide +kernel
theorem d_X_doFirst_121 : decode b_X_doFirst 121 = .ok (.aload_n 0, 1) := by decide +kernel
theorem d_X_doFirst_122 : decode b_X_doFirst 122 = .ok (.invokevirtual 175, 3) := by decide +kernel
theorem d_X_doFirst_125 : decode b_X_doFirst 125 = .ok (.aload_n 0, 1) := by decide +kernel
theorem d_X_doFirst_126 : decode b_X_doFirst 126 = .ok (.invokevirtual 247, 3) := by decide +kernel
theorem d_X_doFirst_129 : decode b_X_doFirst 129 = .ok (.goto 66, 3) := by decide +kernel
theorem d_X_doFirst_132 : decode b_X_doFirst 132 = .ok (.aload_n 0, 1) := by decide +kernel
theorem d_X_doFirst_133 : decode b_X_doFirst 133 = .ok (.bipush 10, 2) := by decide +kernel
theorem d_X_doFirst_135 : decode b_X_doFirst 135 = .ok (.invokevirtual 218, 3) := by decide +kernel
theorem d_X_doFirst_138 : decode b_X_doFirst 138 = .ok (.aload_n 0, 1) := by decide +kernel
theorem d_X_doFirst_139 : decode b_X_doFirst 139 = .ok (.getfield 135, 3) := by decide +kernel
theorem d_X_doFirst_142 : decode b_X_doFirst 142 = .ok (.ifCond .ne 10, 3) := by decide +kernel
theorem d_X_doFirst_145 : decode b_X_doFirst 145 = .ok (.aload_n 0, 1) := by decide +kernel
theorem d_X_doFirst_146 : decode b_X_doFirst 146 = .ok (.invokevirtual 250, 3) := by decide +kernel
theorem d_X_doFirst_149 : decode b_X_doFirst 149 = .ok (.goto 46, 3) := by decide +kernel
theorem d_X_doFirst_152 : decode b_X_doFirst 152 = .ok (.aload_n 0, 1) := by decide +kernel
theorem d_X_doFirst_153 : decode b_X_doFirst 153 = .ok (.getfield 135, 3) := by decide +kernel
theorem d_X_doFirst_156 : decode b_X_doFirst 156 = .ok (.iconst 1, 1) := by decide +kernel
theorem d_X_doFirst_157 : decode b_X_doFirst 157 = .ok (.if_icmp .ne 38, 3) := by decide +kernel
theorem d_X_doFirst_160 : decode b_X_doFirst 160 = .ok (.aload_n 0, 1) := by decide +kernel
theorem d_X_doFirst_161 : decode b_X_doFirst 161 = .ok (.invokevirtual 253, 3) := by decide +kernel
theorem d_X_doFirst_164 : decode b_X_doFirst 164 = .ok (.goto 31, 3) := by decide +kernel
theorem d_X_doFirst_167 : decode b_X_doFirst 167 = .ok (.aload_n 0, 1) := by decide +kernel
theorem d_X_doFirst_168 : decode b_X_doFirst 168 = .ok (.iconst 2, 1) := by decide +kernel
theorem d_X_doFirst_169 : decode b_X_doFirst 169 = .ok (.invokevirtual 218, 3) := by decide +kernel
theorem d_X_doFirst_172 : decode b_X_doFirst 172 = .ok (.aload_n 0, 1) := by decide +kernel
theorem d_X_doFirst_173 : decode b_X_doFirst 173 = .ok (.invokevirtual 256, 3) := by decide +kernel
theorem d_X_doFirst_176 : decode b_X_doFirst 176 = .ok (.goto 19, 3) := by decide +kernel
theorem d_X_doFirst_179 : decode b_X_doFirst 179 = .ok (.aload_n 0, 1) := by decide +kernel
theorem d_X_doFirst_180 : decode b_X_doFirst 180 = .ok (.iconst 1, 1) := by decide +kernel
theorem d_X_doFirst_181 : decode b_X_doFirst 181 = .ok (.iconst 2, 1) := by decide +kernel
theorem d_X_doFirst_182 : decode b_X_doFirst 182 = .ok (.aload_n 0, 1) := by decide +kernel
theorem d_X_doFirst_183 : decode b_X_doFirst 183 = .ok (.getfield 135, 3) := by decide +kernel
theorem d_X_doFirst_186 : decode b_X_doFirst 186 = .ok (.imul, 1) := by decide +kernel
theorem d_X_doFirst_187 : decode b_X_doFirst 187 = .ok (.iadd, 1) := by decide +kernel
theorem d_X_doFirst_188 : decode b_X_doFirst 188 = .ok (.invokevirtual 218, 3) := by decide +kernel
theorem d_X_doFirst_191 : decode b_X_doFirst 191 = .ok (.aload_n 0, 1) := by decide +kernel
theorem d_X_doFirst_192 : decode b_X_doFirst 192 = .ok (.invokevirtual 259, 3) := by decide +kernel
theorem d_X_doFirst_195 : decode b_X_doFirst 195 = .ok (.return_, 1) := by decide +kernel
abbrev b_X_passes : ByteArray := prog_11_method_27_code
abbrev y_X_passes : MethodName := ⟨"SignMachineModel", "passes", "(I)V"⟩
theorem h_X_passes : (y_X_passes).cls ≠ "java/lang/invoke/MethodHandle" ∧ (y_X_passes).cls ≠ "java/lang/invoke/VarHandle" ∧ (parseMethodDescriptor (y_X_passes).desc).map (fun d => d.parameters.length) = some 1 := by decide +kernel
theorem d_X_passes_0 : decode b_X_passes 0 = .ok (.aload_n 0, 1) := by decide +kernel
theorem d_X_passes_1 : decode b_X_passes 1 = .ok (.aload_n 0, 1) := by decide +kernel
theorem d_X_passes_2 : decode b_X_passes 2 = .ok (.getfield 119, 3) := by decide +kernel
theorem d_X_passes_5 : decode b_X_passes 5 = .ok (.iload_n 1, 1) := by decide +kernel
theorem d_X_passes_6 : decode b_X_passes 6 = .ok (.iadd, 1) := by decide +kernel
theorem d_X_passes_7 : decode b_X_passes 7 = .ok (.ldc 198, 2) := by decide +kernel
theorem d_X_passes_9 : decode b_X_passes 9 = .ok (.iand, 1) := by decide +kernel
theorem d_X_passes_10 : decode b_X_passes 10 = .ok (.putfield 119, 3) := by decide +kernel
theorem d_X_passes_13 : decode b_X_passes 13 = .ok (.return_, 1) := by decide +kernel
abbrev b_X_run : ByteArray := prog_11_method_48_code
abbrev y_X_run : MethodName := ⟨"SignMachineModel", "run", "(I)I"⟩
theorem h_X_run : (y_X_run).cls ≠ "java/lang/invoke/MethodHandle" ∧ (y_X_run).cls ≠ "java/lang/invoke/VarHandle" ∧ (parseMethodDescriptor (y_X_run).desc).map (fun d => d.parameters.length) = some 1 := by decide +kernel
theorem d_X_run_0 : decode b_X_run 0 = .ok (.iload_n 1, 1) := by decide +kernel
theorem d_X_run_1 : decode b_X_run 1 = .ok (.i2l, 1) := by decide +kernel
theorem d_X_run_2 : decode b_X_run 2 = .ok (.lconst 1, 1) := by decide +kernel
theorem d_X_run_3 : decode b_X_run 3 = .ok (.ldc2_w 272, 3) := by decide +kernel
theorem d_X_run_6 : decode b_X_run 6 = .ok (.invokestatic 96, 3) := by decide +kernel
theorem d_X_run_9 : decode b_X_run 9 = .ok (.ifCond .ne 5, 3) := by decide +kernel
theorem d_X_run_12 : decode b_X_run 12 = .ok (.iconst (-1), 1) := by decide +kernel
theorem d_X_run_13 : decode b_X_run 13 = .ok (.ireturn, 1) := by decide +kernel
theorem d_X_run_14 : decode b_X_run 14 = .ok (.iconst 0, 1) := by decide +kernel
theorem d_X_run_15 : decode b_X_run 15 = .ok (.istore_n 2, 1) := by decide +kernel
theorem d_X_run_16 : decode b_X_run 16 = .ok (.aload_n 0, 1) := by decide +kernel
theorem d_X_run_17 : decode b_X_run 17 = .ok (.iconst 0, 1) := by decide +kernel
theorem d_X_run_18 : decode b_X_run 18 = .ok (.putfield 91, 3) := by decide +kernel
theorem d_X_run_21 : decode b_X_run 21 = .ok (.iload_n 2, 1) := by decide +kernel
theorem d_X_run_22 : decode b_X_run 22 = .ok (.iload_n 1, 1) := by decide +kernel
theorem d_X_run_23 : decode b_X_run 23 = .ok (.if_icmp .ge 37, 3) := by decide +kernel
theorem d_X_run_26 : decode b_X_run 26 = .ok (.aload_n 0, 1) := by decide +kernel
theorem d_X_run_27 : decode b_X_run 27 = .ok (.getfield 91, 3) := by decide +kernel
theorem d_X_run_30 : decode b_X_run 30 = .ok (.ifCond .ne 30, 3) := by decide +kernel
theorem d_X_run_33 : decode b_X_run 33 = .ok (.aload_n 0, 1) := by decide +kernel
theorem d_X_run_34 : decode b_X_run 34 = .ok (.aload_n 0, 1) := by decide +kernel
theorem d_X_run_35 : decode b_X_run 35 = .ok (.invokevirtual 269, 3) := by decide +kernel
theorem d_X_run_38 : decode b_X_run 38 = .ok (.putfield 91, 3) := by decide +kernel
theorem d_X_run_41 : decode b_X_run 41 = .ok (.iload_n 2, 1) := by decide +kernel
theorem d_X_run_42 : decode b_X_run 42 = .ok (.aload_n 0, 1) := by decide +kernel
theorem d_X_run_43 : decode b_X_run 43 = .ok (.getfield 91, 3) := by decide +kernel
theorem d_X_run_46 : decode b_X_run 46 = .ok (.iconst 2, 1) := by decide +kernel
theorem d_X_run_47 : decode b_X_run 47 = .ok (.if_icmp .ge 7, 3) := by decide +kernel
theorem d_X_run_50 : decode b_X_run 50 = .ok (.iconst 1, 1) := by decide +kernel
theorem d_X_run_51 : decode b_X_run 51 = .ok (.goto 4, 3) := by decide +kernel
theorem d_X_run_54 : decode b_X_run 54 = .ok (.iconst 0, 1) := by decide +kernel
theorem d_X_run_55 : decode b_X_run 55 = .ok (.iadd, 1) := by decide +kernel
theorem d_X_run_56 : decode b_X_run 56 = .ok (.istore_n 2, 1) := by decide +kernel
theorem d_X_run_57 : decode b_X_run 57 = .ok (.goto (-36), 3) := by decide +kernel
theorem d_X_run_60 : decode b_X_run 60 = .ok (.iload_n 2, 1) := by decide +kernel
theorem d_X_run_61 : decode b_X_run 61 = .ok (.ireturn, 1) := by decide +kernel
abbrev b_X_feed : ByteArray := prog_11_method_49_code
abbrev y_X_feed : MethodName := ⟨"SignMachineModel", "feed", "(IIIII)I"⟩
theorem h_X_feed : (y_X_feed).cls ≠ "java/lang/invoke/MethodHandle" ∧ (y_X_feed).cls ≠ "java/lang/invoke/VarHandle" ∧ (parseMethodDescriptor (y_X_feed).desc).map (fun d => d.parameters.length) = some 5 := by decide +kernel
theorem d_X_feed_0 : decode b_X_feed 0 = .ok (.aload_n 0, 1) := by decide +kernel
theorem d_X_feed_1 : decode b_X_feed 1 = .ok (.getfield 274, 3) := by decide +kernel
theorem d_X_feed_4 : decode b_X_feed 4 = .ok (.bipush 20, 2) := by decide +kernel
theorem d_X_feed_6 : decode b_X_feed 6 = .ok (.iadd, 1) := by decide +kernel
theorem d_X_feed_7 : decode b_X_feed 7 = .ok (.sipush 4000, 3) := by decide +kernel
theorem d_X_feed_10 : decode b_X_feed 10 = .ok (.if_icmp .le 5, 3) := by decide +kernel
theorem d_X_feed_13 : decode b_X_feed 13 = .ok (.iconst (-1), 1) := by decide +kernel
theorem d_X_feed_14 : decode b_X_feed 14 = .ok (.ireturn, 1) := by decide +kernel
theorem d_X_feed_15 : decode b_X_feed 15 = .ok (.iconst 0, 1) := by decide +kernel
theorem d_X_feed_16 : decode b_X_feed 16 = .ok (.istore 6, 2) := by decide +kernel
theorem d_X_feed_18 : decode b_X_feed 18 = .ok (.iload 6, 2) := by decide +kernel
theorem d_X_feed_20 : decode b_X_feed 20 = .ok (.bipush 20, 2) := by decide +kernel
theorem d_X_feed_22 : decode b_X_feed 22 = .ok (.if_icmp .ge 93, 3) := by decide +kernel
theorem d_X_feed_25 : decode b_X_feed 25 = .ok (.iload 6, 2) := by decide +kernel
theorem d_X_feed_27 : decode b_X_feed 27 = .ok (.iconst 4, 1) := by decide +kernel
theorem d_X_feed_28 : decode b_X_feed 28 = .ok (.if_icmp .ge 7, 3) := by decide +kernel
theorem d_X_feed_31 : decode b_X_feed 31 = .ok (.iload_n 1, 1) := by decide +kernel
theorem d_X_feed_32 : decode b_X_feed 32 = .ok (.goto 39, 3) := by decide +kernel
theorem d_X_feed_35 : decode b_X_feed 35 = .ok (.iload 6, 2) := by decide +kernel
theorem d_X_feed_37 : decode b_X_feed 37 = .ok (.bipush 8, 2) := by decide +kernel
theorem d_X_feed_39 : decode b_X_feed 39 = .ok (.if_icmp .ge 7, 3) := by decide +kernel
theorem d_X_feed_42 : decode b_X_feed 42 = .ok (.iload_n 2, 1) := by decide +kernel
theorem d_X_feed_43 : decode b_X_feed 43 = .ok (.goto 28, 3) := by decide +kernel
theorem d_X_feed_46 : decode b_X_feed 46 = .ok (.iload 6, 2) := by decide +kernel
theorem d_X_feed_48 : decode b_X_feed 48 = .ok (.bipush 12, 2) := by decide +kernel
theorem d_X_feed_50 : decode b_X_feed 50 = .ok (.if_icmp .ge 7, 3) := by decide +kernel
theorem d_X_feed_53 : decode b_X_feed 53 = .ok (.iload_n 3, 1) := by decide +kernel
theorem d_X_feed_54 : decode b_X_feed 54 = .ok (.goto 17, 3) := by decide +kernel
theorem d_X_feed_57 : decode b_X_feed 57 = .ok (.iload 6, 2) := by decide +kernel
theorem d_X_feed_59 : decode b_X_feed 59 = .ok (.bipush 16, 2) := by decide +kernel
theorem d_X_feed_61 : decode b_X_feed 61 = .ok (.if_icmp .ge 8, 3) := by decide +kernel
theorem d_X_feed_64 : decode b_X_feed 64 = .ok (.iload 4, 2) := by decide +kernel
theorem d_X_feed_66 : decode b_X_feed 66 = .ok (.goto 5, 3) := by decide +kernel
theorem d_X_feed_69 : decode b_X_feed 69 = .ok (.iload 5, 2) := by decide +kernel
theorem d_X_feed_71 : decode b_X_feed 71 = .ok (.istore 7, 2) := by decide +kernel
theorem d_X_feed_73 : decode b_X_feed 73 = .ok (.aload_n 0, 1) := by decide +kernel
theorem d_X_feed_74 : decode b_X_feed 74 = .ok (.getfield 37, 3) := by decide +kernel
theorem d_X_feed_77 : decode b_X_feed 77 = .ok (.aload_n 0, 1) := by decide +kernel
theorem d_X_feed_78 : decode b_X_feed 78 = .ok (.getfield 274, 3) := by decide +kernel
theorem d_X_feed_81 : decode b_X_feed 81 = .ok (.iload 7, 2) := by decide +kernel
theorem d_X_feed_83 : decode b_X_feed 83 = .ok (.bipush 24, 2) := by decide +kernel
theorem d_X_feed_85 : decode b_X_feed 85 = .ok (.bipush 8, 2) := by decide +kernel
theorem d_X_feed_87 : decode b_X_feed 87 = .ok (.iload 6, 2) := by decide +kernel
theorem d_X_feed_89 : decode b_X_feed 89 = .ok (.iconst 4, 1) := by decide +kernel
theorem d_X_feed_90 : decode b_X_feed 90 = .ok (.irem, 1) := by decide +kernel
theorem d_X_feed_91 : decode b_X_feed 91 = .ok (.imul, 1) := by decide +kernel
theorem d_X_feed_92 : decode b_X_feed 92 = .ok (.isub, 1) := by decide +kernel
theorem d_X_feed_93 : decode b_X_feed 93 = .ok (.ishr, 1) := by decide +kernel
theorem d_X_feed_94 : decode b_X_feed 94 = .ok (.sipush 255, 3) := by decide +kernel
theorem d_X_feed_97 : decode b_X_feed 97 = .ok (.iand, 1) := by decide +kernel
theorem d_X_feed_98 : decode b_X_feed 98 = .ok (.iastore, 1) := by decide +kernel
theorem d_X_feed_99 : decode b_X_feed 99 = .ok (.aload_n 0, 1) := by decide +kernel
theorem d_X_feed_100 : decode b_X_feed 100 = .ok (.dup, 1) := by decide +kernel
theorem d_X_feed_101 : decode b_X_feed 101 = .ok (.getfield 274, 3) := by decide +kernel
theorem d_X_feed_104 : decode b_X_feed 104 = .ok (.iconst 1, 1) := by decide +kernel
theorem d_X_feed_105 : decode b_X_feed 105 = .ok (.iadd, 1) := by decide +kernel
theorem d_X_feed_106 : decode b_X_feed 106 = .ok (.putfield 274, 3) := by decide +kernel
theorem d_X_feed_109 : decode b_X_feed 109 = .ok (.iinc 6 1, 3) := by decide +kernel
theorem d_X_feed_112 : decode b_X_feed 112 = .ok (.goto (-94), 3) := by decide +kernel
theorem d_X_feed_115 : decode b_X_feed 115 = .ok (.aload_n 0, 1) := by decide +kernel
theorem d_X_feed_116 : decode b_X_feed 116 = .ok (.getfield 274, 3) := by decide +kernel
theorem d_X_feed_119 : decode b_X_feed 119 = .ok (.ireturn, 1) := by decide +kernel
abbrev b_X_end : ByteArray := prog_11_method_50_code
abbrev y_X_end : MethodName := ⟨"SignMachineModel", "end", "(I)I"⟩
theorem h_X_end : (y_X_end).cls ≠ "java/lang/invoke/MethodHandle" ∧ (y_X_end).cls ≠ "java/lang/invoke/VarHandle" ∧ (parseMethodDescriptor (y_X_end).desc).map (fun d => d.parameters.length) = some 1 := by decide +kernel
theorem d_X_end_0 : decode b_X_end 0 = .ok (.iload_n 1, 1) := by decide +kernel
theorem d_X_end_1 : decode b_X_end 1 = .ok (.i2l, 1) := by decide +kernel
theorem d_X_end_2 : decode b_X_end 2 = .ok (.lconst 0, 1) := by decide +kernel
theorem d_X_end_3 : decode b_X_end 3 = .ok (.ldc2_w 277, 3) := by decide +kernel
theorem d_X_end_6 : decode b_X_end 6 = .ok (.invokestatic 96, 3) := by decide +kernel
theorem d_X_end_9 : decode b_X_end 9 = .ok (.ifCond .eq 12, 3) := by decide +kernel
theorem d_X_end_12 : decode b_X_end 12 = .ok (.aload_n 0, 1) := by decide +kernel
theorem d_X_end_13 : decode b_X_end 13 = .ok (.getfield 274, 3) := by decide +kernel
theorem d_X_end_16 : decode b_X_end 16 = .ok (.bipush 20, 2) := by decide +kernel
theorem d_X_end_18 : decode b_X_end 18 = .ok (.if_icmp .ge 5, 3) := by decide +kernel
theorem d_X_end_21 : decode b_X_end 21 = .ok (.iconst (-1), 1) := by decide +kernel
theorem d_X_end_22 : decode b_X_end 22 = .ok (.ireturn, 1) := by decide +kernel
theorem d_X_end_23 : decode b_X_end 23 = .ok (.aload_n 0, 1) := by decide +kernel
theorem d_X_end_24 : decode b_X_end 24 = .ok (.dup, 1) := by decide +kernel
theorem d_X_end_25 : decode b_X_end 25 = .ok (.getfield 274, 3) := by decide +kernel
theorem d_X_end_28 : decode b_X_end 28 = .ok (.bipush 20, 2) := by decide +kernel
theorem d_X_end_30 : decode b_X_end 30 = .ok (.iload_n 1, 1) := by decide +kernel
theorem d_X_end_31 : decode b_X_end 31 = .ok (.isub, 1) := by decide +kernel
theorem d_X_end_32 : decode b_X_end 32 = .ok (.isub, 1) := by decide +kernel
theorem d_X_end_33 : decode b_X_end 33 = .ok (.putfield 274, 3) := by decide +kernel
theorem d_X_end_36 : decode b_X_end 36 = .ok (.aload_n 0, 1) := by decide +kernel
theorem d_X_end_37 : decode b_X_end 37 = .ok (.getfield 274, 3) := by decide +kernel
theorem d_X_end_40 : decode b_X_end 40 = .ok (.ireturn, 1) := by decide +kernel
abbrev b_X_assemble : ByteArray := prog_11_method_86_code
abbrev y_X_assemble : MethodName := ⟨"SignMachineModel", "assemble", "()I"⟩
theorem h_X_assemble : (y_X_assemble).cls ≠ "java/lang/invoke/MethodHandle" ∧ (y_X_assemble).cls ≠ "java/lang/invoke/VarHandle" ∧ (parseMethodDescriptor (y_X_assemble).desc).map (fun d => d.parameters.length) = some 0 := by decide +kernel
theorem d_X_assemble_0 : decode b_X_assemble 0 = .ok (.aload_n 0, 1) := by decide +kernel
theorem d_X_assemble_1 : decode b_X_assemble 1 = .ok (.invokevirtual 565, 3) := by decide +kernel
theorem d_X_assemble_4 : decode b_X_assemble 4 = .ok (.aload_n 0, 1) := by decide +kernel
theorem d_X_assemble_5 : decode b_X_assemble 5 = .ok (.iconst 0, 1) := by decide +kernel
theorem d_X_assemble_6 : decode b_X_assemble 6 = .ok (.putfield 274, 3) := by decide +kernel
theorem d_X_assemble_9 : decode b_X_assemble 9 = .ok (.aload_n 0, 1) := by decide +kernel
theorem d_X_assemble_10 : decode b_X_assemble 10 = .ok (.aload_n 0, 1) := by decide +kernel
theorem d_X_assemble_11 : decode b_X_assemble 11 = .ok (.getfield 279, 3) := by decide +kernel
theorem d_X_assemble_14 : decode b_X_assemble 14 = .ok (.ifCond .le 10, 3) := by decide +kernel
theorem d_X_assemble_17 : decode b_X_assemble 17 = .ok (.aload_n 0, 1) := by decide +kernel
theorem d_X_assemble_18 : decode b_X_assemble 18 = .ok (.getfield 553, 3) := by decide +kernel
theorem d_X_assemble_21 : decode b_X_assemble 21 = .ok (.goto 4, 3) := by decide +kernel
theorem d_X_assemble_24 : decode b_X_assemble 24 = .ok (.iconst 0, 1) := by decide +kernel
theorem d_X_assemble_25 : decode b_X_assemble 25 = .ok (.putfield 568, 3) := by decide +kernel
theorem d_X_assemble_28 : decode b_X_assemble 28 = .ok (.aload_n 0, 1) := by decide +kernel
theorem d_X_assemble_29 : decode b_X_assemble 29 = .ok (.getfield 279, 3) := by decide +kernel
theorem d_X_assemble_32 : decode b_X_assemble 32 = .ok (.ifCond .le 13, 3) := by decide +kernel
theorem d_X_assemble_35 : decode b_X_assemble 35 = .ok (.aload_n 0, 1) := by decide +kernel
theorem d_X_assemble_36 : decode b_X_assemble 36 = .ok (.iconst (-1), 1) := by decide +kernel
theorem d_X_assemble_37 : decode b_X_assemble 37 = .ok (.putfield 40, 3) := by decide +kernel
theorem d_X_assemble_40 : decode b_X_assemble 40 = .ok (.aload_n 0, 1) := by decide +kernel
theorem d_X_assemble_41 : decode b_X_assemble 41 = .ok (.getfield 279, 3) := by decide +kernel
theorem d_X_assemble_44 : decode b_X_assemble 44 = .ok (.ireturn, 1) := by decide +kernel
theorem d_X_assemble_45 : decode b_X_assemble 45 = .ok (.iconst 0, 1) := by decide +kernel
theorem d_X_assemble_46 : decode b_X_assemble 46 = .ok (.istore_n 1, 1) := by decide +kernel
theorem d_X_assemble_47 : decode b_X_assemble 47 = .ok (.iload_n 1, 1) := by decide +kernel
theorem d_X_assemble_48 : decode b_X_assemble 48 = .ok (.aload_n 0, 1) := by decide +kernel
theorem d_X_assemble_49 : decode b_X_assemble 49 = .ok (.getfield 356, 3) := by decide +kernel
theorem d_X_assemble_52 : decode b_X_assemble 52 = .ok (.if_icmp .ge 43, 3) := by decide +kernel
theorem d_X_assemble_55 : decode b_X_assemble 55 = .ok (.aload_n 0, 1) := by decide +kernel
theorem d_X_assemble_56 : decode b_X_assemble 56 = .ok (.getfield 7, 3) := by decide +kernel
theorem d_X_assemble_59 : decode b_X_assemble 59 = .ok (.aload_n 0, 1) := by decide +kernel
theorem d_X_assemble_60 : decode b_X_assemble 60 = .ok (.getfield 61, 3) := by decide +kernel
theorem d_X_assemble_63 : decode b_X_assemble 63 = .ok (.iload_n 1, 1) := by decide +kernel
theorem d_X_assemble_64 : decode b_X_assemble 64 = .ok (.iaload, 1) := by decide +kernel
theorem d_X_assemble_65 : decode b_X_assemble 65 = .ok (.aload_n 0, 1) := by decide +kernel
theorem d_X_assemble_66 : decode b_X_assemble 66 = .ok (.getfield 64, 3) := by decide +kernel
theorem d_X_assemble_69 : decode b_X_assemble 69 = .ok (.iload_n 1, 1) := by decide +kernel
theorem d_X_assemble_70 : decode b_X_assemble 70 = .ok (.iaload, 1) := by decide +kernel
theorem d_X_assemble_71 : decode b_X_assemble 71 = .ok (.iastore, 1) := by decide +kernel
theorem d_X_assemble_72 : decode b_X_assemble 72 = .ok (.aload_n 0, 1) := by decide +kernel
theorem d_X_assemble_73 : decode b_X_assemble 73 = .ok (.getfield 13, 3) := by decide +kernel
theorem d_X_assemble_76 : decode b_X_assemble 76 = .ok (.aload_n 0, 1) := by decide +kernel
theorem d_X_assemble_77 : decode b_X_assemble 77 = .ok (.getfield 61, 3) := by decide +kernel
theorem d_X_assemble_80 : decode b_X_assemble 80 = .ok (.iload_n 1, 1) := by decide +kernel
theorem d_X_assemble_81 : decode b_X_assemble 81 = .ok (.iaload, 1) := by decide +kernel
theorem d_X_assemble_82 : decode b_X_assemble 82 = .ok (.aload_n 0, 1) := by decide +kernel
theorem d_X_assemble_83 : decode b_X_assemble 83 = .ok (.getfield 67, 3) := by decide +kernel
theorem d_X_assemble_86 : decode b_X_assemble 86 = .ok (.iload_n 1, 1) := by decide +kernel
theorem d_X_assemble_87 : decode b_X_assemble 87 = .ok (.iaload, 1) := by decide +kernel
theorem d_X_assemble_88 : decode b_X_assemble 88 = .ok (.iastore, 1) := by decide +kernel
theorem d_X_assemble_89 : decode b_X_assemble 89 = .ok (.iinc 1 1, 3) := by decide +kernel
theorem d_X_assemble_92 : decode b_X_assemble 92 = .ok (.goto (-45), 3) := by decide +kernel
theorem d_X_assemble_95 : decode b_X_assemble 95 = .ok (.aload_n 0, 1) := by decide +kernel
theorem d_X_assemble_96 : decode b_X_assemble 96 = .ok (.aload_n 0, 1) := by decide +kernel
theorem d_X_assemble_97 : decode b_X_assemble 97 = .ok (.getfield 514, 3) := by decide +kernel
theorem d_X_assemble_100 : decode b_X_assemble 100 = .ok (.putfield 110, 3) := by decide +kernel
theorem d_X_assemble_103 : decode b_X_assemble 103 = .ok (.iconst 0, 1) := by decide +kernel
theorem d_X_assemble_104 : decode b_X_assemble 104 = .ok (.ireturn, 1) := by decide +kernel
abbrev b_X_readText : ByteArray := prog_11_method_85_code
abbrev y_X_readText : MethodName := ⟨"SignMachineModel", "readText", "()V"⟩
theorem h_X_readText : (y_X_readText).cls ≠ "java/lang/invoke/MethodHandle" ∧ (y_X_readText).cls ≠ "java/lang/invoke/VarHandle" ∧ (parseMethodDescriptor (y_X_readText).desc).map (fun d => d.parameters.length) = some 0 := by decide +kernel
theorem d_X_readText_0 : decode b_X_readText 0 = .ok (.aload_n 0, 1) := by decide +kernel
theorem d_X_readText_1 : decode b_X_readText 1 = .ok (.iconst 0, 1) := by decide +kernel
theorem d_X_readText_2 : decode b_X_readText 2 = .ok (.putfield 279, 3) := by decide +kernel
theorem d_X_readText_5 : decode b_X_readText 5 = .ok (.aload_n 0, 1) := by decide +kernel
theorem d_X_readText_6 : decode b_X_readText 6 = .ok (.iconst 0, 1) := by decide +kernel
theorem d_X_readText_7 : decode b_X_readText 7 = .ok (.putfield 312, 3) := by decide +kernel
theorem d_X_readText_10 : decode b_X_readText 10 = .ok (.aload_n 0, 1) := by decide +kernel
theorem d_X_readText_11 : decode b_X_readText 11 = .ok (.iconst 0, 1) := by decide +kernel
theorem d_X_readText_12 : decode b_X_readText 12 = .ok (.putfield 356, 3) := by decide +kernel
theorem d_X_readText_15 : decode b_X_readText 15 = .ok (.aload_n 0, 1) := by decide +kernel
theorem d_X_readText_16 : decode b_X_readText 16 = .ok (.iconst 0, 1) := by decide +kernel
theorem d_X_readText_17 : decode b_X_readText 17 = .ok (.putfield 392, 3) := by decide +kernel
theorem d_X_readText_20 : decode b_X_readText 20 = .ok (.aload_n 0, 1) := by decide +kernel
theorem d_X_readText_21 : decode b_X_readText 21 = .ok (.iconst 0, 1) := by decide +kernel
theorem d_X_readText_22 : decode b_X_readText 22 = .ok (.putfield 362, 3) := by decide +kernel
theorem d_X_readText_25 : decode b_X_readText 25 = .ok (.aload_n 0, 1) := by decide +kernel
theorem d_X_readText_26 : decode b_X_readText 26 = .ok (.iconst 0, 1) := by decide +kernel
theorem d_X_readText_27 : decode b_X_readText 27 = .ok (.putfield 375, 3) := by decide +kernel
theorem d_X_readText_30 : decode b_X_readText 30 = .ok (.aload_n 0, 1) := by decide +kernel
theorem d_X_readText_31 : decode b_X_readText 31 = .ok (.iconst 0, 1) := by decide +kernel
theorem d_X_readText_32 : decode b_X_readText 32 = .ok (.putfield 317, 3) := by decide +kernel
theorem d_X_readText_35 : decode b_X_readText 35 = .ok (.aload_n 0, 1) := by decide +kernel
theorem d_X_readText_36 : decode b_X_readText 36 = .ok (.iconst 0, 1) := by decide +kernel
theorem d_X_readText_37 : decode b_X_readText 37 = .ok (.putfield 395, 3) := by decide +kernel
theorem d_X_readText_40 : decode b_X_readText 40 = .ok (.aload_n 0, 1) := by decide +kernel
theorem d_X_readText_41 : decode b_X_readText 41 = .ok (.iconst 0, 1) := by decide +kernel
theorem d_X_readText_42 : decode b_X_readText 42 = .ok (.putfield 517, 3) := by decide +kernel
theorem d_X_readText_45 : decode b_X_readText 45 = .ok (.iconst 0, 1) := by decide +kernel
theorem d_X_readText_46 : decode b_X_readText 46 = .ok (.istore_n 1, 1) := by decide +kernel
theorem d_X_readText_47 : decode b_X_readText 47 = .ok (.iload_n 1, 1) := by decide +kernel
theorem d_X_readText_48 : decode b_X_readText 48 = .ok (.bipush 10, 2) := by decide +kernel
theorem d_X_readText_50 : decode b_X_readText 50 = .ok (.if_icmp .ge 16, 3) := by decide +kernel
theorem d_X_readText_53 : decode b_X_readText 53 = .ok (.aload_n 0, 1) := by decide +kernel
theorem d_X_readText_54 : decode b_X_readText 54 = .ok (.getfield 55, 3) := by decide +kernel
theorem d_X_readText_57 : decode b_X_readText 57 = .ok (.iload_n 1, 1) := by decide +kernel
theorem d_X_readText_58 : decode b_X_readText 58 = .ok (.iconst 0, 1) := by decide +kernel
theorem d_X_readText_59 : decode b_X_readText 59 = .ok (.bastore, 1) := by decide +kernel
theorem d_X_readText_60 : decode b_X_readText 60 = .ok (.iinc 1 1, 3) := by decide +kernel
theorem d_X_readText_63 : decode b_X_readText 63 = .ok (.goto (-16), 3) := by decide +kernel
theorem d_X_readText_66 : decode b_X_readText 66 = .ok (.iconst 0, 1) := by decide +kernel
theorem d_X_readText_67 : decode b_X_readText 67 = .ok (.istore_n 1, 1) := by decide +kernel
theorem d_X_readText_68 : decode b_X_readText 68 = .ok (.iload_n 1, 1) := by decide +kernel
theorem d_X_readText_69 : decode b_X_readText 69 = .ok (.aload_n 0, 1) := by decide +kernel
theorem d_X_readText_70 : decode b_X_readText 70 = .ok (.getfield 274, 3) := by decide +kernel
theorem d_X_readText_73 : decode b_X_readText 73 = .ok (.if_icmp .ge 126, 3) := by decide +kernel
theorem d_X_readText_76 : decode b_X_readText 76 = .ok (.aload_n 0, 1) := by decide +kernel
theorem d_X_readText_77 : decode b_X_readText 77 = .ok (.getfield 517, 3) := by decide +kernel
theorem d_X_readText_80 : decode b_X_readText 80 = .ok (.ifCond .ne 119, 3) := by decide +kernel
theorem d_X_readText_83 : decode b_X_readText 83 = .ok (.aload_n 0, 1) := by decide +kernel
theorem d_X_readText_84 : decode b_X_readText 84 = .ok (.getfield 279, 3) := by decide +kernel
theorem d_X_readText_87 : decode b_X_readText 87 = .ok (.ifCond .ne 112, 3) := by decide +kernel
theorem d_X_readText_90 : decode b_X_readText 90 = .ok (.aload_n 0, 1) := by decide +kernel
theorem d_X_readText_91 : decode b_X_readText 91 = .ok (.dup, 1) := by decide +kernel
theorem d_X_readText_92 : decode b_X_readText 92 = .ok (.getfield 395, 3) := by decide +kernel
theorem d_X_readText_95 : decode b_X_readText 95 = .ok (.iconst 1, 1) := by decide +kernel
theorem d_X_readText_96 : decode b_X_readText 96 = .ok (.iadd, 1) := by decide +kernel
theorem d_X_readText_97 : decode b_X_readText 97 = .ok (.putfield 395, 3) := by decide +kernel
theorem d_X_readText_100 : decode b_X_readText 100 = .ok (.aload_n 0, 1) := by decide +kernel
theorem d_X_readText_101 : decode b_X_readText 101 = .ok (.iload_n 1, 1) := by decide +kernel
theorem d_X_readText_102 : decode b_X_readText 102 = .ok (.putfield 285, 3) := by decide +kernel
theorem d_X_readText_105 : decode b_X_readText 105 = .ok (.aload_n 0, 1) := by decide +kernel
theorem d_X_readText_106 : decode b_X_readText 106 = .ok (.getfield 285, 3) := by decide +kernel
theorem d_X_readText_109 : decode b_X_readText 109 = .ok (.aload_n 0, 1) := by decide +kernel
theorem d_X_readText_110 : decode b_X_readText 110 = .ok (.getfield 274, 3) := by decide +kernel
theorem d_X_readText_113 : decode b_X_readText 113 = .ok (.if_icmp .ge 30, 3) := by decide +kernel
theorem d_X_readText_116 : decode b_X_readText 116 = .ok (.aload_n 0, 1) := by decide +kernel
theorem d_X_readText_117 : decode b_X_readText 117 = .ok (.getfield 37, 3) := by decide +kernel
theorem d_X_readText_120 : decode b_X_readText 120 = .ok (.aload_n 0, 1) := by decide +kernel
theorem d_X_readText_121 : decode b_X_readText 121 = .ok (.getfield 285, 3) := by decide +kernel
theorem d_X_readText_124 : decode b_X_readText 124 = .ok (.iaload, 1) := by decide +kernel
theorem d_X_readText_125 : decode b_X_readText 125 = .ok (.bipush 10, 2) := by decide +kernel
theorem d_X_readText_127 : decode b_X_readText 127 = .ok (.if_icmp .eq 16, 3) := by decide +kernel
theorem d_X_readText_130 : decode b_X_readText 130 = .ok (.aload_n 0, 1) := by decide +kernel
theorem d_X_readText_131 : decode b_X_readText 131 = .ok (.dup, 1) := by decide +kernel
theorem d_X_readText_132 : decode b_X_readText 132 = .ok (.getfield 285, 3) := by decide +kernel
theorem d_X_readText_135 : decode b_X_readText 135 = .ok (.iconst 1, 1) := by decide +kernel
theorem d_X_readText_136 : decode b_X_readText 136 = .ok (.iadd, 1) := by decide +kernel
theorem d_X_readText_137 : decode b_X_readText 137 = .ok (.putfield 285, 3) := by decide +kernel
theorem d_X_readText_140 : decode b_X_readText 140 = .ok (.goto (-35), 3) := by decide +kernel
theorem d_X_readText_143 : decode b_X_readText 143 = .ok (.aload_n 0, 1) := by decide +kernel
theorem d_X_readText_144 : decode b_X_readText 144 = .ok (.iload_n 1, 1) := by decide +kernel
theorem d_X_readText_145 : decode b_X_readText 145 = .ok (.putfield 282, 3) := by decide +kernel
theorem d_X_readText_148 : decode b_X_readText 148 = .ok (.aload_n 0, 1) := by decide +kernel
theorem d_X_readText_149 : decode b_X_readText 149 = .ok (.invokevirtual 556, 3) := by decide +kernel
theorem d_X_readText_152 : decode b_X_readText 152 = .ok (.ifCond .ne 37, 3) := by decide +kernel
theorem d_X_readText_155 : decode b_X_readText 155 = .ok (.aload_n 0, 1) := by decide +kernel
theorem d_X_readText_156 : decode b_X_readText 156 = .ok (.invokevirtual 559, 3) := by decide +kernel
theorem d_X_readText_159 : decode b_X_readText 159 = .ok (.aload_n 0, 1) := by decide +kernel
theorem d_X_readText_160 : decode b_X_readText 160 = .ok (.getfield 499, 3) := by decide +kernel
theorem d_X_readText_163 : decode b_X_readText 163 = .ok (.ifCond .lt 26, 3) := by decide +kernel
theorem d_X_readText_166 : decode b_X_readText 166 = .ok (.aload_n 0, 1) := by decide +kernel
theorem d_X_readText_167 : decode b_X_readText 167 = .ok (.getfield 55, 3) := by decide +kernel
theorem d_X_readText_170 : decode b_X_readText 170 = .ok (.aload_n 0, 1) := by decide +kernel
theorem d_X_readText_171 : decode b_X_readText 171 = .ok (.getfield 499, 3) := by decide +kernel
theorem d_X_readText_174 : decode b_X_readText 174 = .ok (.iconst 1, 1) := by decide +kernel
theorem d_X_readText_175 : decode b_X_readText 175 = .ok (.bastore, 1) := by decide +kernel
theorem d_X_readText_176 : decode b_X_readText 176 = .ok (.aload_n 0, 1) := by decide +kernel
theorem d_X_readText_177 : decode b_X_readText 177 = .ok (.getfield 58, 3) := by decide +kernel
theorem d_X_readText_180 : decode b_X_readText 180 = .ok (.aload_n 0, 1) := by decide +kernel
theorem d_X_readText_181 : decode b_X_readText 181 = .ok (.getfield 499, 3) := by decide +kernel
theorem d_X_readText_184 : decode b_X_readText 184 = .ok (.aload_n 0, 1) := by decide +kernel
theorem d_X_readText_185 : decode b_X_readText 185 = .ok (.getfield 502, 3) := by decide +kernel
theorem d_X_readText_188 : decode b_X_readText 188 = .ok (.lastore, 1) := by decide +kernel
theorem d_X_readText_189 : decode b_X_readText 189 = .ok (.aload_n 0, 1) := by decide +kernel
theorem d_X_readText_190 : decode b_X_readText 190 = .ok (.getfield 285, 3) := by decide +kernel
theorem d_X_readText_193 : decode b_X_readText 193 = .ok (.iconst 1, 1) := by decide +kernel
theorem d_X_readText_194 : decode b_X_readText 194 = .ok (.iadd, 1) := by decide +kernel
theorem d_X_readText_195 : decode b_X_readText 195 = .ok (.istore_n 1, 1) := by decide +kernel
theorem d_X_readText_196 : decode b_X_readText 196 = .ok (.goto (-128), 3) := by decide +kernel
theorem d_X_readText_199 : decode b_X_readText 199 = .ok (.aload_n 0, 1) := by decide +kernel
theorem d_X_readText_200 : decode b_X_readText 200 = .ok (.aload_n 0, 1) := by decide +kernel
theorem d_X_readText_201 : decode b_X_readText 201 = .ok (.getfield 395, 3) := by decide +kernel
theorem d_X_readText_204 : decode b_X_readText 204 = .ok (.putfield 553, 3) := by decide +kernel
theorem d_X_readText_207 : decode b_X_readText 207 = .ok (.aload_n 0, 1) := by decide +kernel
theorem d_X_readText_208 : decode b_X_readText 208 = .ok (.getfield 279, 3) := by decide +kernel
theorem d_X_readText_211 : decode b_X_readText 211 = .ok (.ifCond .ne 16, 3) := by decide +kernel
theorem d_X_readText_214 : decode b_X_readText 214 = .ok (.aload_n 0, 1) := by decide +kernel
theorem d_X_readText_215 : decode b_X_readText 215 = .ok (.getfield 517, 3) := by decide +kernel
theorem d_X_readText_218 : decode b_X_readText 218 = .ok (.ifCond .ne 9, 3) := by decide +kernel
theorem d_X_readText_221 : decode b_X_readText 221 = .ok (.aload_n 0, 1) := by decide +kernel
theorem d_X_readText_222 : decode b_X_readText 222 = .ok (.bipush 6, 2) := by decide +kernel
theorem d_X_readText_224 : decode b_X_readText 224 = .ok (.putfield 279, 3) := by decide +kernel
theorem d_X_readText_227 : decode b_X_readText 227 = .ok (.aload_n 0, 1) := by decide +kernel
theorem d_X_readText_228 : decode b_X_readText 228 = .ok (.getfield 279, 3) := by decide +kernel
theorem d_X_readText_231 : decode b_X_readText 231 = .ok (.ifCond .ne 7, 3) := by decide +kernel
theorem d_X_readText_234 : decode b_X_readText 234 = .ok (.aload_n 0, 1) := by decide +kernel
theorem d_X_readText_235 : decode b_X_readText 235 = .ok (.invokevirtual 562, 3) := by decide +kernel
theorem d_X_readText_238 : decode b_X_readText 238 = .ok (.return_, 1) := by decide +kernel
abbrev b_X_about : ByteArray := prog_11_method_87_code
abbrev y_X_about : MethodName := ⟨"SignMachineModel", "about", "(I)I"⟩
theorem h_X_about : (y_X_about).cls ≠ "java/lang/invoke/MethodHandle" ∧ (y_X_about).cls ≠ "java/lang/invoke/VarHandle" ∧ (parseMethodDescriptor (y_X_about).desc).map (fun d => d.parameters.length) = some 1 := by decide +kernel
theorem d_X_about_0 : decode b_X_about 0 = .ok (.iload_n 1, 1) := by decide +kernel
theorem d_X_about_1 : decode b_X_about 1 = .ok (.ifCond .ne 10, 3) := by decide +kernel
theorem d_X_about_4 : decode b_X_about 4 = .ok (.aload_n 0, 1) := by decide +kernel
theorem d_X_about_5 : decode b_X_about 5 = .ok (.getfield 568, 3) := by decide +kernel
theorem d_X_about_8 : decode b_X_about 8 = .ok (.goto 28, 3) := by decide +kernel
theorem d_X_about_11 : decode b_X_about 11 = .ok (.iload_n 1, 1) := by decide +kernel
theorem d_X_about_12 : decode b_X_about 12 = .ok (.iconst 1, 1) := by decide +kernel
theorem d_X_about_13 : decode b_X_about 13 = .ok (.if_icmp .ne 10, 3) := by decide +kernel
theorem d_X_about_16 : decode b_X_about 16 = .ok (.aload_n 0, 1) := by decide +kernel
theorem d_X_about_17 : decode b_X_about 17 = .ok (.getfield 40, 3) := by decide +kernel
theorem d_X_about_20 : decode b_X_about 20 = .ok (.goto 16, 3) := by decide +kernel
theorem d_X_about_23 : decode b_X_about 23 = .ok (.iload_n 1, 1) := by decide +kernel
theorem d_X_about_24 : decode b_X_about 24 = .ok (.iconst 2, 1) := by decide +kernel
theorem d_X_about_25 : decode b_X_about 25 = .ok (.if_icmp .ne 10, 3) := by decide +kernel
theorem d_X_about_28 : decode b_X_about 28 = .ok (.aload_n 0, 1) := by decide +kernel
theorem d_X_about_29 : decode b_X_about 29 = .ok (.getfield 274, 3) := by decide +kernel
theorem d_X_about_32 : decode b_X_about 32 = .ok (.goto 4, 3) := by decide +kernel
theorem d_X_about_35 : decode b_X_about 35 = .ok (.iconst (-1), 1) := by decide +kernel
theorem d_X_about_36 : decode b_X_about 36 = .ok (.ireturn, 1) := by decide +kernel
theorem k_0 : (Cond.selects "SignMachine$Machine" ⟨"SignMachine$Machine", "decode", "(I)V"⟩ ⟨"SignMachine$Machine", "decode", "(I)V"⟩) ∈ tb := mt 0 (by decide +kernel) rfl
theorem k_1 : (Cond.selects "SignMachine$Machine" ⟨"SignMachine$Machine", "reasonAgainst", "()I"⟩ ⟨"SignMachine$Machine", "reasonAgainst", "()I"⟩) ∈ tb := mt 1 (by decide +kernel) rfl
theorem k_2 : (Cond.selects "SignMachine$Machine" ⟨"SignMachine$Machine", "shapeCanBe", "()Z"⟩ ⟨"SignMachine$Machine", "shapeCanBe", "()Z"⟩) ∈ tb := mt 2 (by decide +kernel) rfl
theorem k_3 : (Cond.selects "SignMachine$Machine" ⟨"SignMachine$Machine", "hasFieldOfWord", "()Z"⟩ ⟨"SignMachine$Machine", "hasFieldOfWord", "()Z"⟩) ∈ tb := mt 3 (by decide +kernel) rfl
theorem k_4 : (Cond.selects "SignMachine$Machine" ⟨"SignMachine$Machine", "addressCanBe", "()Z"⟩ ⟨"SignMachine$Machine", "addressCanBe", "()Z"⟩) ∈ tb := mt 4 (by decide +kernel) rfl
theorem k_6 : (Cond.selects "SignMachine$Machine" ⟨"SignMachine$Machine", "indexCanBe", "()Z"⟩ ⟨"SignMachine$Machine", "indexCanBe", "()Z"⟩) ∈ tb := mt 6 (by decide +kernel) rfl
theorem k_9 : (Cond.selects "SignMachine$Machine" ⟨"SignMachine$Machine", "blockCanBe", "()Z"⟩ ⟨"SignMachine$Machine", "blockCanBe", "()Z"⟩) ∈ tb := mt 9 (by decide +kernel) rfl
theorem k_10 : (Cond.selects "SignMachine$Machine" ⟨"SignMachine$Machine", "duration", "()I"⟩ ⟨"SignMachine$Machine", "duration", "()I"⟩) ∈ tb := mt 10 (by decide +kernel) rfl
theorem k_11 : (Cond.selects "SignMachine$Machine" ⟨"SignMachine$Machine", "perform", "()V"⟩ ⟨"SignMachine$Machine", "perform", "()V"⟩) ∈ tb := mt 11 (by decide +kernel) rfl
theorem k_12 : (Cond.selects "SignMachine$Machine" ⟨"SignMachine$Machine", "performLow", "()V"⟩ ⟨"SignMachine$Machine", "performLow", "()V"⟩) ∈ tb := mt 12 (by decide +kernel) rfl
theorem k_33 : (Cond.selects "SignMachine" ⟨"SignMachine", "assembler", "()LSignMachine$Assembler;"⟩ ⟨"SignMachine", "assembler", "()LSignMachine$Assembler;"⟩) ∈ tb := mt 33 (by decide +kernel) rfl
theorem k_36 : (Cond.selects "SignMachine$Assembler" ⟨"SignMachine$Assembler", "fail", "(I)I"⟩ ⟨"SignMachine$Assembler", "fail", "(I)I"⟩) ∈ tb := mt 36 (by decide +kernel) rfl
theorem k_60 : (Cond.selects "SignMachineModel" ⟨"SignMachineModel", "one", "()I"⟩ ⟨"SignMachineModel", "one", "()I"⟩) ∈ tb := mt 60 (by decide +kernel) rfl
theorem k_61 : (Cond.selects "SignMachineModel" ⟨"SignMachineModel", "judge", "()I"⟩ ⟨"SignMachineModel", "judge", "()I"⟩) ∈ tb := mt 61 (by decide +kernel) rfl
theorem k_62 : (Cond.selects "SignMachineModel" ⟨"SignMachineModel", "take", "()V"⟩ ⟨"SignMachineModel", "take", "()V"⟩) ∈ tb := mt 62 (by decide +kernel) rfl
theorem k_63 : (Cond.selects "SignMachineModel" ⟨"SignMachineModel", "isFieldRight", "()Z"⟩ ⟨"SignMachineModel", "isFieldRight", "()Z"⟩) ∈ tb := mt 63 (by decide +kernel) rfl
theorem k_64 : (Cond.selects "SignMachineModel" ⟨"SignMachineModel", "areAddresses", "()Z"⟩ ⟨"SignMachineModel", "areAddresses", "()Z"⟩) ∈ tb := mt 64 (by decide +kernel) rfl
theorem k_66 : (Cond.selects "SignMachineModel" ⟨"SignMachineModel", "fitsIndex", "()Z"⟩ ⟨"SignMachineModel", "fitsIndex", "()Z"⟩) ∈ tb := mt 66 (by decide +kernel) rfl
theorem k_68 : (Cond.selects "SignMachineModel" ⟨"SignMachineModel", "isBlock", "()Z"⟩ ⟨"SignMachineModel", "isBlock", "()Z"⟩) ∈ tb := mt 68 (by decide +kernel) rfl
theorem k_69 : (Cond.selects "SignMachineModel" ⟨"SignMachineModel", "done", "()Z"⟩ ⟨"SignMachineModel", "done", "()Z"⟩) ∈ tb := mt 69 (by decide +kernel) rfl
theorem k_70 : (Cond.selects "SignMachineModel" ⟨"SignMachineModel", "passes", "(I)V"⟩ ⟨"SignMachineModel", "passes", "(I)V"⟩) ∈ tb := mt 70 (by decide +kernel) rfl
theorem k_80 : (Cond.selects "SignMachineModel" ⟨"SignMachineModel", "doFirst", "()V"⟩ ⟨"SignMachineModel", "doFirst", "()V"⟩) ∈ tb := mt 80 (by decide +kernel) rfl
theorem k_87 : (Cond.selects "SignMachineModel" ⟨"SignMachineModel", "readText", "()V"⟩ ⟨"SignMachineModel", "readText", "()V"⟩) ∈ tb := mt 87 (by decide +kernel) rfl
theorem k_116 : ((Jvm.Cond.initialized "SignMachine")) ∈ tb := mt 116 (by decide +kernel) rfl
theorem k_117 : ((Jvm.Cond.initialized "SignMachine$Machine")) ∈ tb := mt 117 (by decide +kernel) rfl
theorem k_118 : ((Jvm.Cond.initialized "SignMachine$Tape")) ∈ tb := mt 118 (by decide +kernel) rfl
theorem k_119 : ((Jvm.Cond.initialized "SignMachineModel")) ∈ tb := mt 119 (by decide +kernel) rfl
theorem k_120 : ((Jvm.Cond.initialized "SignMachine$Word")) ∈ tb := mt 120 (by decide +kernel) rfl
theorem k_123 : ((Jvm.Cond.initialized "SignMachine$Assembler")) ∈ tb := mt 123 (by decide +kernel) rfl
theorem k_124 : ((Jvm.Cond.initialized "SignMachine$Source")) ∈ tb := mt 124 (by decide +kernel) rfl
theorem k_125 : ((Jvm.Cond.initialized "SignMachine$Names")) ∈ tb := mt 125 (by decide +kernel) rfl
theorem k_126 : ((Jvm.Cond.initialized "SignMachine$Output")) ∈ tb := mt 126 (by decide +kernel) rfl
theorem k_134 : ((Jvm.Cond.classLink "SignMachineLaw" (7 : Nat) "SignMachine")) ∈ tb := mt 134 (by decide +kernel) rfl
theorem k_135 : ((Jvm.Cond.instantiable "SignMachine" (2 : Nat))) ∈ tb := mt 135 (by decide +kernel) rfl
theorem k_136 : ((Jvm.Cond.methodLink "SignMachineLaw" (9 : Nat) ({ cls := "SignMachine", name := "<init>", desc := "()V" } : Jvm.MethodName))) ∈ tb := mt 136 (by decide +kernel) rfl
theorem k_137 : ((Jvm.Cond.instanceMethod ({ cls := "SignMachine", name := "<init>", desc := "()V" } : Jvm.MethodName))) ∈ tb := mt 137 (by decide +kernel) rfl
theorem k_138 : ((Jvm.Cond.code ({ cls := "SignMachine", name := "<init>", desc := "()V" } : Jvm.MethodName) prog_1_method_1_code (1 : Nat) (Option.none : Option Jvm.ClassFile.FieldType))) ∈ tb := mt 138 (by decide +kernel) rfl
theorem k_139 : ((Jvm.Cond.methodLink "SignMachine" (1 : Nat) ({ cls := "java/lang/Object", name := "<init>", desc := "()V" } : Jvm.MethodName))) ∈ tb := mt 139 (by decide +kernel) rfl
theorem k_140 : ((Jvm.Cond.instanceMethod ({ cls := "java/lang/Object", name := "<init>", desc := "()V" } : Jvm.MethodName))) ∈ tb := mt 140 (by decide +kernel) rfl
theorem k_142 : ((Jvm.Cond.classLink "SignMachine" (7 : Nat) "SignMachine$Machine")) ∈ tb := mt 142 (by decide +kernel) rfl
theorem k_143 : ((Jvm.Cond.instantiable "SignMachine$Machine" (14 : Nat))) ∈ tb := mt 143 (by decide +kernel) rfl
theorem k_145 : ((Jvm.Cond.instanceMethod ({ cls := "SignMachine$Machine", name := "<init>", desc := "()V" } : Jvm.MethodName))) ∈ tb := mt 145 (by decide +kernel) rfl
theorem k_146 : ((Jvm.Cond.code ({ cls := "SignMachine$Machine", name := "<init>", desc := "()V" } : Jvm.MethodName) prog_3_method_1_code (1 : Nat) (Option.none : Option Jvm.ClassFile.FieldType))) ∈ tb := mt 146 (by decide +kernel) rfl
theorem k_147 : ((Jvm.Cond.methodLink "SignMachine$Machine" (3 : Nat) ({ cls := "java/lang/Object", name := "<init>", desc := "()V" } : Jvm.MethodName))) ∈ tb := mt 147 (by decide +kernel) rfl
theorem k_148 : ((Jvm.Cond.classLink "SignMachine$Machine" (18 : Nat) "SignMachine$Tape")) ∈ tb := mt 148 (by decide +kernel) rfl
theorem k_149 : ((Jvm.Cond.instantiable "SignMachine$Tape" (2 : Nat))) ∈ tb := mt 149 (by decide +kernel) rfl
theorem k_151 : ((Jvm.Cond.instanceMethod ({ cls := "SignMachine$Tape", name := "<init>", desc := "()V" } : Jvm.MethodName))) ∈ tb := mt 151 (by decide +kernel) rfl
theorem k_152 : ((Jvm.Cond.code ({ cls := "SignMachine$Tape", name := "<init>", desc := "()V" } : Jvm.MethodName) prog_8_method_1_code (1 : Nat) (Option.none : Option Jvm.ClassFile.FieldType))) ∈ tb := mt 152 (by decide +kernel) rfl
theorem k_153 : ((Jvm.Cond.methodLink "SignMachine$Tape" (1 : Nat) ({ cls := "java/lang/Object", name := "<init>", desc := "()V" } : Jvm.MethodName))) ∈ tb := mt 153 (by decide +kernel) rfl
theorem k_156 : ((Jvm.Cond.fieldLink "SignMachine$Tape" (9 : Nat) "SignMachine$Tape" "words" "[I")) ∈ tb := mt 156 (by decide +kernel) rfl
theorem k_162 : ((Jvm.Cond.arrayClass Jvm.ClassFile.FieldType.int)) ∈ tb := mt 162 (by decide +kernel) rfl
theorem k_163 : ((Jvm.Cond.fieldLink "SignMachine$Machine" (9 : Nat) "SignMachine$Machine" "memory" "[I")) ∈ tb := mt 163 (by decide +kernel) rfl
theorem k_164 : ((Jvm.Cond.fieldLink "SignMachine$Machine" (15 : Nat) "SignMachine$Machine" "registers" "[I")) ∈ tb := mt 164 (by decide +kernel) rfl
theorem k_165 : ((Jvm.Cond.fieldLink "SignMachine$Machine" (21 : Nat) "SignMachine$Machine" "firstTape" "LSignMachine$Tape;")) ∈ tb := mt 165 (by decide +kernel) rfl
theorem k_166 : ((Jvm.Cond.fieldLink "SignMachine$Machine" (25 : Nat) "SignMachine$Machine" "secondTape" "LSignMachine$Tape;")) ∈ tb := mt 166 (by decide +kernel) rfl
theorem k_172 : ((Jvm.Cond.fieldLink "SignMachine$Machine" (51 : Nat) "SignMachine$Machine" "time" "I")) ∈ tb := mt 172 (by decide +kernel) rfl
theorem k_174 : ((Jvm.Cond.fieldLink "SignMachine$Machine" (32 : Nat) "SignMachine$Machine" "next" "I")) ∈ tb := mt 174 (by decide +kernel) rfl
theorem k_176 : ((Jvm.Cond.fieldLink "SignMachine$Machine" (61 : Nat) "SignMachine$Machine" "code" "I")) ∈ tb := mt 176 (by decide +kernel) rfl
theorem k_177 : ((Jvm.Cond.fieldLink "SignMachine$Machine" (64 : Nat) "SignMachine$Machine" "field" "I")) ∈ tb := mt 177 (by decide +kernel) rfl
theorem k_178 : ((Jvm.Cond.fieldLink "SignMachine$Machine" (72 : Nat) "SignMachine$Machine" "index" "I")) ∈ tb := mt 178 (by decide +kernel) rfl
theorem k_179 : ((Jvm.Cond.fieldLink "SignMachine$Machine" (81 : Nat) "SignMachine$Machine" "m" "I")) ∈ tb := mt 179 (by decide +kernel) rfl
theorem k_180 : ((Jvm.Cond.fieldLink "SignMachine$Machine" (78 : Nat) "SignMachine$Machine" "signOfZero" "I")) ∈ tb := mt 180 (by decide +kernel) rfl
theorem k_210 : ((Jvm.Cond.fieldLink "SignMachine" (10 : Nat) "SignMachine" "machine" "LSignMachine$Machine;")) ∈ tb := mt 210 (by decide +kernel) rfl
theorem k_211 : ((Jvm.Cond.fieldLink "SignMachine" (167 : Nat) "SignMachine" "assembler" "LSignMachine$Assembler;")) ∈ tb := mt 211 (by decide +kernel) rfl
theorem k_217 : ((Jvm.Cond.methodLink "SignMachineLaw" (13 : Nat) ({ cls := "SignMachine", name := "poke", desc := "(III)Z" } : Jvm.MethodName))) ∈ tb := mt 217 (by decide +kernel) rfl
theorem k_218 : ((Jvm.Cond.instanceMethod ({ cls := "SignMachine", name := "poke", desc := "(III)Z" } : Jvm.MethodName))) ∈ tb := mt 218 (by decide +kernel) rfl
theorem k_219 : ((Jvm.Cond.selects "SignMachine" ({ cls := "SignMachine", name := "poke", desc := "(III)Z" } : Jvm.MethodName) ({ cls := "SignMachine", name := "poke", desc := "(III)Z" } : Jvm.MethodName))) ∈ tb := mt 219 (by decide +kernel) rfl
theorem k_220 : ((Jvm.Cond.code ({ cls := "SignMachine", name := "poke", desc := "(III)Z" } : Jvm.MethodName) prog_1_method_2_code (4 : Nat) (Option.some Jvm.ClassFile.FieldType.boolean))) ∈ tb := mt 220 (by decide +kernel) rfl
theorem k_221 : ((Jvm.Cond.methodLink "SignMachine" (16 : Nat) ({ cls := "SignMachine$Machine", name := "isAddress", desc := "(I)Z" } : Jvm.MethodName))) ∈ tb := mt 221 (by decide +kernel) rfl
theorem k_222 : ((Jvm.Cond.static ({ cls := "SignMachine$Machine", name := "isAddress", desc := "(I)Z" } : Jvm.MethodName))) ∈ tb := mt 222 (by decide +kernel) rfl
theorem k_223 : ((Jvm.Cond.code ({ cls := "SignMachine$Machine", name := "isAddress", desc := "(I)Z" } : Jvm.MethodName) prog_3_method_2_code (1 : Nat) (Option.some Jvm.ClassFile.FieldType.boolean))) ∈ tb := mt 223 (by decide +kernel) rfl
theorem k_224 : ((Jvm.Cond.methodLink "SignMachine" (20 : Nat) ({ cls := "SignMachine$Word", name := "isWord", desc := "(II)Z" } : Jvm.MethodName))) ∈ tb := mt 224 (by decide +kernel) rfl
theorem k_225 : ((Jvm.Cond.static ({ cls := "SignMachine$Word", name := "isWord", desc := "(II)Z" } : Jvm.MethodName))) ∈ tb := mt 225 (by decide +kernel) rfl
theorem k_226 : ((Jvm.Cond.code ({ cls := "SignMachine$Word", name := "isWord", desc := "(II)Z" } : Jvm.MethodName) prog_9_method_2_code (2 : Nat) (Option.some Jvm.ClassFile.FieldType.boolean))) ∈ tb := mt 226 (by decide +kernel) rfl
theorem k_227 : ((Jvm.Cond.constant "SignMachine$Word" (9 : Nat) (1073741823 : Int32))) ∈ tb := mt 227 (by decide +kernel) rfl
theorem k_228 : ((Jvm.Cond.methodLink "SignMachine" (26 : Nat) ({ cls := "SignMachine$Word", name := "make", desc := "(II)I" } : Jvm.MethodName))) ∈ tb := mt 228 (by decide +kernel) rfl
theorem k_229 : ((Jvm.Cond.static ({ cls := "SignMachine$Word", name := "make", desc := "(II)I" } : Jvm.MethodName))) ∈ tb := mt 229 (by decide +kernel) rfl
theorem k_230 : ((Jvm.Cond.code ({ cls := "SignMachine$Word", name := "make", desc := "(II)I" } : Jvm.MethodName) prog_9_method_3_code (2 : Nat) (Option.some Jvm.ClassFile.FieldType.int))) ∈ tb := mt 230 (by decide +kernel) rfl
theorem k_231 : ((Jvm.Cond.constant "SignMachine$Word" (10 : Nat) (1073741824 : Int32))) ∈ tb := mt 231 (by decide +kernel) rfl
theorem k_232 : ((Jvm.Cond.methodLink "SignMachine" (30 : Nat) ({ cls := "SignMachine$Machine", name := "putWord", desc := "(II)V" } : Jvm.MethodName))) ∈ tb := mt 232 (by decide +kernel) rfl
theorem k_233 : ((Jvm.Cond.instanceMethod ({ cls := "SignMachine$Machine", name := "putWord", desc := "(II)V" } : Jvm.MethodName))) ∈ tb := mt 233 (by decide +kernel) rfl
theorem k_234 : ((Jvm.Cond.selects "SignMachine$Machine" ({ cls := "SignMachine$Machine", name := "putWord", desc := "(II)V" } : Jvm.MethodName) ({ cls := "SignMachine$Machine", name := "putWord", desc := "(II)V" } : Jvm.MethodName))) ∈ tb := mt 234 (by decide +kernel) rfl
theorem k_235 : ((Jvm.Cond.code ({ cls := "SignMachine$Machine", name := "putWord", desc := "(II)V" } : Jvm.MethodName) prog_3_method_7_code (3 : Nat) (Option.none : Option Jvm.ClassFile.FieldType))) ∈ tb := mt 235 (by decide +kernel) rfl
theorem k_236 : ((Jvm.Cond.methodLink "SignMachineLaw" (18 : Nat) ({ cls := "SignMachine", name := "peekSign", desc := "(I)I" } : Jvm.MethodName))) ∈ tb := mt 236 (by decide +kernel) rfl
theorem k_237 : ((Jvm.Cond.instanceMethod ({ cls := "SignMachine", name := "peekSign", desc := "(I)I" } : Jvm.MethodName))) ∈ tb := mt 237 (by decide +kernel) rfl
theorem k_238 : ((Jvm.Cond.selects "SignMachine" ({ cls := "SignMachine", name := "peekSign", desc := "(I)I" } : Jvm.MethodName) ({ cls := "SignMachine", name := "peekSign", desc := "(I)I" } : Jvm.MethodName))) ∈ tb := mt 238 (by decide +kernel) rfl
theorem k_239 : ((Jvm.Cond.code ({ cls := "SignMachine", name := "peekSign", desc := "(I)I" } : Jvm.MethodName) prog_1_method_3_code (2 : Nat) (Option.some Jvm.ClassFile.FieldType.int))) ∈ tb := mt 239 (by decide +kernel) rfl
theorem k_240 : ((Jvm.Cond.methodLink "SignMachine" (34 : Nat) ({ cls := "SignMachine$Machine", name := "wordAt", desc := "(I)I" } : Jvm.MethodName))) ∈ tb := mt 240 (by decide +kernel) rfl
theorem k_241 : ((Jvm.Cond.instanceMethod ({ cls := "SignMachine$Machine", name := "wordAt", desc := "(I)I" } : Jvm.MethodName))) ∈ tb := mt 241 (by decide +kernel) rfl
theorem k_242 : ((Jvm.Cond.selects "SignMachine$Machine" ({ cls := "SignMachine$Machine", name := "wordAt", desc := "(I)I" } : Jvm.MethodName) ({ cls := "SignMachine$Machine", name := "wordAt", desc := "(I)I" } : Jvm.MethodName))) ∈ tb := mt 242 (by decide +kernel) rfl
theorem k_243 : ((Jvm.Cond.code ({ cls := "SignMachine$Machine", name := "wordAt", desc := "(I)I" } : Jvm.MethodName) prog_3_method_6_code (2 : Nat) (Option.some Jvm.ClassFile.FieldType.int))) ∈ tb := mt 243 (by decide +kernel) rfl
theorem k_244 : ((Jvm.Cond.methodLink "SignMachine" (38 : Nat) ({ cls := "SignMachine$Word", name := "sign", desc := "(I)I" } : Jvm.MethodName))) ∈ tb := mt 244 (by decide +kernel) rfl
theorem k_245 : ((Jvm.Cond.static ({ cls := "SignMachine$Word", name := "sign", desc := "(I)I" } : Jvm.MethodName))) ∈ tb := mt 245 (by decide +kernel) rfl
theorem k_246 : ((Jvm.Cond.code ({ cls := "SignMachine$Word", name := "sign", desc := "(I)I" } : Jvm.MethodName) prog_9_method_4_code (1 : Nat) (Option.some Jvm.ClassFile.FieldType.int))) ∈ tb := mt 246 (by decide +kernel) rfl
theorem k_247 : ((Jvm.Cond.methodLink "SignMachineLaw" (23 : Nat) ({ cls := "SignMachine", name := "peekSize", desc := "(I)I" } : Jvm.MethodName))) ∈ tb := mt 247 (by decide +kernel) rfl
theorem k_248 : ((Jvm.Cond.instanceMethod ({ cls := "SignMachine", name := "peekSize", desc := "(I)I" } : Jvm.MethodName))) ∈ tb := mt 248 (by decide +kernel) rfl
theorem k_249 : ((Jvm.Cond.selects "SignMachine" ({ cls := "SignMachine", name := "peekSize", desc := "(I)I" } : Jvm.MethodName) ({ cls := "SignMachine", name := "peekSize", desc := "(I)I" } : Jvm.MethodName))) ∈ tb := mt 249 (by decide +kernel) rfl
theorem k_250 : ((Jvm.Cond.code ({ cls := "SignMachine", name := "peekSize", desc := "(I)I" } : Jvm.MethodName) prog_1_method_4_code (2 : Nat) (Option.some Jvm.ClassFile.FieldType.int))) ∈ tb := mt 250 (by decide +kernel) rfl
theorem k_251 : ((Jvm.Cond.methodLink "SignMachine" (41 : Nat) ({ cls := "SignMachine$Word", name := "size", desc := "(I)I" } : Jvm.MethodName))) ∈ tb := mt 251 (by decide +kernel) rfl
theorem k_252 : ((Jvm.Cond.static ({ cls := "SignMachine$Word", name := "size", desc := "(I)I" } : Jvm.MethodName))) ∈ tb := mt 252 (by decide +kernel) rfl
theorem k_253 : ((Jvm.Cond.code ({ cls := "SignMachine$Word", name := "size", desc := "(I)I" } : Jvm.MethodName) prog_9_method_5_code (1 : Nat) (Option.some Jvm.ClassFile.FieldType.int))) ∈ tb := mt 253 (by decide +kernel) rfl
theorem k_254 : ((Jvm.Cond.methodLink "SignMachineLaw" (27 : Nat) ({ cls := "SignMachine", name := "step", desc := "()I" } : Jvm.MethodName))) ∈ tb := mt 254 (by decide +kernel) rfl
theorem k_255 : ((Jvm.Cond.instanceMethod ({ cls := "SignMachine", name := "step", desc := "()I" } : Jvm.MethodName))) ∈ tb := mt 255 (by decide +kernel) rfl
theorem k_256 : ((Jvm.Cond.selects "SignMachine" ({ cls := "SignMachine", name := "step", desc := "()I" } : Jvm.MethodName) ({ cls := "SignMachine", name := "step", desc := "()I" } : Jvm.MethodName))) ∈ tb := mt 256 (by decide +kernel) rfl
theorem k_257 : ((Jvm.Cond.code ({ cls := "SignMachine", name := "step", desc := "()I" } : Jvm.MethodName) prog_1_method_5_code (1 : Nat) (Option.some Jvm.ClassFile.FieldType.int))) ∈ tb := mt 257 (by decide +kernel) rfl
theorem k_258 : ((Jvm.Cond.methodLink "SignMachine" (44 : Nat) ({ cls := "SignMachine$Machine", name := "execute", desc := "()I" } : Jvm.MethodName))) ∈ tb := mt 258 (by decide +kernel) rfl
theorem k_259 : ((Jvm.Cond.instanceMethod ({ cls := "SignMachine$Machine", name := "execute", desc := "()I" } : Jvm.MethodName))) ∈ tb := mt 259 (by decide +kernel) rfl
theorem k_260 : ((Jvm.Cond.selects "SignMachine$Machine" ({ cls := "SignMachine$Machine", name := "execute", desc := "()I" } : Jvm.MethodName) ({ cls := "SignMachine$Machine", name := "execute", desc := "()I" } : Jvm.MethodName))) ∈ tb := mt 260 (by decide +kernel) rfl
theorem k_261 : ((Jvm.Cond.code ({ cls := "SignMachine$Machine", name := "execute", desc := "()I" } : Jvm.MethodName) prog_3_method_11_code (2 : Nat) (Option.some Jvm.ClassFile.FieldType.int))) ∈ tb := mt 261 (by decide +kernel) rfl
theorem k_262 : ((Jvm.Cond.methodLink "SignMachine$Machine" (36 : Nat) ({ cls := "SignMachine$Machine", name := "isAddress", desc := "(I)Z" } : Jvm.MethodName))) ∈ tb := mt 262 (by decide +kernel) rfl
theorem k_263 : ((Jvm.Cond.methodLink "SignMachine$Machine" (39 : Nat) ({ cls := "SignMachine$Machine", name := "wordAt", desc := "(I)I" } : Jvm.MethodName))) ∈ tb := mt 263 (by decide +kernel) rfl
theorem k_264 : ((Jvm.Cond.methodLink "SignMachine$Machine" (43 : Nat) ({ cls := "SignMachine$Machine", name := "decode", desc := "(I)V" } : Jvm.MethodName))) ∈ tb := mt 264 (by decide +kernel) rfl
theorem k_266 : ((Jvm.Cond.instanceMethod ({ cls := "SignMachine$Machine", name := "decode", desc := "(I)V" } : Jvm.MethodName))) ∈ tb := mt 266 (by decide +kernel) rfl
theorem k_267 : ((Jvm.Cond.code ({ cls := "SignMachine$Machine", name := "decode", desc := "(I)V" } : Jvm.MethodName) prog_3_method_12_code (4 : Nat) (Option.none : Option Jvm.ClassFile.FieldType))) ∈ tb := mt 267 (by decide +kernel) rfl
theorem k_268 : ((Jvm.Cond.methodLink "SignMachine$Machine" (67 : Nat) ({ cls := "SignMachine$Word", name := "size", desc := "(I)I" } : Jvm.MethodName))) ∈ tb := mt 268 (by decide +kernel) rfl
theorem k_269 : ((Jvm.Cond.methodLink "SignMachine$Machine" (75 : Nat) ({ cls := "SignMachine$Word", name := "sign", desc := "(I)I" } : Jvm.MethodName))) ∈ tb := mt 269 (by decide +kernel) rfl
theorem k_270 : ((Jvm.Cond.methodLink "SignMachine$Machine" (28 : Nat) ({ cls := "SignMachine$Machine", name := "isIndex", desc := "(I)Z" } : Jvm.MethodName))) ∈ tb := mt 270 (by decide +kernel) rfl
theorem k_271 : ((Jvm.Cond.static ({ cls := "SignMachine$Machine", name := "isIndex", desc := "(I)Z" } : Jvm.MethodName))) ∈ tb := mt 271 (by decide +kernel) rfl
theorem k_272 : ((Jvm.Cond.code ({ cls := "SignMachine$Machine", name := "isIndex", desc := "(I)Z" } : Jvm.MethodName) prog_3_method_4_code (1 : Nat) (Option.some Jvm.ClassFile.FieldType.boolean))) ∈ tb := mt 272 (by decide +kernel) rfl
theorem k_274 : ((Jvm.Cond.instanceMethod ({ cls := "SignMachine$Machine", name := "register", desc := "(I)I" } : Jvm.MethodName))) ∈ tb := mt 274 (by decide +kernel) rfl
theorem k_275 : ((Jvm.Cond.selects "SignMachine$Machine" ({ cls := "SignMachine$Machine", name := "register", desc := "(I)I" } : Jvm.MethodName) ({ cls := "SignMachine$Machine", name := "register", desc := "(I)I" } : Jvm.MethodName))) ∈ tb := mt 275 (by decide +kernel) rfl
theorem k_276 : ((Jvm.Cond.code ({ cls := "SignMachine$Machine", name := "register", desc := "(I)I" } : Jvm.MethodName) prog_3_method_8_code (2 : Nat) (Option.some Jvm.ClassFile.FieldType.int))) ∈ tb := mt 276 (by decide +kernel) rfl
theorem k_278 : ((Jvm.Cond.static ({ cls := "SignMachine$Word", name := "number", desc := "(I)I" } : Jvm.MethodName))) ∈ tb := mt 278 (by decide +kernel) rfl
theorem k_279 : ((Jvm.Cond.code ({ cls := "SignMachine$Word", name := "number", desc := "(I)I" } : Jvm.MethodName) prog_9_method_6_code (1 : Nat) (Option.some Jvm.ClassFile.FieldType.int))) ∈ tb := mt 279 (by decide +kernel) rfl
theorem k_280 : ((Jvm.Cond.methodLink "SignMachine$Machine" (47 : Nat) ({ cls := "SignMachine$Machine", name := "reasonAgainst", desc := "()I" } : Jvm.MethodName))) ∈ tb := mt 280 (by decide +kernel) rfl
theorem k_282 : ((Jvm.Cond.instanceMethod ({ cls := "SignMachine$Machine", name := "reasonAgainst", desc := "()I" } : Jvm.MethodName))) ∈ tb := mt 282 (by decide +kernel) rfl
theorem k_283 : ((Jvm.Cond.code ({ cls := "SignMachine$Machine", name := "reasonAgainst", desc := "()I" } : Jvm.MethodName) prog_3_method_13_code (1 : Nat) (Option.some Jvm.ClassFile.FieldType.int))) ∈ tb := mt 283 (by decide +kernel) rfl
theorem k_284 : ((Jvm.Cond.methodLink "SignMachine$Machine" (90 : Nat) ({ cls := "SignMachine$Machine", name := "shapeCanBe", desc := "()Z" } : Jvm.MethodName))) ∈ tb := mt 284 (by decide +kernel) rfl
theorem k_286 : ((Jvm.Cond.instanceMethod ({ cls := "SignMachine$Machine", name := "shapeCanBe", desc := "()Z" } : Jvm.MethodName))) ∈ tb := mt 286 (by decide +kernel) rfl
theorem k_287 : ((Jvm.Cond.code ({ cls := "SignMachine$Machine", name := "shapeCanBe", desc := "()Z" } : Jvm.MethodName) prog_3_method_15_code (1 : Nat) (Option.some Jvm.ClassFile.FieldType.boolean))) ∈ tb := mt 287 (by decide +kernel) rfl
theorem k_288 : ((Jvm.Cond.methodLink "SignMachine$Machine" (103 : Nat) ({ cls := "SignMachine$Machine", name := "hasFieldOfWord", desc := "()Z" } : Jvm.MethodName))) ∈ tb := mt 288 (by decide +kernel) rfl
theorem k_290 : ((Jvm.Cond.instanceMethod ({ cls := "SignMachine$Machine", name := "hasFieldOfWord", desc := "()Z" } : Jvm.MethodName))) ∈ tb := mt 290 (by decide +kernel) rfl
theorem k_291 : ((Jvm.Cond.code ({ cls := "SignMachine$Machine", name := "hasFieldOfWord", desc := "()Z" } : Jvm.MethodName) prog_3_method_14_code (1 : Nat) (Option.some Jvm.ClassFile.FieldType.boolean))) ∈ tb := mt 291 (by decide +kernel) rfl
theorem k_295 : ((Jvm.Cond.methodLink "SignMachine$Machine" (94 : Nat) ({ cls := "SignMachine$Machine", name := "addressCanBe", desc := "()Z" } : Jvm.MethodName))) ∈ tb := mt 295 (by decide +kernel) rfl
theorem k_297 : ((Jvm.Cond.instanceMethod ({ cls := "SignMachine$Machine", name := "addressCanBe", desc := "()Z" } : Jvm.MethodName))) ∈ tb := mt 297 (by decide +kernel) rfl
theorem k_298 : ((Jvm.Cond.code ({ cls := "SignMachine$Machine", name := "addressCanBe", desc := "()Z" } : Jvm.MethodName) prog_3_method_16_code (1 : Nat) (Option.some Jvm.ClassFile.FieldType.boolean))) ∈ tb := mt 298 (by decide +kernel) rfl
theorem k_306 : ((Jvm.Cond.methodLink "SignMachine$Machine" (97 : Nat) ({ cls := "SignMachine$Machine", name := "indexCanBe", desc := "()Z" } : Jvm.MethodName))) ∈ tb := mt 306 (by decide +kernel) rfl
theorem k_308 : ((Jvm.Cond.instanceMethod ({ cls := "SignMachine$Machine", name := "indexCanBe", desc := "()Z" } : Jvm.MethodName))) ∈ tb := mt 308 (by decide +kernel) rfl
theorem k_309 : ((Jvm.Cond.code ({ cls := "SignMachine$Machine", name := "indexCanBe", desc := "()Z" } : Jvm.MethodName) prog_3_method_19_code (1 : Nat) (Option.some Jvm.ClassFile.FieldType.boolean))) ∈ tb := mt 309 (by decide +kernel) rfl
theorem k_333 : ((Jvm.Cond.methodLink "SignMachine$Machine" (100 : Nat) ({ cls := "SignMachine$Machine", name := "blockCanBe", desc := "()Z" } : Jvm.MethodName))) ∈ tb := mt 333 (by decide +kernel) rfl
theorem k_335 : ((Jvm.Cond.instanceMethod ({ cls := "SignMachine$Machine", name := "blockCanBe", desc := "()Z" } : Jvm.MethodName))) ∈ tb := mt 335 (by decide +kernel) rfl
theorem k_336 : ((Jvm.Cond.code ({ cls := "SignMachine$Machine", name := "blockCanBe", desc := "()Z" } : Jvm.MethodName) prog_3_method_20_code (2 : Nat) (Option.some Jvm.ClassFile.FieldType.boolean))) ∈ tb := mt 336 (by decide +kernel) rfl
theorem k_338 : ((Jvm.Cond.instanceMethod ({ cls := "SignMachine$Machine", name := "unit", desc := "(I)LSignMachine$Tape;" } : Jvm.MethodName))) ∈ tb := mt 338 (by decide +kernel) rfl
theorem k_339 : ((Jvm.Cond.selects "SignMachine$Machine" ({ cls := "SignMachine$Machine", name := "unit", desc := "(I)LSignMachine$Tape;" } : Jvm.MethodName) ({ cls := "SignMachine$Machine", name := "unit", desc := "(I)LSignMachine$Tape;" } : Jvm.MethodName))) ∈ tb := mt 339 (by decide +kernel) rfl
theorem k_340 : ((Jvm.Cond.code ({ cls := "SignMachine$Machine", name := "unit", desc := "(I)LSignMachine$Tape;" } : Jvm.MethodName) prog_3_method_10_code (2 : Nat) (Option.some (Jvm.ClassFile.FieldType.object "SignMachine$Tape")))) ∈ tb := mt 340 (by decide +kernel) rfl
theorem k_341 : ((Jvm.Cond.methodLink "SignMachine$Machine" (54 : Nat) ({ cls := "SignMachine$Machine", name := "duration", desc := "()I" } : Jvm.MethodName))) ∈ tb := mt 341 (by decide +kernel) rfl
theorem k_343 : ((Jvm.Cond.instanceMethod ({ cls := "SignMachine$Machine", name := "duration", desc := "()I" } : Jvm.MethodName))) ∈ tb := mt 343 (by decide +kernel) rfl
theorem k_344 : ((Jvm.Cond.code ({ cls := "SignMachine$Machine", name := "duration", desc := "()I" } : Jvm.MethodName) prog_3_method_21_code (1 : Nat) (Option.some Jvm.ClassFile.FieldType.int))) ∈ tb := mt 344 (by decide +kernel) rfl
theorem k_345 : ((Jvm.Cond.constant "SignMachine$Machine" (57 : Nat) (1073741823 : Int32))) ∈ tb := mt 345 (by decide +kernel) rfl
theorem k_346 : ((Jvm.Cond.methodLink "SignMachine$Machine" (58 : Nat) ({ cls := "SignMachine$Machine", name := "perform", desc := "()V" } : Jvm.MethodName))) ∈ tb := mt 346 (by decide +kernel) rfl
theorem k_348 : ((Jvm.Cond.instanceMethod ({ cls := "SignMachine$Machine", name := "perform", desc := "()V" } : Jvm.MethodName))) ∈ tb := mt 348 (by decide +kernel) rfl
theorem k_349 : ((Jvm.Cond.code ({ cls := "SignMachine$Machine", name := "perform", desc := "()V" } : Jvm.MethodName) prog_3_method_23_code (1 : Nat) (Option.none : Option Jvm.ClassFile.FieldType))) ∈ tb := mt 349 (by decide +kernel) rfl
theorem k_350 : ((Jvm.Cond.methodLink "SignMachine$Machine" (137 : Nat) ({ cls := "SignMachine$Machine", name := "performLow", desc := "()V" } : Jvm.MethodName))) ∈ tb := mt 350 (by decide +kernel) rfl
theorem k_352 : ((Jvm.Cond.instanceMethod ({ cls := "SignMachine$Machine", name := "performLow", desc := "()V" } : Jvm.MethodName))) ∈ tb := mt 352 (by decide +kernel) rfl
theorem k_353 : ((Jvm.Cond.code ({ cls := "SignMachine$Machine", name := "performLow", desc := "()V" } : Jvm.MethodName) prog_3_method_24_code (1 : Nat) (Option.none : Option Jvm.ClassFile.FieldType))) ∈ tb := mt 353 (by decide +kernel) rfl
theorem k_363 : ((Jvm.Cond.instanceMethod ({ cls := "SignMachine$Machine", name := "putRegister", desc := "(II)V" } : Jvm.MethodName))) ∈ tb := mt 363 (by decide +kernel) rfl
theorem k_364 : ((Jvm.Cond.selects "SignMachine$Machine" ({ cls := "SignMachine$Machine", name := "putRegister", desc := "(II)V" } : Jvm.MethodName) ({ cls := "SignMachine$Machine", name := "putRegister", desc := "(II)V" } : Jvm.MethodName))) ∈ tb := mt 364 (by decide +kernel) rfl
theorem k_365 : ((Jvm.Cond.code ({ cls := "SignMachine$Machine", name := "putRegister", desc := "(II)V" } : Jvm.MethodName) prog_3_method_9_code (3 : Nat) (Option.none : Option Jvm.ClassFile.FieldType))) ∈ tb := mt 365 (by decide +kernel) rfl
theorem k_434 : ((Jvm.Cond.instanceMethod ({ cls := "SignMachine$Tape", name := "wordAt", desc := "(II)I" } : Jvm.MethodName))) ∈ tb := mt 434 (by decide +kernel) rfl
theorem k_435 : ((Jvm.Cond.selects "SignMachine$Tape" ({ cls := "SignMachine$Tape", name := "wordAt", desc := "(II)I" } : Jvm.MethodName) ({ cls := "SignMachine$Tape", name := "wordAt", desc := "(II)I" } : Jvm.MethodName))) ∈ tb := mt 435 (by decide +kernel) rfl
theorem k_436 : ((Jvm.Cond.code ({ cls := "SignMachine$Tape", name := "wordAt", desc := "(II)I" } : Jvm.MethodName) prog_8_method_3_code (3 : Nat) (Option.some Jvm.ClassFile.FieldType.int))) ∈ tb := mt 436 (by decide +kernel) rfl
theorem k_438 : ((Jvm.Cond.static ({ cls := "SignMachine$Tape", name := "isWord", desc := "(II)Z" } : Jvm.MethodName))) ∈ tb := mt 438 (by decide +kernel) rfl
theorem k_439 : ((Jvm.Cond.code ({ cls := "SignMachine$Tape", name := "isWord", desc := "(II)Z" } : Jvm.MethodName) prog_8_method_2_code (2 : Nat) (Option.some Jvm.ClassFile.FieldType.boolean))) ∈ tb := mt 439 (by decide +kernel) rfl
theorem k_471 : ((Jvm.Cond.methodLink "SignMachineLaw" (32 : Nat) ({ cls := "SignMachine", name := "run", desc := "(I)I" } : Jvm.MethodName))) ∈ tb := mt 471 (by decide +kernel) rfl
theorem k_472 : ((Jvm.Cond.instanceMethod ({ cls := "SignMachine", name := "run", desc := "(I)I" } : Jvm.MethodName))) ∈ tb := mt 472 (by decide +kernel) rfl
theorem k_473 : ((Jvm.Cond.selects "SignMachine" ({ cls := "SignMachine", name := "run", desc := "(I)I" } : Jvm.MethodName) ({ cls := "SignMachine", name := "run", desc := "(I)I" } : Jvm.MethodName))) ∈ tb := mt 473 (by decide +kernel) rfl
theorem k_474 : ((Jvm.Cond.code ({ cls := "SignMachine", name := "run", desc := "(I)I" } : Jvm.MethodName) prog_1_method_6_code (5 : Nat) (Option.some Jvm.ClassFile.FieldType.int))) ∈ tb := mt 474 (by decide +kernel) rfl
theorem k_475 : ((Jvm.Cond.methodLink "SignMachineLaw" (36 : Nat) ({ cls := "SignMachine", name := "registerSign", desc := "(I)I" } : Jvm.MethodName))) ∈ tb := mt 475 (by decide +kernel) rfl
theorem k_476 : ((Jvm.Cond.instanceMethod ({ cls := "SignMachine", name := "registerSign", desc := "(I)I" } : Jvm.MethodName))) ∈ tb := mt 476 (by decide +kernel) rfl
theorem k_477 : ((Jvm.Cond.selects "SignMachine" ({ cls := "SignMachine", name := "registerSign", desc := "(I)I" } : Jvm.MethodName) ({ cls := "SignMachine", name := "registerSign", desc := "(I)I" } : Jvm.MethodName))) ∈ tb := mt 477 (by decide +kernel) rfl
theorem k_478 : ((Jvm.Cond.code ({ cls := "SignMachine", name := "registerSign", desc := "(I)I" } : Jvm.MethodName) prog_1_method_7_code (2 : Nat) (Option.some Jvm.ClassFile.FieldType.int))) ∈ tb := mt 478 (by decide +kernel) rfl
theorem k_479 : ((Jvm.Cond.methodLink "SignMachine" (52 : Nat) ({ cls := "SignMachine$Machine", name := "isRegister", desc := "(I)Z" } : Jvm.MethodName))) ∈ tb := mt 479 (by decide +kernel) rfl
theorem k_480 : ((Jvm.Cond.static ({ cls := "SignMachine$Machine", name := "isRegister", desc := "(I)Z" } : Jvm.MethodName))) ∈ tb := mt 480 (by decide +kernel) rfl
theorem k_481 : ((Jvm.Cond.code ({ cls := "SignMachine$Machine", name := "isRegister", desc := "(I)Z" } : Jvm.MethodName) prog_3_method_3_code (1 : Nat) (Option.some Jvm.ClassFile.FieldType.boolean))) ∈ tb := mt 481 (by decide +kernel) rfl
theorem k_482 : ((Jvm.Cond.methodLink "SignMachine" (55 : Nat) ({ cls := "SignMachine$Machine", name := "register", desc := "(I)I" } : Jvm.MethodName))) ∈ tb := mt 482 (by decide +kernel) rfl
theorem k_483 : ((Jvm.Cond.methodLink "SignMachineLaw" (40 : Nat) ({ cls := "SignMachine", name := "registerSize", desc := "(I)I" } : Jvm.MethodName))) ∈ tb := mt 483 (by decide +kernel) rfl
theorem k_484 : ((Jvm.Cond.instanceMethod ({ cls := "SignMachine", name := "registerSize", desc := "(I)I" } : Jvm.MethodName))) ∈ tb := mt 484 (by decide +kernel) rfl
theorem k_485 : ((Jvm.Cond.selects "SignMachine" ({ cls := "SignMachine", name := "registerSize", desc := "(I)I" } : Jvm.MethodName) ({ cls := "SignMachine", name := "registerSize", desc := "(I)I" } : Jvm.MethodName))) ∈ tb := mt 485 (by decide +kernel) rfl
theorem k_486 : ((Jvm.Cond.code ({ cls := "SignMachine", name := "registerSize", desc := "(I)I" } : Jvm.MethodName) prog_1_method_8_code (2 : Nat) (Option.some Jvm.ClassFile.FieldType.int))) ∈ tb := mt 486 (by decide +kernel) rfl
theorem k_487 : ((Jvm.Cond.methodLink "SignMachineLaw" (44 : Nat) ({ cls := "SignMachine", name := "set", desc := "(III)Z" } : Jvm.MethodName))) ∈ tb := mt 487 (by decide +kernel) rfl
theorem k_488 : ((Jvm.Cond.instanceMethod ({ cls := "SignMachine", name := "set", desc := "(III)Z" } : Jvm.MethodName))) ∈ tb := mt 488 (by decide +kernel) rfl
theorem k_489 : ((Jvm.Cond.selects "SignMachine" ({ cls := "SignMachine", name := "set", desc := "(III)Z" } : Jvm.MethodName) ({ cls := "SignMachine", name := "set", desc := "(III)Z" } : Jvm.MethodName))) ∈ tb := mt 489 (by decide +kernel) rfl
theorem k_490 : ((Jvm.Cond.code ({ cls := "SignMachine", name := "set", desc := "(III)Z" } : Jvm.MethodName) prog_1_method_9_code (4 : Nat) (Option.some Jvm.ClassFile.FieldType.boolean))) ∈ tb := mt 490 (by decide +kernel) rfl
theorem k_491 : ((Jvm.Cond.methodLink "SignMachine" (58 : Nat) ({ cls := "SignMachine$Machine", name := "isShort", desc := "(I)Z" } : Jvm.MethodName))) ∈ tb := mt 491 (by decide +kernel) rfl
theorem k_492 : ((Jvm.Cond.static ({ cls := "SignMachine$Machine", name := "isShort", desc := "(I)Z" } : Jvm.MethodName))) ∈ tb := mt 492 (by decide +kernel) rfl
theorem k_493 : ((Jvm.Cond.code ({ cls := "SignMachine$Machine", name := "isShort", desc := "(I)Z" } : Jvm.MethodName) prog_3_method_5_code (1 : Nat) (Option.some Jvm.ClassFile.FieldType.boolean))) ∈ tb := mt 493 (by decide +kernel) rfl
theorem k_494 : ((Jvm.Cond.methodLink "SignMachine" (61 : Nat) ({ cls := "SignMachine$Machine", name := "putRegister", desc := "(II)V" } : Jvm.MethodName))) ∈ tb := mt 494 (by decide +kernel) rfl
theorem k_495 : ((Jvm.Cond.methodLink "SignMachineLaw" (48 : Nat) ({ cls := "SignMachine", name := "state", desc := "(I)I" } : Jvm.MethodName))) ∈ tb := mt 495 (by decide +kernel) rfl
theorem k_496 : ((Jvm.Cond.instanceMethod ({ cls := "SignMachine", name := "state", desc := "(I)I" } : Jvm.MethodName))) ∈ tb := mt 496 (by decide +kernel) rfl
theorem k_497 : ((Jvm.Cond.selects "SignMachine" ({ cls := "SignMachine", name := "state", desc := "(I)I" } : Jvm.MethodName) ({ cls := "SignMachine", name := "state", desc := "(I)I" } : Jvm.MethodName))) ∈ tb := mt 497 (by decide +kernel) rfl
theorem k_498 : ((Jvm.Cond.code ({ cls := "SignMachine", name := "state", desc := "(I)I" } : Jvm.MethodName) prog_1_method_10_code (2 : Nat) (Option.some Jvm.ClassFile.FieldType.int))) ∈ tb := mt 498 (by decide +kernel) rfl
theorem k_499 : ((Jvm.Cond.methodLink "SignMachine" (77 : Nat) ({ cls := "SignMachine$Machine", name := "unit", desc := "(I)LSignMachine$Tape;" } : Jvm.MethodName))) ∈ tb := mt 499 (by decide +kernel) rfl
theorem k_500 : ((Jvm.Cond.methodLink "SignMachineLaw" (52 : Nat) ({ cls := "SignMachine", name := "go", desc := "(I)Z" } : Jvm.MethodName))) ∈ tb := mt 500 (by decide +kernel) rfl
theorem k_501 : ((Jvm.Cond.instanceMethod ({ cls := "SignMachine", name := "go", desc := "(I)Z" } : Jvm.MethodName))) ∈ tb := mt 501 (by decide +kernel) rfl
theorem k_502 : ((Jvm.Cond.selects "SignMachine" ({ cls := "SignMachine", name := "go", desc := "(I)Z" } : Jvm.MethodName) ({ cls := "SignMachine", name := "go", desc := "(I)Z" } : Jvm.MethodName))) ∈ tb := mt 502 (by decide +kernel) rfl
theorem k_503 : ((Jvm.Cond.code ({ cls := "SignMachine", name := "go", desc := "(I)Z" } : Jvm.MethodName) prog_1_method_11_code (2 : Nat) (Option.some Jvm.ClassFile.FieldType.boolean))) ∈ tb := mt 503 (by decide +kernel) rfl
theorem k_504 : ((Jvm.Cond.methodLink "SignMachineLaw" (57 : Nat) ({ cls := "SignMachine", name := "tape", desc := "(III)I" } : Jvm.MethodName))) ∈ tb := mt 504 (by decide +kernel) rfl
theorem k_505 : ((Jvm.Cond.instanceMethod ({ cls := "SignMachine", name := "tape", desc := "(III)I" } : Jvm.MethodName))) ∈ tb := mt 505 (by decide +kernel) rfl
theorem k_506 : ((Jvm.Cond.selects "SignMachine" ({ cls := "SignMachine", name := "tape", desc := "(III)I" } : Jvm.MethodName) ({ cls := "SignMachine", name := "tape", desc := "(III)I" } : Jvm.MethodName))) ∈ tb := mt 506 (by decide +kernel) rfl
theorem k_507 : ((Jvm.Cond.code ({ cls := "SignMachine", name := "tape", desc := "(III)I" } : Jvm.MethodName) prog_1_method_12_code (5 : Nat) (Option.some Jvm.ClassFile.FieldType.int))) ∈ tb := mt 507 (by decide +kernel) rfl
theorem k_508 : ((Jvm.Cond.methodLink "SignMachine" (86 : Nat) ({ cls := "SignMachine$Tape", name := "isWord", desc := "(II)Z" } : Jvm.MethodName))) ∈ tb := mt 508 (by decide +kernel) rfl
theorem k_509 : ((Jvm.Cond.constant "SignMachine" (87 : Nat) (-2000000000 : Int32))) ∈ tb := mt 509 (by decide +kernel) rfl
theorem k_510 : ((Jvm.Cond.methodLink "SignMachine" (88 : Nat) ({ cls := "SignMachine$Tape", name := "wordAt", desc := "(II)I" } : Jvm.MethodName))) ∈ tb := mt 510 (by decide +kernel) rfl
theorem k_511 : ((Jvm.Cond.constant "SignMachine" (90 : Nat) (1073741824 : Int32))) ∈ tb := mt 511 (by decide +kernel) rfl
theorem k_513 : ((Jvm.Cond.methodLink "SignMachine" (92 : Nat) ({ cls := "SignMachine$Word", name := "number", desc := "(I)I" } : Jvm.MethodName))) ∈ tb := mt 513 (by decide +kernel) rfl
theorem k_514 : ((Jvm.Cond.methodLink "SignMachineLaw" (62 : Nat) ({ cls := "SignMachine", name := "feed", desc := "(IIIII)I" } : Jvm.MethodName))) ∈ tb := mt 514 (by decide +kernel) rfl
theorem k_515 : ((Jvm.Cond.instanceMethod ({ cls := "SignMachine", name := "feed", desc := "(IIIII)I" } : Jvm.MethodName))) ∈ tb := mt 515 (by decide +kernel) rfl
theorem k_516 : ((Jvm.Cond.selects "SignMachine" ({ cls := "SignMachine", name := "feed", desc := "(IIIII)I" } : Jvm.MethodName) ({ cls := "SignMachine", name := "feed", desc := "(IIIII)I" } : Jvm.MethodName))) ∈ tb := mt 516 (by decide +kernel) rfl
theorem k_517 : ((Jvm.Cond.code ({ cls := "SignMachine", name := "feed", desc := "(IIIII)I" } : Jvm.MethodName) prog_1_method_13_code (7 : Nat) (Option.some Jvm.ClassFile.FieldType.int))) ∈ tb := mt 517 (by decide +kernel) rfl
theorem k_518 : ((Jvm.Cond.methodLink "SignMachine" (95 : Nat) ({ cls := "SignMachine", name := "assembler", desc := "()LSignMachine$Assembler;" } : Jvm.MethodName))) ∈ tb := mt 518 (by decide +kernel) rfl
theorem k_520 : ((Jvm.Cond.instanceMethod ({ cls := "SignMachine", name := "assembler", desc := "()LSignMachine$Assembler;" } : Jvm.MethodName))) ∈ tb := mt 520 (by decide +kernel) rfl
theorem k_521 : ((Jvm.Cond.code ({ cls := "SignMachine", name := "assembler", desc := "()LSignMachine$Assembler;" } : Jvm.MethodName) prog_1_method_18_code (1 : Nat) (Option.some (Jvm.ClassFile.FieldType.object "SignMachine$Assembler")))) ∈ tb := mt 521 (by decide +kernel) rfl
theorem k_522 : ((Jvm.Cond.classLink "SignMachine" (100 : Nat) "SignMachine$Assembler")) ∈ tb := mt 522 (by decide +kernel) rfl
theorem k_523 : ((Jvm.Cond.instantiable "SignMachine$Assembler" (15 : Nat))) ∈ tb := mt 523 (by decide +kernel) rfl
theorem k_525 : ((Jvm.Cond.instanceMethod ({ cls := "SignMachine$Assembler", name := "<init>", desc := "()V" } : Jvm.MethodName))) ∈ tb := mt 525 (by decide +kernel) rfl
theorem k_526 : ((Jvm.Cond.code ({ cls := "SignMachine$Assembler", name := "<init>", desc := "()V" } : Jvm.MethodName) prog_2_method_1_code (1 : Nat) (Option.none : Option Jvm.ClassFile.FieldType))) ∈ tb := mt 526 (by decide +kernel) rfl
theorem k_527 : ((Jvm.Cond.methodLink "SignMachine$Assembler" (3 : Nat) ({ cls := "java/lang/Object", name := "<init>", desc := "()V" } : Jvm.MethodName))) ∈ tb := mt 527 (by decide +kernel) rfl
theorem k_528 : ((Jvm.Cond.classLink "SignMachine$Assembler" (9 : Nat) "SignMachine$Source")) ∈ tb := mt 528 (by decide +kernel) rfl
theorem k_529 : ((Jvm.Cond.instantiable "SignMachine$Source" (9 : Nat))) ∈ tb := mt 529 (by decide +kernel) rfl
theorem k_531 : ((Jvm.Cond.instanceMethod ({ cls := "SignMachine$Source", name := "<init>", desc := "()V" } : Jvm.MethodName))) ∈ tb := mt 531 (by decide +kernel) rfl
theorem k_532 : ((Jvm.Cond.code ({ cls := "SignMachine$Source", name := "<init>", desc := "()V" } : Jvm.MethodName) prog_7_method_1_code (1 : Nat) (Option.none : Option Jvm.ClassFile.FieldType))) ∈ tb := mt 532 (by decide +kernel) rfl
theorem k_533 : ((Jvm.Cond.methodLink "SignMachine$Source" (1 : Nat) ({ cls := "java/lang/Object", name := "<init>", desc := "()V" } : Jvm.MethodName))) ∈ tb := mt 533 (by decide +kernel) rfl
theorem k_534 : ((Jvm.Cond.fieldLink "SignMachine$Source" (9 : Nat) "SignMachine$Source" "bytes" "[B")) ∈ tb := mt 534 (by decide +kernel) rfl
theorem k_535 : ((Jvm.Cond.fieldLink "SignMachine$Source" (13 : Nat) "SignMachine$Source" "length" "I")) ∈ tb := mt 535 (by decide +kernel) rfl
theorem k_538 : ((Jvm.Cond.fieldLink "SignMachine$Source" (17 : Nat) "SignMachine$Source" "line" "I")) ∈ tb := mt 538 (by decide +kernel) rfl
theorem k_543 : ((Jvm.Cond.fieldLink "SignMachine$Source" (20 : Nat) "SignMachine$Source" "following" "I")) ∈ tb := mt 543 (by decide +kernel) rfl
theorem k_569 : ((Jvm.Cond.arrayClass Jvm.ClassFile.FieldType.byte)) ∈ tb := mt 569 (by decide +kernel) rfl
theorem k_570 : ((Jvm.Cond.classLink "SignMachine$Assembler" (18 : Nat) "SignMachine$Names")) ∈ tb := mt 570 (by decide +kernel) rfl
theorem k_571 : ((Jvm.Cond.instantiable "SignMachine$Names" (7 : Nat))) ∈ tb := mt 571 (by decide +kernel) rfl
theorem k_573 : ((Jvm.Cond.instanceMethod ({ cls := "SignMachine$Names", name := "<init>", desc := "()V" } : Jvm.MethodName))) ∈ tb := mt 573 (by decide +kernel) rfl
theorem k_574 : ((Jvm.Cond.code ({ cls := "SignMachine$Names", name := "<init>", desc := "()V" } : Jvm.MethodName) prog_4_method_1_code (1 : Nat) (Option.none : Option Jvm.ClassFile.FieldType))) ∈ tb := mt 574 (by decide +kernel) rfl
theorem k_575 : ((Jvm.Cond.methodLink "SignMachine$Names" (5 : Nat) ({ cls := "java/lang/Object", name := "<init>", desc := "()V" } : Jvm.MethodName))) ∈ tb := mt 575 (by decide +kernel) rfl
theorem k_576 : ((Jvm.Cond.fieldLink "SignMachine$Names" (11 : Nat) "SignMachine$Names" "names" "[J")) ∈ tb := mt 576 (by decide +kernel) rfl
theorem k_577 : ((Jvm.Cond.fieldLink "SignMachine$Names" (15 : Nat) "SignMachine$Names" "values" "[I")) ∈ tb := mt 577 (by decide +kernel) rfl
theorem k_578 : ((Jvm.Cond.fieldLink "SignMachine$Names" (19 : Nat) "SignMachine$Names" "told" "[Z")) ∈ tb := mt 578 (by decide +kernel) rfl
theorem k_579 : ((Jvm.Cond.fieldLink "SignMachine$Names" (23 : Nat) "SignMachine$Names" "localValues" "[I")) ∈ tb := mt 579 (by decide +kernel) rfl
theorem k_580 : ((Jvm.Cond.fieldLink "SignMachine$Names" (26 : Nat) "SignMachine$Names" "localTold" "[Z")) ∈ tb := mt 580 (by decide +kernel) rfl
theorem k_581 : ((Jvm.Cond.fieldLink "SignMachine$Names" (35 : Nat) "SignMachine$Names" "count" "I")) ∈ tb := mt 581 (by decide +kernel) rfl
theorem k_583 : ((Jvm.Cond.fieldLink "SignMachine$Names" (39 : Nat) "SignMachine$Names" "symbols" "I")) ∈ tb := mt 583 (by decide +kernel) rfl
theorem k_599 : ((Jvm.Cond.arrayClass Jvm.ClassFile.FieldType.long)) ∈ tb := mt 599 (by decide +kernel) rfl
theorem k_600 : ((Jvm.Cond.arrayClass Jvm.ClassFile.FieldType.boolean)) ∈ tb := mt 600 (by decide +kernel) rfl
theorem k_601 : ((Jvm.Cond.classLink "SignMachine$Assembler" (25 : Nat) "SignMachine$Output")) ∈ tb := mt 601 (by decide +kernel) rfl
theorem k_602 : ((Jvm.Cond.instantiable "SignMachine$Output" (7 : Nat))) ∈ tb := mt 602 (by decide +kernel) rfl
theorem k_604 : ((Jvm.Cond.instanceMethod ({ cls := "SignMachine$Output", name := "<init>", desc := "()V" } : Jvm.MethodName))) ∈ tb := mt 604 (by decide +kernel) rfl
theorem k_605 : ((Jvm.Cond.code ({ cls := "SignMachine$Output", name := "<init>", desc := "()V" } : Jvm.MethodName) prog_6_method_1_code (1 : Nat) (Option.none : Option Jvm.ClassFile.FieldType))) ∈ tb := mt 605 (by decide +kernel) rfl
theorem k_606 : ((Jvm.Cond.methodLink "SignMachine$Output" (7 : Nat) ({ cls := "java/lang/Object", name := "<init>", desc := "()V" } : Jvm.MethodName))) ∈ tb := mt 606 (by decide +kernel) rfl
theorem k_607 : ((Jvm.Cond.fieldLink "SignMachine$Output" (15 : Nat) "SignMachine$Output" "places" "[I")) ∈ tb := mt 607 (by decide +kernel) rfl
theorem k_608 : ((Jvm.Cond.fieldLink "SignMachine$Output" (19 : Nat) "SignMachine$Output" "words" "[I")) ∈ tb := mt 608 (by decide +kernel) rfl
theorem k_609 : ((Jvm.Cond.fieldLink "SignMachine$Output" (22 : Nat) "SignMachine$Output" "lines" "[I")) ∈ tb := mt 609 (by decide +kernel) rfl
theorem k_610 : ((Jvm.Cond.fieldLink "SignMachine$Output" (25 : Nat) "SignMachine$Output" "kinds" "[B")) ∈ tb := mt 610 (by decide +kernel) rfl
theorem k_611 : ((Jvm.Cond.fieldLink "SignMachine$Output" (29 : Nat) "SignMachine$Output" "goals" "[I")) ∈ tb := mt 611 (by decide +kernel) rfl
theorem k_612 : ((Jvm.Cond.fieldLink "SignMachine$Output" (32 : Nat) "SignMachine$Output" "lastOpen" "[I")) ∈ tb := mt 612 (by decide +kernel) rfl
theorem k_613 : ((Jvm.Cond.fieldLink "SignMachine$Output" (35 : Nat) "SignMachine$Output" "count" "I")) ∈ tb := mt 613 (by decide +kernel) rfl
theorem k_631 : ((Jvm.Cond.fieldLink "SignMachine$Assembler" (12 : Nat) "SignMachine$Assembler" "source" "LSignMachine$Source;")) ∈ tb := mt 631 (by decide +kernel) rfl
theorem k_633 : ((Jvm.Cond.fieldLink "SignMachine$Assembler" (21 : Nat) "SignMachine$Assembler" "names" "LSignMachine$Names;")) ∈ tb := mt 633 (by decide +kernel) rfl
theorem k_634 : ((Jvm.Cond.fieldLink "SignMachine$Assembler" (28 : Nat) "SignMachine$Assembler" "output" "LSignMachine$Output;")) ∈ tb := mt 634 (by decide +kernel) rfl
theorem k_636 : ((Jvm.Cond.fieldLink "SignMachine$Assembler" (43 : Nat) "SignMachine$Assembler" "fault" "I")) ∈ tb := mt 636 (by decide +kernel) rfl
theorem k_638 : ((Jvm.Cond.fieldLink "SignMachine$Assembler" (46 : Nat) "SignMachine$Assembler" "faultLine" "I")) ∈ tb := mt 638 (by decide +kernel) rfl
theorem k_640 : ((Jvm.Cond.fieldLink "SignMachine$Assembler" (32 : Nat) "SignMachine$Assembler" "firstFree" "I")) ∈ tb := mt 640 (by decide +kernel) rfl
theorem k_644 : ((Jvm.Cond.fieldLink "SignMachine$Assembler" (49 : Nat) "SignMachine$Assembler" "place" "I")) ∈ tb := mt 644 (by decide +kernel) rfl
theorem k_645 : ((Jvm.Cond.fieldLink "SignMachine$Assembler" (52 : Nat) "SignMachine$Assembler" "ended" "Z")) ∈ tb := mt 645 (by decide +kernel) rfl
theorem k_683 : ((Jvm.Cond.methodLink "SignMachine" (105 : Nat) ({ cls := "SignMachine$Source", name := "hasRoom", desc := "()Z" } : Jvm.MethodName))) ∈ tb := mt 683 (by decide +kernel) rfl
theorem k_684 : ((Jvm.Cond.instanceMethod ({ cls := "SignMachine$Source", name := "hasRoom", desc := "()Z" } : Jvm.MethodName))) ∈ tb := mt 684 (by decide +kernel) rfl
theorem k_685 : ((Jvm.Cond.selects "SignMachine$Source" ({ cls := "SignMachine$Source", name := "hasRoom", desc := "()Z" } : Jvm.MethodName) ({ cls := "SignMachine$Source", name := "hasRoom", desc := "()Z" } : Jvm.MethodName))) ∈ tb := mt 685 (by decide +kernel) rfl
theorem k_686 : ((Jvm.Cond.code ({ cls := "SignMachine$Source", name := "hasRoom", desc := "()Z" } : Jvm.MethodName) prog_7_method_2_code (1 : Nat) (Option.some Jvm.ClassFile.FieldType.boolean))) ∈ tb := mt 686 (by decide +kernel) rfl
theorem k_687 : ((Jvm.Cond.methodLink "SignMachine" (111 : Nat) ({ cls := "SignMachine$Source", name := "append", desc := "(I)V" } : Jvm.MethodName))) ∈ tb := mt 687 (by decide +kernel) rfl
theorem k_688 : ((Jvm.Cond.instanceMethod ({ cls := "SignMachine$Source", name := "append", desc := "(I)V" } : Jvm.MethodName))) ∈ tb := mt 688 (by decide +kernel) rfl
theorem k_689 : ((Jvm.Cond.selects "SignMachine$Source" ({ cls := "SignMachine$Source", name := "append", desc := "(I)V" } : Jvm.MethodName) ({ cls := "SignMachine$Source", name := "append", desc := "(I)V" } : Jvm.MethodName))) ∈ tb := mt 689 (by decide +kernel) rfl
theorem k_690 : ((Jvm.Cond.code ({ cls := "SignMachine$Source", name := "append", desc := "(I)V" } : Jvm.MethodName) prog_7_method_3_code (3 : Nat) (Option.none : Option Jvm.ClassFile.FieldType))) ∈ tb := mt 690 (by decide +kernel) rfl
theorem k_691 : ((Jvm.Cond.methodLink "SignMachineLaw" (67 : Nat) ({ cls := "SignMachine", name := "end", desc := "(I)I" } : Jvm.MethodName))) ∈ tb := mt 691 (by decide +kernel) rfl
theorem k_692 : ((Jvm.Cond.instanceMethod ({ cls := "SignMachine", name := "end", desc := "(I)I" } : Jvm.MethodName))) ∈ tb := mt 692 (by decide +kernel) rfl
theorem k_693 : ((Jvm.Cond.selects "SignMachine" ({ cls := "SignMachine", name := "end", desc := "(I)I" } : Jvm.MethodName) ({ cls := "SignMachine", name := "end", desc := "(I)I" } : Jvm.MethodName))) ∈ tb := mt 693 (by decide +kernel) rfl
theorem k_694 : ((Jvm.Cond.code ({ cls := "SignMachine", name := "end", desc := "(I)I" } : Jvm.MethodName) prog_1_method_14_code (3 : Nat) (Option.some Jvm.ClassFile.FieldType.int))) ∈ tb := mt 694 (by decide +kernel) rfl
theorem k_695 : ((Jvm.Cond.methodLink "SignMachineLaw" (71 : Nat) ({ cls := "SignMachine", name := "assemble", desc := "()I" } : Jvm.MethodName))) ∈ tb := mt 695 (by decide +kernel) rfl
theorem k_696 : ((Jvm.Cond.instanceMethod ({ cls := "SignMachine", name := "assemble", desc := "()I" } : Jvm.MethodName))) ∈ tb := mt 696 (by decide +kernel) rfl
theorem k_697 : ((Jvm.Cond.selects "SignMachine" ({ cls := "SignMachine", name := "assemble", desc := "()I" } : Jvm.MethodName) ({ cls := "SignMachine", name := "assemble", desc := "()I" } : Jvm.MethodName))) ∈ tb := mt 697 (by decide +kernel) rfl
theorem k_698 : ((Jvm.Cond.code ({ cls := "SignMachine", name := "assemble", desc := "()I" } : Jvm.MethodName) prog_1_method_15_code (3 : Nat) (Option.some Jvm.ClassFile.FieldType.int))) ∈ tb := mt 698 (by decide +kernel) rfl
theorem k_699 : ((Jvm.Cond.methodLink "SignMachine" (118 : Nat) ({ cls := "SignMachine$Assembler", name := "begin", desc := "()V" } : Jvm.MethodName))) ∈ tb := mt 699 (by decide +kernel) rfl
theorem k_700 : ((Jvm.Cond.instanceMethod ({ cls := "SignMachine$Assembler", name := "begin", desc := "()V" } : Jvm.MethodName))) ∈ tb := mt 700 (by decide +kernel) rfl
theorem k_701 : ((Jvm.Cond.selects "SignMachine$Assembler" ({ cls := "SignMachine$Assembler", name := "begin", desc := "()V" } : Jvm.MethodName) ({ cls := "SignMachine$Assembler", name := "begin", desc := "()V" } : Jvm.MethodName))) ∈ tb := mt 701 (by decide +kernel) rfl
theorem k_702 : ((Jvm.Cond.code ({ cls := "SignMachine$Assembler", name := "begin", desc := "()V" } : Jvm.MethodName) prog_2_method_2_code (1 : Nat) (Option.none : Option Jvm.ClassFile.FieldType))) ∈ tb := mt 702 (by decide +kernel) rfl
theorem k_703 : ((Jvm.Cond.methodLink "SignMachine$Assembler" (36 : Nat) ({ cls := "SignMachine$Source", name := "begin", desc := "()V" } : Jvm.MethodName))) ∈ tb := mt 703 (by decide +kernel) rfl
theorem k_704 : ((Jvm.Cond.instanceMethod ({ cls := "SignMachine$Source", name := "begin", desc := "()V" } : Jvm.MethodName))) ∈ tb := mt 704 (by decide +kernel) rfl
theorem k_705 : ((Jvm.Cond.selects "SignMachine$Source" ({ cls := "SignMachine$Source", name := "begin", desc := "()V" } : Jvm.MethodName) ({ cls := "SignMachine$Source", name := "begin", desc := "()V" } : Jvm.MethodName))) ∈ tb := mt 705 (by decide +kernel) rfl
theorem k_706 : ((Jvm.Cond.code ({ cls := "SignMachine$Source", name := "begin", desc := "()V" } : Jvm.MethodName) prog_7_method_4_code (1 : Nat) (Option.none : Option Jvm.ClassFile.FieldType))) ∈ tb := mt 706 (by decide +kernel) rfl
theorem k_707 : ((Jvm.Cond.methodLink "SignMachine$Assembler" (39 : Nat) ({ cls := "SignMachine$Names", name := "clear", desc := "()V" } : Jvm.MethodName))) ∈ tb := mt 707 (by decide +kernel) rfl
theorem k_708 : ((Jvm.Cond.instanceMethod ({ cls := "SignMachine$Names", name := "clear", desc := "()V" } : Jvm.MethodName))) ∈ tb := mt 708 (by decide +kernel) rfl
theorem k_709 : ((Jvm.Cond.selects "SignMachine$Names" ({ cls := "SignMachine$Names", name := "clear", desc := "()V" } : Jvm.MethodName) ({ cls := "SignMachine$Names", name := "clear", desc := "()V" } : Jvm.MethodName))) ∈ tb := mt 709 (by decide +kernel) rfl
theorem k_710 : ((Jvm.Cond.code ({ cls := "SignMachine$Names", name := "clear", desc := "()V" } : Jvm.MethodName) prog_4_method_6_code (2 : Nat) (Option.none : Option Jvm.ClassFile.FieldType))) ∈ tb := mt 710 (by decide +kernel) rfl
theorem k_711 : ((Jvm.Cond.methodLink "SignMachine$Assembler" (42 : Nat) ({ cls := "SignMachine$Output", name := "clear", desc := "()V" } : Jvm.MethodName))) ∈ tb := mt 711 (by decide +kernel) rfl
theorem k_712 : ((Jvm.Cond.instanceMethod ({ cls := "SignMachine$Output", name := "clear", desc := "()V" } : Jvm.MethodName))) ∈ tb := mt 712 (by decide +kernel) rfl
theorem k_713 : ((Jvm.Cond.selects "SignMachine$Output" ({ cls := "SignMachine$Output", name := "clear", desc := "()V" } : Jvm.MethodName) ({ cls := "SignMachine$Output", name := "clear", desc := "()V" } : Jvm.MethodName))) ∈ tb := mt 713 (by decide +kernel) rfl
theorem k_714 : ((Jvm.Cond.code ({ cls := "SignMachine$Output", name := "clear", desc := "()V" } : Jvm.MethodName) prog_6_method_2_code (2 : Nat) (Option.none : Option Jvm.ClassFile.FieldType))) ∈ tb := mt 714 (by decide +kernel) rfl
theorem k_715 : ((Jvm.Cond.methodLink "SignMachine" (121 : Nat) ({ cls := "SignMachine$Assembler", name := "hasLine", desc := "()Z" } : Jvm.MethodName))) ∈ tb := mt 715 (by decide +kernel) rfl
theorem k_716 : ((Jvm.Cond.instanceMethod ({ cls := "SignMachine$Assembler", name := "hasLine", desc := "()Z" } : Jvm.MethodName))) ∈ tb := mt 716 (by decide +kernel) rfl
theorem k_717 : ((Jvm.Cond.selects "SignMachine$Assembler" ({ cls := "SignMachine$Assembler", name := "hasLine", desc := "()Z" } : Jvm.MethodName) ({ cls := "SignMachine$Assembler", name := "hasLine", desc := "()Z" } : Jvm.MethodName))) ∈ tb := mt 717 (by decide +kernel) rfl
theorem k_718 : ((Jvm.Cond.code ({ cls := "SignMachine$Assembler", name := "hasLine", desc := "()Z" } : Jvm.MethodName) prog_2_method_3_code (1 : Nat) (Option.some Jvm.ClassFile.FieldType.boolean))) ∈ tb := mt 718 (by decide +kernel) rfl
theorem k_719 : ((Jvm.Cond.methodLink "SignMachine$Assembler" (56 : Nat) ({ cls := "SignMachine$Source", name := "hasLine", desc := "()Z" } : Jvm.MethodName))) ∈ tb := mt 719 (by decide +kernel) rfl
theorem k_720 : ((Jvm.Cond.instanceMethod ({ cls := "SignMachine$Source", name := "hasLine", desc := "()Z" } : Jvm.MethodName))) ∈ tb := mt 720 (by decide +kernel) rfl
theorem k_721 : ((Jvm.Cond.selects "SignMachine$Source" ({ cls := "SignMachine$Source", name := "hasLine", desc := "()Z" } : Jvm.MethodName) ({ cls := "SignMachine$Source", name := "hasLine", desc := "()Z" } : Jvm.MethodName))) ∈ tb := mt 721 (by decide +kernel) rfl
theorem k_722 : ((Jvm.Cond.code ({ cls := "SignMachine$Source", name := "hasLine", desc := "()Z" } : Jvm.MethodName) prog_7_method_5_code (1 : Nat) (Option.some Jvm.ClassFile.FieldType.boolean))) ∈ tb := mt 722 (by decide +kernel) rfl
theorem k_767 : ((Jvm.Cond.methodLink "SignMachine$Assembler" (84 : Nat) ({ cls := "SignMachine$Assembler", name := "fail", desc := "(I)I" } : Jvm.MethodName))) ∈ tb := mt 767 (by decide +kernel) rfl
theorem k_769 : ((Jvm.Cond.instanceMethod ({ cls := "SignMachine$Assembler", name := "fail", desc := "(I)I" } : Jvm.MethodName))) ∈ tb := mt 769 (by decide +kernel) rfl
theorem k_770 : ((Jvm.Cond.code ({ cls := "SignMachine$Assembler", name := "fail", desc := "(I)I" } : Jvm.MethodName) prog_2_method_10_code (2 : Nat) (Option.some Jvm.ClassFile.FieldType.int))) ∈ tb := mt 770 (by decide +kernel) rfl
theorem k_918 : ((Jvm.Cond.static ({ cls := "SignMachine$Output", name := "isWord", desc := "(I)Z" } : Jvm.MethodName))) ∈ tb := mt 918 (by decide +kernel) rfl
theorem k_919 : ((Jvm.Cond.code ({ cls := "SignMachine$Output", name := "isWord", desc := "(I)Z" } : Jvm.MethodName) prog_6_method_5_code (1 : Nat) (Option.some Jvm.ClassFile.FieldType.boolean))) ∈ tb := mt 919 (by decide +kernel) rfl
theorem k_1074 : ((Jvm.Cond.methodLink "SignMachine" (133 : Nat) ({ cls := "SignMachine$Assembler", name := "finish", desc := "()V" } : Jvm.MethodName))) ∈ tb := mt 1074 (by decide +kernel) rfl
theorem k_1075 : ((Jvm.Cond.instanceMethod ({ cls := "SignMachine$Assembler", name := "finish", desc := "()V" } : Jvm.MethodName))) ∈ tb := mt 1075 (by decide +kernel) rfl
theorem k_1076 : ((Jvm.Cond.selects "SignMachine$Assembler" ({ cls := "SignMachine$Assembler", name := "finish", desc := "()V" } : Jvm.MethodName) ({ cls := "SignMachine$Assembler", name := "finish", desc := "()V" } : Jvm.MethodName))) ∈ tb := mt 1076 (by decide +kernel) rfl
theorem k_1077 : ((Jvm.Cond.code ({ cls := "SignMachine$Assembler", name := "finish", desc := "()V" } : Jvm.MethodName) prog_2_method_7_code (2 : Nat) (Option.none : Option Jvm.ClassFile.FieldType))) ∈ tb := mt 1077 (by decide +kernel) rfl
theorem k_1111 : ((Jvm.Cond.methodLink "SignMachineLaw" (75 : Nat) ({ cls := "SignMachine", name := "about", desc := "(I)I" } : Jvm.MethodName))) ∈ tb := mt 1111 (by decide +kernel) rfl
theorem k_1112 : ((Jvm.Cond.instanceMethod ({ cls := "SignMachine", name := "about", desc := "(I)I" } : Jvm.MethodName))) ∈ tb := mt 1112 (by decide +kernel) rfl
theorem k_1113 : ((Jvm.Cond.selects "SignMachine" ({ cls := "SignMachine", name := "about", desc := "(I)I" } : Jvm.MethodName) ({ cls := "SignMachine", name := "about", desc := "(I)I" } : Jvm.MethodName))) ∈ tb := mt 1113 (by decide +kernel) rfl
theorem k_1114 : ((Jvm.Cond.code ({ cls := "SignMachine", name := "about", desc := "(I)I" } : Jvm.MethodName) prog_1_method_16_code (3 : Nat) (Option.some Jvm.ClassFile.FieldType.int))) ∈ tb := mt 1114 (by decide +kernel) rfl
theorem k_1115 : ((Jvm.Cond.classLink "SignMachineLaw" (10 : Nat) "SignMachineModel")) ∈ tb := mt 1115 (by decide +kernel) rfl
theorem k_1116 : ((Jvm.Cond.instantiable "SignMachineModel" (64 : Nat))) ∈ tb := mt 1116 (by decide +kernel) rfl
theorem k_1117 : ((Jvm.Cond.methodLink "SignMachineLaw" (12 : Nat) ({ cls := "SignMachineModel", name := "<init>", desc := "()V" } : Jvm.MethodName))) ∈ tb := mt 1117 (by decide +kernel) rfl
theorem k_1118 : ((Jvm.Cond.instanceMethod ({ cls := "SignMachineModel", name := "<init>", desc := "()V" } : Jvm.MethodName))) ∈ tb := mt 1118 (by decide +kernel) rfl
theorem k_1119 : ((Jvm.Cond.code ({ cls := "SignMachineModel", name := "<init>", desc := "()V" } : Jvm.MethodName) prog_11_method_1_code (1 : Nat) (Option.none : Option Jvm.ClassFile.FieldType))) ∈ tb := mt 1119 (by decide +kernel) rfl
theorem k_1120 : ((Jvm.Cond.methodLink "SignMachineModel" (1 : Nat) ({ cls := "java/lang/Object", name := "<init>", desc := "()V" } : Jvm.MethodName))) ∈ tb := mt 1120 (by decide +kernel) rfl
theorem k_1121 : ((Jvm.Cond.fieldLink "SignMachineModel" (7 : Nat) "SignMachineModel" "sign" "[I")) ∈ tb := mt 1121 (by decide +kernel) rfl
theorem k_1122 : ((Jvm.Cond.fieldLink "SignMachineModel" (13 : Nat) "SignMachineModel" "size" "[I")) ∈ tb := mt 1122 (by decide +kernel) rfl
theorem k_1123 : ((Jvm.Cond.fieldLink "SignMachineModel" (16 : Nat) "SignMachineModel" "rSign" "[I")) ∈ tb := mt 1123 (by decide +kernel) rfl
theorem k_1124 : ((Jvm.Cond.fieldLink "SignMachineModel" (19 : Nat) "SignMachineModel" "rSize" "[I")) ∈ tb := mt 1124 (by decide +kernel) rfl
theorem k_1125 : ((Jvm.Cond.fieldLink "SignMachineModel" (110 : Nat) "SignMachineModel" "at" "I")) ∈ tb := mt 1125 (by decide +kernel) rfl
theorem k_1126 : ((Jvm.Cond.fieldLink "SignMachineModel" (113 : Nat) "SignMachineModel" "toggle" "I")) ∈ tb := mt 1126 (by decide +kernel) rfl
theorem k_1127 : ((Jvm.Cond.fieldLink "SignMachineModel" (116 : Nat) "SignMachineModel" "indicator" "I")) ∈ tb := mt 1127 (by decide +kernel) rfl
theorem k_1128 : ((Jvm.Cond.fieldLink "SignMachineModel" (119 : Nat) "SignMachineModel" "time" "I")) ∈ tb := mt 1128 (by decide +kernel) rfl
theorem k_1129 : ((Jvm.Cond.fieldLink "SignMachineModel" (91 : Nat) "SignMachineModel" "ended" "I")) ∈ tb := mt 1129 (by decide +kernel) rfl
theorem k_1130 : ((Jvm.Cond.fieldLink "SignMachineModel" (22 : Nat) "SignMachineModel" "tapeSign" "[I")) ∈ tb := mt 1130 (by decide +kernel) rfl
theorem k_1131 : ((Jvm.Cond.fieldLink "SignMachineModel" (25 : Nat) "SignMachineModel" "tapeSize" "[I")) ∈ tb := mt 1131 (by decide +kernel) rfl
theorem k_1132 : ((Jvm.Cond.fieldLink "SignMachineModel" (28 : Nat) "SignMachineModel" "tapeAt" "[I")) ∈ tb := mt 1132 (by decide +kernel) rfl
theorem k_1133 : ((Jvm.Cond.fieldLink "SignMachineModel" (132 : Nat) "SignMachineModel" "opCode" "I")) ∈ tb := mt 1133 (by decide +kernel) rfl
theorem k_1134 : ((Jvm.Cond.fieldLink "SignMachineModel" (135 : Nat) "SignMachineModel" "field" "I")) ∈ tb := mt 1134 (by decide +kernel) rfl
theorem k_1135 : ((Jvm.Cond.fieldLink "SignMachineModel" (138 : Nat) "SignMachineModel" "index" "I")) ∈ tb := mt 1135 (by decide +kernel) rfl
theorem k_1136 : ((Jvm.Cond.fieldLink "SignMachineModel" (142 : Nat) "SignMachineModel" "m" "I")) ∈ tb := mt 1136 (by decide +kernel) rfl
theorem k_1137 : ((Jvm.Cond.fieldLink "SignMachineModel" (147 : Nat) "SignMachineModel" "mSign" "I")) ∈ tb := mt 1137 (by decide +kernel) rfl
theorem k_1140 : ((Jvm.Cond.fieldLink "SignMachineModel" (31 : Nat) "SignMachineModel" "ten" "[I")) ∈ tb := mt 1140 (by decide +kernel) rfl
theorem k_1141 : ((Jvm.Cond.fieldLink "SignMachineModel" (34 : Nat) "SignMachineModel" "shifted" "[I")) ∈ tb := mt 1141 (by decide +kernel) rfl
theorem k_1142 : ((Jvm.Cond.fieldLink "SignMachineModel" (37 : Nat) "SignMachineModel" "text" "[I")) ∈ tb := mt 1142 (by decide +kernel) rfl
theorem k_1143 : ((Jvm.Cond.fieldLink "SignMachineModel" (274 : Nat) "SignMachineModel" "textSize" "I")) ∈ tb := mt 1143 (by decide +kernel) rfl
theorem k_1144 : ((Jvm.Cond.fieldLink "SignMachineModel" (395 : Nat) "SignMachineModel" "line" "I")) ∈ tb := mt 1144 (by decide +kernel) rfl
theorem k_1147 : ((Jvm.Cond.fieldLink "SignMachineModel" (279 : Nat) "SignMachineModel" "wrong" "I")) ∈ tb := mt 1147 (by decide +kernel) rfl
theorem k_1148 : ((Jvm.Cond.fieldLink "SignMachineModel" (553 : Nat) "SignMachineModel" "wrongLine" "I")) ∈ tb := mt 1148 (by decide +kernel) rfl
theorem k_1149 : ((Jvm.Cond.fieldLink "SignMachineModel" (568 : Nat) "SignMachineModel" "aboutLine" "I")) ∈ tb := mt 1149 (by decide +kernel) rfl
theorem k_1150 : ((Jvm.Cond.fieldLink "SignMachineModel" (40 : Nat) "SignMachineModel" "aboutPlace" "I")) ∈ tb := mt 1150 (by decide +kernel) rfl
theorem k_1151 : ((Jvm.Cond.fieldLink "SignMachineModel" (317 : Nat) "SignMachineModel" "place" "I")) ∈ tb := mt 1151 (by decide +kernel) rfl
theorem k_1153 : ((Jvm.Cond.fieldLink "SignMachineModel" (517 : Nat) "SignMachineModel" "isEnded" "Z")) ∈ tb := mt 1153 (by decide +kernel) rfl
theorem k_1154 : ((Jvm.Cond.fieldLink "SignMachineModel" (44 : Nat) "SignMachineModel" "symbol" "[J")) ∈ tb := mt 1154 (by decide +kernel) rfl
theorem k_1155 : ((Jvm.Cond.fieldLink "SignMachineModel" (48 : Nat) "SignMachineModel" "isTold" "[Z")) ∈ tb := mt 1155 (by decide +kernel) rfl
theorem k_1156 : ((Jvm.Cond.fieldLink "SignMachineModel" (52 : Nat) "SignMachineModel" "symbolIs" "[J")) ∈ tb := mt 1156 (by decide +kernel) rfl
theorem k_1157 : ((Jvm.Cond.fieldLink "SignMachineModel" (312 : Nat) "SignMachineModel" "symbols" "I")) ∈ tb := mt 1157 (by decide +kernel) rfl
theorem k_1158 : ((Jvm.Cond.fieldLink "SignMachineModel" (55 : Nat) "SignMachineModel" "hasLocal" "[Z")) ∈ tb := mt 1158 (by decide +kernel) rfl
theorem k_1159 : ((Jvm.Cond.fieldLink "SignMachineModel" (58 : Nat) "SignMachineModel" "localIs" "[J")) ∈ tb := mt 1159 (by decide +kernel) rfl
theorem k_1162 : ((Jvm.Cond.fieldLink "SignMachineModel" (61 : Nat) "SignMachineModel" "outAt" "[I")) ∈ tb := mt 1162 (by decide +kernel) rfl
theorem k_1163 : ((Jvm.Cond.fieldLink "SignMachineModel" (64 : Nat) "SignMachineModel" "outSign" "[I")) ∈ tb := mt 1163 (by decide +kernel) rfl
theorem k_1164 : ((Jvm.Cond.fieldLink "SignMachineModel" (67 : Nat) "SignMachineModel" "outSize" "[I")) ∈ tb := mt 1164 (by decide +kernel) rfl
theorem k_1165 : ((Jvm.Cond.fieldLink "SignMachineModel" (356 : Nat) "SignMachineModel" "outs" "I")) ∈ tb := mt 1165 (by decide +kernel) rfl
theorem k_1166 : ((Jvm.Cond.fieldLink "SignMachineModel" (70 : Nat) "SignMachineModel" "laterOut" "[I")) ∈ tb := mt 1166 (by decide +kernel) rfl
theorem k_1167 : ((Jvm.Cond.fieldLink "SignMachineModel" (73 : Nat) "SignMachineModel" "laterLine" "[I")) ∈ tb := mt 1167 (by decide +kernel) rfl
theorem k_1168 : ((Jvm.Cond.fieldLink "SignMachineModel" (76 : Nat) "SignMachineModel" "laterOf" "[I")) ∈ tb := mt 1168 (by decide +kernel) rfl
theorem k_1169 : ((Jvm.Cond.fieldLink "SignMachineModel" (79 : Nat) "SignMachineModel" "isPut" "[Z")) ∈ tb := mt 1169 (by decide +kernel) rfl
theorem k_1170 : ((Jvm.Cond.fieldLink "SignMachineModel" (392 : Nat) "SignMachineModel" "laters" "I")) ∈ tb := mt 1170 (by decide +kernel) rfl
theorem k_1171 : ((Jvm.Cond.fieldLink "SignMachineModel" (82 : Nat) "SignMachineModel" "follows" "[I")) ∈ tb := mt 1171 (by decide +kernel) rfl
theorem k_1172 : ((Jvm.Cond.fieldLink "SignMachineModel" (362 : Nat) "SignMachineModel" "followers" "I")) ∈ tb := mt 1172 (by decide +kernel) rfl
theorem k_1173 : ((Jvm.Cond.fieldLink "SignMachineModel" (85 : Nat) "SignMachineModel" "literal" "[J")) ∈ tb := mt 1173 (by decide +kernel) rfl
theorem k_1174 : ((Jvm.Cond.fieldLink "SignMachineModel" (375 : Nat) "SignMachineModel" "literals" "I")) ∈ tb := mt 1174 (by decide +kernel) rfl
theorem k_1184 : ((Jvm.Cond.fieldLink "SignMachineModel" (88 : Nat) "SignMachineModel" "laterValue" "[J")) ∈ tb := mt 1184 (by decide +kernel) rfl
theorem k_1314 : ((Jvm.Cond.methodLink "SignMachineLaw" (17 : Nat) ({ cls := "SignMachineModel", name := "poke", desc := "(III)Z" } : Jvm.MethodName))) ∈ tb := mt 1314 (by decide +kernel) rfl
theorem k_1315 : ((Jvm.Cond.instanceMethod ({ cls := "SignMachineModel", name := "poke", desc := "(III)Z" } : Jvm.MethodName))) ∈ tb := mt 1315 (by decide +kernel) rfl
theorem k_1316 : ((Jvm.Cond.selects "SignMachineModel" ({ cls := "SignMachineModel", name := "poke", desc := "(III)Z" } : Jvm.MethodName) ({ cls := "SignMachineModel", name := "poke", desc := "(III)Z" } : Jvm.MethodName))) ∈ tb := mt 1316 (by decide +kernel) rfl
theorem k_1317 : ((Jvm.Cond.code ({ cls := "SignMachineModel", name := "poke", desc := "(III)Z" } : Jvm.MethodName) prog_11_method_4_code (4 : Nat) (Option.some Jvm.ClassFile.FieldType.boolean))) ∈ tb := mt 1317 (by decide +kernel) rfl
theorem k_1318 : ((Jvm.Cond.constantLong "SignMachineModel" (94 : Nat) (3999 : Int64))) ∈ tb := mt 1318 (by decide +kernel) rfl
theorem k_1319 : ((Jvm.Cond.methodLink "SignMachineModel" (96 : Nat) ({ cls := "SignMachineModel", name := "isIn", desc := "(JJJ)Z" } : Jvm.MethodName))) ∈ tb := mt 1319 (by decide +kernel) rfl
theorem k_1320 : ((Jvm.Cond.static ({ cls := "SignMachineModel", name := "isIn", desc := "(JJJ)Z" } : Jvm.MethodName))) ∈ tb := mt 1320 (by decide +kernel) rfl
theorem k_1321 : ((Jvm.Cond.code ({ cls := "SignMachineModel", name := "isIn", desc := "(JJJ)Z" } : Jvm.MethodName) prog_11_method_3_code (6 : Nat) (Option.some Jvm.ClassFile.FieldType.boolean))) ∈ tb := mt 1321 (by decide +kernel) rfl
theorem k_1322 : ((Jvm.Cond.constantLong "SignMachineModel" (100 : Nat) (1073741823 : Int64))) ∈ tb := mt 1322 (by decide +kernel) rfl
theorem k_1323 : ((Jvm.Cond.methodLink "SignMachineLaw" (22 : Nat) ({ cls := "SignMachineModel", name := "peekSign", desc := "(I)I" } : Jvm.MethodName))) ∈ tb := mt 1323 (by decide +kernel) rfl
theorem k_1324 : ((Jvm.Cond.instanceMethod ({ cls := "SignMachineModel", name := "peekSign", desc := "(I)I" } : Jvm.MethodName))) ∈ tb := mt 1324 (by decide +kernel) rfl
theorem k_1325 : ((Jvm.Cond.selects "SignMachineModel" ({ cls := "SignMachineModel", name := "peekSign", desc := "(I)I" } : Jvm.MethodName) ({ cls := "SignMachineModel", name := "peekSign", desc := "(I)I" } : Jvm.MethodName))) ∈ tb := mt 1325 (by decide +kernel) rfl
theorem k_1326 : ((Jvm.Cond.code ({ cls := "SignMachineModel", name := "peekSign", desc := "(I)I" } : Jvm.MethodName) prog_11_method_5_code (2 : Nat) (Option.some Jvm.ClassFile.FieldType.int))) ∈ tb := mt 1326 (by decide +kernel) rfl
theorem k_1327 : ((Jvm.Cond.methodLink "SignMachineLaw" (26 : Nat) ({ cls := "SignMachineModel", name := "peekSize", desc := "(I)I" } : Jvm.MethodName))) ∈ tb := mt 1327 (by decide +kernel) rfl
theorem k_1328 : ((Jvm.Cond.instanceMethod ({ cls := "SignMachineModel", name := "peekSize", desc := "(I)I" } : Jvm.MethodName))) ∈ tb := mt 1328 (by decide +kernel) rfl
theorem k_1329 : ((Jvm.Cond.selects "SignMachineModel" ({ cls := "SignMachineModel", name := "peekSize", desc := "(I)I" } : Jvm.MethodName) ({ cls := "SignMachineModel", name := "peekSize", desc := "(I)I" } : Jvm.MethodName))) ∈ tb := mt 1329 (by decide +kernel) rfl
theorem k_1330 : ((Jvm.Cond.code ({ cls := "SignMachineModel", name := "peekSize", desc := "(I)I" } : Jvm.MethodName) prog_11_method_6_code (2 : Nat) (Option.some Jvm.ClassFile.FieldType.int))) ∈ tb := mt 1330 (by decide +kernel) rfl
theorem k_1331 : ((Jvm.Cond.methodLink "SignMachineLaw" (39 : Nat) ({ cls := "SignMachineModel", name := "registerSign", desc := "(I)I" } : Jvm.MethodName))) ∈ tb := mt 1331 (by decide +kernel) rfl
theorem k_1332 : ((Jvm.Cond.instanceMethod ({ cls := "SignMachineModel", name := "registerSign", desc := "(I)I" } : Jvm.MethodName))) ∈ tb := mt 1332 (by decide +kernel) rfl
theorem k_1333 : ((Jvm.Cond.selects "SignMachineModel" ({ cls := "SignMachineModel", name := "registerSign", desc := "(I)I" } : Jvm.MethodName) ({ cls := "SignMachineModel", name := "registerSign", desc := "(I)I" } : Jvm.MethodName))) ∈ tb := mt 1333 (by decide +kernel) rfl
theorem k_1334 : ((Jvm.Cond.code ({ cls := "SignMachineModel", name := "registerSign", desc := "(I)I" } : Jvm.MethodName) prog_11_method_7_code (2 : Nat) (Option.some Jvm.ClassFile.FieldType.int))) ∈ tb := mt 1334 (by decide +kernel) rfl
theorem k_1335 : ((Jvm.Cond.constantLong "SignMachineModel" (102 : Nat) (8 : Int64))) ∈ tb := mt 1335 (by decide +kernel) rfl
theorem k_1336 : ((Jvm.Cond.methodLink "SignMachineLaw" (43 : Nat) ({ cls := "SignMachineModel", name := "registerSize", desc := "(I)I" } : Jvm.MethodName))) ∈ tb := mt 1336 (by decide +kernel) rfl
theorem k_1337 : ((Jvm.Cond.instanceMethod ({ cls := "SignMachineModel", name := "registerSize", desc := "(I)I" } : Jvm.MethodName))) ∈ tb := mt 1337 (by decide +kernel) rfl
theorem k_1338 : ((Jvm.Cond.selects "SignMachineModel" ({ cls := "SignMachineModel", name := "registerSize", desc := "(I)I" } : Jvm.MethodName) ({ cls := "SignMachineModel", name := "registerSize", desc := "(I)I" } : Jvm.MethodName))) ∈ tb := mt 1338 (by decide +kernel) rfl
theorem k_1339 : ((Jvm.Cond.code ({ cls := "SignMachineModel", name := "registerSize", desc := "(I)I" } : Jvm.MethodName) prog_11_method_8_code (2 : Nat) (Option.some Jvm.ClassFile.FieldType.int))) ∈ tb := mt 1339 (by decide +kernel) rfl
theorem k_1340 : ((Jvm.Cond.methodLink "SignMachineLaw" (47 : Nat) ({ cls := "SignMachineModel", name := "set", desc := "(III)Z" } : Jvm.MethodName))) ∈ tb := mt 1340 (by decide +kernel) rfl
theorem k_1341 : ((Jvm.Cond.instanceMethod ({ cls := "SignMachineModel", name := "set", desc := "(III)Z" } : Jvm.MethodName))) ∈ tb := mt 1341 (by decide +kernel) rfl
theorem k_1342 : ((Jvm.Cond.selects "SignMachineModel" ({ cls := "SignMachineModel", name := "set", desc := "(III)Z" } : Jvm.MethodName) ({ cls := "SignMachineModel", name := "set", desc := "(III)Z" } : Jvm.MethodName))) ∈ tb := mt 1342 (by decide +kernel) rfl
theorem k_1343 : ((Jvm.Cond.code ({ cls := "SignMachineModel", name := "set", desc := "(III)Z" } : Jvm.MethodName) prog_11_method_10_code (4 : Nat) (Option.some Jvm.ClassFile.FieldType.boolean))) ∈ tb := mt 1343 (by decide +kernel) rfl
theorem k_1344 : ((Jvm.Cond.methodLink "SignMachineModel" (104 : Nat) ({ cls := "SignMachineModel", name := "isShort", desc := "(I)Z" } : Jvm.MethodName))) ∈ tb := mt 1344 (by decide +kernel) rfl
theorem k_1345 : ((Jvm.Cond.static ({ cls := "SignMachineModel", name := "isShort", desc := "(I)Z" } : Jvm.MethodName))) ∈ tb := mt 1345 (by decide +kernel) rfl
theorem k_1346 : ((Jvm.Cond.code ({ cls := "SignMachineModel", name := "isShort", desc := "(I)Z" } : Jvm.MethodName) prog_11_method_9_code (1 : Nat) (Option.some Jvm.ClassFile.FieldType.boolean))) ∈ tb := mt 1346 (by decide +kernel) rfl
theorem k_1347 : ((Jvm.Cond.constantLong "SignMachineModel" (108 : Nat) (4095 : Int64))) ∈ tb := mt 1347 (by decide +kernel) rfl
theorem k_1348 : ((Jvm.Cond.methodLink "SignMachineLaw" (51 : Nat) ({ cls := "SignMachineModel", name := "state", desc := "(I)I" } : Jvm.MethodName))) ∈ tb := mt 1348 (by decide +kernel) rfl
theorem k_1349 : ((Jvm.Cond.instanceMethod ({ cls := "SignMachineModel", name := "state", desc := "(I)I" } : Jvm.MethodName))) ∈ tb := mt 1349 (by decide +kernel) rfl
theorem k_1350 : ((Jvm.Cond.selects "SignMachineModel" ({ cls := "SignMachineModel", name := "state", desc := "(I)I" } : Jvm.MethodName) ({ cls := "SignMachineModel", name := "state", desc := "(I)I" } : Jvm.MethodName))) ∈ tb := mt 1350 (by decide +kernel) rfl
theorem k_1351 : ((Jvm.Cond.code ({ cls := "SignMachineModel", name := "state", desc := "(I)I" } : Jvm.MethodName) prog_11_method_11_code (2 : Nat) (Option.some Jvm.ClassFile.FieldType.int))) ∈ tb := mt 1351 (by decide +kernel) rfl
theorem k_1352 : ((Jvm.Cond.methodLink "SignMachineLaw" (56 : Nat) ({ cls := "SignMachineModel", name := "go", desc := "(I)Z" } : Jvm.MethodName))) ∈ tb := mt 1352 (by decide +kernel) rfl
theorem k_1353 : ((Jvm.Cond.instanceMethod ({ cls := "SignMachineModel", name := "go", desc := "(I)Z" } : Jvm.MethodName))) ∈ tb := mt 1353 (by decide +kernel) rfl
theorem k_1354 : ((Jvm.Cond.selects "SignMachineModel" ({ cls := "SignMachineModel", name := "go", desc := "(I)Z" } : Jvm.MethodName) ({ cls := "SignMachineModel", name := "go", desc := "(I)Z" } : Jvm.MethodName))) ∈ tb := mt 1354 (by decide +kernel) rfl
theorem k_1355 : ((Jvm.Cond.code ({ cls := "SignMachineModel", name := "go", desc := "(I)Z" } : Jvm.MethodName) prog_11_method_12_code (3 : Nat) (Option.some Jvm.ClassFile.FieldType.boolean))) ∈ tb := mt 1355 (by decide +kernel) rfl
theorem k_1356 : ((Jvm.Cond.methodLink "SignMachineLaw" (61 : Nat) ({ cls := "SignMachineModel", name := "tape", desc := "(III)I" } : Jvm.MethodName))) ∈ tb := mt 1356 (by decide +kernel) rfl
theorem k_1357 : ((Jvm.Cond.instanceMethod ({ cls := "SignMachineModel", name := "tape", desc := "(III)I" } : Jvm.MethodName))) ∈ tb := mt 1357 (by decide +kernel) rfl
theorem k_1358 : ((Jvm.Cond.selects "SignMachineModel" ({ cls := "SignMachineModel", name := "tape", desc := "(III)I" } : Jvm.MethodName) ({ cls := "SignMachineModel", name := "tape", desc := "(III)I" } : Jvm.MethodName))) ∈ tb := mt 1358 (by decide +kernel) rfl
theorem k_1359 : ((Jvm.Cond.code ({ cls := "SignMachineModel", name := "tape", desc := "(III)I" } : Jvm.MethodName) prog_11_method_13_code (5 : Nat) (Option.some Jvm.ClassFile.FieldType.int))) ∈ tb := mt 1359 (by decide +kernel) rfl
theorem k_1360 : ((Jvm.Cond.constantLong "SignMachineModel" (122 : Nat) (39 : Int64))) ∈ tb := mt 1360 (by decide +kernel) rfl
theorem k_1361 : ((Jvm.Cond.constantLong "SignMachineModel" (124 : Nat) (99 : Int64))) ∈ tb := mt 1361 (by decide +kernel) rfl
theorem k_1362 : ((Jvm.Cond.constant "SignMachineModel" (126 : Nat) (-2000000000 : Int32))) ∈ tb := mt 1362 (by decide +kernel) rfl
theorem k_1364 : ((Jvm.Cond.methodLink "SignMachineLaw" (31 : Nat) ({ cls := "SignMachineModel", name := "step", desc := "()I" } : Jvm.MethodName))) ∈ tb := mt 1364 (by decide +kernel) rfl
theorem k_1365 : ((Jvm.Cond.instanceMethod ({ cls := "SignMachineModel", name := "step", desc := "()I" } : Jvm.MethodName))) ∈ tb := mt 1365 (by decide +kernel) rfl
theorem k_1366 : ((Jvm.Cond.selects "SignMachineModel" ({ cls := "SignMachineModel", name := "step", desc := "()I" } : Jvm.MethodName) ({ cls := "SignMachineModel", name := "step", desc := "()I" } : Jvm.MethodName))) ∈ tb := mt 1366 (by decide +kernel) rfl
theorem k_1367 : ((Jvm.Cond.code ({ cls := "SignMachineModel", name := "step", desc := "()I" } : Jvm.MethodName) prog_11_method_47_code (1 : Nat) (Option.some Jvm.ClassFile.FieldType.int))) ∈ tb := mt 1367 (by decide +kernel) rfl
theorem k_1368 : ((Jvm.Cond.methodLink "SignMachineModel" (269 : Nat) ({ cls := "SignMachineModel", name := "one", desc := "()I" } : Jvm.MethodName))) ∈ tb := mt 1368 (by decide +kernel) rfl
theorem k_1370 : ((Jvm.Cond.instanceMethod ({ cls := "SignMachineModel", name := "one", desc := "()I" } : Jvm.MethodName))) ∈ tb := mt 1370 (by decide +kernel) rfl
theorem k_1371 : ((Jvm.Cond.code ({ cls := "SignMachineModel", name := "one", desc := "()I" } : Jvm.MethodName) prog_11_method_46_code (3 : Nat) (Option.some Jvm.ClassFile.FieldType.int))) ∈ tb := mt 1371 (by decide +kernel) rfl
theorem k_1372 : ((Jvm.Cond.methodLink "SignMachineModel" (262 : Nat) ({ cls := "SignMachineModel", name := "judge", desc := "()I" } : Jvm.MethodName))) ∈ tb := mt 1372 (by decide +kernel) rfl
theorem k_1374 : ((Jvm.Cond.instanceMethod ({ cls := "SignMachineModel", name := "judge", desc := "()I" } : Jvm.MethodName))) ∈ tb := mt 1374 (by decide +kernel) rfl
theorem k_1375 : ((Jvm.Cond.code ({ cls := "SignMachineModel", name := "judge", desc := "()I" } : Jvm.MethodName) prog_11_method_26_code (1 : Nat) (Option.some Jvm.ClassFile.FieldType.int))) ∈ tb := mt 1375 (by decide +kernel) rfl
theorem k_1376 : ((Jvm.Cond.methodLink "SignMachineModel" (182 : Nat) ({ cls := "SignMachineModel", name := "take", desc := "()V" } : Jvm.MethodName))) ∈ tb := mt 1376 (by decide +kernel) rfl
theorem k_1378 : ((Jvm.Cond.instanceMethod ({ cls := "SignMachineModel", name := "take", desc := "()V" } : Jvm.MethodName))) ∈ tb := mt 1378 (by decide +kernel) rfl
theorem k_1379 : ((Jvm.Cond.code ({ cls := "SignMachineModel", name := "take", desc := "()V" } : Jvm.MethodName) prog_11_method_18_code (3 : Nat) (Option.none : Option Jvm.ClassFile.FieldType))) ∈ tb := mt 1379 (by decide +kernel) rfl
theorem k_1380 : ((Jvm.Cond.constant "SignMachineModel" (141 : Nat) (262144 : Int32))) ∈ tb := mt 1380 (by decide +kernel) rfl
theorem k_1381 : ((Jvm.Cond.constantLong "SignMachineModel" (145 : Nat) (6 : Int64))) ∈ tb := mt 1381 (by decide +kernel) rfl
theorem k_1382 : ((Jvm.Cond.methodLink "SignMachineModel" (185 : Nat) ({ cls := "SignMachineModel", name := "isFieldRight", desc := "()Z" } : Jvm.MethodName))) ∈ tb := mt 1382 (by decide +kernel) rfl
theorem k_1384 : ((Jvm.Cond.instanceMethod ({ cls := "SignMachineModel", name := "isFieldRight", desc := "()Z" } : Jvm.MethodName))) ∈ tb := mt 1384 (by decide +kernel) rfl
theorem k_1385 : ((Jvm.Cond.code ({ cls := "SignMachineModel", name := "isFieldRight", desc := "()Z" } : Jvm.MethodName) prog_11_method_19_code (1 : Nat) (Option.some Jvm.ClassFile.FieldType.boolean))) ∈ tb := mt 1385 (by decide +kernel) rfl
theorem k_1386 : ((Jvm.Cond.methodLink "SignMachineModel" (150 : Nat) ({ cls := "SignMachineModel", name := "takesWord", desc := "(I)Z" } : Jvm.MethodName))) ∈ tb := mt 1386 (by decide +kernel) rfl
theorem k_1387 : ((Jvm.Cond.static ({ cls := "SignMachineModel", name := "takesWord", desc := "(I)Z" } : Jvm.MethodName))) ∈ tb := mt 1387 (by decide +kernel) rfl
theorem k_1388 : ((Jvm.Cond.code ({ cls := "SignMachineModel", name := "takesWord", desc := "(I)Z" } : Jvm.MethodName) prog_11_method_17_code (1 : Nat) (Option.some Jvm.ClassFile.FieldType.boolean))) ∈ tb := mt 1388 (by decide +kernel) rfl
theorem k_1392 : ((Jvm.Cond.methodLink "SignMachineModel" (189 : Nat) ({ cls := "SignMachineModel", name := "areAddresses", desc := "()Z" } : Jvm.MethodName))) ∈ tb := mt 1392 (by decide +kernel) rfl
theorem k_1394 : ((Jvm.Cond.instanceMethod ({ cls := "SignMachineModel", name := "areAddresses", desc := "()Z" } : Jvm.MethodName))) ∈ tb := mt 1394 (by decide +kernel) rfl
theorem k_1395 : ((Jvm.Cond.code ({ cls := "SignMachineModel", name := "areAddresses", desc := "()Z" } : Jvm.MethodName) prog_11_method_22_code (2 : Nat) (Option.some Jvm.ClassFile.FieldType.boolean))) ∈ tb := mt 1395 (by decide +kernel) rfl
theorem k_1404 : ((Jvm.Cond.methodLink "SignMachineModel" (192 : Nat) ({ cls := "SignMachineModel", name := "fitsIndex", desc := "()Z" } : Jvm.MethodName))) ∈ tb := mt 1404 (by decide +kernel) rfl
theorem k_1406 : ((Jvm.Cond.instanceMethod ({ cls := "SignMachineModel", name := "fitsIndex", desc := "()Z" } : Jvm.MethodName))) ∈ tb := mt 1406 (by decide +kernel) rfl
theorem k_1407 : ((Jvm.Cond.code ({ cls := "SignMachineModel", name := "fitsIndex", desc := "()Z" } : Jvm.MethodName) prog_11_method_24_code (3 : Nat) (Option.some Jvm.ClassFile.FieldType.boolean))) ∈ tb := mt 1407 (by decide +kernel) rfl
theorem k_1419 : ((Jvm.Cond.methodLink "SignMachineModel" (195 : Nat) ({ cls := "SignMachineModel", name := "isBlock", desc := "()Z" } : Jvm.MethodName))) ∈ tb := mt 1419 (by decide +kernel) rfl
theorem k_1421 : ((Jvm.Cond.instanceMethod ({ cls := "SignMachineModel", name := "isBlock", desc := "()Z" } : Jvm.MethodName))) ∈ tb := mt 1421 (by decide +kernel) rfl
theorem k_1422 : ((Jvm.Cond.code ({ cls := "SignMachineModel", name := "isBlock", desc := "()Z" } : Jvm.MethodName) prog_11_method_25_code (1 : Nat) (Option.some Jvm.ClassFile.FieldType.boolean))) ∈ tb := mt 1422 (by decide +kernel) rfl
theorem k_1424 : ((Jvm.Cond.methodLink "SignMachineModel" (266 : Nat) ({ cls := "SignMachineModel", name := "done", desc := "()Z" } : Jvm.MethodName))) ∈ tb := mt 1424 (by decide +kernel) rfl
theorem k_1426 : ((Jvm.Cond.instanceMethod ({ cls := "SignMachineModel", name := "done", desc := "()Z" } : Jvm.MethodName))) ∈ tb := mt 1426 (by decide +kernel) rfl
theorem k_1427 : ((Jvm.Cond.code ({ cls := "SignMachineModel", name := "done", desc := "()Z" } : Jvm.MethodName) prog_11_method_44_code (2 : Nat) (Option.some Jvm.ClassFile.FieldType.boolean))) ∈ tb := mt 1427 (by decide +kernel) rfl
theorem k_1428 : ((Jvm.Cond.methodLink "SignMachineModel" (218 : Nat) ({ cls := "SignMachineModel", name := "passes", desc := "(I)V" } : Jvm.MethodName))) ∈ tb := mt 1428 (by decide +kernel) rfl
theorem k_1430 : ((Jvm.Cond.instanceMethod ({ cls := "SignMachineModel", name := "passes", desc := "(I)V" } : Jvm.MethodName))) ∈ tb := mt 1430 (by decide +kernel) rfl
theorem k_1431 : ((Jvm.Cond.code ({ cls := "SignMachineModel", name := "passes", desc := "(I)V" } : Jvm.MethodName) prog_11_method_27_code (2 : Nat) (Option.none : Option Jvm.ClassFile.FieldType))) ∈ tb := mt 1431 (by decide +kernel) rfl
theorem k_1432 : ((Jvm.Cond.constant "SignMachineModel" (198 : Nat) (1073741823 : Int32))) ∈ tb := mt 1432 (by decide +kernel) rfl
theorem k_1474 : ((Jvm.Cond.methodLink "SignMachineModel" (241 : Nat) ({ cls := "SignMachineModel", name := "doFirst", desc := "()V" } : Jvm.MethodName))) ∈ tb := mt 1474 (by decide +kernel) rfl
theorem k_1476 : ((Jvm.Cond.instanceMethod ({ cls := "SignMachineModel", name := "doFirst", desc := "()V" } : Jvm.MethodName))) ∈ tb := mt 1476 (by decide +kernel) rfl
theorem k_1477 : ((Jvm.Cond.code ({ cls := "SignMachineModel", name := "doFirst", desc := "()V" } : Jvm.MethodName) prog_11_method_45_code (1 : Nat) (Option.none : Option Jvm.ClassFile.FieldType))) ∈ tb := mt 1477 (by decide +kernel) rfl
theorem k_1503 : ((Jvm.Cond.methodLink "SignMachineLaw" (35 : Nat) ({ cls := "SignMachineModel", name := "run", desc := "(I)I" } : Jvm.MethodName))) ∈ tb := mt 1503 (by decide +kernel) rfl
theorem k_1504 : ((Jvm.Cond.instanceMethod ({ cls := "SignMachineModel", name := "run", desc := "(I)I" } : Jvm.MethodName))) ∈ tb := mt 1504 (by decide +kernel) rfl
theorem k_1505 : ((Jvm.Cond.selects "SignMachineModel" ({ cls := "SignMachineModel", name := "run", desc := "(I)I" } : Jvm.MethodName) ({ cls := "SignMachineModel", name := "run", desc := "(I)I" } : Jvm.MethodName))) ∈ tb := mt 1505 (by decide +kernel) rfl
theorem k_1506 : ((Jvm.Cond.code ({ cls := "SignMachineModel", name := "run", desc := "(I)I" } : Jvm.MethodName) prog_11_method_48_code (3 : Nat) (Option.some Jvm.ClassFile.FieldType.int))) ∈ tb := mt 1506 (by decide +kernel) rfl
theorem k_1507 : ((Jvm.Cond.constantLong "SignMachineModel" (272 : Nat) (20000 : Int64))) ∈ tb := mt 1507 (by decide +kernel) rfl
theorem k_1508 : ((Jvm.Cond.methodLink "SignMachineLaw" (66 : Nat) ({ cls := "SignMachineModel", name := "feed", desc := "(IIIII)I" } : Jvm.MethodName))) ∈ tb := mt 1508 (by decide +kernel) rfl
theorem k_1509 : ((Jvm.Cond.instanceMethod ({ cls := "SignMachineModel", name := "feed", desc := "(IIIII)I" } : Jvm.MethodName))) ∈ tb := mt 1509 (by decide +kernel) rfl
theorem k_1510 : ((Jvm.Cond.selects "SignMachineModel" ({ cls := "SignMachineModel", name := "feed", desc := "(IIIII)I" } : Jvm.MethodName) ({ cls := "SignMachineModel", name := "feed", desc := "(IIIII)I" } : Jvm.MethodName))) ∈ tb := mt 1510 (by decide +kernel) rfl
theorem k_1511 : ((Jvm.Cond.code ({ cls := "SignMachineModel", name := "feed", desc := "(IIIII)I" } : Jvm.MethodName) prog_11_method_49_code (8 : Nat) (Option.some Jvm.ClassFile.FieldType.int))) ∈ tb := mt 1511 (by decide +kernel) rfl
theorem k_1512 : ((Jvm.Cond.methodLink "SignMachineLaw" (70 : Nat) ({ cls := "SignMachineModel", name := "end", desc := "(I)I" } : Jvm.MethodName))) ∈ tb := mt 1512 (by decide +kernel) rfl
theorem k_1513 : ((Jvm.Cond.instanceMethod ({ cls := "SignMachineModel", name := "end", desc := "(I)I" } : Jvm.MethodName))) ∈ tb := mt 1513 (by decide +kernel) rfl
theorem k_1514 : ((Jvm.Cond.selects "SignMachineModel" ({ cls := "SignMachineModel", name := "end", desc := "(I)I" } : Jvm.MethodName) ({ cls := "SignMachineModel", name := "end", desc := "(I)I" } : Jvm.MethodName))) ∈ tb := mt 1514 (by decide +kernel) rfl
theorem k_1515 : ((Jvm.Cond.code ({ cls := "SignMachineModel", name := "end", desc := "(I)I" } : Jvm.MethodName) prog_11_method_50_code (2 : Nat) (Option.some Jvm.ClassFile.FieldType.int))) ∈ tb := mt 1515 (by decide +kernel) rfl
theorem k_1516 : ((Jvm.Cond.constantLong "SignMachineModel" (277 : Nat) (20 : Int64))) ∈ tb := mt 1516 (by decide +kernel) rfl
theorem k_1517 : ((Jvm.Cond.methodLink "SignMachineLaw" (74 : Nat) ({ cls := "SignMachineModel", name := "assemble", desc := "()I" } : Jvm.MethodName))) ∈ tb := mt 1517 (by decide +kernel) rfl
theorem k_1518 : ((Jvm.Cond.instanceMethod ({ cls := "SignMachineModel", name := "assemble", desc := "()I" } : Jvm.MethodName))) ∈ tb := mt 1518 (by decide +kernel) rfl
theorem k_1519 : ((Jvm.Cond.selects "SignMachineModel" ({ cls := "SignMachineModel", name := "assemble", desc := "()I" } : Jvm.MethodName) ({ cls := "SignMachineModel", name := "assemble", desc := "()I" } : Jvm.MethodName))) ∈ tb := mt 1519 (by decide +kernel) rfl
theorem k_1520 : ((Jvm.Cond.code ({ cls := "SignMachineModel", name := "assemble", desc := "()I" } : Jvm.MethodName) prog_11_method_86_code (2 : Nat) (Option.some Jvm.ClassFile.FieldType.int))) ∈ tb := mt 1520 (by decide +kernel) rfl
theorem k_1521 : ((Jvm.Cond.methodLink "SignMachineModel" (565 : Nat) ({ cls := "SignMachineModel", name := "readText", desc := "()V" } : Jvm.MethodName))) ∈ tb := mt 1521 (by decide +kernel) rfl
theorem k_1523 : ((Jvm.Cond.instanceMethod ({ cls := "SignMachineModel", name := "readText", desc := "()V" } : Jvm.MethodName))) ∈ tb := mt 1523 (by decide +kernel) rfl
theorem k_1524 : ((Jvm.Cond.code ({ cls := "SignMachineModel", name := "readText", desc := "()V" } : Jvm.MethodName) prog_11_method_85_code (2 : Nat) (Option.none : Option Jvm.ClassFile.FieldType))) ∈ tb := mt 1524 (by decide +kernel) rfl
theorem k_1707 : ((Jvm.Cond.methodLink "SignMachineLaw" (78 : Nat) ({ cls := "SignMachineModel", name := "about", desc := "(I)I" } : Jvm.MethodName))) ∈ tb := mt 1707 (by decide +kernel) rfl
theorem k_1708 : ((Jvm.Cond.instanceMethod ({ cls := "SignMachineModel", name := "about", desc := "(I)I" } : Jvm.MethodName))) ∈ tb := mt 1708 (by decide +kernel) rfl
theorem k_1709 : ((Jvm.Cond.selects "SignMachineModel" ({ cls := "SignMachineModel", name := "about", desc := "(I)I" } : Jvm.MethodName) ({ cls := "SignMachineModel", name := "about", desc := "(I)I" } : Jvm.MethodName))) ∈ tb := mt 1709 (by decide +kernel) rfl
theorem k_1710 : ((Jvm.Cond.code ({ cls := "SignMachineModel", name := "about", desc := "(I)I" } : Jvm.MethodName) prog_11_method_87_code (2 : Nat) (Option.some Jvm.ClassFile.FieldType.int))) ∈ tb := mt 1710 (by decide +kernel) rfl
theorem n_144 : ((Jvm.Cond.methodLinkNest "SignMachine" (9 : Nat) ({ cls := "SignMachine$Machine", name := "<init>", desc := "()V" } : Jvm.MethodName) "SignMachine")) ∈ nst := nn 144 (by decide +kernel) rfl
theorem n_150 : ((Jvm.Cond.methodLinkNest "SignMachine$Machine" (20 : Nat) ({ cls := "SignMachine$Tape", name := "<init>", desc := "()V" } : Jvm.MethodName) "SignMachine")) ∈ nst := nn 150 (by decide +kernel) rfl
theorem n_154 : ((Jvm.Cond.fieldLinkNest "SignMachine" (81 : Nat) "SignMachine$Tape" "place" "I" "SignMachine")) ∈ nst := nn 154 (by decide +kernel) rfl
theorem n_167 : ((Jvm.Cond.fieldLinkNest "SignMachine" (67 : Nat) "SignMachine$Machine" "toggle" "Z" "SignMachine")) ∈ nst := nn 167 (by decide +kernel) rfl
theorem n_169 : ((Jvm.Cond.fieldLinkNest "SignMachine" (71 : Nat) "SignMachine$Machine" "indicator" "I" "SignMachine")) ∈ nst := nn 169 (by decide +kernel) rfl
theorem n_171 : ((Jvm.Cond.fieldLinkNest "SignMachine" (74 : Nat) "SignMachine$Machine" "time" "I" "SignMachine")) ∈ nst := nn 171 (by decide +kernel) rfl
theorem n_173 : ((Jvm.Cond.fieldLinkNest "SignMachine" (64 : Nat) "SignMachine$Machine" "next" "I" "SignMachine")) ∈ nst := nn 173 (by decide +kernel) rfl
theorem n_175 : ((Jvm.Cond.fieldLinkNest "SignMachine" (48 : Nat) "SignMachine$Machine" "ending" "I" "SignMachine")) ∈ nst := nn 175 (by decide +kernel) rfl
theorem n_524 : ((Jvm.Cond.methodLinkNest "SignMachine" (170 : Nat) ({ cls := "SignMachine$Assembler", name := "<init>", desc := "()V" } : Jvm.MethodName) "SignMachine")) ∈ nst := nn 524 (by decide +kernel) rfl
theorem n_530 : ((Jvm.Cond.methodLinkNest "SignMachine$Assembler" (11 : Nat) ({ cls := "SignMachine$Source", name := "<init>", desc := "()V" } : Jvm.MethodName) "SignMachine")) ∈ nst := nn 530 (by decide +kernel) rfl
theorem n_536 : ((Jvm.Cond.fieldLinkNest "SignMachine$Assembler" (146 : Nat) "SignMachine$Source" "length" "I" "SignMachine")) ∈ nst := nn 536 (by decide +kernel) rfl
theorem n_537 : ((Jvm.Cond.fieldLinkNest "SignMachine" (115 : Nat) "SignMachine$Source" "length" "I" "SignMachine")) ∈ nst := nn 537 (by decide +kernel) rfl
theorem n_539 : ((Jvm.Cond.fieldLinkNest "SignMachine$Assembler" (179 : Nat) "SignMachine$Source" "line" "I" "SignMachine")) ∈ nst := nn 539 (by decide +kernel) rfl
theorem n_572 : ((Jvm.Cond.methodLinkNest "SignMachine$Assembler" (20 : Nat) ({ cls := "SignMachine$Names", name := "<init>", desc := "()V" } : Jvm.MethodName) "SignMachine")) ∈ nst := nn 572 (by decide +kernel) rfl
theorem n_603 : ((Jvm.Cond.methodLinkNest "SignMachine$Assembler" (27 : Nat) ({ cls := "SignMachine$Output", name := "<init>", desc := "()V" } : Jvm.MethodName) "SignMachine")) ∈ nst := nn 603 (by decide +kernel) rfl
theorem n_614 : ((Jvm.Cond.fieldLinkNest "SignMachine$Assembler" (149 : Nat) "SignMachine$Output" "count" "I" "SignMachine")) ∈ nst := nn 614 (by decide +kernel) rfl
theorem n_632 : ((Jvm.Cond.fieldLinkNest "SignMachine" (99 : Nat) "SignMachine$Assembler" "source" "LSignMachine$Source;" "SignMachine")) ∈ nst := nn 632 (by decide +kernel) rfl
theorem n_637 : ((Jvm.Cond.fieldLinkNest "SignMachine" (136 : Nat) "SignMachine$Assembler" "fault" "I" "SignMachine")) ∈ nst := nn 637 (by decide +kernel) rfl
theorem n_639 : ((Jvm.Cond.fieldLinkNest "SignMachine" (150 : Nat) "SignMachine$Assembler" "faultLine" "I" "SignMachine")) ∈ nst := nn 639 (by decide +kernel) rfl
theorem n_641 : ((Jvm.Cond.fieldLinkNest "SignMachine" (153 : Nat) "SignMachine$Assembler" "firstFree" "I" "SignMachine")) ∈ nst := nn 641 (by decide +kernel) rfl
theorem k_obj : (Cond.code Lib.objectInit ⟨#[0xb1]⟩ 1 none) ∈ tb := mt 141 (by decide +kernel) rfl
theorem k_absc : (Cond.code Lib.Math.abs.name Lib.Math.abs.code 1 (some .int)) ∈ tb := mt 332 (by decide +kernel) rfl
theorem k_minc : (Cond.code Lib.Math.min.name Lib.Math.min.code 2 (some .int)) ∈ tb := mt 405 (by decide +kernel) rfl
theorem d_law_0 : decode code 0 = .ok (.new 7, 3) := by decide +kernel
theorem d_law_3 : decode code 3 = .ok (.dup, 1) := by decide +kernel
theorem d_law_4 : decode code 4 = .ok (.invokespecial 9, 3) := by decide +kernel
theorem d_law_7 : decode code 7 = .ok (.astore_n 1, 1) := by decide +kernel
theorem d_law_8 : decode code 8 = .ok (.new 10, 3) := by decide +kernel
theorem d_law_11 : decode code 11 = .ok (.dup, 1) := by decide +kernel
theorem d_law_12 : decode code 12 = .ok (.invokespecial 12, 3) := by decide +kernel
theorem d_law_15 : decode code 15 = .ok (.astore_n 2, 1) := by decide +kernel
theorem d_law_16 : decode code 16 = .ok (.iconst 0, 1) := by decide +kernel
theorem d_law_17 : decode code 17 = .ok (.istore_n 3, 1) := by decide +kernel
theorem d_law_18 : decode code 18 = .ok (.iload_n 3, 1) := by decide +kernel
theorem d_law_19 : decode code 19 = .ok (.aload_n 0, 1) := by decide +kernel
theorem d_law_20 : decode code 20 = .ok (.arraylength, 1) := by decide +kernel
theorem d_law_21 : decode code 21 = .ok (.bipush 6, 2) := by decide +kernel
theorem d_law_23 : decode code 23 = .ok (.isub, 1) := by decide +kernel
theorem d_law_24 : decode code 24 = .ok (.if_icmp .gt 515, 3) := by decide +kernel
theorem d_law_27 : decode code 27 = .ok (.aload_n 0, 1) := by decide +kernel
theorem d_law_28 : decode code 28 = .ok (.iload_n 3, 1) := by decide +kernel
theorem d_law_29 : decode code 29 = .ok (.iaload, 1) := by decide +kernel
theorem d_law_30 : decode code 30 = .ok (.bipush 15, 2) := by decide +kernel
theorem d_law_32 : decode code 32 = .ok (.iand, 1) := by decide +kernel
theorem d_law_33 : decode code 33 = .ok (.tableswitch 500 0 14 #[75, 118, 141, 164, 177, 200, 223, 246, 289, 312, 335, 378, 441, 464, 477], 75) := by decide +kernel
theorem d_law_108 : decode code 108 = .ok (.aload_n 1, 1) := by decide +kernel
theorem d_law_109 : decode code 109 = .ok (.aload_n 0, 1) := by decide +kernel
theorem d_law_110 : decode code 110 = .ok (.iload_n 3, 1) := by decide +kernel
theorem d_law_111 : decode code 111 = .ok (.iconst 1, 1) := by decide +kernel
theorem d_law_112 : decode code 112 = .ok (.iadd, 1) := by decide +kernel
theorem d_law_113 : decode code 113 = .ok (.iaload, 1) := by decide +kernel
theorem d_law_114 : decode code 114 = .ok (.aload_n 0, 1) := by decide +kernel
theorem d_law_115 : decode code 115 = .ok (.iload_n 3, 1) := by decide +kernel
theorem d_law_116 : decode code 116 = .ok (.iconst 2, 1) := by decide +kernel
theorem d_law_117 : decode code 117 = .ok (.iadd, 1) := by decide +kernel
theorem d_law_118 : decode code 118 = .ok (.iaload, 1) := by decide +kernel
theorem d_law_119 : decode code 119 = .ok (.aload_n 0, 1) := by decide +kernel
theorem d_law_120 : decode code 120 = .ok (.iload_n 3, 1) := by decide +kernel
theorem d_law_121 : decode code 121 = .ok (.iconst 3, 1) := by decide +kernel
theorem d_law_122 : decode code 122 = .ok (.iadd, 1) := by decide +kernel
theorem d_law_123 : decode code 123 = .ok (.iaload, 1) := by decide +kernel
theorem d_law_124 : decode code 124 = .ok (.invokevirtual 13, 3) := by decide +kernel
theorem d_law_127 : decode code 127 = .ok (.aload_n 2, 1) := by decide +kernel
theorem d_law_128 : decode code 128 = .ok (.aload_n 0, 1) := by decide +kernel
theorem d_law_129 : decode code 129 = .ok (.iload_n 3, 1) := by decide +kernel
theorem d_law_130 : decode code 130 = .ok (.iconst 1, 1) := by decide +kernel
theorem d_law_131 : decode code 131 = .ok (.iadd, 1) := by decide +kernel
theorem d_law_132 : decode code 132 = .ok (.iaload, 1) := by decide +kernel
theorem d_law_133 : decode code 133 = .ok (.aload_n 0, 1) := by decide +kernel
theorem d_law_134 : decode code 134 = .ok (.iload_n 3, 1) := by decide +kernel
theorem d_law_135 : decode code 135 = .ok (.iconst 2, 1) := by decide +kernel
theorem d_law_136 : decode code 136 = .ok (.iadd, 1) := by decide +kernel
theorem d_law_137 : decode code 137 = .ok (.iaload, 1) := by decide +kernel
theorem d_law_138 : decode code 138 = .ok (.aload_n 0, 1) := by decide +kernel
theorem d_law_139 : decode code 139 = .ok (.iload_n 3, 1) := by decide +kernel
theorem d_law_140 : decode code 140 = .ok (.iconst 3, 1) := by decide +kernel
theorem d_law_141 : decode code 141 = .ok (.iadd, 1) := by decide +kernel
theorem d_law_142 : decode code 142 = .ok (.iaload, 1) := by decide +kernel
theorem d_law_143 : decode code 143 = .ok (.invokevirtual 17, 3) := by decide +kernel
theorem d_law_146 : decode code 146 = .ok (.if_icmp .eq 387, 3) := by decide +kernel
theorem d_law_149 : decode code 149 = .ok (.iconst 0, 1) := by decide +kernel
theorem d_law_150 : decode code 150 = .ok (.ireturn, 1) := by decide +kernel
theorem d_law_151 : decode code 151 = .ok (.aload_n 1, 1) := by decide +kernel
theorem d_law_152 : decode code 152 = .ok (.aload_n 0, 1) := by decide +kernel
theorem d_law_153 : decode code 153 = .ok (.iload_n 3, 1) := by decide +kernel
theorem d_law_154 : decode code 154 = .ok (.iconst 1, 1) := by decide +kernel
theorem d_law_155 : decode code 155 = .ok (.iadd, 1) := by decide +kernel
theorem d_law_156 : decode code 156 = .ok (.iaload, 1) := by decide +kernel
theorem d_law_157 : decode code 157 = .ok (.invokevirtual 18, 3) := by decide +kernel
theorem d_law_160 : decode code 160 = .ok (.aload_n 2, 1) := by decide +kernel
theorem d_law_161 : decode code 161 = .ok (.aload_n 0, 1) := by decide +kernel
theorem d_law_162 : decode code 162 = .ok (.iload_n 3, 1) := by decide +kernel
theorem d_law_163 : decode code 163 = .ok (.iconst 1, 1) := by decide +kernel
theorem d_law_164 : decode code 164 = .ok (.iadd, 1) := by decide +kernel
theorem d_law_165 : decode code 165 = .ok (.iaload, 1) := by decide +kernel
theorem d_law_166 : decode code 166 = .ok (.invokevirtual 22, 3) := by decide +kernel
theorem d_law_169 : decode code 169 = .ok (.if_icmp .eq 364, 3) := by decide +kernel
theorem d_law_172 : decode code 172 = .ok (.iconst 0, 1) := by decide +kernel
theorem d_law_173 : decode code 173 = .ok (.ireturn, 1) := by decide +kernel
theorem d_law_174 : decode code 174 = .ok (.aload_n 1, 1) := by decide +kernel
theorem d_law_175 : decode code 175 = .ok (.aload_n 0, 1) := by decide +kernel
theorem d_law_176 : decode code 176 = .ok (.iload_n 3, 1) := by decide +kernel
theorem d_law_177 : decode code 177 = .ok (.iconst 1, 1) := by decide +kernel
theorem d_law_178 : decode code 178 = .ok (.iadd, 1) := by decide +kernel
theorem d_law_179 : decode code 179 = .ok (.iaload, 1) := by decide +kernel
theorem d_law_180 : decode code 180 = .ok (.invokevirtual 23, 3) := by decide +kernel
theorem d_law_183 : decode code 183 = .ok (.aload_n 2, 1) := by decide +kernel
theorem d_law_184 : decode code 184 = .ok (.aload_n 0, 1) := by decide +kernel
theorem d_law_185 : decode code 185 = .ok (.iload_n 3, 1) := by decide +kernel
theorem d_law_186 : decode code 186 = .ok (.iconst 1, 1) := by decide +kernel
theorem d_law_187 : decode code 187 = .ok (.iadd, 1) := by decide +kernel
theorem d_law_188 : decode code 188 = .ok (.iaload, 1) := by decide +kernel
theorem d_law_189 : decode code 189 = .ok (.invokevirtual 26, 3) := by decide +kernel
theorem d_law_192 : decode code 192 = .ok (.if_icmp .eq 341, 3) := by decide +kernel
theorem d_law_195 : decode code 195 = .ok (.iconst 0, 1) := by decide +kernel
theorem d_law_196 : decode code 196 = .ok (.ireturn, 1) := by decide +kernel
theorem d_law_197 : decode code 197 = .ok (.aload_n 1, 1) := by decide +kernel
theorem d_law_198 : decode code 198 = .ok (.invokevirtual 27, 3) := by decide +kernel
theorem d_law_201 : decode code 201 = .ok (.aload_n 2, 1) := by decide +kernel
theorem d_law_202 : decode code 202 = .ok (.invokevirtual 31, 3) := by decide +kernel
theorem d_law_205 : decode code 205 = .ok (.if_icmp .eq 328, 3) := by decide +kernel
theorem d_law_208 : decode code 208 = .ok (.iconst 0, 1) := by decide +kernel
theorem d_law_209 : decode code 209 = .ok (.ireturn, 1) := by decide +kernel
theorem d_law_210 : decode code 210 = .ok (.aload_n 1, 1) := by decide +kernel
theorem d_law_211 : decode code 211 = .ok (.aload_n 0, 1) := by decide +kernel
theorem d_law_212 : decode code 212 = .ok (.iload_n 3, 1) := by decide +kernel
theorem d_law_213 : decode code 213 = .ok (.iconst 1, 1) := by decide +kernel
theorem d_law_214 : decode code 214 = .ok (.iadd, 1) := by decide +kernel
theorem d_law_215 : decode code 215 = .ok (.iaload, 1) := by decide +kernel
theorem d_law_216 : decode code 216 = .ok (.invokevirtual 32, 3) := by decide +kernel
theorem d_law_219 : decode code 219 = .ok (.aload_n 2, 1) := by decide +kernel
theorem d_law_220 : decode code 220 = .ok (.aload_n 0, 1) := by decide +kernel
theorem d_law_221 : decode code 221 = .ok (.iload_n 3, 1) := by decide +kernel
theorem d_law_222 : decode code 222 = .ok (.iconst 1, 1) := by decide +kernel
theorem d_law_223 : decode code 223 = .ok (.iadd, 1) := by decide +kernel
theorem d_law_224 : decode code 224 = .ok (.iaload, 1) := by decide +kernel
theorem d_law_225 : decode code 225 = .ok (.invokevirtual 35, 3) := by decide +kernel
theorem d_law_228 : decode code 228 = .ok (.if_icmp .eq 305, 3) := by decide +kernel
theorem d_law_231 : decode code 231 = .ok (.iconst 0, 1) := by decide +kernel
theorem d_law_232 : decode code 232 = .ok (.ireturn, 1) := by decide +kernel
theorem d_law_233 : decode code 233 = .ok (.aload_n 1, 1) := by decide +kernel
theorem d_law_234 : decode code 234 = .ok (.aload_n 0, 1) := by decide +kernel
theorem d_law_235 : decode code 235 = .ok (.iload_n 3, 1) := by decide +kernel
theorem d_law_236 : decode code 236 = .ok (.iconst 1, 1) := by decide +kernel
theorem d_law_237 : decode code 237 = .ok (.iadd, 1) := by decide +kernel
theorem d_law_238 : decode code 238 = .ok (.iaload, 1) := by decide +kernel
theorem d_law_239 : decode code 239 = .ok (.invokevirtual 36, 3) := by decide +kernel
theorem d_law_242 : decode code 242 = .ok (.aload_n 2, 1) := by decide +kernel
theorem d_law_243 : decode code 243 = .ok (.aload_n 0, 1) := by decide +kernel
theorem d_law_244 : decode code 244 = .ok (.iload_n 3, 1) := by decide +kernel
theorem d_law_245 : decode code 245 = .ok (.iconst 1, 1) := by decide +kernel
theorem d_law_246 : decode code 246 = .ok (.iadd, 1) := by decide +kernel
theorem d_law_247 : decode code 247 = .ok (.iaload, 1) := by decide +kernel
theorem d_law_248 : decode code 248 = .ok (.invokevirtual 39, 3) := by decide +kernel
theorem d_law_251 : decode code 251 = .ok (.if_icmp .eq 282, 3) := by decide +kernel
theorem d_law_254 : decode code 254 = .ok (.iconst 0, 1) := by decide +kernel
theorem d_law_255 : decode code 255 = .ok (.ireturn, 1) := by decide +kernel
theorem d_law_256 : decode code 256 = .ok (.aload_n 1, 1) := by decide +kernel
theorem d_law_257 : decode code 257 = .ok (.aload_n 0, 1) := by decide +kernel
theorem d_law_258 : decode code 258 = .ok (.iload_n 3, 1) := by decide +kernel
theorem d_law_259 : decode code 259 = .ok (.iconst 1, 1) := by decide +kernel
theorem d_law_260 : decode code 260 = .ok (.iadd, 1) := by decide +kernel
theorem d_law_261 : decode code 261 = .ok (.iaload, 1) := by decide +kernel
theorem d_law_262 : decode code 262 = .ok (.invokevirtual 40, 3) := by decide +kernel
theorem d_law_265 : decode code 265 = .ok (.aload_n 2, 1) := by decide +kernel
theorem d_law_266 : decode code 266 = .ok (.aload_n 0, 1) := by decide +kernel
theorem d_law_267 : decode code 267 = .ok (.iload_n 3, 1) := by decide +kernel
theorem d_law_268 : decode code 268 = .ok (.iconst 1, 1) := by decide +kernel
theorem d_law_269 : decode code 269 = .ok (.iadd, 1) := by decide +kernel
theorem d_law_270 : decode code 270 = .ok (.iaload, 1) := by decide +kernel
theorem d_law_271 : decode code 271 = .ok (.invokevirtual 43, 3) := by decide +kernel
theorem d_law_274 : decode code 274 = .ok (.if_icmp .eq 259, 3) := by decide +kernel
theorem d_law_277 : decode code 277 = .ok (.iconst 0, 1) := by decide +kernel
theorem d_law_278 : decode code 278 = .ok (.ireturn, 1) := by decide +kernel
theorem d_law_279 : decode code 279 = .ok (.aload_n 1, 1) := by decide +kernel
theorem d_law_280 : decode code 280 = .ok (.aload_n 0, 1) := by decide +kernel
theorem d_law_281 : decode code 281 = .ok (.iload_n 3, 1) := by decide +kernel
theorem d_law_282 : decode code 282 = .ok (.iconst 1, 1) := by decide +kernel
theorem d_law_283 : decode code 283 = .ok (.iadd, 1) := by decide +kernel
theorem d_law_284 : decode code 284 = .ok (.iaload, 1) := by decide +kernel
theorem d_law_285 : decode code 285 = .ok (.aload_n 0, 1) := by decide +kernel
theorem d_law_286 : decode code 286 = .ok (.iload_n 3, 1) := by decide +kernel
theorem d_law_287 : decode code 287 = .ok (.iconst 2, 1) := by decide +kernel
theorem d_law_288 : decode code 288 = .ok (.iadd, 1) := by decide +kernel
theorem d_law_289 : decode code 289 = .ok (.iaload, 1) := by decide +kernel
theorem d_law_290 : decode code 290 = .ok (.aload_n 0, 1) := by decide +kernel
theorem d_law_291 : decode code 291 = .ok (.iload_n 3, 1) := by decide +kernel
theorem d_law_292 : decode code 292 = .ok (.iconst 3, 1) := by decide +kernel
theorem d_law_293 : decode code 293 = .ok (.iadd, 1) := by decide +kernel
theorem d_law_294 : decode code 294 = .ok (.iaload, 1) := by decide +kernel
theorem d_law_295 : decode code 295 = .ok (.invokevirtual 44, 3) := by decide +kernel
theorem d_law_298 : decode code 298 = .ok (.aload_n 2, 1) := by decide +kernel
theorem d_law_299 : decode code 299 = .ok (.aload_n 0, 1) := by decide +kernel
theorem d_law_300 : decode code 300 = .ok (.iload_n 3, 1) := by decide +kernel
theorem d_law_301 : decode code 301 = .ok (.iconst 1, 1) := by decide +kernel
theorem d_law_302 : decode code 302 = .ok (.iadd, 1) := by decide +kernel
theorem d_law_303 : decode code 303 = .ok (.iaload, 1) := by decide +kernel
theorem d_law_304 : decode code 304 = .ok (.aload_n 0, 1) := by decide +kernel
theorem d_law_305 : decode code 305 = .ok (.iload_n 3, 1) := by decide +kernel
theorem d_law_306 : decode code 306 = .ok (.iconst 2, 1) := by decide +kernel
theorem d_law_307 : decode code 307 = .ok (.iadd, 1) := by decide +kernel
theorem d_law_308 : decode code 308 = .ok (.iaload, 1) := by decide +kernel
theorem d_law_309 : decode code 309 = .ok (.aload_n 0, 1) := by decide +kernel
theorem d_law_310 : decode code 310 = .ok (.iload_n 3, 1) := by decide +kernel
theorem d_law_311 : decode code 311 = .ok (.iconst 3, 1) := by decide +kernel
theorem d_law_312 : decode code 312 = .ok (.iadd, 1) := by decide +kernel
theorem d_law_313 : decode code 313 = .ok (.iaload, 1) := by decide +kernel
theorem d_law_314 : decode code 314 = .ok (.invokevirtual 47, 3) := by decide +kernel
theorem d_law_317 : decode code 317 = .ok (.if_icmp .eq 216, 3) := by decide +kernel
theorem d_law_320 : decode code 320 = .ok (.iconst 0, 1) := by decide +kernel
theorem d_law_321 : decode code 321 = .ok (.ireturn, 1) := by decide +kernel
theorem d_law_322 : decode code 322 = .ok (.aload_n 1, 1) := by decide +kernel
theorem d_law_323 : decode code 323 = .ok (.aload_n 0, 1) := by decide +kernel
theorem d_law_324 : decode code 324 = .ok (.iload_n 3, 1) := by decide +kernel
theorem d_law_325 : decode code 325 = .ok (.iconst 1, 1) := by decide +kernel
theorem d_law_326 : decode code 326 = .ok (.iadd, 1) := by decide +kernel
theorem d_law_327 : decode code 327 = .ok (.iaload, 1) := by decide +kernel
theorem d_law_328 : decode code 328 = .ok (.invokevirtual 48, 3) := by decide +kernel
theorem d_law_331 : decode code 331 = .ok (.aload_n 2, 1) := by decide +kernel
theorem d_law_332 : decode code 332 = .ok (.aload_n 0, 1) := by decide +kernel
theorem d_law_333 : decode code 333 = .ok (.iload_n 3, 1) := by decide +kernel
theorem d_law_334 : decode code 334 = .ok (.iconst 1, 1) := by decide +kernel
theorem d_law_335 : decode code 335 = .ok (.iadd, 1) := by decide +kernel
theorem d_law_336 : decode code 336 = .ok (.iaload, 1) := by decide +kernel
theorem d_law_337 : decode code 337 = .ok (.invokevirtual 51, 3) := by decide +kernel
theorem d_law_340 : decode code 340 = .ok (.if_icmp .eq 193, 3) := by decide +kernel
theorem d_law_343 : decode code 343 = .ok (.iconst 0, 1) := by decide +kernel
theorem d_law_344 : decode code 344 = .ok (.ireturn, 1) := by decide +kernel
theorem d_law_345 : decode code 345 = .ok (.aload_n 1, 1) := by decide +kernel
theorem d_law_346 : decode code 346 = .ok (.aload_n 0, 1) := by decide +kernel
theorem d_law_347 : decode code 347 = .ok (.iload_n 3, 1) := by decide +kernel
theorem d_law_348 : decode code 348 = .ok (.iconst 1, 1) := by decide +kernel
theorem d_law_349 : decode code 349 = .ok (.iadd, 1) := by decide +kernel
theorem d_law_350 : decode code 350 = .ok (.iaload, 1) := by decide +kernel
theorem d_law_351 : decode code 351 = .ok (.invokevirtual 52, 3) := by decide +kernel
theorem d_law_354 : decode code 354 = .ok (.aload_n 2, 1) := by decide +kernel
theorem d_law_355 : decode code 355 = .ok (.aload_n 0, 1) := by decide +kernel
theorem d_law_356 : decode code 356 = .ok (.iload_n 3, 1) := by decide +kernel
theorem d_law_357 : decode code 357 = .ok (.iconst 1, 1) := by decide +kernel
theorem d_law_358 : decode code 358 = .ok (.iadd, 1) := by decide +kernel
theorem d_law_359 : decode code 359 = .ok (.iaload, 1) := by decide +kernel
theorem d_law_360 : decode code 360 = .ok (.invokevirtual 56, 3) := by decide +kernel
theorem d_law_363 : decode code 363 = .ok (.if_icmp .eq 170, 3) := by decide +kernel
theorem d_law_366 : decode code 366 = .ok (.iconst 0, 1) := by decide +kernel
theorem d_law_367 : decode code 367 = .ok (.ireturn, 1) := by decide +kernel
theorem d_law_368 : decode code 368 = .ok (.aload_n 1, 1) := by decide +kernel
theorem d_law_369 : decode code 369 = .ok (.aload_n 0, 1) := by decide +kernel
theorem d_law_370 : decode code 370 = .ok (.iload_n 3, 1) := by decide +kernel
theorem d_law_371 : decode code 371 = .ok (.iconst 1, 1) := by decide +kernel
theorem d_law_372 : decode code 372 = .ok (.iadd, 1) := by decide +kernel
theorem d_law_373 : decode code 373 = .ok (.iaload, 1) := by decide +kernel
theorem d_law_374 : decode code 374 = .ok (.aload_n 0, 1) := by decide +kernel
theorem d_law_375 : decode code 375 = .ok (.iload_n 3, 1) := by decide +kernel
theorem d_law_376 : decode code 376 = .ok (.iconst 2, 1) := by decide +kernel
theorem d_law_377 : decode code 377 = .ok (.iadd, 1) := by decide +kernel
theorem d_law_378 : decode code 378 = .ok (.iaload, 1) := by decide +kernel
theorem d_law_379 : decode code 379 = .ok (.aload_n 0, 1) := by decide +kernel
theorem d_law_380 : decode code 380 = .ok (.iload_n 3, 1) := by decide +kernel
theorem d_law_381 : decode code 381 = .ok (.iconst 3, 1) := by decide +kernel
theorem d_law_382 : decode code 382 = .ok (.iadd, 1) := by decide +kernel
theorem d_law_383 : decode code 383 = .ok (.iaload, 1) := by decide +kernel
theorem d_law_384 : decode code 384 = .ok (.invokevirtual 57, 3) := by decide +kernel
theorem d_law_387 : decode code 387 = .ok (.aload_n 2, 1) := by decide +kernel
theorem d_law_388 : decode code 388 = .ok (.aload_n 0, 1) := by decide +kernel
theorem d_law_389 : decode code 389 = .ok (.iload_n 3, 1) := by decide +kernel
theorem d_law_390 : decode code 390 = .ok (.iconst 1, 1) := by decide +kernel
theorem d_law_391 : decode code 391 = .ok (.iadd, 1) := by decide +kernel
theorem d_law_392 : decode code 392 = .ok (.iaload, 1) := by decide +kernel
theorem d_law_393 : decode code 393 = .ok (.aload_n 0, 1) := by decide +kernel
theorem d_law_394 : decode code 394 = .ok (.iload_n 3, 1) := by decide +kernel
theorem d_law_395 : decode code 395 = .ok (.iconst 2, 1) := by decide +kernel
theorem d_law_396 : decode code 396 = .ok (.iadd, 1) := by decide +kernel
theorem d_law_397 : decode code 397 = .ok (.iaload, 1) := by decide +kernel
theorem d_law_398 : decode code 398 = .ok (.aload_n 0, 1) := by decide +kernel
theorem d_law_399 : decode code 399 = .ok (.iload_n 3, 1) := by decide +kernel
theorem d_law_400 : decode code 400 = .ok (.iconst 3, 1) := by decide +kernel
theorem d_law_401 : decode code 401 = .ok (.iadd, 1) := by decide +kernel
theorem d_law_402 : decode code 402 = .ok (.iaload, 1) := by decide +kernel
theorem d_law_403 : decode code 403 = .ok (.invokevirtual 61, 3) := by decide +kernel
theorem d_law_406 : decode code 406 = .ok (.if_icmp .eq 127, 3) := by decide +kernel
theorem d_law_409 : decode code 409 = .ok (.iconst 0, 1) := by decide +kernel
theorem d_law_410 : decode code 410 = .ok (.ireturn, 1) := by decide +kernel
theorem d_law_411 : decode code 411 = .ok (.aload_n 1, 1) := by decide +kernel
theorem d_law_412 : decode code 412 = .ok (.aload_n 0, 1) := by decide +kernel
theorem d_law_413 : decode code 413 = .ok (.iload_n 3, 1) := by decide +kernel
theorem d_law_414 : decode code 414 = .ok (.iconst 1, 1) := by decide +kernel
theorem d_law_415 : decode code 415 = .ok (.iadd, 1) := by decide +kernel
theorem d_law_416 : decode code 416 = .ok (.iaload, 1) := by decide +kernel
theorem d_law_417 : decode code 417 = .ok (.aload_n 0, 1) := by decide +kernel
theorem d_law_418 : decode code 418 = .ok (.iload_n 3, 1) := by decide +kernel
theorem d_law_419 : decode code 419 = .ok (.iconst 2, 1) := by decide +kernel
theorem d_law_420 : decode code 420 = .ok (.iadd, 1) := by decide +kernel
theorem d_law_421 : decode code 421 = .ok (.iaload, 1) := by decide +kernel
theorem d_law_422 : decode code 422 = .ok (.aload_n 0, 1) := by decide +kernel
theorem d_law_423 : decode code 423 = .ok (.iload_n 3, 1) := by decide +kernel
theorem d_law_424 : decode code 424 = .ok (.iconst 3, 1) := by decide +kernel
theorem d_law_425 : decode code 425 = .ok (.iadd, 1) := by decide +kernel
theorem d_law_426 : decode code 426 = .ok (.iaload, 1) := by decide +kernel
theorem d_law_427 : decode code 427 = .ok (.aload_n 0, 1) := by decide +kernel
theorem d_law_428 : decode code 428 = .ok (.iload_n 3, 1) := by decide +kernel
theorem d_law_429 : decode code 429 = .ok (.iconst 4, 1) := by decide +kernel
theorem d_law_430 : decode code 430 = .ok (.iadd, 1) := by decide +kernel
theorem d_law_431 : decode code 431 = .ok (.iaload, 1) := by decide +kernel
theorem d_law_432 : decode code 432 = .ok (.aload_n 0, 1) := by decide +kernel
theorem d_law_433 : decode code 433 = .ok (.iload_n 3, 1) := by decide +kernel
theorem d_law_434 : decode code 434 = .ok (.iconst 5, 1) := by decide +kernel
theorem d_law_435 : decode code 435 = .ok (.iadd, 1) := by decide +kernel
theorem d_law_436 : decode code 436 = .ok (.iaload, 1) := by decide +kernel
theorem d_law_437 : decode code 437 = .ok (.invokevirtual 62, 3) := by decide +kernel
theorem d_law_440 : decode code 440 = .ok (.aload_n 2, 1) := by decide +kernel
theorem d_law_441 : decode code 441 = .ok (.aload_n 0, 1) := by decide +kernel
theorem d_law_442 : decode code 442 = .ok (.iload_n 3, 1) := by decide +kernel
theorem d_law_443 : decode code 443 = .ok (.iconst 1, 1) := by decide +kernel
theorem d_law_444 : decode code 444 = .ok (.iadd, 1) := by decide +kernel
theorem d_law_445 : decode code 445 = .ok (.iaload, 1) := by decide +kernel
theorem d_law_446 : decode code 446 = .ok (.aload_n 0, 1) := by decide +kernel
theorem d_law_447 : decode code 447 = .ok (.iload_n 3, 1) := by decide +kernel
theorem d_law_448 : decode code 448 = .ok (.iconst 2, 1) := by decide +kernel
theorem d_law_449 : decode code 449 = .ok (.iadd, 1) := by decide +kernel
theorem d_law_450 : decode code 450 = .ok (.iaload, 1) := by decide +kernel
theorem d_law_451 : decode code 451 = .ok (.aload_n 0, 1) := by decide +kernel
theorem d_law_452 : decode code 452 = .ok (.iload_n 3, 1) := by decide +kernel
theorem d_law_453 : decode code 453 = .ok (.iconst 3, 1) := by decide +kernel
theorem d_law_454 : decode code 454 = .ok (.iadd, 1) := by decide +kernel
theorem d_law_455 : decode code 455 = .ok (.iaload, 1) := by decide +kernel
theorem d_law_456 : decode code 456 = .ok (.aload_n 0, 1) := by decide +kernel
theorem d_law_457 : decode code 457 = .ok (.iload_n 3, 1) := by decide +kernel
theorem d_law_458 : decode code 458 = .ok (.iconst 4, 1) := by decide +kernel
theorem d_law_459 : decode code 459 = .ok (.iadd, 1) := by decide +kernel
theorem d_law_460 : decode code 460 = .ok (.iaload, 1) := by decide +kernel
theorem d_law_461 : decode code 461 = .ok (.aload_n 0, 1) := by decide +kernel
theorem d_law_462 : decode code 462 = .ok (.iload_n 3, 1) := by decide +kernel
theorem d_law_463 : decode code 463 = .ok (.iconst 5, 1) := by decide +kernel
theorem d_law_464 : decode code 464 = .ok (.iadd, 1) := by decide +kernel
theorem d_law_465 : decode code 465 = .ok (.iaload, 1) := by decide +kernel
theorem d_law_466 : decode code 466 = .ok (.invokevirtual 66, 3) := by decide +kernel
theorem d_law_469 : decode code 469 = .ok (.if_icmp .eq 64, 3) := by decide +kernel
theorem d_law_472 : decode code 472 = .ok (.iconst 0, 1) := by decide +kernel
theorem d_law_473 : decode code 473 = .ok (.ireturn, 1) := by decide +kernel
theorem d_law_474 : decode code 474 = .ok (.aload_n 1, 1) := by decide +kernel
theorem d_law_475 : decode code 475 = .ok (.aload_n 0, 1) := by decide +kernel
theorem d_law_476 : decode code 476 = .ok (.iload_n 3, 1) := by decide +kernel
theorem d_law_477 : decode code 477 = .ok (.iconst 1, 1) := by decide +kernel
theorem d_law_478 : decode code 478 = .ok (.iadd, 1) := by decide +kernel
theorem d_law_479 : decode code 479 = .ok (.iaload, 1) := by decide +kernel
theorem d_law_480 : decode code 480 = .ok (.invokevirtual 67, 3) := by decide +kernel
theorem d_law_483 : decode code 483 = .ok (.aload_n 2, 1) := by decide +kernel
theorem d_law_484 : decode code 484 = .ok (.aload_n 0, 1) := by decide +kernel
theorem d_law_485 : decode code 485 = .ok (.iload_n 3, 1) := by decide +kernel
theorem d_law_486 : decode code 486 = .ok (.iconst 1, 1) := by decide +kernel
theorem d_law_487 : decode code 487 = .ok (.iadd, 1) := by decide +kernel
theorem d_law_488 : decode code 488 = .ok (.iaload, 1) := by decide +kernel
theorem d_law_489 : decode code 489 = .ok (.invokevirtual 70, 3) := by decide +kernel
theorem d_law_492 : decode code 492 = .ok (.if_icmp .eq 41, 3) := by decide +kernel
theorem d_law_495 : decode code 495 = .ok (.iconst 0, 1) := by decide +kernel
theorem d_law_496 : decode code 496 = .ok (.ireturn, 1) := by decide +kernel
theorem d_law_497 : decode code 497 = .ok (.aload_n 1, 1) := by decide +kernel
theorem d_law_498 : decode code 498 = .ok (.invokevirtual 71, 3) := by decide +kernel
theorem d_law_501 : decode code 501 = .ok (.aload_n 2, 1) := by decide +kernel
theorem d_law_502 : decode code 502 = .ok (.invokevirtual 74, 3) := by decide +kernel
theorem d_law_505 : decode code 505 = .ok (.if_icmp .eq 28, 3) := by decide +kernel
theorem d_law_508 : decode code 508 = .ok (.iconst 0, 1) := by decide +kernel
theorem d_law_509 : decode code 509 = .ok (.ireturn, 1) := by decide +kernel
theorem d_law_510 : decode code 510 = .ok (.aload_n 1, 1) := by decide +kernel
theorem d_law_511 : decode code 511 = .ok (.aload_n 0, 1) := by decide +kernel
theorem d_law_512 : decode code 512 = .ok (.iload_n 3, 1) := by decide +kernel
theorem d_law_513 : decode code 513 = .ok (.iconst 1, 1) := by decide +kernel
theorem d_law_514 : decode code 514 = .ok (.iadd, 1) := by decide +kernel
theorem d_law_515 : decode code 515 = .ok (.iaload, 1) := by decide +kernel
theorem d_law_516 : decode code 516 = .ok (.invokevirtual 75, 3) := by decide +kernel
theorem d_law_519 : decode code 519 = .ok (.aload_n 2, 1) := by decide +kernel
theorem d_law_520 : decode code 520 = .ok (.aload_n 0, 1) := by decide +kernel
theorem d_law_521 : decode code 521 = .ok (.iload_n 3, 1) := by decide +kernel
theorem d_law_522 : decode code 522 = .ok (.iconst 1, 1) := by decide +kernel
theorem d_law_523 : decode code 523 = .ok (.iadd, 1) := by decide +kernel
theorem d_law_524 : decode code 524 = .ok (.iaload, 1) := by decide +kernel
theorem d_law_525 : decode code 525 = .ok (.invokevirtual 78, 3) := by decide +kernel
theorem d_law_528 : decode code 528 = .ok (.if_icmp .eq 5, 3) := by decide +kernel
theorem d_law_531 : decode code 531 = .ok (.iconst 0, 1) := by decide +kernel
theorem d_law_532 : decode code 532 = .ok (.ireturn, 1) := by decide +kernel
theorem d_law_533 : decode code 533 = .ok (.iinc 3 6, 3) := by decide +kernel
theorem d_law_536 : decode code 536 = .ok (.goto (-518), 3) := by decide +kernel
theorem d_law_539 : decode code 539 = .ok (.iconst 1, 1) := by decide +kernel
theorem d_law_540 : decode code 540 = .ok (.ireturn, 1) := by decide +kernel
