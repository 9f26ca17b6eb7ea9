def tb : List Cond := lw_tbl.filter goodWord
theorem tb_good (w : Cond) (h : w ∈ tb) : (w.onTables && w.keeps) = true ∨ ∃ ty, w = .arrayClass ty := good_of_word (List.mem_filter.mp h).2
theorem mt {w : Cond} (i : Nat) (h : lw_tbl[i]? = some w) (hg : goodWord w = true) : w ∈ tb := List.mem_filter.mpr ⟨List.mem_of_getElem? h, hg⟩
theorem gi_t {c : Cond} (hc : c ∈ tb) : GoodIn tb (c :: tb) := by
  intro w hw
  rcases List.mem_cons.mp hw with rfl | h
  · exact ⟨hc, tb_good _ hc⟩
  · exact ⟨h, tb_good _ h⟩
theorem mk_s {R : Room} {s : State} {args : Array Value} {own : String} {index maxL mc ms : Nat} {y : MethodName} {bytes : ByteArray} {ret : Option FieldType} {rm : Room} (n : Nat) (hk : ∀ w ∈ tb, w.before args s = true) (hc : Cond.code y bytes maxL ret ∈ tb) (hl : Cond.methodLink own index y ∈ tb) (hs : Cond.static y ∈ tb) (hi : Cond.initialized y.cls ∈ tb) (hrc : rm.cells = mc) (hrs : rm.slots = ms)
    (hd : y.cls ≠ "java/lang/invoke/MethodHandle" ∧ y.cls ≠ "java/lang/invoke/VarHandle" ∧ (parseMethodDescriptor y.desc).map (fun d => d.parameters.length) = some n) (hR : rm.frames + 1 ≤ R.frames ∧ 8 + (maxL + 11) + rm.locals ≤ R.locals) :
    CallB R s args own index y bytes maxL ret (Cond.code y bytes maxL ret :: tb) rm mc ms n ∧ (Cond.static y).before args s = true := ⟨callB_of n hk (gi_t hc) rfl hrc hrs (hk _ hi) (hk _ hl) hd hR, hk _ hs⟩
theorem mk_v {R : Room} {s : State} {args : Array Value} {own C : String} {index maxL mc ms : Nat} {y : MethodName} {bytes : ByteArray} {ret : Option FieldType} {rm : Room} (n : Nat) (hk : ∀ w ∈ tb, w.before args s = true) (hc : Cond.code y bytes maxL ret ∈ tb) (hl : Cond.methodLink own index y ∈ tb) (hs : Cond.instanceMethod y ∈ tb) (hse : Cond.selects C y y ∈ tb) (hi : Cond.initialized y.cls ∈ tb) (hrc : rm.cells = mc) (hrs : rm.slots = ms)
    (hd : y.cls ≠ "java/lang/invoke/MethodHandle" ∧ y.cls ≠ "java/lang/invoke/VarHandle" ∧ (parseMethodDescriptor y.desc).map (fun d => d.parameters.length) = some n) (hR : rm.frames + 1 ≤ R.frames ∧ 8 + (maxL + 11) + rm.locals ≤ R.locals) :
    CallW R s args own C index y bytes maxL ret (Cond.code y bytes maxL ret :: tb) rm mc ms n := ⟨callB_of n hk (gi_t hc) rfl hrc hrs (hk _ hi) (hk _ hl) hd hR, hk _ hs, hk _ hse⟩
/-- a truth as the machine's int -/
def bI (b : Bool) : Int32 := if b = true then 1 else 0
theorem nar_bI (b : Bool) : narrow .boolean (.int (bI b)) = .int (bI b) := by cases b <;> rfl
theorem fit_bI (b : Bool) : fits .boolean (.int (bI b)) = true := by cases b <;> rfl
theorem bI_0 {b : Bool} : bI b = 0 ↔ b = false := by cases b <;> simp [bI]
theorem bI_n {b : Bool} : ¬ bI b = 0 ↔ b = true := by cases b <;> simp [bI]
/-- the words of nest mates, which ride beside the world -/
def isN : Cond → Bool
  | .fieldLinkNest .. => true
  | .methodLinkNest .. => true
  | _ => false
def nst : List Cond := lw_tbl.filter isN
theorem nn {w : Cond} (i : Nat) (h : lw_tbl[i]? = some w) (hg : isN w = true) : w ∈ nst := List.mem_filter.mpr ⟨List.mem_of_getElem? h, hg⟩
def F_S : u_T := fun k => match k with
  | 0 => ("SignMachine", "machine", "LSignMachine$Machine;", true)
  | _ => ("SignMachine", "assembler", "LSignMachine$Assembler;", false)
def ft_S : Nat → FieldType := fun k => match k with
  | 0 => .object "SignMachine$Machine"
  | _ => .object "SignMachine$Assembler"
theorem fn_S : ∀ a, a < 2 → ∀ b, b < 2 → a ≠ b → (F_S a).2.1 ≠ (F_S b).2.1 := by decide +kernel
theorem ft_S_ok : ∀ k, k < 2 → parseFieldDescriptor (F_S k).2.2.1 = some (ft_S k) := by decide +kernel
theorem fi_S : ∀ w ∈ u_ws "SignMachine" F_S 2, w ∈ tb := fun w h => List.mem_filter.mpr ((show ∀ w ∈ u_ws "SignMachine" F_S 2, w ∈ lw_tbl ∧ goodWord w = true from by decide +kernel) w h)
def F_M : u_T := fun k => match k with
  | 0 => ("SignMachine$Machine", "memory", "[I", true)
  | 1 => ("SignMachine$Machine", "registers", "[I", true)
  | 2 => ("SignMachine$Machine", "firstTape", "LSignMachine$Tape;", true)
  | 3 => ("SignMachine$Machine", "secondTape", "LSignMachine$Tape;", true)
  | 4 => ("SignMachine$Machine", "toggle", "Z", false)
  | 5 => ("SignMachine$Machine", "indicator", "I", false)
  | 6 => ("SignMachine$Machine", "time", "I", false)
  | 7 => ("SignMachine$Machine", "next", "I", false)
  | 8 => ("SignMachine$Machine", "ending", "I", false)
  | 9 => ("SignMachine$Machine", "code", "I", false)
  | 10 => ("SignMachine$Machine", "field", "I", false)
  | 11 => ("SignMachine$Machine", "index", "I", false)
  | 12 => ("SignMachine$Machine", "m", "I", false)
  | _ => ("SignMachine$Machine", "signOfZero", "I", false)
def ft_M : Nat → FieldType := fun k => match k with
  | 0 => .array .int
  | 1 => .array .int
  | 2 => .object "SignMachine$Tape"
  | 3 => .object "SignMachine$Tape"
  | 4 => .boolean
  | 5 => .int
  | 6 => .int
  | 7 => .int
  | 8 => .int
  | 9 => .int
  | 10 => .int
  | 11 => .int
  | 12 => .int
  | _ => .int
theorem fn_M : ∀ a, a < 14 → ∀ b, b < 14 → a ≠ b → (F_M a).2.1 ≠ (F_M b).2.1 := by decide +kernel
theorem ft_M_ok : ∀ k, k < 14 → parseFieldDescriptor (F_M k).2.2.1 = some (ft_M k) := by decide +kernel
theorem fi_M : ∀ w ∈ u_ws "SignMachine$Machine" F_M 14, w ∈ tb := fun w h => List.mem_filter.mpr ((show ∀ w ∈ u_ws "SignMachine$Machine" F_M 14, w ∈ lw_tbl ∧ goodWord w = true from by decide +kernel) w h)
def F_T : u_T := fun k => match k with
  | 0 => ("SignMachine$Tape", "place", "I", false)
  | _ => ("SignMachine$Tape", "words", "[I", false)
def ft_T : Nat → FieldType := fun k => match k with
  | 0 => .int
  | _ => .array .int
theorem fn_T : ∀ a, a < 2 → ∀ b, b < 2 → a ≠ b → (F_T a).2.1 ≠ (F_T b).2.1 := by decide +kernel
theorem ft_T_ok : ∀ k, k < 2 → parseFieldDescriptor (F_T k).2.2.1 = some (ft_T k) := by decide +kernel
theorem fi_T : ∀ w ∈ u_ws "SignMachine$Tape" F_T 2, w ∈ tb := fun w h => List.mem_filter.mpr ((show ∀ w ∈ u_ws "SignMachine$Tape" F_T 2, w ∈ lw_tbl ∧ goodWord w = true from by decide +kernel) w h)
def F_A : u_T := fun k => match k with
  | 0 => ("SignMachine$Assembler", "source", "LSignMachine$Source;", true)
  | 1 => ("SignMachine$Assembler", "names", "LSignMachine$Names;", true)
  | 2 => ("SignMachine$Assembler", "output", "LSignMachine$Output;", true)
  | 3 => ("SignMachine$Assembler", "fault", "I", false)
  | 4 => ("SignMachine$Assembler", "faultLine", "I", false)
  | 5 => ("SignMachine$Assembler", "firstFree", "I", false)
  | 6 => ("SignMachine$Assembler", "start", "I", false)
  | 7 => ("SignMachine$Assembler", "place", "I", false)
  | 8 => ("SignMachine$Assembler", "ended", "Z", false)
  | 9 => ("SignMachine$Assembler", "label", "J", false)
  | 10 => ("SignMachine$Assembler", "labelValue", "I", false)
  | 11 => ("SignMachine$Assembler", "op", "LSignMachine$Op;", false)
  | 12 => ("SignMachine$Assembler", "code", "I", false)
  | 13 => ("SignMachine$Assembler", "kind", "I", false)
  | _ => ("SignMachine$Assembler", "goal", "I", false)
def ft_A : Nat → FieldType := fun k => match k with
  | 0 => .object "SignMachine$Source"
  | 1 => .object "SignMachine$Names"
  | 2 => .object "SignMachine$Output"
  | 3 => .int
  | 4 => .int
  | 5 => .int
  | 6 => .int
  | 7 => .int
  | 8 => .boolean
  | 9 => .long
  | 10 => .int
  | 11 => .object "SignMachine$Op"
  | 12 => .int
  | 13 => .int
  | _ => .int
theorem fn_A : ∀ a, a < 15 → ∀ b, b < 15 → a ≠ b → (F_A a).2.1 ≠ (F_A b).2.1 := by decide +kernel
theorem ft_A_ok : ∀ k, k < 15 → parseFieldDescriptor (F_A k).2.2.1 = some (ft_A k) := by decide +kernel
theorem fi_A : ∀ w ∈ u_ws "SignMachine$Assembler" F_A 15, w ∈ tb := fun w h => List.mem_filter.mpr ((show ∀ w ∈ u_ws "SignMachine$Assembler" F_A 15, w ∈ lw_tbl ∧ goodWord w = true from by decide +kernel) w h)
def F_R : u_T := fun k => match k with
  | 0 => ("SignMachine$Source", "bytes", "[B", true)
  | 1 => ("SignMachine$Source", "length", "I", false)
  | 2 => ("SignMachine$Source", "line", "I", false)
  | 3 => ("SignMachine$Source", "at", "I", false)
  | 4 => ("SignMachine$Source", "stop", "I", false)
  | 5 => ("SignMachine$Source", "following", "I", false)
  | 6 => ("SignMachine$Source", "kind", "I", false)
  | 7 => ("SignMachine$Source", "name", "J", false)
  | _ => ("SignMachine$Source", "number", "I", false)
def ft_R : Nat → FieldType := fun k => match k with
  | 0 => .array .byte
  | 1 => .int
  | 2 => .int
  | 3 => .int
  | 4 => .int
  | 5 => .int
  | 6 => .int
  | 7 => .long
  | _ => .int
theorem fn_R : ∀ a, a < 9 → ∀ b, b < 9 → a ≠ b → (F_R a).2.1 ≠ (F_R b).2.1 := by decide +kernel
theorem ft_R_ok : ∀ k, k < 9 → parseFieldDescriptor (F_R k).2.2.1 = some (ft_R k) := by decide +kernel
theorem fi_R : ∀ w ∈ u_ws "SignMachine$Source" F_R 9, w ∈ tb := fun w h => List.mem_filter.mpr ((show ∀ w ∈ u_ws "SignMachine$Source" F_R 9, w ∈ lw_tbl ∧ goodWord w = true from by decide +kernel) w h)
def F_N : u_T := fun k => match k with
  | 0 => ("SignMachine$Names", "names", "[J", true)
  | 1 => ("SignMachine$Names", "values", "[I", true)
  | 2 => ("SignMachine$Names", "told", "[Z", true)
  | 3 => ("SignMachine$Names", "localValues", "[I", true)
  | 4 => ("SignMachine$Names", "localTold", "[Z", true)
  | 5 => ("SignMachine$Names", "count", "I", false)
  | _ => ("SignMachine$Names", "symbols", "I", false)
def ft_N : Nat → FieldType := fun k => match k with
  | 0 => .array .long
  | 1 => .array .int
  | 2 => .array .boolean
  | 3 => .array .int
  | 4 => .array .boolean
  | 5 => .int
  | _ => .int
theorem fn_N : ∀ a, a < 7 → ∀ b, b < 7 → a ≠ b → (F_N a).2.1 ≠ (F_N b).2.1 := by decide +kernel
theorem ft_N_ok : ∀ k, k < 7 → parseFieldDescriptor (F_N k).2.2.1 = some (ft_N k) := by decide +kernel
theorem fi_N : ∀ w ∈ u_ws "SignMachine$Names" F_N 7, w ∈ tb := fun w h => List.mem_filter.mpr ((show ∀ w ∈ u_ws "SignMachine$Names" F_N 7, w ∈ lw_tbl ∧ goodWord w = true from by decide +kernel) w h)
def F_O : u_T := fun k => match k with
  | 0 => ("SignMachine$Output", "places", "[I", true)
  | 1 => ("SignMachine$Output", "words", "[I", true)
  | 2 => ("SignMachine$Output", "lines", "[I", true)
  | 3 => ("SignMachine$Output", "kinds", "[B", true)
  | 4 => ("SignMachine$Output", "goals", "[I", true)
  | 5 => ("SignMachine$Output", "lastOpen", "[I", true)
  | _ => ("SignMachine$Output", "count", "I", false)
def ft_O : Nat → FieldType := fun k => match k with
  | 0 => .array .int
  | 1 => .array .int
  | 2 => .array .int
  | 3 => .array .byte
  | 4 => .array .int
  | 5 => .array .int
  | _ => .int
theorem fn_O : ∀ a, a < 7 → ∀ b, b < 7 → a ≠ b → (F_O a).2.1 ≠ (F_O b).2.1 := by decide +kernel
theorem ft_O_ok : ∀ k, k < 7 → parseFieldDescriptor (F_O k).2.2.1 = some (ft_O k) := by decide +kernel
theorem fi_O : ∀ w ∈ u_ws "SignMachine$Output" F_O 7, w ∈ tb := fun w h => List.mem_filter.mpr ((show ∀ w ∈ u_ws "SignMachine$Output" F_O 7, w ∈ lw_tbl ∧ goodWord w = true from by decide +kernel) w h)
def F_X : u_T := fun k => match k with
  | 0 => ("SignMachineModel", "sign", "[I", true)
  | 1 => ("SignMachineModel", "size", "[I", true)
  | 2 => ("SignMachineModel", "rSign", "[I", true)
  | 3 => ("SignMachineModel", "rSize", "[I", true)
  | 4 => ("SignMachineModel", "at", "I", false)
  | 5 => ("SignMachineModel", "toggle", "I", false)
  | 6 => ("SignMachineModel", "indicator", "I", false)
  | 7 => ("SignMachineModel", "time", "I", false)
  | 8 => ("SignMachineModel", "ended", "I", false)
  | 9 => ("SignMachineModel", "tapeSign", "[I", true)
  | 10 => ("SignMachineModel", "tapeSize", "[I", true)
  | 11 => ("SignMachineModel", "tapeAt", "[I", true)
  | 12 => ("SignMachineModel", "opCode", "I", false)
  | 13 => ("SignMachineModel", "field", "I", false)
  | 14 => ("SignMachineModel", "index", "I", false)
  | 15 => ("SignMachineModel", "m", "I", false)
  | 16 => ("SignMachineModel", "mSign", "I", false)
  | 17 => ("SignMachineModel", "vSign", "I", false)
  | 18 => ("SignMachineModel", "vSize", "I", false)
  | 19 => ("SignMachineModel", "ten", "[I", true)
  | 20 => ("SignMachineModel", "shifted", "[I", true)
  | 21 => ("SignMachineModel", "text", "[I", true)
  | 22 => ("SignMachineModel", "textSize", "I", false)
  | 23 => ("SignMachineModel", "line", "I", false)
  | 24 => ("SignMachineModel", "lineEnd", "I", false)
  | 25 => ("SignMachineModel", "p", "I", false)
  | 26 => ("SignMachineModel", "wrong", "I", false)
  | 27 => ("SignMachineModel", "wrongLine", "I", false)
  | 28 => ("SignMachineModel", "aboutLine", "I", false)
  | 29 => ("SignMachineModel", "aboutPlace", "I", false)
  | 30 => ("SignMachineModel", "place", "I", false)
  | 31 => ("SignMachineModel", "start", "I", false)
  | 32 => ("SignMachineModel", "isEnded", "Z", false)
  | 33 => ("SignMachineModel", "symbol", "[J", true)
  | 34 => ("SignMachineModel", "isTold", "[Z", true)
  | 35 => ("SignMachineModel", "symbolIs", "[J", true)
  | 36 => ("SignMachineModel", "symbols", "I", false)
  | 37 => ("SignMachineModel", "hasLocal", "[Z", true)
  | 38 => ("SignMachineModel", "localIs", "[J", true)
  | 39 => ("SignMachineModel", "lineLocal", "I", false)
  | 40 => ("SignMachineModel", "lineLocalIs", "J", false)
  | 41 => ("SignMachineModel", "outAt", "[I", true)
  | 42 => ("SignMachineModel", "outSign", "[I", true)
  | 43 => ("SignMachineModel", "outSize", "[I", true)
  | 44 => ("SignMachineModel", "outs", "I", false)
  | 45 => ("SignMachineModel", "laterOut", "[I", true)
  | 46 => ("SignMachineModel", "laterLine", "[I", true)
  | 47 => ("SignMachineModel", "laterOf", "[I", true)
  | 48 => ("SignMachineModel", "isPut", "[Z", true)
  | 49 => ("SignMachineModel", "laters", "I", false)
  | 50 => ("SignMachineModel", "follows", "[I", true)
  | 51 => ("SignMachineModel", "followers", "I", false)
  | 52 => ("SignMachineModel", "literal", "[J", true)
  | 53 => ("SignMachineModel", "literals", "I", false)
  | 54 => ("SignMachineModel", "atomKind", "I", false)
  | 55 => ("SignMachineModel", "atomIs", "J", false)
  | 56 => ("SignMachineModel", "atomLetter", "I", false)
  | 57 => ("SignMachineModel", "wSign", "I", false)
  | 58 => ("SignMachineModel", "wSize", "I", false)
  | 59 => ("SignMachineModel", "isLater", "Z", false)
  | 60 => ("SignMachineModel", "laterIs", "I", false)
  | 61 => ("SignMachineModel", "labelKind", "I", false)
  | 62 => ("SignMachineModel", "labelIs", "J", false)
  | _ => ("SignMachineModel", "laterValue", "[J", true)
def ft_X : Nat → FieldType := fun k => match k with
  | 0 => .array .int
  | 1 => .array .int
  | 2 => .array .int
  | 3 => .array .int
  | 4 => .int
  | 5 => .int
  | 6 => .int
  | 7 => .int
  | 8 => .int
  | 9 => .array .int
  | 10 => .array .int
  | 11 => .array .int
  | 12 => .int
  | 13 => .int
  | 14 => .int
  | 15 => .int
  | 16 => .int
  | 17 => .int
  | 18 => .int
  | 19 => .array .int
  | 20 => .array .int
  | 21 => .array .int
  | 22 => .int
  | 23 => .int
  | 24 => .int
  | 25 => .int
  | 26 => .int
  | 27 => .int
  | 28 => .int
  | 29 => .int
  | 30 => .int
  | 31 => .int
  | 32 => .boolean
  | 33 => .array .long
  | 34 => .array .boolean
  | 35 => .array .long
  | 36 => .int
  | 37 => .array .boolean
  | 38 => .array .long
  | 39 => .int
  | 40 => .long
  | 41 => .array .int
  | 42 => .array .int
  | 43 => .array .int
  | 44 => .int
  | 45 => .array .int
  | 46 => .array .int
  | 47 => .array .int
  | 48 => .array .boolean
  | 49 => .int
  | 50 => .array .int
  | 51 => .int
  | 52 => .array .long
  | 53 => .int
  | 54 => .int
  | 55 => .long
  | 56 => .int
  | 57 => .int
  | 58 => .int
  | 59 => .boolean
  | 60 => .int
  | 61 => .int
  | 62 => .long
  | _ => .array .long
theorem fn_X : ∀ a, a < 64 → ∀ b, b < 64 → a ≠ b → (F_X a).2.1 ≠ (F_X b).2.1 := by decide +kernel
theorem ft_X_ok : ∀ k, k < 64 → parseFieldDescriptor (F_X k).2.2.1 = some (ft_X k) := by decide +kernel
theorem fi_X : ∀ w ∈ u_ws "SignMachineModel" F_X 64, w ∈ tb := fun w h => List.mem_filter.mpr ((show ∀ w ∈ u_ws "SignMachineModel" F_X 64, w ∈ lw_tbl ∧ goodWord w = true from by decide +kernel) w h)
abbrev classes : List vw_C := [("SignMachine", F_S, 2), ("SignMachine$Machine", F_M, 14), ("SignMachine$Tape", F_T, 2), ("SignMachine$Assembler", F_A, 15), ("SignMachine$Source", F_R, 9), ("SignMachine$Names", F_N, 7), ("SignMachine$Output", F_O, 7), ("SignMachineModel", F_X, 64)]
abbrev b_X_init : ByteArray := prog_11_method_1_code
abbrev y_X_init : MethodName := ⟨"SignMachineModel", "<init>", "()V"⟩
theorem h_X_init : (y_X_init).cls ≠ "java/lang/invoke/MethodHandle" ∧ (y_X_init).cls ≠ "java/lang/invoke/VarHandle" ∧ (parseMethodDescriptor (y_X_init).desc).map (fun d => d.parameters.length) = some 0 := by decide +kernel
theorem d_X_init_0 : decode b_X_init 0 = .ok (.aload_n 0, 1) := by decide +kernel
theorem d_X_init_1 : decode b_X_init 1 = .ok (.invokespecial 1, 3) := by decide +kernel
theorem d_X_init_4 : decode b_X_init 4 = .ok (.aload_n 0, 1) := by decide +kernel
theorem d_X_init_5 : decode b_X_init 5 = .ok (.sipush 4000, 3) := by decide +kernel
theorem d_X_init_8 : decode b_X_init 8 = .ok (.newarray .int, 2) := by decide +kernel
theorem d_X_init_10 : decode b_X_init 10 = .ok (.putfield 7, 3) := by decide +kernel
theorem d_X_init_13 : decode b_X_init 13 = .ok (.aload_n 0, 1) := by decide +kernel
theorem d_X_init_14 : decode b_X_init 14 = .ok (.sipush 4000, 3) := by decide +kernel
theorem d_X_init_17 : decode b_X_init 17 = .ok (.newarray .int, 2) := by decide +kernel
theorem d_X_init_19 : decode b_X_init 19 = .ok (.putfield 13, 3) := by decide +kernel
theorem d_X_init_22 : decode b_X_init 22 = .ok (.aload_n 0, 1) := by decide +kernel
theorem d_X_init_23 : decode b_X_init 23 = .ok (.bipush 9, 2) := by decide +kernel
theorem d_X_init_25 : decode b_X_init 25 = .ok (.newarray .int, 2) := by decide +kernel
theorem d_X_init_27 : decode b_X_init 27 = .ok (.putfield 16, 3) := by decide +kernel
theorem d_X_init_30 : decode b_X_init 30 = .ok (.aload_n 0, 1) := by decide +kernel
theorem d_X_init_31 : decode b_X_init 31 = .ok (.bipush 9, 2) := by decide +kernel
theorem d_X_init_33 : decode b_X_init 33 = .ok (.newarray .int, 2) := by decide +kernel
theorem d_X_init_35 : decode b_X_init 35 = .ok (.putfield 19, 3) := by decide +kernel
theorem d_X_init_38 : decode b_X_init 38 = .ok (.aload_n 0, 1) := by decide +kernel
theorem d_X_init_39 : decode b_X_init 39 = .ok (.sipush 8000, 3) := by decide +kernel
theorem d_X_init_42 : decode b_X_init 42 = .ok (.newarray .int, 2) := by decide +kernel
theorem d_X_init_44 : decode b_X_init 44 = .ok (.putfield 22, 3) := by decide +kernel
theorem d_X_init_47 : decode b_X_init 47 = .ok (.aload_n 0, 1) := by decide +kernel
theorem d_X_init_48 : decode b_X_init 48 = .ok (.sipush 8000, 3) := by decide +kernel
theorem d_X_init_51 : decode b_X_init 51 = .ok (.newarray .int, 2) := by decide +kernel
theorem d_X_init_53 : decode b_X_init 53 = .ok (.putfield 25, 3) := by decide +kernel
theorem d_X_init_56 : decode b_X_init 56 = .ok (.aload_n 0, 1) := by decide +kernel
theorem d_X_init_57 : decode b_X_init 57 = .ok (.iconst 2, 1) := by decide +kernel
theorem d_X_init_58 : decode b_X_init 58 = .ok (.newarray .int, 2) := by decide +kernel
theorem d_X_init_60 : decode b_X_init 60 = .ok (.putfield 28, 3) := by decide +kernel
theorem d_X_init_63 : decode b_X_init 63 = .ok (.aload_n 0, 1) := by decide +kernel
theorem d_X_init_64 : decode b_X_init 64 = .ok (.bipush 10, 2) := by decide +kernel
theorem d_X_init_66 : decode b_X_init 66 = .ok (.newarray .int, 2) := by decide +kernel
theorem d_X_init_68 : decode b_X_init 68 = .ok (.putfield 31, 3) := by decide +kernel
theorem d_X_init_71 : decode b_X_init 71 = .ok (.aload_n 0, 1) := by decide +kernel
theorem d_X_init_72 : decode b_X_init 72 = .ok (.bipush 10, 2) := by decide +kernel
theorem d_X_init_74 : decode b_X_init 74 = .ok (.newarray .int, 2) := by decide +kernel
theorem d_X_init_76 : decode b_X_init 76 = .ok (.putfield 34, 3) := by decide +kernel
theorem d_X_init_79 : decode b_X_init 79 = .ok (.aload_n 0, 1) := by decide +kernel
theorem d_X_init_80 : decode b_X_init 80 = .ok (.sipush 4000, 3) := by decide +kernel
theorem d_X_init_83 : decode b_X_init 83 = .ok (.newarray .int, 2) := by decide +kernel
theorem d_X_init_85 : decode b_X_init 85 = .ok (.putfield 37, 3) := by decide +kernel
theorem d_X_init_88 : decode b_X_init 88 = .ok (.aload_n 0, 1) := by decide +kernel
theorem d_X_init_89 : decode b_X_init 89 = .ok (.iconst (-1), 1) := by decide +kernel
theorem d_X_init_90 : decode b_X_init 90 = .ok (.putfield 40, 3) := by decide +kernel
theorem d_X_init_93 : decode b_X_init 93 = .ok (.aload_n 0, 1) := by decide +kernel
theorem d_X_init_94 : decode b_X_init 94 = .ok (.bipush 61, 2) := by decide +kernel
theorem d_X_init_96 : decode b_X_init 96 = .ok (.newarray .long, 2) := by decide +kernel
theorem d_X_init_98 : decode b_X_init 98 = .ok (.putfield 44, 3) := by decide +kernel
theorem d_X_init_101 : decode b_X_init 101 = .ok (.aload_n 0, 1) := by decide +kernel
theorem d_X_init_102 : decode b_X_init 102 = .ok (.bipush 61, 2) := by decide +kernel
theorem d_X_init_104 : decode b_X_init 104 = .ok (.newarray .boolean, 2) := by decide +kernel
theorem d_X_init_106 : decode b_X_init 106 = .ok (.putfield 48, 3) := by decide +kernel
theorem d_X_init_109 : decode b_X_init 109 = .ok (.aload_n 0, 1) := by decide +kernel
theorem d_X_init_110 : decode b_X_init 110 = .ok (.bipush 61, 2) := by decide +kernel
theorem d_X_init_112 : decode b_X_init 112 = .ok (.newarray .long, 2) := by decide +kernel
theorem d_X_init_114 : decode b_X_init 114 = .ok (.putfield 52, 3) := by decide +kernel
theorem d_X_init_117 : decode b_X_init 117 = .ok (.aload_n 0, 1) := by decide +kernel
theorem d_X_init_118 : decode b_X_init 118 = .ok (.bipush 10, 2) := by decide +kernel
theorem d_X_init_120 : decode b_X_init 120 = .ok (.newarray .boolean, 2) := by decide +kernel
theorem d_X_init_122 : decode b_X_init 122 = .ok (.putfield 55, 3) := by decide +kernel
theorem d_X_init_125 : decode b_X_init 125 = .ok (.aload_n 0, 1) := by decide +kernel
theorem d_X_init_126 : decode b_X_init 126 = .ok (.bipush 10, 2) := by decide +kernel
theorem d_X_init_128 : decode b_X_init 128 = .ok (.newarray .long, 2) := by decide +kernel
theorem d_X_init_130 : decode b_X_init 130 = .ok (.putfield 58, 3) := by decide +kernel
theorem d_X_init_133 : decode b_X_init 133 = .ok (.aload_n 0, 1) := by decide +kernel
theorem d_X_init_134 : decode b_X_init 134 = .ok (.sipush 4200, 3) := by decide +kernel
theorem d_X_init_137 : decode b_X_init 137 = .ok (.newarray .int, 2) := by decide +kernel
theorem d_X_init_139 : decode b_X_init 139 = .ok (.putfield 61, 3) := by decide +kernel
theorem d_X_init_142 : decode b_X_init 142 = .ok (.aload_n 0, 1) := by decide +kernel
theorem d_X_init_143 : decode b_X_init 143 = .ok (.sipush 4200, 3) := by decide +kernel
theorem d_X_init_146 : decode b_X_init 146 = .ok (.newarray .int, 2) := by decide +kernel
theorem d_X_init_148 : decode b_X_init 148 = .ok (.putfield 64, 3) := by decide +kernel
theorem d_X_init_151 : decode b_X_init 151 = .ok (.aload_n 0, 1) := by decide +kernel
theorem d_X_init_152 : decode b_X_init 152 = .ok (.sipush 4200, 3) := by decide +kernel
theorem d_X_init_155 : decode b_X_init 155 = .ok (.newarray .int, 2) := by decide +kernel
theorem d_X_init_157 : decode b_X_init 157 = .ok (.putfield 67, 3) := by decide +kernel
theorem d_X_init_160 : decode b_X_init 160 = .ok (.aload_n 0, 1) := by decide +kernel
theorem d_X_init_161 : decode b_X_init 161 = .ok (.sipush 4200, 3) := by decide +kernel
theorem d_X_init_164 : decode b_X_init 164 = .ok (.newarray .int, 2) := by decide +kernel
theorem d_X_init_166 : decode b_X_init 166 = .ok (.putfield 70, 3) := by decide +kernel
theorem d_X_init_169 : decode b_X_init 169 = .ok (.aload_n 0, 1) := by decide +kernel
theorem d_X_init_170 : decode b_X_init 170 = .ok (.sipush 4200, 3) := by decide +kernel
theorem d_X_init_173 : decode b_X_init 173 = .ok (.newarray .int, 2) := by decide +kernel
theorem d_X_init_175 : decode b_X_init 175 = .ok (.putfield 73, 3) := by decide +kernel
theorem d_X_init_178 : decode b_X_init 178 = .ok (.aload_n 0, 1) := by decide +kernel
theorem d_X_init_179 : decode b_X_init 179 = .ok (.sipush 4200, 3) := by decide +kernel
theorem d_X_init_182 : decode b_X_init 182 = .ok (.newarray .int, 2) := by decide +kernel
theorem d_X_init_184 : decode b_X_init 184 = .ok (.putfield 76, 3) := by decide +kernel
theorem d_X_init_187 : decode b_X_init 187 = .ok (.aload_n 0, 1) := by decide +kernel
theorem d_X_init_188 : decode b_X_init 188 = .ok (.sipush 4200, 3) := by decide +kernel
theorem d_X_init_191 : decode b_X_init 191 = .ok (.newarray .boolean, 2) := by decide +kernel
theorem d_X_init_193 : decode b_X_init 193 = .ok (.putfield 79, 3) := by decide +kernel
theorem d_X_init_196 : decode b_X_init 196 = .ok (.aload_n 0, 1) := by decide +kernel
theorem d_X_init_197 : decode b_X_init 197 = .ok (.bipush 110, 2) := by decide +kernel
theorem d_X_init_199 : decode b_X_init 199 = .ok (.newarray .int, 2) := by decide +kernel
theorem d_X_init_201 : decode b_X_init 201 = .ok (.putfield 82, 3) := by decide +kernel
theorem d_X_init_204 : decode b_X_init 204 = .ok (.aload_n 0, 1) := by decide +kernel
theorem d_X_init_205 : decode b_X_init 205 = .ok (.bipush 41, 2) := by decide +kernel
theorem d_X_init_207 : decode b_X_init 207 = .ok (.newarray .long, 2) := by decide +kernel
theorem d_X_init_209 : decode b_X_init 209 = .ok (.putfield 85, 3) := by decide +kernel
theorem d_X_init_212 : decode b_X_init 212 = .ok (.aload_n 0, 1) := by decide +kernel
theorem d_X_init_213 : decode b_X_init 213 = .ok (.sipush 4200, 3) := by decide +kernel
theorem d_X_init_216 : decode b_X_init 216 = .ok (.newarray .long, 2) := by decide +kernel
theorem d_X_init_218 : decode b_X_init 218 = .ok (.putfield 88, 3) := by decide +kernel
theorem d_X_init_221 : decode b_X_init 221 = .ok (.aload_n 0, 1) := by decide +kernel
theorem d_X_init_222 : decode b_X_init 222 = .ok (.iconst 0, 1) := by decide +kernel
theorem d_X_init_223 : decode b_X_init 223 = .ok (.putfield 91, 3) := by decide +kernel
theorem d_X_init_226 : decode b_X_init 226 = .ok (.return_, 1) := by decide +kernel
abbrev b_X_about : ByteArray := prog_11_method_87_code
abbrev y_X_about : MethodName := ⟨"SignMachineModel", "about", "(I)I"⟩
theorem h_X_about : (y_X_about).cls ≠ "java/lang/invoke/MethodHandle" ∧ (y_X_about).cls ≠ "java/lang/invoke/VarHandle" ∧ (parseMethodDescriptor (y_X_about).desc).map (fun d => d.parameters.length) = some 1 := by decide +kernel
theorem d_X_about_0 : decode b_X_about 0 = .ok (.iload_n 1, 1) := by decide +kernel
theorem d_X_about_1 : decode b_X_about 1 = .ok (.ifCond .ne 10, 3) := by decide +kernel
theorem d_X_about_4 : decode b_X_about 4 = .ok (.aload_n 0, 1) := by decide +kernel
theorem d_X_about_5 : decode b_X_about 5 = .ok (.getfield 568, 3) := by decide +kernel
theorem d_X_about_8 : decode b_X_about 8 = .ok (.goto 28, 3) := by decide +kernel
theorem d_X_about_11 : decode b_X_about 11 = .ok (.iload_n 1, 1) := by decide +kernel
theorem d_X_about_12 : decode b_X_about 12 = .ok (.iconst 1, 1) := by decide +kernel
theorem d_X_about_13 : decode b_X_about 13 = .ok (.if_icmp .ne 10, 3) := by decide +kernel
theorem d_X_about_16 : decode b_X_about 16 = .ok (.aload_n 0, 1) := by decide +kernel
theorem d_X_about_17 : decode b_X_about 17 = .ok (.getfield 40, 3) := by decide +kernel
theorem d_X_about_20 : decode b_X_about 20 = .ok (.goto 16, 3) := by decide +kernel
theorem d_X_about_23 : decode b_X_about 23 = .ok (.iload_n 1, 1) := by decide +kernel
theorem d_X_about_24 : decode b_X_about 24 = .ok (.iconst 2, 1) := by decide +kernel
theorem d_X_about_25 : decode b_X_about 25 = .ok (.if_icmp .ne 10, 3) := by decide +kernel
theorem d_X_about_28 : decode b_X_about 28 = .ok (.aload_n 0, 1) := by decide +kernel
theorem d_X_about_29 : decode b_X_about 29 = .ok (.getfield 274, 3) := by decide +kernel
theorem d_X_about_32 : decode b_X_about 32 = .ok (.goto 4, 3) := by decide +kernel
theorem d_X_about_35 : decode b_X_about 35 = .ok (.iconst (-1), 1) := by decide +kernel
theorem d_X_about_36 : decode b_X_about 36 = .ok (.ireturn, 1) := by decide +kernel
abbrev b_X_add : ByteArray := prog_11_method_28_code
abbrev y_X_add : MethodName := ⟨"SignMachineModel", "add", "(III)V"⟩
theorem h_X_add : (y_X_add).cls ≠ "java/lang/invoke/MethodHandle" ∧ (y_X_add).cls ≠ "java/lang/invoke/VarHandle" ∧ (parseMethodDescriptor (y_X_add).desc).map (fun d => d.parameters.length) = some 3 := by decide +kernel
theorem d_X_add_0 : decode b_X_add 0 = .ok (.aload_n 0, 1) := by decide +kernel
theorem d_X_add_1 : decode b_X_add 1 = .ok (.getfield 16, 3) := by decide +kernel
theorem d_X_add_4 : decode b_X_add 4 = .ok (.iload_n 1, 1) := by decide +kernel
theorem d_X_add_5 : decode b_X_add 5 = .ok (.iaload, 1) := by decide +kernel
theorem d_X_add_6 : decode b_X_add 6 = .ok (.iconst 1, 1) := by decide +kernel
theorem d_X_add_7 : decode b_X_add 7 = .ok (.if_icmp .ne 14, 3) := by decide +kernel
theorem d_X_add_10 : decode b_X_add 10 = .ok (.aload_n 0, 1) := by decide +kernel
theorem d_X_add_11 : decode b_X_add 11 = .ok (.getfield 19, 3) := by decide +kernel
theorem d_X_add_14 : decode b_X_add 14 = .ok (.iload_n 1, 1) := by decide +kernel
theorem d_X_add_15 : decode b_X_add 15 = .ok (.iaload, 1) := by decide +kernel
theorem d_X_add_16 : decode b_X_add 16 = .ok (.i2l, 1) := by decide +kernel
theorem d_X_add_17 : decode b_X_add 17 = .ok (.lneg, 1) := by decide +kernel
theorem d_X_add_18 : decode b_X_add 18 = .ok (.goto 10, 3) := by decide +kernel
theorem d_X_add_21 : decode b_X_add 21 = .ok (.aload_n 0, 1) := by decide +kernel
theorem d_X_add_22 : decode b_X_add 22 = .ok (.getfield 19, 3) := by decide +kernel
theorem d_X_add_25 : decode b_X_add 25 = .ok (.iload_n 1, 1) := by decide +kernel
theorem d_X_add_26 : decode b_X_add 26 = .ok (.iaload, 1) := by decide +kernel
theorem d_X_add_27 : decode b_X_add 27 = .ok (.i2l, 1) := by decide +kernel
theorem d_X_add_28 : decode b_X_add 28 = .ok (.lstore 4, 2) := by decide +kernel
theorem d_X_add_30 : decode b_X_add 30 = .ok (.lload 4, 2) := by decide +kernel
theorem d_X_add_32 : decode b_X_add 32 = .ok (.iload_n 2, 1) := by decide +kernel
theorem d_X_add_33 : decode b_X_add 33 = .ok (.iconst 1, 1) := by decide +kernel
theorem d_X_add_34 : decode b_X_add 34 = .ok (.if_icmp .ne 9, 3) := by decide +kernel
theorem d_X_add_37 : decode b_X_add 37 = .ok (.iload_n 3, 1) := by decide +kernel
theorem d_X_add_38 : decode b_X_add 38 = .ok (.i2l, 1) := by decide +kernel
theorem d_X_add_39 : decode b_X_add 39 = .ok (.lneg, 1) := by decide +kernel
theorem d_X_add_40 : decode b_X_add 40 = .ok (.goto 5, 3) := by decide +kernel
theorem d_X_add_43 : decode b_X_add 43 = .ok (.iload_n 3, 1) := by decide +kernel
theorem d_X_add_44 : decode b_X_add 44 = .ok (.i2l, 1) := by decide +kernel
theorem d_X_add_45 : decode b_X_add 45 = .ok (.ladd, 1) := by decide +kernel
theorem d_X_add_46 : decode b_X_add 46 = .ok (.lstore 6, 2) := by decide +kernel
theorem d_X_add_48 : decode b_X_add 48 = .ok (.aload_n 0, 1) := by decide +kernel
theorem d_X_add_49 : decode b_X_add 49 = .ok (.getfield 16, 3) := by decide +kernel
theorem d_X_add_52 : decode b_X_add 52 = .ok (.iload_n 1, 1) := by decide +kernel
theorem d_X_add_53 : decode b_X_add 53 = .ok (.lload 6, 2) := by decide +kernel
theorem d_X_add_55 : decode b_X_add 55 = .ok (.lconst 0, 1) := by decide +kernel
theorem d_X_add_56 : decode b_X_add 56 = .ok (.lcmp, 1) := by decide +kernel
theorem d_X_add_57 : decode b_X_add 57 = .ok (.ifCond .ge 7, 3) := by decide +kernel
theorem d_X_add_60 : decode b_X_add 60 = .ok (.iconst 1, 1) := by decide +kernel
theorem d_X_add_61 : decode b_X_add 61 = .ok (.goto 20, 3) := by decide +kernel
theorem d_X_add_64 : decode b_X_add 64 = .ok (.lload 6, 2) := by decide +kernel
theorem d_X_add_66 : decode b_X_add 66 = .ok (.lconst 0, 1) := by decide +kernel
theorem d_X_add_67 : decode b_X_add 67 = .ok (.lcmp, 1) := by decide +kernel
theorem d_X_add_68 : decode b_X_add 68 = .ok (.ifCond .le 7, 3) := by decide +kernel
theorem d_X_add_71 : decode b_X_add 71 = .ok (.iconst 0, 1) := by decide +kernel
theorem d_X_add_72 : decode b_X_add 72 = .ok (.goto 9, 3) := by decide +kernel
theorem d_X_add_75 : decode b_X_add 75 = .ok (.aload_n 0, 1) := by decide +kernel
theorem d_X_add_76 : decode b_X_add 76 = .ok (.getfield 16, 3) := by decide +kernel
theorem d_X_add_79 : decode b_X_add 79 = .ok (.iload_n 1, 1) := by decide +kernel
theorem d_X_add_80 : decode b_X_add 80 = .ok (.iaload, 1) := by decide +kernel
theorem d_X_add_81 : decode b_X_add 81 = .ok (.iastore, 1) := by decide +kernel
theorem d_X_add_82 : decode b_X_add 82 = .ok (.lload 6, 2) := by decide +kernel
theorem d_X_add_84 : decode b_X_add 84 = .ok (.lconst 0, 1) := by decide +kernel
theorem d_X_add_85 : decode b_X_add 85 = .ok (.lcmp, 1) := by decide +kernel
theorem d_X_add_86 : decode b_X_add 86 = .ok (.ifCond .ge 9, 3) := by decide +kernel
theorem d_X_add_89 : decode b_X_add 89 = .ok (.lload 6, 2) := by decide +kernel
theorem d_X_add_91 : decode b_X_add 91 = .ok (.lneg, 1) := by decide +kernel
theorem d_X_add_92 : decode b_X_add 92 = .ok (.goto 5, 3) := by decide +kernel
theorem d_X_add_95 : decode b_X_add 95 = .ok (.lload 6, 2) := by decide +kernel
theorem d_X_add_97 : decode b_X_add 97 = .ok (.lstore 8, 2) := by decide +kernel
theorem d_X_add_99 : decode b_X_add 99 = .ok (.lload 8, 2) := by decide +kernel
theorem d_X_add_101 : decode b_X_add 101 = .ok (.ldc2_w 199, 3) := by decide +kernel
theorem d_X_add_104 : decode b_X_add 104 = .ok (.lcmp, 1) := by decide +kernel
theorem d_X_add_105 : decode b_X_add 105 = .ok (.ifCond .lt 16, 3) := by decide +kernel
theorem d_X_add_108 : decode b_X_add 108 = .ok (.aload_n 0, 1) := by decide +kernel
theorem d_X_add_109 : decode b_X_add 109 = .ok (.iconst 1, 1) := by decide +kernel
theorem d_X_add_110 : decode b_X_add 110 = .ok (.putfield 113, 3) := by decide +kernel
theorem d_X_add_113 : decode b_X_add 113 = .ok (.lload 8, 2) := by decide +kernel
theorem d_X_add_115 : decode b_X_add 115 = .ok (.ldc2_w 199, 3) := by decide +kernel
theorem d_X_add_118 : decode b_X_add 118 = .ok (.lsub, 1) := by decide +kernel
theorem d_X_add_119 : decode b_X_add 119 = .ok (.lstore 8, 2) := by decide +kernel
theorem d_X_add_121 : decode b_X_add 121 = .ok (.aload_n 0, 1) := by decide +kernel
theorem d_X_add_122 : decode b_X_add 122 = .ok (.getfield 19, 3) := by decide +kernel
theorem d_X_add_125 : decode b_X_add 125 = .ok (.iload_n 1, 1) := by decide +kernel
theorem d_X_add_126 : decode b_X_add 126 = .ok (.lload 8, 2) := by decide +kernel
theorem d_X_add_128 : decode b_X_add 128 = .ok (.l2i, 1) := by decide +kernel
theorem d_X_add_129 : decode b_X_add 129 = .ok (.iastore, 1) := by decide +kernel
theorem d_X_add_130 : decode b_X_add 130 = .ok (.return_, 1) := by decide +kernel
abbrev b_X_addressPart : ByteArray := prog_11_method_69_code
abbrev y_X_addressPart : MethodName := ⟨"SignMachineModel", "addressPart", "()J"⟩
theorem h_X_addressPart : (y_X_addressPart).cls ≠ "java/lang/invoke/MethodHandle" ∧ (y_X_addressPart).cls ≠ "java/lang/invoke/VarHandle" ∧ (parseMethodDescriptor (y_X_addressPart).desc).map (fun d => d.parameters.length) = some 0 := by decide +kernel
theorem d_X_addressPart_0 : decode b_X_addressPart 0 = .ok (.aload_n 0, 1) := by decide +kernel
theorem d_X_addressPart_1 : decode b_X_addressPart 1 = .ok (.invokevirtual 288, 3) := by decide +kernel
theorem d_X_addressPart_4 : decode b_X_addressPart 4 = .ok (.istore_n 1, 1) := by decide +kernel
theorem d_X_addressPart_5 : decode b_X_addressPart 5 = .ok (.iload_n 1, 1) := by decide +kernel
theorem d_X_addressPart_6 : decode b_X_addressPart 6 = .ok (.bipush 61, 2) := by decide +kernel
theorem d_X_addressPart_8 : decode b_X_addressPart 8 = .ok (.if_icmp .ne 134, 3) := by decide +kernel
theorem d_X_addressPart_11 : decode b_X_addressPart 11 = .ok (.aload_n 0, 1) := by decide +kernel
theorem d_X_addressPart_12 : decode b_X_addressPart 12 = .ok (.dup, 1) := by decide +kernel
theorem d_X_addressPart_13 : decode b_X_addressPart 13 = .ok (.getfield 282, 3) := by decide +kernel
theorem d_X_addressPart_16 : decode b_X_addressPart 16 = .ok (.iconst 1, 1) := by decide +kernel
theorem d_X_addressPart_17 : decode b_X_addressPart 17 = .ok (.iadd, 1) := by decide +kernel
theorem d_X_addressPart_18 : decode b_X_addressPart 18 = .ok (.putfield 282, 3) := by decide +kernel
theorem d_X_addressPart_21 : decode b_X_addressPart 21 = .ok (.aload_n 0, 1) := by decide +kernel
theorem d_X_addressPart_22 : decode b_X_addressPart 22 = .ok (.invokevirtual 372, 3) := by decide +kernel
theorem d_X_addressPart_25 : decode b_X_addressPart 25 = .ok (.aload_n 0, 1) := by decide +kernel
theorem d_X_addressPart_26 : decode b_X_addressPart 26 = .ok (.bipush 61, 2) := by decide +kernel
theorem d_X_addressPart_28 : decode b_X_addressPart 28 = .ok (.invokevirtual 352, 3) := by decide +kernel
theorem d_X_addressPart_31 : decode b_X_addressPart 31 = .ok (.aload_n 0, 1) := by decide +kernel
theorem d_X_addressPart_32 : decode b_X_addressPart 32 = .ok (.getfield 375, 3) := by decide +kernel
theorem d_X_addressPart_35 : decode b_X_addressPart 35 = .ok (.bipush 40, 2) := by decide +kernel
theorem d_X_addressPart_37 : decode b_X_addressPart 37 = .ok (.if_icmp .ne 11, 3) := by decide +kernel
theorem d_X_addressPart_40 : decode b_X_addressPart 40 = .ok (.aload_n 0, 1) := by decide +kernel
theorem d_X_addressPart_41 : decode b_X_addressPart 41 = .ok (.iconst 5, 1) := by decide +kernel
theorem d_X_addressPart_42 : decode b_X_addressPart 42 = .ok (.invokevirtual 299, 3) := by decide +kernel
theorem d_X_addressPart_45 : decode b_X_addressPart 45 = .ok (.goto 95, 3) := by decide +kernel
theorem d_X_addressPart_48 : decode b_X_addressPart 48 = .ok (.aload_n 0, 1) := by decide +kernel
theorem d_X_addressPart_49 : decode b_X_addressPart 49 = .ok (.getfield 279, 3) := by decide +kernel
theorem d_X_addressPart_52 : decode b_X_addressPart 52 = .ok (.ifCond .ne 88, 3) := by decide +kernel
theorem d_X_addressPart_55 : decode b_X_addressPart 55 = .ok (.aload_n 0, 1) := by decide +kernel
theorem d_X_addressPart_56 : decode b_X_addressPart 56 = .ok (.getfield 85, 3) := by decide +kernel
theorem d_X_addressPart_59 : decode b_X_addressPart 59 = .ok (.aload_n 0, 1) := by decide +kernel
theorem d_X_addressPart_60 : decode b_X_addressPart 60 = .ok (.getfield 375, 3) := by decide +kernel
theorem d_X_addressPart_63 : decode b_X_addressPart 63 = .ok (.aload_n 0, 1) := by decide +kernel
theorem d_X_addressPart_64 : decode b_X_addressPart 64 = .ok (.getfield 341, 3) := by decide +kernel
theorem d_X_addressPart_67 : decode b_X_addressPart 67 = .ok (.iconst 1, 1) := by decide +kernel
theorem d_X_addressPart_68 : decode b_X_addressPart 68 = .ok (.if_icmp .ne 14, 3) := by decide +kernel
theorem d_X_addressPart_71 : decode b_X_addressPart 71 = .ok (.aload_n 0, 1) := by decide +kernel
theorem d_X_addressPart_72 : decode b_X_addressPart 72 = .ok (.getfield 344, 3) := by decide +kernel
theorem d_X_addressPart_75 : decode b_X_addressPart 75 = .ok (.i2l, 1) := by decide +kernel
theorem d_X_addressPart_76 : decode b_X_addressPart 76 = .ok (.lneg, 1) := by decide +kernel
theorem d_X_addressPart_77 : decode b_X_addressPart 77 = .ok (.lconst 1, 1) := by decide +kernel
theorem d_X_addressPart_78 : decode b_X_addressPart 78 = .ok (.lsub, 1) := by decide +kernel
theorem d_X_addressPart_79 : decode b_X_addressPart 79 = .ok (.goto 8, 3) := by decide +kernel
theorem d_X_addressPart_82 : decode b_X_addressPart 82 = .ok (.aload_n 0, 1) := by decide +kernel
theorem d_X_addressPart_83 : decode b_X_addressPart 83 = .ok (.getfield 344, 3) := by decide +kernel
theorem d_X_addressPart_86 : decode b_X_addressPart 86 = .ok (.i2l, 1) := by decide +kernel
theorem d_X_addressPart_87 : decode b_X_addressPart 87 = .ok (.lastore, 1) := by decide +kernel
theorem d_X_addressPart_88 : decode b_X_addressPart 88 = .ok (.aload_n 0, 1) := by decide +kernel
theorem d_X_addressPart_89 : decode b_X_addressPart 89 = .ok (.getfield 82, 3) := by decide +kernel
theorem d_X_addressPart_92 : decode b_X_addressPart 92 = .ok (.aload_n 0, 1) := by decide +kernel
theorem d_X_addressPart_93 : decode b_X_addressPart 93 = .ok (.getfield 362, 3) := by decide +kernel
theorem d_X_addressPart_96 : decode b_X_addressPart 96 = .ok (.bipush 100, 2) := by decide +kernel
theorem d_X_addressPart_98 : decode b_X_addressPart 98 = .ok (.aload_n 0, 1) := by decide +kernel
theorem d_X_addressPart_99 : decode b_X_addressPart 99 = .ok (.getfield 375, 3) := by decide +kernel
theorem d_X_addressPart_102 : decode b_X_addressPart 102 = .ok (.iadd, 1) := by decide +kernel
theorem d_X_addressPart_103 : decode b_X_addressPart 103 = .ok (.iastore, 1) := by decide +kernel
theorem d_X_addressPart_104 : decode b_X_addressPart 104 = .ok (.aload_n 0, 1) := by decide +kernel
theorem d_X_addressPart_105 : decode b_X_addressPart 105 = .ok (.dup, 1) := by decide +kernel
theorem d_X_addressPart_106 : decode b_X_addressPart 106 = .ok (.getfield 362, 3) := by decide +kernel
theorem d_X_addressPart_109 : decode b_X_addressPart 109 = .ok (.iconst 1, 1) := by decide +kernel
theorem d_X_addressPart_110 : decode b_X_addressPart 110 = .ok (.iadd, 1) := by decide +kernel
theorem d_X_addressPart_111 : decode b_X_addressPart 111 = .ok (.putfield 362, 3) := by decide +kernel
theorem d_X_addressPart_114 : decode b_X_addressPart 114 = .ok (.aload_n 0, 1) := by decide +kernel
theorem d_X_addressPart_115 : decode b_X_addressPart 115 = .ok (.iconst 1, 1) := by decide +kernel
theorem d_X_addressPart_116 : decode b_X_addressPart 116 = .ok (.putfield 365, 3) := by decide +kernel
theorem d_X_addressPart_119 : decode b_X_addressPart 119 = .ok (.aload_n 0, 1) := by decide +kernel
theorem d_X_addressPart_120 : decode b_X_addressPart 120 = .ok (.bipush 100, 2) := by decide +kernel
theorem d_X_addressPart_122 : decode b_X_addressPart 122 = .ok (.aload_n 0, 1) := by decide +kernel
theorem d_X_addressPart_123 : decode b_X_addressPart 123 = .ok (.getfield 375, 3) := by decide +kernel
theorem d_X_addressPart_126 : decode b_X_addressPart 126 = .ok (.iadd, 1) := by decide +kernel
theorem d_X_addressPart_127 : decode b_X_addressPart 127 = .ok (.putfield 369, 3) := by decide +kernel
theorem d_X_addressPart_130 : decode b_X_addressPart 130 = .ok (.aload_n 0, 1) := by decide +kernel
theorem d_X_addressPart_131 : decode b_X_addressPart 131 = .ok (.dup, 1) := by decide +kernel
theorem d_X_addressPart_132 : decode b_X_addressPart 132 = .ok (.getfield 375, 3) := by decide +kernel
theorem d_X_addressPart_135 : decode b_X_addressPart 135 = .ok (.iconst 1, 1) := by decide +kernel
theorem d_X_addressPart_136 : decode b_X_addressPart 136 = .ok (.iadd, 1) := by decide +kernel
theorem d_X_addressPart_137 : decode b_X_addressPart 137 = .ok (.putfield 375, 3) := by decide +kernel
theorem d_X_addressPart_140 : decode b_X_addressPart 140 = .ok (.lconst 0, 1) := by decide +kernel
theorem d_X_addressPart_141 : decode b_X_addressPart 141 = .ok (.lreturn, 1) := by decide +kernel
theorem d_X_addressPart_142 : decode b_X_addressPart 142 = .ok (.aload_n 0, 1) := by decide +kernel
theorem d_X_addressPart_143 : decode b_X_addressPart 143 = .ok (.getfield 282, 3) := by decide +kernel
theorem d_X_addressPart_146 : decode b_X_addressPart 146 = .ok (.istore_n 2, 1) := by decide +kernel
theorem d_X_addressPart_147 : decode b_X_addressPart 147 = .ok (.iload_n 1, 1) := by decide +kernel
theorem d_X_addressPart_148 : decode b_X_addressPart 148 = .ok (.invokestatic 291, 3) := by decide +kernel
theorem d_X_addressPart_151 : decode b_X_addressPart 151 = .ok (.ifCond .ne 10, 3) := by decide +kernel
theorem d_X_addressPart_154 : decode b_X_addressPart 154 = .ok (.iload_n 1, 1) := by decide +kernel
theorem d_X_addressPart_155 : decode b_X_addressPart 155 = .ok (.invokestatic 294, 3) := by decide +kernel
theorem d_X_addressPart_158 : decode b_X_addressPart 158 = .ok (.ifCond .eq 138, 3) := by decide +kernel
theorem d_X_addressPart_161 : decode b_X_addressPart 161 = .ok (.aload_n 0, 1) := by decide +kernel
theorem d_X_addressPart_162 : decode b_X_addressPart 162 = .ok (.getfield 279, 3) := by decide +kernel
theorem d_X_addressPart_165 : decode b_X_addressPart 165 = .ok (.istore_n 3, 1) := by decide +kernel
theorem d_X_addressPart_166 : decode b_X_addressPart 166 = .ok (.aload_n 0, 1) := by decide +kernel
theorem d_X_addressPart_167 : decode b_X_addressPart 167 = .ok (.invokevirtual 324, 3) := by decide +kernel
theorem d_X_addressPart_170 : decode b_X_addressPart 170 = .ok (.aload_n 0, 1) := by decide +kernel
theorem d_X_addressPart_171 : decode b_X_addressPart 171 = .ok (.getfield 302, 3) := by decide +kernel
theorem d_X_addressPart_174 : decode b_X_addressPart 174 = .ok (.iconst 2, 1) := by decide +kernel
theorem d_X_addressPart_175 : decode b_X_addressPart 175 = .ok (.if_icmp .ne 43, 3) := by decide +kernel
theorem d_X_addressPart_178 : decode b_X_addressPart 178 = .ok (.aload_n 0, 1) := by decide +kernel
theorem d_X_addressPart_179 : decode b_X_addressPart 179 = .ok (.invokevirtual 378, 3) := by decide +kernel
theorem d_X_addressPart_182 : decode b_X_addressPart 182 = .ok (.ifCond .eq 36, 3) := by decide +kernel
theorem d_X_addressPart_185 : decode b_X_addressPart 185 = .ok (.aload_n 0, 1) := by decide +kernel
theorem d_X_addressPart_186 : decode b_X_addressPart 186 = .ok (.aload_n 0, 1) := by decide +kernel
theorem d_X_addressPart_187 : decode b_X_addressPart 187 = .ok (.getfield 305, 3) := by decide +kernel
theorem d_X_addressPart_190 : decode b_X_addressPart 190 = .ok (.invokevirtual 327, 3) := by decide +kernel
theorem d_X_addressPart_193 : decode b_X_addressPart 193 = .ok (.bipush (-2), 2) := by decide +kernel
theorem d_X_addressPart_195 : decode b_X_addressPart 195 = .ok (.if_icmp .eq 19, 3) := by decide +kernel
theorem d_X_addressPart_198 : decode b_X_addressPart 198 = .ok (.aload_n 0, 1) := by decide +kernel
theorem d_X_addressPart_199 : decode b_X_addressPart 199 = .ok (.getfield 48, 3) := by decide +kernel
theorem d_X_addressPart_202 : decode b_X_addressPart 202 = .ok (.aload_n 0, 1) := by decide +kernel
theorem d_X_addressPart_203 : decode b_X_addressPart 203 = .ok (.aload_n 0, 1) := by decide +kernel
theorem d_X_addressPart_204 : decode b_X_addressPart 204 = .ok (.getfield 305, 3) := by decide +kernel
theorem d_X_addressPart_207 : decode b_X_addressPart 207 = .ok (.invokevirtual 327, 3) := by decide +kernel
theorem d_X_addressPart_210 : decode b_X_addressPart 210 = .ok (.baload, 1) := by decide +kernel
theorem d_X_addressPart_211 : decode b_X_addressPart 211 = .ok (.ifCond .ne 7, 3) := by decide +kernel
theorem d_X_addressPart_214 : decode b_X_addressPart 214 = .ok (.iconst 1, 1) := by decide +kernel
theorem d_X_addressPart_215 : decode b_X_addressPart 215 = .ok (.goto 4, 3) := by decide +kernel
theorem d_X_addressPart_218 : decode b_X_addressPart 218 = .ok (.iconst 0, 1) := by decide +kernel
theorem d_X_addressPart_219 : decode b_X_addressPart 219 = .ok (.istore 4, 2) := by decide +kernel
theorem d_X_addressPart_221 : decode b_X_addressPart 221 = .ok (.iload 4, 2) := by decide +kernel
theorem d_X_addressPart_223 : decode b_X_addressPart 223 = .ok (.ifCond .eq 21, 3) := by decide +kernel
theorem d_X_addressPart_226 : decode b_X_addressPart 226 = .ok (.aload_n 0, 1) := by decide +kernel
theorem d_X_addressPart_227 : decode b_X_addressPart 227 = .ok (.getfield 279, 3) := by decide +kernel
theorem d_X_addressPart_230 : decode b_X_addressPart 230 = .ok (.iload_n 3, 1) := by decide +kernel
theorem d_X_addressPart_231 : decode b_X_addressPart 231 = .ok (.if_icmp .ne 13, 3) := by decide +kernel
theorem d_X_addressPart_234 : decode b_X_addressPart 234 = .ok (.aload_n 0, 1) := by decide +kernel
theorem d_X_addressPart_235 : decode b_X_addressPart 235 = .ok (.aload_n 0, 1) := by decide +kernel
theorem d_X_addressPart_236 : decode b_X_addressPart 236 = .ok (.getfield 305, 3) := by decide +kernel
theorem d_X_addressPart_239 : decode b_X_addressPart 239 = .ok (.invokevirtual 381, 3) := by decide +kernel
theorem d_X_addressPart_242 : decode b_X_addressPart 242 = .ok (.lconst 0, 1) := by decide +kernel
theorem d_X_addressPart_243 : decode b_X_addressPart 243 = .ok (.lreturn, 1) := by decide +kernel
theorem d_X_addressPart_244 : decode b_X_addressPart 244 = .ok (.aload_n 0, 1) := by decide +kernel
theorem d_X_addressPart_245 : decode b_X_addressPart 245 = .ok (.getfield 302, 3) := by decide +kernel
theorem d_X_addressPart_248 : decode b_X_addressPart 248 = .ok (.iconst 3, 1) := by decide +kernel
theorem d_X_addressPart_249 : decode b_X_addressPart 249 = .ok (.if_icmp .ne 37, 3) := by decide +kernel
theorem d_X_addressPart_252 : decode b_X_addressPart 252 = .ok (.aload_n 0, 1) := by decide +kernel
theorem d_X_addressPart_253 : decode b_X_addressPart 253 = .ok (.getfield 309, 3) := by decide +kernel
theorem d_X_addressPart_256 : decode b_X_addressPart 256 = .ok (.bipush 70, 2) := by decide +kernel
theorem d_X_addressPart_258 : decode b_X_addressPart 258 = .ok (.if_icmp .ne 28, 3) := by decide +kernel
theorem d_X_addressPart_261 : decode b_X_addressPart 261 = .ok (.aload_n 0, 1) := by decide +kernel
theorem d_X_addressPart_262 : decode b_X_addressPart 262 = .ok (.invokevirtual 378, 3) := by decide +kernel
theorem d_X_addressPart_265 : decode b_X_addressPart 265 = .ok (.ifCond .eq 21, 3) := by decide +kernel
theorem d_X_addressPart_268 : decode b_X_addressPart 268 = .ok (.aload_n 0, 1) := by decide +kernel
theorem d_X_addressPart_269 : decode b_X_addressPart 269 = .ok (.iconst 1, 1) := by decide +kernel
theorem d_X_addressPart_270 : decode b_X_addressPart 270 = .ok (.putfield 365, 3) := by decide +kernel
theorem d_X_addressPart_273 : decode b_X_addressPart 273 = .ok (.aload_n 0, 1) := by decide +kernel
theorem d_X_addressPart_274 : decode b_X_addressPart 274 = .ok (.iconst (-1), 1) := by decide +kernel
theorem d_X_addressPart_275 : decode b_X_addressPart 275 = .ok (.aload_n 0, 1) := by decide +kernel
theorem d_X_addressPart_276 : decode b_X_addressPart 276 = .ok (.getfield 305, 3) := by decide +kernel
theorem d_X_addressPart_279 : decode b_X_addressPart 279 = .ok (.l2i, 1) := by decide +kernel
theorem d_X_addressPart_280 : decode b_X_addressPart 280 = .ok (.isub, 1) := by decide +kernel
theorem d_X_addressPart_281 : decode b_X_addressPart 281 = .ok (.putfield 369, 3) := by decide +kernel
theorem d_X_addressPart_284 : decode b_X_addressPart 284 = .ok (.lconst 0, 1) := by decide +kernel
theorem d_X_addressPart_285 : decode b_X_addressPart 285 = .ok (.lreturn, 1) := by decide +kernel
theorem d_X_addressPart_286 : decode b_X_addressPart 286 = .ok (.aload_n 0, 1) := by decide +kernel
theorem d_X_addressPart_287 : decode b_X_addressPart 287 = .ok (.iload_n 2, 1) := by decide +kernel
theorem d_X_addressPart_288 : decode b_X_addressPart 288 = .ok (.putfield 282, 3) := by decide +kernel
theorem d_X_addressPart_291 : decode b_X_addressPart 291 = .ok (.aload_n 0, 1) := by decide +kernel
theorem d_X_addressPart_292 : decode b_X_addressPart 292 = .ok (.iload_n 3, 1) := by decide +kernel
theorem d_X_addressPart_293 : decode b_X_addressPart 293 = .ok (.putfield 279, 3) := by decide +kernel
theorem d_X_addressPart_296 : decode b_X_addressPart 296 = .ok (.aload_n 0, 1) := by decide +kernel
theorem d_X_addressPart_297 : decode b_X_addressPart 297 = .ok (.invokevirtual 347, 3) := by decide +kernel
theorem d_X_addressPart_300 : decode b_X_addressPart 300 = .ok (.lreturn, 1) := by decide +kernel
abbrev b_X_areAddresses : ByteArray := prog_11_method_22_code
abbrev y_X_areAddresses : MethodName := ⟨"SignMachineModel", "areAddresses", "()Z"⟩
theorem h_X_areAddresses : (y_X_areAddresses).cls ≠ "java/lang/invoke/MethodHandle" ∧ (y_X_areAddresses).cls ≠ "java/lang/invoke/VarHandle" ∧ (parseMethodDescriptor (y_X_areAddresses).desc).map (fun d => d.parameters.length) = some 0 := by decide +kernel
theorem d_X_areAddresses_0 : decode b_X_areAddresses 0 = .ok (.aload_n 0, 1) := by decide +kernel
theorem d_X_areAddresses_1 : decode b_X_areAddresses 1 = .ok (.getfield 132, 3) := by decide +kernel
theorem d_X_areAddresses_4 : decode b_X_areAddresses 4 = .ok (.invokestatic 150, 3) := by decide +kernel
theorem d_X_areAddresses_7 : decode b_X_areAddresses 7 = .ok (.ifCond .ne 30, 3) := by decide +kernel
theorem d_X_areAddresses_10 : decode b_X_areAddresses 10 = .ok (.aload_n 0, 1) := by decide +kernel
theorem d_X_areAddresses_11 : decode b_X_areAddresses 11 = .ok (.getfield 132, 3) := by decide +kernel
theorem d_X_areAddresses_14 : decode b_X_areAddresses 14 = .ok (.bipush 34, 2) := by decide +kernel
theorem d_X_areAddresses_16 : decode b_X_areAddresses 16 = .ok (.if_icmp .eq 21, 3) := by decide +kernel
theorem d_X_areAddresses_19 : decode b_X_areAddresses 19 = .ok (.aload_n 0, 1) := by decide +kernel
theorem d_X_areAddresses_20 : decode b_X_areAddresses 20 = .ok (.getfield 132, 3) := by decide +kernel
theorem d_X_areAddresses_23 : decode b_X_areAddresses 23 = .ok (.bipush 38, 2) := by decide +kernel
theorem d_X_areAddresses_25 : decode b_X_areAddresses 25 = .ok (.if_icmp .lt 21, 3) := by decide +kernel
theorem d_X_areAddresses_28 : decode b_X_areAddresses 28 = .ok (.aload_n 0, 1) := by decide +kernel
theorem d_X_areAddresses_29 : decode b_X_areAddresses 29 = .ok (.getfield 132, 3) := by decide +kernel
theorem d_X_areAddresses_32 : decode b_X_areAddresses 32 = .ok (.bipush 47, 2) := by decide +kernel
theorem d_X_areAddresses_34 : decode b_X_areAddresses 34 = .ok (.if_icmp .gt 12, 3) := by decide +kernel
theorem d_X_areAddresses_37 : decode b_X_areAddresses 37 = .ok (.aload_n 0, 1) := by decide +kernel
theorem d_X_areAddresses_38 : decode b_X_areAddresses 38 = .ok (.getfield 142, 3) := by decide +kernel
theorem d_X_areAddresses_41 : decode b_X_areAddresses 41 = .ok (.i2l, 1) := by decide +kernel
theorem d_X_areAddresses_42 : decode b_X_areAddresses 42 = .ok (.invokestatic 158, 3) := by decide +kernel
theorem d_X_areAddresses_45 : decode b_X_areAddresses 45 = .ok (.ireturn, 1) := by decide +kernel
theorem d_X_areAddresses_46 : decode b_X_areAddresses 46 = .ok (.aload_n 0, 1) := by decide +kernel
theorem d_X_areAddresses_47 : decode b_X_areAddresses 47 = .ok (.getfield 132, 3) := by decide +kernel
theorem d_X_areAddresses_50 : decode b_X_areAddresses 50 = .ok (.bipush 6, 2) := by decide +kernel
theorem d_X_areAddresses_52 : decode b_X_areAddresses 52 = .ok (.if_icmp .ne 16, 3) := by decide +kernel
theorem d_X_areAddresses_55 : decode b_X_areAddresses 55 = .ok (.aload_n 0, 1) := by decide +kernel
theorem d_X_areAddresses_56 : decode b_X_areAddresses 56 = .ok (.getfield 142, 3) := by decide +kernel
theorem d_X_areAddresses_59 : decode b_X_areAddresses 59 = .ok (.ifCond .lt 7, 3) := by decide +kernel
theorem d_X_areAddresses_62 : decode b_X_areAddresses 62 = .ok (.iconst 1, 1) := by decide +kernel
theorem d_X_areAddresses_63 : decode b_X_areAddresses 63 = .ok (.goto 4, 3) := by decide +kernel
theorem d_X_areAddresses_66 : decode b_X_areAddresses 66 = .ok (.iconst 0, 1) := by decide +kernel
theorem d_X_areAddresses_67 : decode b_X_areAddresses 67 = .ok (.ireturn, 1) := by decide +kernel
theorem d_X_areAddresses_68 : decode b_X_areAddresses 68 = .ok (.aload_n 0, 1) := by decide +kernel
theorem d_X_areAddresses_69 : decode b_X_areAddresses 69 = .ok (.getfield 132, 3) := by decide +kernel
theorem d_X_areAddresses_72 : decode b_X_areAddresses 72 = .ok (.bipush 7, 2) := by decide +kernel
theorem d_X_areAddresses_74 : decode b_X_areAddresses 74 = .ok (.if_icmp .ne 74, 3) := by decide +kernel
theorem d_X_areAddresses_77 : decode b_X_areAddresses 77 = .ok (.aload_n 0, 1) := by decide +kernel
theorem d_X_areAddresses_78 : decode b_X_areAddresses 78 = .ok (.getfield 135, 3) := by decide +kernel
theorem d_X_areAddresses_81 : decode b_X_areAddresses 81 = .ok (.ifCond .le 67, 3) := by decide +kernel
theorem d_X_areAddresses_84 : decode b_X_areAddresses 84 = .ok (.aload_n 0, 1) := by decide +kernel
theorem d_X_areAddresses_85 : decode b_X_areAddresses 85 = .ok (.iconst 1, 1) := by decide +kernel
theorem d_X_areAddresses_86 : decode b_X_areAddresses 86 = .ok (.invokevirtual 162, 3) := by decide +kernel
theorem d_X_areAddresses_89 : decode b_X_areAddresses 89 = .ok (.istore_n 1, 1) := by decide +kernel
theorem d_X_areAddresses_90 : decode b_X_areAddresses 90 = .ok (.aload_n 0, 1) := by decide +kernel
theorem d_X_areAddresses_91 : decode b_X_areAddresses 91 = .ok (.getfield 142, 3) := by decide +kernel
theorem d_X_areAddresses_94 : decode b_X_areAddresses 94 = .ok (.i2l, 1) := by decide +kernel
theorem d_X_areAddresses_95 : decode b_X_areAddresses 95 = .ok (.invokestatic 158, 3) := by decide +kernel
theorem d_X_areAddresses_98 : decode b_X_areAddresses 98 = .ok (.ifCond .eq 48, 3) := by decide +kernel
theorem d_X_areAddresses_101 : decode b_X_areAddresses 101 = .ok (.aload_n 0, 1) := by decide +kernel
theorem d_X_areAddresses_102 : decode b_X_areAddresses 102 = .ok (.getfield 142, 3) := by decide +kernel
theorem d_X_areAddresses_105 : decode b_X_areAddresses 105 = .ok (.aload_n 0, 1) := by decide +kernel
theorem d_X_areAddresses_106 : decode b_X_areAddresses 106 = .ok (.getfield 135, 3) := by decide +kernel
theorem d_X_areAddresses_109 : decode b_X_areAddresses 109 = .ok (.iadd, 1) := by decide +kernel
theorem d_X_areAddresses_110 : decode b_X_areAddresses 110 = .ok (.i2l, 1) := by decide +kernel
theorem d_X_areAddresses_111 : decode b_X_areAddresses 111 = .ok (.lconst 1, 1) := by decide +kernel
theorem d_X_areAddresses_112 : decode b_X_areAddresses 112 = .ok (.lsub, 1) := by decide +kernel
theorem d_X_areAddresses_113 : decode b_X_areAddresses 113 = .ok (.invokestatic 158, 3) := by decide +kernel
theorem d_X_areAddresses_116 : decode b_X_areAddresses 116 = .ok (.ifCond .eq 30, 3) := by decide +kernel
theorem d_X_areAddresses_119 : decode b_X_areAddresses 119 = .ok (.iload_n 1, 1) := by decide +kernel
theorem d_X_areAddresses_120 : decode b_X_areAddresses 120 = .ok (.i2l, 1) := by decide +kernel
theorem d_X_areAddresses_121 : decode b_X_areAddresses 121 = .ok (.invokestatic 158, 3) := by decide +kernel
theorem d_X_areAddresses_124 : decode b_X_areAddresses 124 = .ok (.ifCond .eq 22, 3) := by decide +kernel
theorem d_X_areAddresses_127 : decode b_X_areAddresses 127 = .ok (.iload_n 1, 1) := by decide +kernel
theorem d_X_areAddresses_128 : decode b_X_areAddresses 128 = .ok (.aload_n 0, 1) := by decide +kernel
theorem d_X_areAddresses_129 : decode b_X_areAddresses 129 = .ok (.getfield 135, 3) := by decide +kernel
theorem d_X_areAddresses_132 : decode b_X_areAddresses 132 = .ok (.iadd, 1) := by decide +kernel
theorem d_X_areAddresses_133 : decode b_X_areAddresses 133 = .ok (.i2l, 1) := by decide +kernel
theorem d_X_areAddresses_134 : decode b_X_areAddresses 134 = .ok (.lconst 1, 1) := by decide +kernel
theorem d_X_areAddresses_135 : decode b_X_areAddresses 135 = .ok (.lsub, 1) := by decide +kernel
theorem d_X_areAddresses_136 : decode b_X_areAddresses 136 = .ok (.invokestatic 158, 3) := by decide +kernel
theorem d_X_areAddresses_139 : decode b_X_areAddresses 139 = .ok (.ifCond .eq 7, 3) := by decide +kernel
theorem d_X_areAddresses_142 : decode b_X_areAddresses 142 = .ok (.iconst 1, 1) := by decide +kernel
theorem d_X_areAddresses_143 : decode b_X_areAddresses 143 = .ok (.goto 4, 3) := by decide +kernel
theorem d_X_areAddresses_146 : decode b_X_areAddresses 146 = .ok (.iconst 0, 1) := by decide +kernel
theorem d_X_areAddresses_147 : decode b_X_areAddresses 147 = .ok (.ireturn, 1) := by decide +kernel
theorem d_X_areAddresses_148 : decode b_X_areAddresses 148 = .ok (.aload_n 0, 1) := by decide +kernel
theorem d_X_areAddresses_149 : decode b_X_areAddresses 149 = .ok (.getfield 132, 3) := by decide +kernel
theorem d_X_areAddresses_152 : decode b_X_areAddresses 152 = .ok (.bipush 36, 2) := by decide +kernel
theorem d_X_areAddresses_154 : decode b_X_areAddresses 154 = .ok (.if_icmp .eq 12, 3) := by decide +kernel
theorem d_X_areAddresses_157 : decode b_X_areAddresses 157 = .ok (.aload_n 0, 1) := by decide +kernel
theorem d_X_areAddresses_158 : decode b_X_areAddresses 158 = .ok (.getfield 132, 3) := by decide +kernel
theorem d_X_areAddresses_161 : decode b_X_areAddresses 161 = .ok (.bipush 37, 2) := by decide +kernel
theorem d_X_areAddresses_163 : decode b_X_areAddresses 163 = .ok (.if_icmp .ne 29, 3) := by decide +kernel
theorem d_X_areAddresses_166 : decode b_X_areAddresses 166 = .ok (.aload_n 0, 1) := by decide +kernel
theorem d_X_areAddresses_167 : decode b_X_areAddresses 167 = .ok (.getfield 142, 3) := by decide +kernel
theorem d_X_areAddresses_170 : decode b_X_areAddresses 170 = .ok (.i2l, 1) := by decide +kernel
theorem d_X_areAddresses_171 : decode b_X_areAddresses 171 = .ok (.invokestatic 158, 3) := by decide +kernel
theorem d_X_areAddresses_174 : decode b_X_areAddresses 174 = .ok (.ifCond .eq 22, 3) := by decide +kernel
theorem d_X_areAddresses_177 : decode b_X_areAddresses 177 = .ok (.aload_n 0, 1) := by decide +kernel
theorem d_X_areAddresses_178 : decode b_X_areAddresses 178 = .ok (.getfield 142, 3) := by decide +kernel
theorem d_X_areAddresses_181 : decode b_X_areAddresses 181 = .ok (.i2l, 1) := by decide +kernel
theorem d_X_areAddresses_182 : decode b_X_areAddresses 182 = .ok (.ldc2_w 124, 3) := by decide +kernel
theorem d_X_areAddresses_185 : decode b_X_areAddresses 185 = .ok (.ladd, 1) := by decide +kernel
theorem d_X_areAddresses_186 : decode b_X_areAddresses 186 = .ok (.invokestatic 158, 3) := by decide +kernel
theorem d_X_areAddresses_189 : decode b_X_areAddresses 189 = .ok (.ifCond .eq 7, 3) := by decide +kernel
theorem d_X_areAddresses_192 : decode b_X_areAddresses 192 = .ok (.iconst 1, 1) := by decide +kernel
theorem d_X_areAddresses_193 : decode b_X_areAddresses 193 = .ok (.goto 4, 3) := by decide +kernel
theorem d_X_areAddresses_196 : decode b_X_areAddresses 196 = .ok (.iconst 0, 1) := by decide +kernel
theorem d_X_areAddresses_197 : decode b_X_areAddresses 197 = .ok (.ireturn, 1) := by decide +kernel
abbrev b_X_assemble : ByteArray := prog_11_method_86_code
abbrev y_X_assemble : MethodName := ⟨"SignMachineModel", "assemble", "()I"⟩
theorem h_X_assemble : (y_X_assemble).cls ≠ "java/lang/invoke/MethodHandle" ∧ (y_X_assemble).cls ≠ "java/lang/invoke/VarHandle" ∧ (parseMethodDescriptor (y_X_assemble).desc).map (fun d => d.parameters.length) = some 0 := by decide +kernel
theorem d_X_assemble_0 : decode b_X_assemble 0 = .ok (.aload_n 0, 1) := by decide +kernel
theorem d_X_assemble_1 : decode b_X_assemble 1 = .ok (.invokevirtual 565, 3) := by decide +kernel
theorem d_X_assemble_4 : decode b_X_assemble 4 = .ok (.aload_n 0, 1) := by decide +kernel
theorem d_X_assemble_5 : decode b_X_assemble 5 = .ok (.iconst 0, 1) := by decide +kernel
theorem d_X_assemble_6 : decode b_X_assemble 6 = .ok (.putfield 274, 3) := by decide +kernel
theorem d_X_assemble_9 : decode b_X_assemble 9 = .ok (.aload_n 0, 1) := by decide +kernel
theorem d_X_assemble_10 : decode b_X_assemble 10 = .ok (.aload_n 0, 1) := by decide +kernel
theorem d_X_assemble_11 : decode b_X_assemble 11 = .ok (.getfield 279, 3) := by decide +kernel
theorem d_X_assemble_14 : decode b_X_assemble 14 = .ok (.ifCond .le 10, 3) := by decide +kernel
theorem d_X_assemble_17 : decode b_X_assemble 17 = .ok (.aload_n 0, 1) := by decide +kernel
theorem d_X_assemble_18 : decode b_X_assemble 18 = .ok (.getfield 553, 3) := by decide +kernel
theorem d_X_assemble_21 : decode b_X_assemble 21 = .ok (.goto 4, 3) := by decide +kernel
theorem d_X_assemble_24 : decode b_X_assemble 24 = .ok (.iconst 0, 1) := by decide +kernel
theorem d_X_assemble_25 : decode b_X_assemble 25 = .ok (.putfield 568, 3) := by decide +kernel
theorem d_X_assemble_28 : decode b_X_assemble 28 = .ok (.aload_n 0, 1) := by decide +kernel
theorem d_X_assemble_29 : decode b_X_assemble 29 = .ok (.getfield 279, 3) := by decide +kernel
theorem d_X_assemble_32 : decode b_X_assemble 32 = .ok (.ifCond .le 13, 3) := by decide +kernel
theorem d_X_assemble_35 : decode b_X_assemble 35 = .ok (.aload_n 0, 1) := by decide +kernel
theorem d_X_assemble_36 : decode b_X_assemble 36 = .ok (.iconst (-1), 1) := by decide +kernel
theorem d_X_assemble_37 : decode b_X_assemble 37 = .ok (.putfield 40, 3) := by decide +kernel
theorem d_X_assemble_40 : decode b_X_assemble 40 = .ok (.aload_n 0, 1) := by decide +kernel
theorem d_X_assemble_41 : decode b_X_assemble 41 = .ok (.getfield 279, 3) := by decide +kernel
theorem d_X_assemble_44 : decode b_X_assemble 44 = .ok (.ireturn, 1) := by decide +kernel
theorem d_X_assemble_45 : decode b_X_assemble 45 = .ok (.iconst 0, 1) := by decide +kernel
theorem d_X_assemble_46 : decode b_X_assemble 46 = .ok (.istore_n 1, 1) := by decide +kernel
theorem d_X_assemble_47 : decode b_X_assemble 47 = .ok (.iload_n 1, 1) := by decide +kernel
theorem d_X_assemble_48 : decode b_X_assemble 48 = .ok (.aload_n 0, 1) := by decide +kernel
theorem d_X_assemble_49 : decode b_X_assemble 49 = .ok (.getfield 356, 3) := by decide +kernel
theorem d_X_assemble_52 : decode b_X_assemble 52 = .ok (.if_icmp .ge 43, 3) := by decide +kernel
theorem d_X_assemble_55 : decode b_X_assemble 55 = .ok (.aload_n 0, 1) := by decide +kernel
theorem d_X_assemble_56 : decode b_X_assemble 56 = .ok (.getfield 7, 3) := by decide +kernel
theorem d_X_assemble_59 : decode b_X_assemble 59 = .ok (.aload_n 0, 1) := by decide +kernel
theorem d_X_assemble_60 : decode b_X_assemble 60 = .ok (.getfield 61, 3) := by decide +kernel
theorem d_X_assemble_63 : decode b_X_assemble 63 = .ok (.iload_n 1, 1) := by decide +kernel
theorem d_X_assemble_64 : decode b_X_assemble 64 = .ok (.iaload, 1) := by decide +kernel
theorem d_X_assemble_65 : decode b_X_assemble 65 = .ok (.aload_n 0, 1) := by decide +kernel
theorem d_X_assemble_66 : decode b_X_assemble 66 = .ok (.getfield 64, 3) := by decide +kernel
theorem d_X_assemble_69 : decode b_X_assemble 69 = .ok (.iload_n 1, 1) := by decide +kernel
theorem d_X_assemble_70 : decode b_X_assemble 70 = .ok (.iaload, 1) := by decide +kernel
theorem d_X_assemble_71 : decode b_X_assemble 71 = .ok (.iastore, 1) := by decide +kernel
theorem d_X_assemble_72 : decode b_X_assemble 72 = .ok (.aload_n 0, 1) := by decide +kernel
theorem d_X_assemble_73 : decode b_X_assemble 73 = .ok (.getfield 13, 3) := by decide +kernel
theorem d_X_assemble_76 : decode b_X_assemble 76 = .ok (.aload_n 0, 1) := by decide +kernel
theorem d_X_assemble_77 : decode b_X_assemble 77 = .ok (.getfield 61, 3) := by decide +kernel
theorem d_X_assemble_80 : decode b_X_assemble 80 = .ok (.iload_n 1, 1) := by decide +kernel
theorem d_X_assemble_81 : decode b_X_assemble 81 = .ok (.iaload, 1) := by decide +kernel
theorem d_X_assemble_82 : decode b_X_assemble 82 = .ok (.aload_n 0, 1) := by decide +kernel
theorem d_X_assemble_83 : decode b_X_assemble 83 = .ok (.getfield 67, 3) := by decide +kernel
theorem d_X_assemble_86 : decode b_X_assemble 86 = .ok (.iload_n 1, 1) := by decide +kernel
theorem d_X_assemble_87 : decode b_X_assemble 87 = .ok (.iaload, 1) := by decide +kernel
theorem d_X_assemble_88 : decode b_X_assemble 88 = .ok (.iastore, 1) := by decide +kernel
theorem d_X_assemble_89 : decode b_X_assemble 89 = .ok (.iinc 1 1, 3) := by decide +kernel
theorem d_X_assemble_92 : decode b_X_assemble 92 = .ok (.goto (-45), 3) := by decide +kernel
theorem d_X_assemble_95 : decode b_X_assemble 95 = .ok (.aload_n 0, 1) := by decide +kernel
theorem d_X_assemble_96 : decode b_X_assemble 96 = .ok (.aload_n 0, 1) := by decide +kernel
theorem d_X_assemble_97 : decode b_X_assemble 97 = .ok (.getfield 514, 3) := by decide +kernel
theorem d_X_assemble_100 : decode b_X_assemble 100 = .ok (.putfield 110, 3) := by decide +kernel
theorem d_X_assemble_103 : decode b_X_assemble 103 = .ok (.iconst 0, 1) := by decide +kernel
theorem d_X_assemble_104 : decode b_X_assemble 104 = .ok (.ireturn, 1) := by decide +kernel
abbrev b_X_atom : ByteArray := prog_11_method_59_code
abbrev y_X_atom : MethodName := ⟨"SignMachineModel", "atom", "()J"⟩
theorem h_X_atom : (y_X_atom).cls ≠ "java/lang/invoke/MethodHandle" ∧ (y_X_atom).cls ≠ "java/lang/invoke/VarHandle" ∧ (parseMethodDescriptor (y_X_atom).desc).map (fun d => d.parameters.length) = some 0 := by decide +kernel
theorem d_X_atom_0 : decode b_X_atom 0 = .ok (.aload_n 0, 1) := by decide +kernel
theorem d_X_atom_1 : decode b_X_atom 1 = .ok (.invokevirtual 288, 3) := by decide +kernel
theorem d_X_atom_4 : decode b_X_atom 4 = .ok (.bipush 42, 2) := by decide +kernel
theorem d_X_atom_6 : decode b_X_atom 6 = .ok (.if_icmp .ne 23, 3) := by decide +kernel
theorem d_X_atom_9 : decode b_X_atom 9 = .ok (.aload_n 0, 1) := by decide +kernel
theorem d_X_atom_10 : decode b_X_atom 10 = .ok (.dup, 1) := by decide +kernel
theorem d_X_atom_11 : decode b_X_atom 11 = .ok (.getfield 282, 3) := by decide +kernel
theorem d_X_atom_14 : decode b_X_atom 14 = .ok (.iconst 1, 1) := by decide +kernel
theorem d_X_atom_15 : decode b_X_atom 15 = .ok (.iadd, 1) := by decide +kernel
theorem d_X_atom_16 : decode b_X_atom 16 = .ok (.putfield 282, 3) := by decide +kernel
theorem d_X_atom_19 : decode b_X_atom 19 = .ok (.aload_n 0, 1) := by decide +kernel
theorem d_X_atom_20 : decode b_X_atom 20 = .ok (.aload_n 0, 1) := by decide +kernel
theorem d_X_atom_21 : decode b_X_atom 21 = .ok (.getfield 317, 3) := by decide +kernel
theorem d_X_atom_24 : decode b_X_atom 24 = .ok (.i2l, 1) := by decide +kernel
theorem d_X_atom_25 : decode b_X_atom 25 = .ok (.invokevirtual 320, 3) := by decide +kernel
theorem d_X_atom_28 : decode b_X_atom 28 = .ok (.lreturn, 1) := by decide +kernel
theorem d_X_atom_29 : decode b_X_atom 29 = .ok (.aload_n 0, 1) := by decide +kernel
theorem d_X_atom_30 : decode b_X_atom 30 = .ok (.invokevirtual 324, 3) := by decide +kernel
theorem d_X_atom_33 : decode b_X_atom 33 = .ok (.aload_n 0, 1) := by decide +kernel
theorem d_X_atom_34 : decode b_X_atom 34 = .ok (.getfield 302, 3) := by decide +kernel
theorem d_X_atom_37 : decode b_X_atom 37 = .ok (.iconst 2, 1) := by decide +kernel
theorem d_X_atom_38 : decode b_X_atom 38 = .ok (.if_icmp .ne 41, 3) := by decide +kernel
theorem d_X_atom_41 : decode b_X_atom 41 = .ok (.aload_n 0, 1) := by decide +kernel
theorem d_X_atom_42 : decode b_X_atom 42 = .ok (.aload_n 0, 1) := by decide +kernel
theorem d_X_atom_43 : decode b_X_atom 43 = .ok (.getfield 305, 3) := by decide +kernel
theorem d_X_atom_46 : decode b_X_atom 46 = .ok (.invokevirtual 327, 3) := by decide +kernel
theorem d_X_atom_49 : decode b_X_atom 49 = .ok (.istore_n 1, 1) := by decide +kernel
theorem d_X_atom_50 : decode b_X_atom 50 = .ok (.iload_n 1, 1) := by decide +kernel
theorem d_X_atom_51 : decode b_X_atom 51 = .ok (.bipush (-2), 2) := by decide +kernel
theorem d_X_atom_53 : decode b_X_atom 53 = .ok (.if_icmp .eq 12, 3) := by decide +kernel
theorem d_X_atom_56 : decode b_X_atom 56 = .ok (.aload_n 0, 1) := by decide +kernel
theorem d_X_atom_57 : decode b_X_atom 57 = .ok (.getfield 48, 3) := by decide +kernel
theorem d_X_atom_60 : decode b_X_atom 60 = .ok (.iload_n 1, 1) := by decide +kernel
theorem d_X_atom_61 : decode b_X_atom 61 = .ok (.baload, 1) := by decide +kernel
theorem d_X_atom_62 : decode b_X_atom 62 = .ok (.ifCond .ne 10, 3) := by decide +kernel
theorem d_X_atom_65 : decode b_X_atom 65 = .ok (.aload_n 0, 1) := by decide +kernel
theorem d_X_atom_66 : decode b_X_atom 66 = .ok (.iconst 3, 1) := by decide +kernel
theorem d_X_atom_67 : decode b_X_atom 67 = .ok (.invokevirtual 299, 3) := by decide +kernel
theorem d_X_atom_70 : decode b_X_atom 70 = .ok (.lconst 0, 1) := by decide +kernel
theorem d_X_atom_71 : decode b_X_atom 71 = .ok (.lreturn, 1) := by decide +kernel
theorem d_X_atom_72 : decode b_X_atom 72 = .ok (.aload_n 0, 1) := by decide +kernel
theorem d_X_atom_73 : decode b_X_atom 73 = .ok (.getfield 52, 3) := by decide +kernel
theorem d_X_atom_76 : decode b_X_atom 76 = .ok (.iload_n 1, 1) := by decide +kernel
theorem d_X_atom_77 : decode b_X_atom 77 = .ok (.laload, 1) := by decide +kernel
theorem d_X_atom_78 : decode b_X_atom 78 = .ok (.lreturn, 1) := by decide +kernel
theorem d_X_atom_79 : decode b_X_atom 79 = .ok (.aload_n 0, 1) := by decide +kernel
theorem d_X_atom_80 : decode b_X_atom 80 = .ok (.getfield 302, 3) := by decide +kernel
theorem d_X_atom_83 : decode b_X_atom 83 = .ok (.iconst 3, 1) := by decide +kernel
theorem d_X_atom_84 : decode b_X_atom 84 = .ok (.if_icmp .ne 43, 3) := by decide +kernel
theorem d_X_atom_87 : decode b_X_atom 87 = .ok (.aload_n 0, 1) := by decide +kernel
theorem d_X_atom_88 : decode b_X_atom 88 = .ok (.getfield 309, 3) := by decide +kernel
theorem d_X_atom_91 : decode b_X_atom 91 = .ok (.bipush 66, 2) := by decide +kernel
theorem d_X_atom_93 : decode b_X_atom 93 = .ok (.if_icmp .ne 16, 3) := by decide +kernel
theorem d_X_atom_96 : decode b_X_atom 96 = .ok (.aload_n 0, 1) := by decide +kernel
theorem d_X_atom_97 : decode b_X_atom 97 = .ok (.getfield 55, 3) := by decide +kernel
theorem d_X_atom_100 : decode b_X_atom 100 = .ok (.aload_n 0, 1) := by decide +kernel
theorem d_X_atom_101 : decode b_X_atom 101 = .ok (.getfield 305, 3) := by decide +kernel
theorem d_X_atom_104 : decode b_X_atom 104 = .ok (.l2i, 1) := by decide +kernel
theorem d_X_atom_105 : decode b_X_atom 105 = .ok (.baload, 1) := by decide +kernel
theorem d_X_atom_106 : decode b_X_atom 106 = .ok (.ifCond .ne 10, 3) := by decide +kernel
theorem d_X_atom_109 : decode b_X_atom 109 = .ok (.aload_n 0, 1) := by decide +kernel
theorem d_X_atom_110 : decode b_X_atom 110 = .ok (.iconst 3, 1) := by decide +kernel
theorem d_X_atom_111 : decode b_X_atom 111 = .ok (.invokevirtual 299, 3) := by decide +kernel
theorem d_X_atom_114 : decode b_X_atom 114 = .ok (.lconst 0, 1) := by decide +kernel
theorem d_X_atom_115 : decode b_X_atom 115 = .ok (.lreturn, 1) := by decide +kernel
theorem d_X_atom_116 : decode b_X_atom 116 = .ok (.aload_n 0, 1) := by decide +kernel
theorem d_X_atom_117 : decode b_X_atom 117 = .ok (.getfield 58, 3) := by decide +kernel
theorem d_X_atom_120 : decode b_X_atom 120 = .ok (.aload_n 0, 1) := by decide +kernel
theorem d_X_atom_121 : decode b_X_atom 121 = .ok (.getfield 305, 3) := by decide +kernel
theorem d_X_atom_124 : decode b_X_atom 124 = .ok (.l2i, 1) := by decide +kernel
theorem d_X_atom_125 : decode b_X_atom 125 = .ok (.laload, 1) := by decide +kernel
theorem d_X_atom_126 : decode b_X_atom 126 = .ok (.lreturn, 1) := by decide +kernel
theorem d_X_atom_127 : decode b_X_atom 127 = .ok (.aload_n 0, 1) := by decide +kernel
theorem d_X_atom_128 : decode b_X_atom 128 = .ok (.getfield 302, 3) := by decide +kernel
theorem d_X_atom_131 : decode b_X_atom 131 = .ok (.iconst 1, 1) := by decide +kernel
theorem d_X_atom_132 : decode b_X_atom 132 = .ok (.if_icmp .ne 10, 3) := by decide +kernel
theorem d_X_atom_135 : decode b_X_atom 135 = .ok (.aload_n 0, 1) := by decide +kernel
theorem d_X_atom_136 : decode b_X_atom 136 = .ok (.getfield 305, 3) := by decide +kernel
theorem d_X_atom_139 : decode b_X_atom 139 = .ok (.goto 4, 3) := by decide +kernel
theorem d_X_atom_142 : decode b_X_atom 142 = .ok (.lconst 0, 1) := by decide +kernel
theorem d_X_atom_143 : decode b_X_atom 143 = .ok (.lreturn, 1) := by decide +kernel
abbrev b_X_bad : ByteArray := prog_11_method_51_code
abbrev y_X_bad : MethodName := ⟨"SignMachineModel", "bad", "(I)V"⟩
theorem h_X_bad : (y_X_bad).cls ≠ "java/lang/invoke/MethodHandle" ∧ (y_X_bad).cls ≠ "java/lang/invoke/VarHandle" ∧ (parseMethodDescriptor (y_X_bad).desc).map (fun d => d.parameters.length) = some 1 := by decide +kernel
theorem d_X_bad_0 : decode b_X_bad 0 = .ok (.aload_n 0, 1) := by decide +kernel
theorem d_X_bad_1 : decode b_X_bad 1 = .ok (.aload_n 0, 1) := by decide +kernel
theorem d_X_bad_2 : decode b_X_bad 2 = .ok (.getfield 279, 3) := by decide +kernel
theorem d_X_bad_5 : decode b_X_bad 5 = .ok (.ifCond .ne 7, 3) := by decide +kernel
theorem d_X_bad_8 : decode b_X_bad 8 = .ok (.iload_n 1, 1) := by decide +kernel
theorem d_X_bad_9 : decode b_X_bad 9 = .ok (.goto 7, 3) := by decide +kernel
theorem d_X_bad_12 : decode b_X_bad 12 = .ok (.aload_n 0, 1) := by decide +kernel
theorem d_X_bad_13 : decode b_X_bad 13 = .ok (.getfield 279, 3) := by decide +kernel
theorem d_X_bad_16 : decode b_X_bad 16 = .ok (.putfield 279, 3) := by decide +kernel
theorem d_X_bad_19 : decode b_X_bad 19 = .ok (.return_, 1) := by decide +kernel
abbrev b_X_behindAtom : ByteArray := prog_11_method_62_code
abbrev y_X_behindAtom : MethodName := ⟨"SignMachineModel", "behindAtom", "(J)J"⟩
theorem h_X_behindAtom : (y_X_behindAtom).cls ≠ "java/lang/invoke/MethodHandle" ∧ (y_X_behindAtom).cls ≠ "java/lang/invoke/VarHandle" ∧ (parseMethodDescriptor (y_X_behindAtom).desc).map (fun d => d.parameters.length) = some 1 := by decide +kernel
theorem d_X_behindAtom_0 : decode b_X_behindAtom 0 = .ok (.lload_n 1, 1) := by decide +kernel
theorem d_X_behindAtom_1 : decode b_X_behindAtom 1 = .ok (.lstore_n 3, 1) := by decide +kernel
theorem d_X_behindAtom_2 : decode b_X_behindAtom 2 = .ok (.aload_n 0, 1) := by decide +kernel
theorem d_X_behindAtom_3 : decode b_X_behindAtom 3 = .ok (.invokevirtual 288, 3) := by decide +kernel
theorem d_X_behindAtom_6 : decode b_X_behindAtom 6 = .ok (.invokestatic 338, 3) := by decide +kernel
theorem d_X_behindAtom_9 : decode b_X_behindAtom 9 = .ok (.ifCond .eq 126, 3) := by decide +kernel
theorem d_X_behindAtom_12 : decode b_X_behindAtom 12 = .ok (.aload_n 0, 1) := by decide +kernel
theorem d_X_behindAtom_13 : decode b_X_behindAtom 13 = .ok (.getfield 279, 3) := by decide +kernel
theorem d_X_behindAtom_16 : decode b_X_behindAtom 16 = .ok (.ifCond .ne 119, 3) := by decide +kernel
theorem d_X_behindAtom_19 : decode b_X_behindAtom 19 = .ok (.aload_n 0, 1) := by decide +kernel
theorem d_X_behindAtom_20 : decode b_X_behindAtom 20 = .ok (.invokevirtual 288, 3) := by decide +kernel
theorem d_X_behindAtom_23 : decode b_X_behindAtom 23 = .ok (.istore 5, 2) := by decide +kernel
theorem d_X_behindAtom_25 : decode b_X_behindAtom 25 = .ok (.aload_n 0, 1) := by decide +kernel
theorem d_X_behindAtom_26 : decode b_X_behindAtom 26 = .ok (.dup, 1) := by decide +kernel
theorem d_X_behindAtom_27 : decode b_X_behindAtom 27 = .ok (.getfield 282, 3) := by decide +kernel
theorem d_X_behindAtom_30 : decode b_X_behindAtom 30 = .ok (.iconst 1, 1) := by decide +kernel
theorem d_X_behindAtom_31 : decode b_X_behindAtom 31 = .ok (.iadd, 1) := by decide +kernel
theorem d_X_behindAtom_32 : decode b_X_behindAtom 32 = .ok (.putfield 282, 3) := by decide +kernel
theorem d_X_behindAtom_35 : decode b_X_behindAtom 35 = .ok (.aload_n 0, 1) := by decide +kernel
theorem d_X_behindAtom_36 : decode b_X_behindAtom 36 = .ok (.invokevirtual 331, 3) := by decide +kernel
theorem d_X_behindAtom_39 : decode b_X_behindAtom 39 = .ok (.lstore 6, 2) := by decide +kernel
theorem d_X_behindAtom_41 : decode b_X_behindAtom 41 = .ok (.iload 5, 2) := by decide +kernel
theorem d_X_behindAtom_43 : decode b_X_behindAtom 43 = .ok (.bipush 47, 2) := by decide +kernel
theorem d_X_behindAtom_45 : decode b_X_behindAtom 45 = .ok (.if_icmp .ne 18, 3) := by decide +kernel
theorem d_X_behindAtom_48 : decode b_X_behindAtom 48 = .ok (.lload 6, 2) := by decide +kernel
theorem d_X_behindAtom_50 : decode b_X_behindAtom 50 = .ok (.lconst 0, 1) := by decide +kernel
theorem d_X_behindAtom_51 : decode b_X_behindAtom 51 = .ok (.lcmp, 1) := by decide +kernel
theorem d_X_behindAtom_52 : decode b_X_behindAtom 52 = .ok (.ifCond .ne 11, 3) := by decide +kernel
theorem d_X_behindAtom_55 : decode b_X_behindAtom 55 = .ok (.aload_n 0, 1) := by decide +kernel
theorem d_X_behindAtom_56 : decode b_X_behindAtom 56 = .ok (.iconst 4, 1) := by decide +kernel
theorem d_X_behindAtom_57 : decode b_X_behindAtom 57 = .ok (.invokevirtual 299, 3) := by decide +kernel
theorem d_X_behindAtom_60 : decode b_X_behindAtom 60 = .ok (.lconst 1, 1) := by decide +kernel
theorem d_X_behindAtom_61 : decode b_X_behindAtom 61 = .ok (.lstore 6, 2) := by decide +kernel
theorem d_X_behindAtom_63 : decode b_X_behindAtom 63 = .ok (.aload_n 0, 1) := by decide +kernel
theorem d_X_behindAtom_64 : decode b_X_behindAtom 64 = .ok (.iload 5, 2) := by decide +kernel
theorem d_X_behindAtom_66 : decode b_X_behindAtom 66 = .ok (.bipush 43, 2) := by decide +kernel
theorem d_X_behindAtom_68 : decode b_X_behindAtom 68 = .ok (.if_icmp .ne 10, 3) := by decide +kernel
theorem d_X_behindAtom_71 : decode b_X_behindAtom 71 = .ok (.lload_n 3, 1) := by decide +kernel
theorem d_X_behindAtom_72 : decode b_X_behindAtom 72 = .ok (.lload 6, 2) := by decide +kernel
theorem d_X_behindAtom_74 : decode b_X_behindAtom 74 = .ok (.ladd, 1) := by decide +kernel
theorem d_X_behindAtom_75 : decode b_X_behindAtom 75 = .ok (.goto 53, 3) := by decide +kernel
theorem d_X_behindAtom_78 : decode b_X_behindAtom 78 = .ok (.iload 5, 2) := by decide +kernel
theorem d_X_behindAtom_80 : decode b_X_behindAtom 80 = .ok (.bipush 45, 2) := by decide +kernel
theorem d_X_behindAtom_82 : decode b_X_behindAtom 82 = .ok (.if_icmp .ne 10, 3) := by decide +kernel
theorem d_X_behindAtom_85 : decode b_X_behindAtom 85 = .ok (.lload_n 3, 1) := by decide +kernel
theorem d_X_behindAtom_86 : decode b_X_behindAtom 86 = .ok (.lload 6, 2) := by decide +kernel
theorem d_X_behindAtom_88 : decode b_X_behindAtom 88 = .ok (.lsub, 1) := by decide +kernel
theorem d_X_behindAtom_89 : decode b_X_behindAtom 89 = .ok (.goto 39, 3) := by decide +kernel
theorem d_X_behindAtom_92 : decode b_X_behindAtom 92 = .ok (.iload 5, 2) := by decide +kernel
theorem d_X_behindAtom_94 : decode b_X_behindAtom 94 = .ok (.bipush 42, 2) := by decide +kernel
theorem d_X_behindAtom_96 : decode b_X_behindAtom 96 = .ok (.if_icmp .ne 10, 3) := by decide +kernel
theorem d_X_behindAtom_99 : decode b_X_behindAtom 99 = .ok (.lload_n 3, 1) := by decide +kernel
theorem d_X_behindAtom_100 : decode b_X_behindAtom 100 = .ok (.lload 6, 2) := by decide +kernel
theorem d_X_behindAtom_102 : decode b_X_behindAtom 102 = .ok (.lmul, 1) := by decide +kernel
theorem d_X_behindAtom_103 : decode b_X_behindAtom 103 = .ok (.goto 25, 3) := by decide +kernel
theorem d_X_behindAtom_106 : decode b_X_behindAtom 106 = .ok (.iload 5, 2) := by decide +kernel
theorem d_X_behindAtom_108 : decode b_X_behindAtom 108 = .ok (.bipush 47, 2) := by decide +kernel
theorem d_X_behindAtom_110 : decode b_X_behindAtom 110 = .ok (.if_icmp .ne 10, 3) := by decide +kernel
theorem d_X_behindAtom_113 : decode b_X_behindAtom 113 = .ok (.lload_n 3, 1) := by decide +kernel
theorem d_X_behindAtom_114 : decode b_X_behindAtom 114 = .ok (.lload 6, 2) := by decide +kernel
theorem d_X_behindAtom_116 : decode b_X_behindAtom 116 = .ok (.ldiv, 1) := by decide +kernel
theorem d_X_behindAtom_117 : decode b_X_behindAtom 117 = .ok (.goto 11, 3) := by decide +kernel
theorem d_X_behindAtom_120 : decode b_X_behindAtom 120 = .ok (.ldc2_w 102, 3) := by decide +kernel
theorem d_X_behindAtom_123 : decode b_X_behindAtom 123 = .ok (.lload_n 3, 1) := by decide +kernel
theorem d_X_behindAtom_124 : decode b_X_behindAtom 124 = .ok (.lmul, 1) := by decide +kernel
theorem d_X_behindAtom_125 : decode b_X_behindAtom 125 = .ok (.lload 6, 2) := by decide +kernel
theorem d_X_behindAtom_127 : decode b_X_behindAtom 127 = .ok (.ladd, 1) := by decide +kernel
theorem d_X_behindAtom_128 : decode b_X_behindAtom 128 = .ok (.invokevirtual 320, 3) := by decide +kernel
theorem d_X_behindAtom_131 : decode b_X_behindAtom 131 = .ok (.lstore_n 3, 1) := by decide +kernel
theorem d_X_behindAtom_132 : decode b_X_behindAtom 132 = .ok (.goto (-130), 3) := by decide +kernel
theorem d_X_behindAtom_135 : decode b_X_behindAtom 135 = .ok (.lload_n 3, 1) := by decide +kernel
theorem d_X_behindAtom_136 : decode b_X_behindAtom 136 = .ok (.lreturn, 1) := by decide +kernel
abbrev b_X_bytes : ByteArray := prog_11_method_15_code
abbrev y_X_bytes : MethodName := ⟨"SignMachineModel", "bytes", "(III)I"⟩
theorem h_X_bytes : (y_X_bytes).cls ≠ "java/lang/invoke/MethodHandle" ∧ (y_X_bytes).cls ≠ "java/lang/invoke/VarHandle" ∧ (parseMethodDescriptor (y_X_bytes).desc).map (fun d => d.parameters.length) = some 3 := by decide +kernel
theorem d_X_bytes_0 : decode b_X_bytes 0 = .ok (.iload_n 0, 1) := by decide +kernel
theorem d_X_bytes_1 : decode b_X_bytes 1 = .ok (.iconst 5, 1) := by decide +kernel
theorem d_X_bytes_2 : decode b_X_bytes 2 = .ok (.iload_n 2, 1) := by decide +kernel
theorem d_X_bytes_3 : decode b_X_bytes 3 = .ok (.isub, 1) := by decide +kernel
theorem d_X_bytes_4 : decode b_X_bytes 4 = .ok (.invokestatic 128, 3) := by decide +kernel
theorem d_X_bytes_7 : decode b_X_bytes 7 = .ok (.idiv, 1) := by decide +kernel
theorem d_X_bytes_8 : decode b_X_bytes 8 = .ok (.istore_n 3, 1) := by decide +kernel
theorem d_X_bytes_9 : decode b_X_bytes 9 = .ok (.iload_n 2, 1) := by decide +kernel
theorem d_X_bytes_10 : decode b_X_bytes 10 = .ok (.iload_n 1, 1) := by decide +kernel
theorem d_X_bytes_11 : decode b_X_bytes 11 = .ok (.if_icmp .ge 7, 3) := by decide +kernel
theorem d_X_bytes_14 : decode b_X_bytes 14 = .ok (.iconst 0, 1) := by decide +kernel
theorem d_X_bytes_15 : decode b_X_bytes 15 = .ok (.goto 26, 3) := by decide +kernel
theorem d_X_bytes_18 : decode b_X_bytes 18 = .ok (.iload_n 2, 1) := by decide +kernel
theorem d_X_bytes_19 : decode b_X_bytes 19 = .ok (.iload_n 1, 1) := by decide +kernel
theorem d_X_bytes_20 : decode b_X_bytes 20 = .ok (.isub, 1) := by decide +kernel
theorem d_X_bytes_21 : decode b_X_bytes 21 = .ok (.iconst 1, 1) := by decide +kernel
theorem d_X_bytes_22 : decode b_X_bytes 22 = .ok (.iadd, 1) := by decide +kernel
theorem d_X_bytes_23 : decode b_X_bytes 23 = .ok (.iconst 5, 1) := by decide +kernel
theorem d_X_bytes_24 : decode b_X_bytes 24 = .ok (.if_icmp .ne 7, 3) := by decide +kernel
theorem d_X_bytes_27 : decode b_X_bytes 27 = .ok (.iload_n 3, 1) := by decide +kernel
theorem d_X_bytes_28 : decode b_X_bytes 28 = .ok (.goto 13, 3) := by decide +kernel
theorem d_X_bytes_31 : decode b_X_bytes 31 = .ok (.iload_n 3, 1) := by decide +kernel
theorem d_X_bytes_32 : decode b_X_bytes 32 = .ok (.iload_n 2, 1) := by decide +kernel
theorem d_X_bytes_33 : decode b_X_bytes 33 = .ok (.iload_n 1, 1) := by decide +kernel
theorem d_X_bytes_34 : decode b_X_bytes 34 = .ok (.isub, 1) := by decide +kernel
theorem d_X_bytes_35 : decode b_X_bytes 35 = .ok (.iconst 1, 1) := by decide +kernel
theorem d_X_bytes_36 : decode b_X_bytes 36 = .ok (.iadd, 1) := by decide +kernel
theorem d_X_bytes_37 : decode b_X_bytes 37 = .ok (.invokestatic 128, 3) := by decide +kernel
theorem d_X_bytes_40 : decode b_X_bytes 40 = .ok (.irem, 1) := by decide +kernel
theorem d_X_bytes_41 : decode b_X_bytes 41 = .ok (.ireturn, 1) := by decide +kernel
abbrev b_X_change : ByteArray := prog_11_method_41_code
abbrev y_X_change : MethodName := ⟨"SignMachineModel", "change", "(I)V"⟩
theorem h_X_change : (y_X_change).cls ≠ "java/lang/invoke/MethodHandle" ∧ (y_X_change).cls ≠ "java/lang/invoke/VarHandle" ∧ (parseMethodDescriptor (y_X_change).desc).map (fun d => d.parameters.length) = some 1 := by decide +kernel
theorem d_X_change_0 : decode b_X_change 0 = .ok (.aload_n 0, 1) := by decide +kernel
theorem d_X_change_1 : decode b_X_change 1 = .ok (.getfield 135, 3) := by decide +kernel
theorem d_X_change_4 : decode b_X_change 4 = .ok (.iconst 2, 1) := by decide +kernel
theorem d_X_change_5 : decode b_X_change 5 = .ok (.if_icmp .ge 50, 3) := by decide +kernel
theorem d_X_change_8 : decode b_X_change 8 = .ok (.aload_n 0, 1) := by decide +kernel
theorem d_X_change_9 : decode b_X_change 9 = .ok (.iload_n 1, 1) := by decide +kernel
theorem d_X_change_10 : decode b_X_change 10 = .ok (.aload_n 0, 1) := by decide +kernel
theorem d_X_change_11 : decode b_X_change 11 = .ok (.getfield 135, 3) := by decide +kernel
theorem d_X_change_14 : decode b_X_change 14 = .ok (.ifCond .ne 10, 3) := by decide +kernel
theorem d_X_change_17 : decode b_X_change 17 = .ok (.aload_n 0, 1) := by decide +kernel
theorem d_X_change_18 : decode b_X_change 18 = .ok (.getfield 147, 3) := by decide +kernel
theorem d_X_change_21 : decode b_X_change 21 = .ok (.goto 9, 3) := by decide +kernel
theorem d_X_change_24 : decode b_X_change 24 = .ok (.iconst 1, 1) := by decide +kernel
theorem d_X_change_25 : decode b_X_change 25 = .ok (.aload_n 0, 1) := by decide +kernel
theorem d_X_change_26 : decode b_X_change 26 = .ok (.getfield 147, 3) := by decide +kernel
theorem d_X_change_29 : decode b_X_change 29 = .ok (.isub, 1) := by decide +kernel
theorem d_X_change_30 : decode b_X_change 30 = .ok (.aload_n 0, 1) := by decide +kernel
theorem d_X_change_31 : decode b_X_change 31 = .ok (.getfield 142, 3) := by decide +kernel
theorem d_X_change_34 : decode b_X_change 34 = .ok (.ifCond .ge 11, 3) := by decide +kernel
theorem d_X_change_37 : decode b_X_change 37 = .ok (.aload_n 0, 1) := by decide +kernel
theorem d_X_change_38 : decode b_X_change 38 = .ok (.getfield 142, 3) := by decide +kernel
theorem d_X_change_41 : decode b_X_change 41 = .ok (.ineg, 1) := by decide +kernel
theorem d_X_change_42 : decode b_X_change 42 = .ok (.goto 7, 3) := by decide +kernel
theorem d_X_change_45 : decode b_X_change 45 = .ok (.aload_n 0, 1) := by decide +kernel
theorem d_X_change_46 : decode b_X_change 46 = .ok (.getfield 142, 3) := by decide +kernel
theorem d_X_change_49 : decode b_X_change 49 = .ok (.invokevirtual 214, 3) := by decide +kernel
theorem d_X_change_52 : decode b_X_change 52 = .ok (.goto 55, 3) := by decide +kernel
theorem d_X_change_55 : decode b_X_change 55 = .ok (.aload_n 0, 1) := by decide +kernel
theorem d_X_change_56 : decode b_X_change 56 = .ok (.getfield 16, 3) := by decide +kernel
theorem d_X_change_59 : decode b_X_change 59 = .ok (.iload_n 1, 1) := by decide +kernel
theorem d_X_change_60 : decode b_X_change 60 = .ok (.aload_n 0, 1) := by decide +kernel
theorem d_X_change_61 : decode b_X_change 61 = .ok (.getfield 135, 3) := by decide +kernel
theorem d_X_change_64 : decode b_X_change 64 = .ok (.iconst 2, 1) := by decide +kernel
theorem d_X_change_65 : decode b_X_change 65 = .ok (.if_icmp .ne 10, 3) := by decide +kernel
theorem d_X_change_68 : decode b_X_change 68 = .ok (.aload_n 0, 1) := by decide +kernel
theorem d_X_change_69 : decode b_X_change 69 = .ok (.getfield 147, 3) := by decide +kernel
theorem d_X_change_72 : decode b_X_change 72 = .ok (.goto 9, 3) := by decide +kernel
theorem d_X_change_75 : decode b_X_change 75 = .ok (.iconst 1, 1) := by decide +kernel
theorem d_X_change_76 : decode b_X_change 76 = .ok (.aload_n 0, 1) := by decide +kernel
theorem d_X_change_77 : decode b_X_change 77 = .ok (.getfield 147, 3) := by decide +kernel
theorem d_X_change_80 : decode b_X_change 80 = .ok (.isub, 1) := by decide +kernel
theorem d_X_change_81 : decode b_X_change 81 = .ok (.iastore, 1) := by decide +kernel
theorem d_X_change_82 : decode b_X_change 82 = .ok (.aload_n 0, 1) := by decide +kernel
theorem d_X_change_83 : decode b_X_change 83 = .ok (.getfield 19, 3) := by decide +kernel
theorem d_X_change_86 : decode b_X_change 86 = .ok (.iload_n 1, 1) := by decide +kernel
theorem d_X_change_87 : decode b_X_change 87 = .ok (.aload_n 0, 1) := by decide +kernel
theorem d_X_change_88 : decode b_X_change 88 = .ok (.getfield 142, 3) := by decide +kernel
theorem d_X_change_91 : decode b_X_change 91 = .ok (.ifCond .ge 11, 3) := by decide +kernel
theorem d_X_change_94 : decode b_X_change 94 = .ok (.aload_n 0, 1) := by decide +kernel
theorem d_X_change_95 : decode b_X_change 95 = .ok (.getfield 142, 3) := by decide +kernel
theorem d_X_change_98 : decode b_X_change 98 = .ok (.ineg, 1) := by decide +kernel
theorem d_X_change_99 : decode b_X_change 99 = .ok (.goto 7, 3) := by decide +kernel
theorem d_X_change_102 : decode b_X_change 102 = .ok (.aload_n 0, 1) := by decide +kernel
theorem d_X_change_103 : decode b_X_change 103 = .ok (.getfield 142, 3) := by decide +kernel
theorem d_X_change_106 : decode b_X_change 106 = .ok (.iastore, 1) := by decide +kernel
theorem d_X_change_107 : decode b_X_change 107 = .ok (.return_, 1) := by decide +kernel
abbrev b_X_codeOf : ByteArray := prog_11_method_75_code
abbrev y_X_codeOf : MethodName := ⟨"SignMachineModel", "codeOf", "(I)I"⟩
theorem h_X_codeOf : (y_X_codeOf).cls ≠ "java/lang/invoke/MethodHandle" ∧ (y_X_codeOf).cls ≠ "java/lang/invoke/VarHandle" ∧ (parseMethodDescriptor (y_X_codeOf).desc).map (fun d => d.parameters.length) = some 1 := by decide +kernel
theorem d_X_codeOf_0 : decode b_X_codeOf 0 = .ok (.iload_n 0, 1) := by decide +kernel
theorem d_X_codeOf_1 : decode b_X_codeOf 1 = .ok (.bipush 32, 2) := by decide +kernel
theorem d_X_codeOf_3 : decode b_X_codeOf 3 = .ok (.if_icmp .ne 5, 3) := by decide +kernel
theorem d_X_codeOf_6 : decode b_X_codeOf 6 = .ok (.iconst 0, 1) := by decide +kernel
theorem d_X_codeOf_7 : decode b_X_codeOf 7 = .ok (.ireturn, 1) := by decide +kernel
theorem d_X_codeOf_8 : decode b_X_codeOf 8 = .ok (.iload_n 0, 1) := by decide +kernel
theorem d_X_codeOf_9 : decode b_X_codeOf 9 = .ok (.bipush 65, 2) := by decide +kernel
theorem d_X_codeOf_11 : decode b_X_codeOf 11 = .ok (.if_icmp .lt 14, 3) := by decide +kernel
theorem d_X_codeOf_14 : decode b_X_codeOf 14 = .ok (.iload_n 0, 1) := by decide +kernel
theorem d_X_codeOf_15 : decode b_X_codeOf 15 = .ok (.bipush 73, 2) := by decide +kernel
theorem d_X_codeOf_17 : decode b_X_codeOf 17 = .ok (.if_icmp .gt 8, 3) := by decide +kernel
theorem d_X_codeOf_20 : decode b_X_codeOf 20 = .ok (.iload_n 0, 1) := by decide +kernel
theorem d_X_codeOf_21 : decode b_X_codeOf 21 = .ok (.bipush 64, 2) := by decide +kernel
theorem d_X_codeOf_23 : decode b_X_codeOf 23 = .ok (.isub, 1) := by decide +kernel
theorem d_X_codeOf_24 : decode b_X_codeOf 24 = .ok (.ireturn, 1) := by decide +kernel
theorem d_X_codeOf_25 : decode b_X_codeOf 25 = .ok (.iload_n 0, 1) := by decide +kernel
theorem d_X_codeOf_26 : decode b_X_codeOf 26 = .ok (.bipush 74, 2) := by decide +kernel
theorem d_X_codeOf_28 : decode b_X_codeOf 28 = .ok (.if_icmp .lt 14, 3) := by decide +kernel
theorem d_X_codeOf_31 : decode b_X_codeOf 31 = .ok (.iload_n 0, 1) := by decide +kernel
theorem d_X_codeOf_32 : decode b_X_codeOf 32 = .ok (.bipush 82, 2) := by decide +kernel
theorem d_X_codeOf_34 : decode b_X_codeOf 34 = .ok (.if_icmp .gt 8, 3) := by decide +kernel
theorem d_X_codeOf_37 : decode b_X_codeOf 37 = .ok (.iload_n 0, 1) := by decide +kernel
theorem d_X_codeOf_38 : decode b_X_codeOf 38 = .ok (.bipush 63, 2) := by decide +kernel
theorem d_X_codeOf_40 : decode b_X_codeOf 40 = .ok (.isub, 1) := by decide +kernel
theorem d_X_codeOf_41 : decode b_X_codeOf 41 = .ok (.ireturn, 1) := by decide +kernel
theorem d_X_codeOf_42 : decode b_X_codeOf 42 = .ok (.iload_n 0, 1) := by decide +kernel
theorem d_X_codeOf_43 : decode b_X_codeOf 43 = .ok (.bipush 83, 2) := by decide +kernel
theorem d_X_codeOf_45 : decode b_X_codeOf 45 = .ok (.if_icmp .lt 14, 3) := by decide +kernel
theorem d_X_codeOf_48 : decode b_X_codeOf 48 = .ok (.iload_n 0, 1) := by decide +kernel
theorem d_X_codeOf_49 : decode b_X_codeOf 49 = .ok (.bipush 90, 2) := by decide +kernel
theorem d_X_codeOf_51 : decode b_X_codeOf 51 = .ok (.if_icmp .gt 8, 3) := by decide +kernel
theorem d_X_codeOf_54 : decode b_X_codeOf 54 = .ok (.iload_n 0, 1) := by decide +kernel
theorem d_X_codeOf_55 : decode b_X_codeOf 55 = .ok (.bipush 61, 2) := by decide +kernel
theorem d_X_codeOf_57 : decode b_X_codeOf 57 = .ok (.isub, 1) := by decide +kernel
theorem d_X_codeOf_58 : decode b_X_codeOf 58 = .ok (.ireturn, 1) := by decide +kernel
theorem d_X_codeOf_59 : decode b_X_codeOf 59 = .ok (.iload_n 0, 1) := by decide +kernel
theorem d_X_codeOf_60 : decode b_X_codeOf 60 = .ok (.invokestatic 294, 3) := by decide +kernel
theorem d_X_codeOf_63 : decode b_X_codeOf 63 = .ok (.ifCond .eq 8, 3) := by decide +kernel
theorem d_X_codeOf_66 : decode b_X_codeOf 66 = .ok (.iload_n 0, 1) := by decide +kernel
theorem d_X_codeOf_67 : decode b_X_codeOf 67 = .ok (.bipush 18, 2) := by decide +kernel
theorem d_X_codeOf_69 : decode b_X_codeOf 69 = .ok (.isub, 1) := by decide +kernel
theorem d_X_codeOf_70 : decode b_X_codeOf 70 = .ok (.ireturn, 1) := by decide +kernel
theorem d_X_codeOf_71 : decode b_X_codeOf 71 = .ok (.iload_n 0, 1) := by decide +kernel
theorem d_X_codeOf_72 : decode b_X_codeOf 72 = .ok (.bipush 126, 2) := by decide +kernel
theorem d_X_codeOf_74 : decode b_X_codeOf 74 = .ok (.if_icmp .ne 8, 3) := by decide +kernel
theorem d_X_codeOf_77 : decode b_X_codeOf 77 = .ok (.bipush 10, 2) := by decide +kernel
theorem d_X_codeOf_79 : decode b_X_codeOf 79 = .ok (.goto 92, 3) := by decide +kernel
theorem d_X_codeOf_82 : decode b_X_codeOf 82 = .ok (.iload_n 0, 1) := by decide +kernel
theorem d_X_codeOf_83 : decode b_X_codeOf 83 = .ok (.bipush 91, 2) := by decide +kernel
theorem d_X_codeOf_85 : decode b_X_codeOf 85 = .ok (.if_icmp .ne 8, 3) := by decide +kernel
theorem d_X_codeOf_88 : decode b_X_codeOf 88 = .ok (.bipush 20, 2) := by decide +kernel
theorem d_X_codeOf_90 : decode b_X_codeOf 90 = .ok (.goto 81, 3) := by decide +kernel
theorem d_X_codeOf_93 : decode b_X_codeOf 93 = .ok (.iload_n 0, 1) := by decide +kernel
theorem d_X_codeOf_94 : decode b_X_codeOf 94 = .ok (.bipush 35, 2) := by decide +kernel
theorem d_X_codeOf_96 : decode b_X_codeOf 96 = .ok (.if_icmp .ne 8, 3) := by decide +kernel
theorem d_X_codeOf_99 : decode b_X_codeOf 99 = .ok (.bipush 21, 2) := by decide +kernel
theorem d_X_codeOf_101 : decode b_X_codeOf 101 = .ok (.goto 70, 3) := by decide +kernel
theorem d_X_codeOf_104 : decode b_X_codeOf 104 = .ok (.iload_n 0, 1) := by decide +kernel
theorem d_X_codeOf_105 : decode b_X_codeOf 105 = .ok (.bipush 46, 2) := by decide +kernel
theorem d_X_codeOf_107 : decode b_X_codeOf 107 = .ok (.if_icmp .ne 8, 3) := by decide +kernel
theorem d_X_codeOf_110 : decode b_X_codeOf 110 = .ok (.bipush 40, 2) := by decide +kernel
theorem d_X_codeOf_112 : decode b_X_codeOf 112 = .ok (.goto 59, 3) := by decide +kernel
theorem d_X_codeOf_115 : decode b_X_codeOf 115 = .ok (.iload_n 0, 1) := by decide +kernel
theorem d_X_codeOf_116 : decode b_X_codeOf 116 = .ok (.bipush 44, 2) := by decide +kernel
theorem d_X_codeOf_118 : decode b_X_codeOf 118 = .ok (.if_icmp .ne 8, 3) := by decide +kernel
theorem d_X_codeOf_121 : decode b_X_codeOf 121 = .ok (.bipush 41, 2) := by decide +kernel
theorem d_X_codeOf_123 : decode b_X_codeOf 123 = .ok (.goto 48, 3) := by decide +kernel
theorem d_X_codeOf_126 : decode b_X_codeOf 126 = .ok (.iload_n 0, 1) := by decide +kernel
theorem d_X_codeOf_127 : decode b_X_codeOf 127 = .ok (.bipush 40, 2) := by decide +kernel
theorem d_X_codeOf_129 : decode b_X_codeOf 129 = .ok (.if_icmp .ne 8, 3) := by decide +kernel
theorem d_X_codeOf_132 : decode b_X_codeOf 132 = .ok (.bipush 42, 2) := by decide +kernel
theorem d_X_codeOf_134 : decode b_X_codeOf 134 = .ok (.goto 37, 3) := by decide +kernel
theorem d_X_codeOf_137 : decode b_X_codeOf 137 = .ok (.iload_n 0, 1) := by decide +kernel
theorem d_X_codeOf_138 : decode b_X_codeOf 138 = .ok (.bipush 41, 2) := by decide +kernel
theorem d_X_codeOf_140 : decode b_X_codeOf 140 = .ok (.if_icmp .ne 8, 3) := by decide +kernel
theorem d_X_codeOf_143 : decode b_X_codeOf 143 = .ok (.bipush 43, 2) := by decide +kernel
theorem d_X_codeOf_145 : decode b_X_codeOf 145 = .ok (.goto 26, 3) := by decide +kernel
theorem d_X_codeOf_148 : decode b_X_codeOf 148 = .ok (.iload_n 0, 1) := by decide +kernel
theorem d_X_codeOf_149 : decode b_X_codeOf 149 = .ok (.bipush 43, 2) := by decide +kernel
theorem d_X_codeOf_151 : decode b_X_codeOf 151 = .ok (.if_icmp .ne 8, 3) := by decide +kernel
theorem d_X_codeOf_154 : decode b_X_codeOf 154 = .ok (.bipush 44, 2) := by decide +kernel
theorem d_X_codeOf_156 : decode b_X_codeOf 156 = .ok (.goto 15, 3) := by decide +kernel
theorem d_X_codeOf_159 : decode b_X_codeOf 159 = .ok (.iload_n 0, 1) := by decide +kernel
theorem d_X_codeOf_160 : decode b_X_codeOf 160 = .ok (.bipush 45, 2) := by decide +kernel
theorem d_X_codeOf_162 : decode b_X_codeOf 162 = .ok (.if_icmp .ne 8, 3) := by decide +kernel
theorem d_X_codeOf_165 : decode b_X_codeOf 165 = .ok (.bipush 45, 2) := by decide +kernel
theorem d_X_codeOf_167 : decode b_X_codeOf 167 = .ok (.goto 4, 3) := by decide +kernel
theorem d_X_codeOf_170 : decode b_X_codeOf 170 = .ok (.iconst (-1), 1) := by decide +kernel
theorem d_X_codeOf_171 : decode b_X_codeOf 171 = .ok (.istore_n 1, 1) := by decide +kernel
theorem d_X_codeOf_172 : decode b_X_codeOf 172 = .ok (.iload_n 0, 1) := by decide +kernel
theorem d_X_codeOf_173 : decode b_X_codeOf 173 = .ok (.bipush 42, 2) := by decide +kernel
theorem d_X_codeOf_175 : decode b_X_codeOf 175 = .ok (.if_icmp .ne 8, 3) := by decide +kernel
theorem d_X_codeOf_178 : decode b_X_codeOf 178 = .ok (.bipush 46, 2) := by decide +kernel
theorem d_X_codeOf_180 : decode b_X_codeOf 180 = .ok (.goto 103, 3) := by decide +kernel
theorem d_X_codeOf_183 : decode b_X_codeOf 183 = .ok (.iload_n 0, 1) := by decide +kernel
theorem d_X_codeOf_184 : decode b_X_codeOf 184 = .ok (.bipush 47, 2) := by decide +kernel
theorem d_X_codeOf_186 : decode b_X_codeOf 186 = .ok (.if_icmp .ne 8, 3) := by decide +kernel
theorem d_X_codeOf_189 : decode b_X_codeOf 189 = .ok (.bipush 47, 2) := by decide +kernel
theorem d_X_codeOf_191 : decode b_X_codeOf 191 = .ok (.goto 92, 3) := by decide +kernel
theorem d_X_codeOf_194 : decode b_X_codeOf 194 = .ok (.iload_n 0, 1) := by decide +kernel
theorem d_X_codeOf_195 : decode b_X_codeOf 195 = .ok (.bipush 61, 2) := by decide +kernel
theorem d_X_codeOf_197 : decode b_X_codeOf 197 = .ok (.if_icmp .ne 8, 3) := by decide +kernel
theorem d_X_codeOf_200 : decode b_X_codeOf 200 = .ok (.bipush 48, 2) := by decide +kernel
theorem d_X_codeOf_202 : decode b_X_codeOf 202 = .ok (.goto 81, 3) := by decide +kernel
theorem d_X_codeOf_205 : decode b_X_codeOf 205 = .ok (.iload_n 0, 1) := by decide +kernel
theorem d_X_codeOf_206 : decode b_X_codeOf 206 = .ok (.bipush 36, 2) := by decide +kernel
theorem d_X_codeOf_208 : decode b_X_codeOf 208 = .ok (.if_icmp .ne 8, 3) := by decide +kernel
theorem d_X_codeOf_211 : decode b_X_codeOf 211 = .ok (.bipush 49, 2) := by decide +kernel
theorem d_X_codeOf_213 : decode b_X_codeOf 213 = .ok (.goto 70, 3) := by decide +kernel
theorem d_X_codeOf_216 : decode b_X_codeOf 216 = .ok (.iload_n 0, 1) := by decide +kernel
theorem d_X_codeOf_217 : decode b_X_codeOf 217 = .ok (.bipush 60, 2) := by decide +kernel
theorem d_X_codeOf_219 : decode b_X_codeOf 219 = .ok (.if_icmp .ne 8, 3) := by decide +kernel
theorem d_X_codeOf_222 : decode b_X_codeOf 222 = .ok (.bipush 50, 2) := by decide +kernel
theorem d_X_codeOf_224 : decode b_X_codeOf 224 = .ok (.goto 59, 3) := by decide +kernel
theorem d_X_codeOf_227 : decode b_X_codeOf 227 = .ok (.iload_n 0, 1) := by decide +kernel
theorem d_X_codeOf_228 : decode b_X_codeOf 228 = .ok (.bipush 62, 2) := by decide +kernel
theorem d_X_codeOf_230 : decode b_X_codeOf 230 = .ok (.if_icmp .ne 8, 3) := by decide +kernel
theorem d_X_codeOf_233 : decode b_X_codeOf 233 = .ok (.bipush 51, 2) := by decide +kernel
theorem d_X_codeOf_235 : decode b_X_codeOf 235 = .ok (.goto 48, 3) := by decide +kernel
theorem d_X_codeOf_238 : decode b_X_codeOf 238 = .ok (.iload_n 0, 1) := by decide +kernel
theorem d_X_codeOf_239 : decode b_X_codeOf 239 = .ok (.bipush 64, 2) := by decide +kernel
theorem d_X_codeOf_241 : decode b_X_codeOf 241 = .ok (.if_icmp .ne 8, 3) := by decide +kernel
theorem d_X_codeOf_244 : decode b_X_codeOf 244 = .ok (.bipush 52, 2) := by decide +kernel
theorem d_X_codeOf_246 : decode b_X_codeOf 246 = .ok (.goto 37, 3) := by decide +kernel
theorem d_X_codeOf_249 : decode b_X_codeOf 249 = .ok (.iload_n 0, 1) := by decide +kernel
theorem d_X_codeOf_250 : decode b_X_codeOf 250 = .ok (.bipush 59, 2) := by decide +kernel
theorem d_X_codeOf_252 : decode b_X_codeOf 252 = .ok (.if_icmp .ne 8, 3) := by decide +kernel
theorem d_X_codeOf_255 : decode b_X_codeOf 255 = .ok (.bipush 53, 2) := by decide +kernel
theorem d_X_codeOf_257 : decode b_X_codeOf 257 = .ok (.goto 26, 3) := by decide +kernel
theorem d_X_codeOf_260 : decode b_X_codeOf 260 = .ok (.iload_n 0, 1) := by decide +kernel
theorem d_X_codeOf_261 : decode b_X_codeOf 261 = .ok (.bipush 58, 2) := by decide +kernel
theorem d_X_codeOf_263 : decode b_X_codeOf 263 = .ok (.if_icmp .ne 8, 3) := by decide +kernel
theorem d_X_codeOf_266 : decode b_X_codeOf 266 = .ok (.bipush 54, 2) := by decide +kernel
theorem d_X_codeOf_268 : decode b_X_codeOf 268 = .ok (.goto 15, 3) := by decide +kernel
theorem d_X_codeOf_271 : decode b_X_codeOf 271 = .ok (.iload_n 0, 1) := by decide +kernel
theorem d_X_codeOf_272 : decode b_X_codeOf 272 = .ok (.bipush 39, 2) := by decide +kernel
theorem d_X_codeOf_274 : decode b_X_codeOf 274 = .ok (.if_icmp .ne 8, 3) := by decide +kernel
theorem d_X_codeOf_277 : decode b_X_codeOf 277 = .ok (.bipush 55, 2) := by decide +kernel
theorem d_X_codeOf_279 : decode b_X_codeOf 279 = .ok (.goto 4, 3) := by decide +kernel
theorem d_X_codeOf_282 : decode b_X_codeOf 282 = .ok (.iconst (-1), 1) := by decide +kernel
theorem d_X_codeOf_283 : decode b_X_codeOf 283 = .ok (.istore_n 2, 1) := by decide +kernel
theorem d_X_codeOf_284 : decode b_X_codeOf 284 = .ok (.iload_n 1, 1) := by decide +kernel
theorem d_X_codeOf_285 : decode b_X_codeOf 285 = .ok (.iconst (-1), 1) := by decide +kernel
theorem d_X_codeOf_286 : decode b_X_codeOf 286 = .ok (.if_icmp .eq 7, 3) := by decide +kernel
theorem d_X_codeOf_289 : decode b_X_codeOf 289 = .ok (.iload_n 1, 1) := by decide +kernel
theorem d_X_codeOf_290 : decode b_X_codeOf 290 = .ok (.goto 4, 3) := by decide +kernel
theorem d_X_codeOf_293 : decode b_X_codeOf 293 = .ok (.iload_n 2, 1) := by decide +kernel
theorem d_X_codeOf_294 : decode b_X_codeOf 294 = .ok (.ireturn, 1) := by decide +kernel
abbrev b_X_comes : ByteArray := prog_11_method_66_code
abbrev y_X_comes : MethodName := ⟨"SignMachineModel", "comes", "(II)I"⟩
theorem h_X_comes : (y_X_comes).cls ≠ "java/lang/invoke/MethodHandle" ∧ (y_X_comes).cls ≠ "java/lang/invoke/VarHandle" ∧ (parseMethodDescriptor (y_X_comes).desc).map (fun d => d.parameters.length) = some 2 := by decide +kernel
theorem d_X_comes_0 : decode b_X_comes 0 = .ok (.aload_n 0, 1) := by decide +kernel
theorem d_X_comes_1 : decode b_X_comes 1 = .ok (.getfield 317, 3) := by decide +kernel
theorem d_X_comes_4 : decode b_X_comes 4 = .ok (.i2l, 1) := by decide +kernel
theorem d_X_comes_5 : decode b_X_comes 5 = .ok (.invokestatic 158, 3) := by decide +kernel
theorem d_X_comes_8 : decode b_X_comes 8 = .ok (.ifCond .ne 8, 3) := by decide +kernel
theorem d_X_comes_11 : decode b_X_comes 11 = .ok (.aload_n 0, 1) := by decide +kernel
theorem d_X_comes_12 : decode b_X_comes 12 = .ok (.iconst 4, 1) := by decide +kernel
theorem d_X_comes_13 : decode b_X_comes 13 = .ok (.invokevirtual 299, 3) := by decide +kernel
theorem d_X_comes_16 : decode b_X_comes 16 = .ok (.aload_n 0, 1) := by decide +kernel
theorem d_X_comes_17 : decode b_X_comes 17 = .ok (.getfield 279, 3) := by decide +kernel
theorem d_X_comes_20 : decode b_X_comes 20 = .ok (.ifCond .gt 13, 3) := by decide +kernel
theorem d_X_comes_23 : decode b_X_comes 23 = .ok (.aload_n 0, 1) := by decide +kernel
theorem d_X_comes_24 : decode b_X_comes 24 = .ok (.getfield 356, 3) := by decide +kernel
theorem d_X_comes_27 : decode b_X_comes 27 = .ok (.sipush 4200, 3) := by decide +kernel
theorem d_X_comes_30 : decode b_X_comes 30 = .ok (.if_icmp .ne 5, 3) := by decide +kernel
theorem d_X_comes_33 : decode b_X_comes 33 = .ok (.iconst 0, 1) := by decide +kernel
theorem d_X_comes_34 : decode b_X_comes 34 = .ok (.ireturn, 1) := by decide +kernel
theorem d_X_comes_35 : decode b_X_comes 35 = .ok (.aload_n 0, 1) := by decide +kernel
theorem d_X_comes_36 : decode b_X_comes 36 = .ok (.getfield 61, 3) := by decide +kernel
theorem d_X_comes_39 : decode b_X_comes 39 = .ok (.aload_n 0, 1) := by decide +kernel
theorem d_X_comes_40 : decode b_X_comes 40 = .ok (.getfield 356, 3) := by decide +kernel
theorem d_X_comes_43 : decode b_X_comes 43 = .ok (.aload_n 0, 1) := by decide +kernel
theorem d_X_comes_44 : decode b_X_comes 44 = .ok (.getfield 317, 3) := by decide +kernel
theorem d_X_comes_47 : decode b_X_comes 47 = .ok (.iastore, 1) := by decide +kernel
theorem d_X_comes_48 : decode b_X_comes 48 = .ok (.aload_n 0, 1) := by decide +kernel
theorem d_X_comes_49 : decode b_X_comes 49 = .ok (.getfield 64, 3) := by decide +kernel
theorem d_X_comes_52 : decode b_X_comes 52 = .ok (.aload_n 0, 1) := by decide +kernel
theorem d_X_comes_53 : decode b_X_comes 53 = .ok (.getfield 356, 3) := by decide +kernel
theorem d_X_comes_56 : decode b_X_comes 56 = .ok (.iload_n 1, 1) := by decide +kernel
theorem d_X_comes_57 : decode b_X_comes 57 = .ok (.iastore, 1) := by decide +kernel
theorem d_X_comes_58 : decode b_X_comes 58 = .ok (.aload_n 0, 1) := by decide +kernel
theorem d_X_comes_59 : decode b_X_comes 59 = .ok (.getfield 67, 3) := by decide +kernel
theorem d_X_comes_62 : decode b_X_comes 62 = .ok (.aload_n 0, 1) := by decide +kernel
theorem d_X_comes_63 : decode b_X_comes 63 = .ok (.getfield 356, 3) := by decide +kernel
theorem d_X_comes_66 : decode b_X_comes 66 = .ok (.iload_n 2, 1) := by decide +kernel
theorem d_X_comes_67 : decode b_X_comes 67 = .ok (.iastore, 1) := by decide +kernel
theorem d_X_comes_68 : decode b_X_comes 68 = .ok (.aload_n 0, 1) := by decide +kernel
theorem d_X_comes_69 : decode b_X_comes 69 = .ok (.dup, 1) := by decide +kernel
theorem d_X_comes_70 : decode b_X_comes 70 = .ok (.getfield 356, 3) := by decide +kernel
theorem d_X_comes_73 : decode b_X_comes 73 = .ok (.iconst 1, 1) := by decide +kernel
theorem d_X_comes_74 : decode b_X_comes 74 = .ok (.iadd, 1) := by decide +kernel
theorem d_X_comes_75 : decode b_X_comes 75 = .ok (.putfield 356, 3) := by decide +kernel
theorem d_X_comes_78 : decode b_X_comes 78 = .ok (.aload_n 0, 1) := by decide +kernel
theorem d_X_comes_79 : decode b_X_comes 79 = .ok (.dup, 1) := by decide +kernel
theorem d_X_comes_80 : decode b_X_comes 80 = .ok (.getfield 317, 3) := by decide +kernel
theorem d_X_comes_83 : decode b_X_comes 83 = .ok (.iconst 1, 1) := by decide +kernel
theorem d_X_comes_84 : decode b_X_comes 84 = .ok (.iadd, 1) := by decide +kernel
theorem d_X_comes_85 : decode b_X_comes 85 = .ok (.putfield 317, 3) := by decide +kernel
theorem d_X_comes_88 : decode b_X_comes 88 = .ok (.aload_n 0, 1) := by decide +kernel
theorem d_X_comes_89 : decode b_X_comes 89 = .ok (.getfield 356, 3) := by decide +kernel
theorem d_X_comes_92 : decode b_X_comes 92 = .ok (.iconst 1, 1) := by decide +kernel
theorem d_X_comes_93 : decode b_X_comes 93 = .ok (.isub, 1) := by decide +kernel
theorem d_X_comes_94 : decode b_X_comes 94 = .ok (.ireturn, 1) := by decide +kernel
abbrev b_X_compare : ByteArray := prog_11_method_42_code
abbrev y_X_compare : MethodName := ⟨"SignMachineModel", "compare", "(I)V"⟩
theorem h_X_compare : (y_X_compare).cls ≠ "java/lang/invoke/MethodHandle" ∧ (y_X_compare).cls ≠ "java/lang/invoke/VarHandle" ∧ (parseMethodDescriptor (y_X_compare).desc).map (fun d => d.parameters.length) = some 1 := by decide +kernel
theorem d_X_compare_0 : decode b_X_compare 0 = .ok (.aload_n 0, 1) := by decide +kernel
theorem d_X_compare_1 : decode b_X_compare 1 = .ok (.invokevirtual 175, 3) := by decide +kernel
theorem d_X_compare_4 : decode b_X_compare 4 = .ok (.aload_n 0, 1) := by decide +kernel
theorem d_X_compare_5 : decode b_X_compare 5 = .ok (.getfield 135, 3) := by decide +kernel
theorem d_X_compare_8 : decode b_X_compare 8 = .ok (.bipush 8, 2) := by decide +kernel
theorem d_X_compare_10 : decode b_X_compare 10 = .ok (.idiv, 1) := by decide +kernel
theorem d_X_compare_11 : decode b_X_compare 11 = .ok (.istore_n 2, 1) := by decide +kernel
theorem d_X_compare_12 : decode b_X_compare 12 = .ok (.iload_n 2, 1) := by decide +kernel
theorem d_X_compare_13 : decode b_X_compare 13 = .ok (.ifCond .ne 12, 3) := by decide +kernel
theorem d_X_compare_16 : decode b_X_compare 16 = .ok (.aload_n 0, 1) := by decide +kernel
theorem d_X_compare_17 : decode b_X_compare 17 = .ok (.getfield 16, 3) := by decide +kernel
theorem d_X_compare_20 : decode b_X_compare 20 = .ok (.iload_n 1, 1) := by decide +kernel
theorem d_X_compare_21 : decode b_X_compare 21 = .ok (.iaload, 1) := by decide +kernel
theorem d_X_compare_22 : decode b_X_compare 22 = .ok (.goto 4, 3) := by decide +kernel
theorem d_X_compare_25 : decode b_X_compare 25 = .ok (.iconst 0, 1) := by decide +kernel
theorem d_X_compare_26 : decode b_X_compare 26 = .ok (.istore_n 3, 1) := by decide +kernel
theorem d_X_compare_27 : decode b_X_compare 27 = .ok (.aload_n 0, 1) := by decide +kernel
theorem d_X_compare_28 : decode b_X_compare 28 = .ok (.getfield 19, 3) := by decide +kernel
theorem d_X_compare_31 : decode b_X_compare 31 = .ok (.iload_n 1, 1) := by decide +kernel
theorem d_X_compare_32 : decode b_X_compare 32 = .ok (.iaload, 1) := by decide +kernel
theorem d_X_compare_33 : decode b_X_compare 33 = .ok (.iload_n 2, 1) := by decide +kernel
theorem d_X_compare_34 : decode b_X_compare 34 = .ok (.ifCond .ne 7, 3) := by decide +kernel
theorem d_X_compare_37 : decode b_X_compare 37 = .ok (.iconst 1, 1) := by decide +kernel
theorem d_X_compare_38 : decode b_X_compare 38 = .ok (.goto 4, 3) := by decide +kernel
theorem d_X_compare_41 : decode b_X_compare 41 = .ok (.iload_n 2, 1) := by decide +kernel
theorem d_X_compare_42 : decode b_X_compare 42 = .ok (.aload_n 0, 1) := by decide +kernel
theorem d_X_compare_43 : decode b_X_compare 43 = .ok (.getfield 135, 3) := by decide +kernel
theorem d_X_compare_46 : decode b_X_compare 46 = .ok (.bipush 8, 2) := by decide +kernel
theorem d_X_compare_48 : decode b_X_compare 48 = .ok (.irem, 1) := by decide +kernel
theorem d_X_compare_49 : decode b_X_compare 49 = .ok (.invokestatic 168, 3) := by decide +kernel
theorem d_X_compare_52 : decode b_X_compare 52 = .ok (.istore 4, 2) := by decide +kernel
theorem d_X_compare_54 : decode b_X_compare 54 = .ok (.iload_n 3, 1) := by decide +kernel
theorem d_X_compare_55 : decode b_X_compare 55 = .ok (.iconst 1, 1) := by decide +kernel
theorem d_X_compare_56 : decode b_X_compare 56 = .ok (.if_icmp .ne 9, 3) := by decide +kernel
theorem d_X_compare_59 : decode b_X_compare 59 = .ok (.iload 4, 2) := by decide +kernel
theorem d_X_compare_61 : decode b_X_compare 61 = .ok (.ineg, 1) := by decide +kernel
theorem d_X_compare_62 : decode b_X_compare 62 = .ok (.goto 5, 3) := by decide +kernel
theorem d_X_compare_65 : decode b_X_compare 65 = .ok (.iload 4, 2) := by decide +kernel
theorem d_X_compare_67 : decode b_X_compare 67 = .ok (.istore 5, 2) := by decide +kernel
theorem d_X_compare_69 : decode b_X_compare 69 = .ok (.aload_n 0, 1) := by decide +kernel
theorem d_X_compare_70 : decode b_X_compare 70 = .ok (.getfield 165, 3) := by decide +kernel
theorem d_X_compare_73 : decode b_X_compare 73 = .ok (.iconst 1, 1) := by decide +kernel
theorem d_X_compare_74 : decode b_X_compare 74 = .ok (.if_icmp .ne 11, 3) := by decide +kernel
theorem d_X_compare_77 : decode b_X_compare 77 = .ok (.aload_n 0, 1) := by decide +kernel
theorem d_X_compare_78 : decode b_X_compare 78 = .ok (.getfield 172, 3) := by decide +kernel
theorem d_X_compare_81 : decode b_X_compare 81 = .ok (.ineg, 1) := by decide +kernel
theorem d_X_compare_82 : decode b_X_compare 82 = .ok (.goto 7, 3) := by decide +kernel
theorem d_X_compare_85 : decode b_X_compare 85 = .ok (.aload_n 0, 1) := by decide +kernel
theorem d_X_compare_86 : decode b_X_compare 86 = .ok (.getfield 172, 3) := by decide +kernel
theorem d_X_compare_89 : decode b_X_compare 89 = .ok (.istore 6, 2) := by decide +kernel
theorem d_X_compare_91 : decode b_X_compare 91 = .ok (.aload_n 0, 1) := by decide +kernel
theorem d_X_compare_92 : decode b_X_compare 92 = .ok (.iload 5, 2) := by decide +kernel
theorem d_X_compare_94 : decode b_X_compare 94 = .ok (.iload 6, 2) := by decide +kernel
theorem d_X_compare_96 : decode b_X_compare 96 = .ok (.if_icmp .ge 7, 3) := by decide +kernel
theorem d_X_compare_99 : decode b_X_compare 99 = .ok (.iconst (-1), 1) := by decide +kernel
theorem d_X_compare_100 : decode b_X_compare 100 = .ok (.goto 15, 3) := by decide +kernel
theorem d_X_compare_103 : decode b_X_compare 103 = .ok (.iload 5, 2) := by decide +kernel
theorem d_X_compare_105 : decode b_X_compare 105 = .ok (.iload 6, 2) := by decide +kernel
theorem d_X_compare_107 : decode b_X_compare 107 = .ok (.if_icmp .le 7, 3) := by decide +kernel
theorem d_X_compare_110 : decode b_X_compare 110 = .ok (.iconst 1, 1) := by decide +kernel
theorem d_X_compare_111 : decode b_X_compare 111 = .ok (.goto 4, 3) := by decide +kernel
theorem d_X_compare_114 : decode b_X_compare 114 = .ok (.iconst 0, 1) := by decide +kernel
theorem d_X_compare_115 : decode b_X_compare 115 = .ok (.putfield 116, 3) := by decide +kernel
theorem d_X_compare_118 : decode b_X_compare 118 = .ok (.return_, 1) := by decide +kernel
abbrev b_X_digits : ByteArray := prog_11_method_31_code
abbrev y_X_digits : MethodName := ⟨"SignMachineModel", "digits", "()V"⟩
theorem h_X_digits : (y_X_digits).cls ≠ "java/lang/invoke/MethodHandle" ∧ (y_X_digits).cls ≠ "java/lang/invoke/VarHandle" ∧ (parseMethodDescriptor (y_X_digits).desc).map (fun d => d.parameters.length) = some 0 := by decide +kernel
theorem d_X_digits_0 : decode b_X_digits 0 = .ok (.lconst 0, 1) := by decide +kernel
theorem d_X_digits_1 : decode b_X_digits 1 = .ok (.lstore_n 1, 1) := by decide +kernel
theorem d_X_digits_2 : decode b_X_digits 2 = .ok (.iconst 1, 1) := by decide +kernel
theorem d_X_digits_3 : decode b_X_digits 3 = .ok (.istore_n 3, 1) := by decide +kernel
theorem d_X_digits_4 : decode b_X_digits 4 = .ok (.iload_n 3, 1) := by decide +kernel
theorem d_X_digits_5 : decode b_X_digits 5 = .ok (.bipush 10, 2) := by decide +kernel
theorem d_X_digits_7 : decode b_X_digits 7 = .ok (.if_icmp .gt 59, 3) := by decide +kernel
theorem d_X_digits_10 : decode b_X_digits 10 = .ok (.iload_n 3, 1) := by decide +kernel
theorem d_X_digits_11 : decode b_X_digits 11 = .ok (.iconst 5, 1) := by decide +kernel
theorem d_X_digits_12 : decode b_X_digits 12 = .ok (.if_icmp .gt 17, 3) := by decide +kernel
theorem d_X_digits_15 : decode b_X_digits 15 = .ok (.aload_n 0, 1) := by decide +kernel
theorem d_X_digits_16 : decode b_X_digits 16 = .ok (.getfield 19, 3) := by decide +kernel
theorem d_X_digits_19 : decode b_X_digits 19 = .ok (.iconst 0, 1) := by decide +kernel
theorem d_X_digits_20 : decode b_X_digits 20 = .ok (.iaload, 1) := by decide +kernel
theorem d_X_digits_21 : decode b_X_digits 21 = .ok (.iload_n 3, 1) := by decide +kernel
theorem d_X_digits_22 : decode b_X_digits 22 = .ok (.iload_n 3, 1) := by decide +kernel
theorem d_X_digits_23 : decode b_X_digits 23 = .ok (.invokestatic 168, 3) := by decide +kernel
theorem d_X_digits_26 : decode b_X_digits 26 = .ok (.goto 19, 3) := by decide +kernel
theorem d_X_digits_29 : decode b_X_digits 29 = .ok (.aload_n 0, 1) := by decide +kernel
theorem d_X_digits_30 : decode b_X_digits 30 = .ok (.getfield 19, 3) := by decide +kernel
theorem d_X_digits_33 : decode b_X_digits 33 = .ok (.bipush 7, 2) := by decide +kernel
theorem d_X_digits_35 : decode b_X_digits 35 = .ok (.iaload, 1) := by decide +kernel
theorem d_X_digits_36 : decode b_X_digits 36 = .ok (.iload_n 3, 1) := by decide +kernel
theorem d_X_digits_37 : decode b_X_digits 37 = .ok (.iconst 5, 1) := by decide +kernel
theorem d_X_digits_38 : decode b_X_digits 38 = .ok (.isub, 1) := by decide +kernel
theorem d_X_digits_39 : decode b_X_digits 39 = .ok (.iload_n 3, 1) := by decide +kernel
theorem d_X_digits_40 : decode b_X_digits 40 = .ok (.iconst 5, 1) := by decide +kernel
theorem d_X_digits_41 : decode b_X_digits 41 = .ok (.isub, 1) := by decide +kernel
theorem d_X_digits_42 : decode b_X_digits 42 = .ok (.invokestatic 168, 3) := by decide +kernel
theorem d_X_digits_45 : decode b_X_digits 45 = .ok (.istore 4, 2) := by decide +kernel
theorem d_X_digits_47 : decode b_X_digits 47 = .ok (.ldc2_w 201, 3) := by decide +kernel
theorem d_X_digits_50 : decode b_X_digits 50 = .ok (.lload_n 1, 1) := by decide +kernel
theorem d_X_digits_51 : decode b_X_digits 51 = .ok (.lmul, 1) := by decide +kernel
theorem d_X_digits_52 : decode b_X_digits 52 = .ok (.iload 4, 2) := by decide +kernel
theorem d_X_digits_54 : decode b_X_digits 54 = .ok (.bipush 10, 2) := by decide +kernel
theorem d_X_digits_56 : decode b_X_digits 56 = .ok (.irem, 1) := by decide +kernel
theorem d_X_digits_57 : decode b_X_digits 57 = .ok (.i2l, 1) := by decide +kernel
theorem d_X_digits_58 : decode b_X_digits 58 = .ok (.ladd, 1) := by decide +kernel
theorem d_X_digits_59 : decode b_X_digits 59 = .ok (.lstore_n 1, 1) := by decide +kernel
theorem d_X_digits_60 : decode b_X_digits 60 = .ok (.iinc 3 1, 3) := by decide +kernel
theorem d_X_digits_63 : decode b_X_digits 63 = .ok (.goto (-59), 3) := by decide +kernel
theorem d_X_digits_66 : decode b_X_digits 66 = .ok (.aload_n 0, 1) := by decide +kernel
theorem d_X_digits_67 : decode b_X_digits 67 = .ok (.lload_n 1, 1) := by decide +kernel
theorem d_X_digits_68 : decode b_X_digits 68 = .ok (.ldc2_w 199, 3) := by decide +kernel
theorem d_X_digits_71 : decode b_X_digits 71 = .ok (.lcmp, 1) := by decide +kernel
theorem d_X_digits_72 : decode b_X_digits 72 = .ok (.ifCond .lt 7, 3) := by decide +kernel
theorem d_X_digits_75 : decode b_X_digits 75 = .ok (.iconst 1, 1) := by decide +kernel
theorem d_X_digits_76 : decode b_X_digits 76 = .ok (.goto 7, 3) := by decide +kernel
theorem d_X_digits_79 : decode b_X_digits 79 = .ok (.aload_n 0, 1) := by decide +kernel
theorem d_X_digits_80 : decode b_X_digits 80 = .ok (.getfield 113, 3) := by decide +kernel
theorem d_X_digits_83 : decode b_X_digits 83 = .ok (.putfield 113, 3) := by decide +kernel
theorem d_X_digits_86 : decode b_X_digits 86 = .ok (.aload_n 0, 1) := by decide +kernel
theorem d_X_digits_87 : decode b_X_digits 87 = .ok (.getfield 19, 3) := by decide +kernel
theorem d_X_digits_90 : decode b_X_digits 90 = .ok (.iconst 0, 1) := by decide +kernel
theorem d_X_digits_91 : decode b_X_digits 91 = .ok (.lload_n 1, 1) := by decide +kernel
theorem d_X_digits_92 : decode b_X_digits 92 = .ok (.ldc2_w 199, 3) := by decide +kernel
theorem d_X_digits_95 : decode b_X_digits 95 = .ok (.lrem, 1) := by decide +kernel
theorem d_X_digits_96 : decode b_X_digits 96 = .ok (.l2i, 1) := by decide +kernel
theorem d_X_digits_97 : decode b_X_digits 97 = .ok (.iastore, 1) := by decide +kernel
theorem d_X_digits_98 : decode b_X_digits 98 = .ok (.return_, 1) := by decide +kernel
abbrev b_X_divide : ByteArray := prog_11_method_30_code
abbrev y_X_divide : MethodName := ⟨"SignMachineModel", "divide", "()V"⟩
theorem h_X_divide : (y_X_divide).cls ≠ "java/lang/invoke/MethodHandle" ∧ (y_X_divide).cls ≠ "java/lang/invoke/VarHandle" ∧ (parseMethodDescriptor (y_X_divide).desc).map (fun d => d.parameters.length) = some 0 := by decide +kernel
theorem d_X_divide_0 : decode b_X_divide 0 = .ok (.aload_n 0, 1) := by decide +kernel
theorem d_X_divide_1 : decode b_X_divide 1 = .ok (.getfield 19, 3) := by decide +kernel
theorem d_X_divide_4 : decode b_X_divide 4 = .ok (.iconst 0, 1) := by decide +kernel
theorem d_X_divide_5 : decode b_X_divide 5 = .ok (.iaload, 1) := by decide +kernel
theorem d_X_divide_6 : decode b_X_divide 6 = .ok (.aload_n 0, 1) := by decide +kernel
theorem d_X_divide_7 : decode b_X_divide 7 = .ok (.getfield 172, 3) := by decide +kernel
theorem d_X_divide_10 : decode b_X_divide 10 = .ok (.if_icmp .lt 9, 3) := by decide +kernel
theorem d_X_divide_13 : decode b_X_divide 13 = .ok (.aload_n 0, 1) := by decide +kernel
theorem d_X_divide_14 : decode b_X_divide 14 = .ok (.iconst 1, 1) := by decide +kernel
theorem d_X_divide_15 : decode b_X_divide 15 = .ok (.putfield 113, 3) := by decide +kernel
theorem d_X_divide_18 : decode b_X_divide 18 = .ok (.return_, 1) := by decide +kernel
theorem d_X_divide_19 : decode b_X_divide 19 = .ok (.aload_n 0, 1) := by decide +kernel
theorem d_X_divide_20 : decode b_X_divide 20 = .ok (.getfield 19, 3) := by decide +kernel
theorem d_X_divide_23 : decode b_X_divide 23 = .ok (.iconst 0, 1) := by decide +kernel
theorem d_X_divide_24 : decode b_X_divide 24 = .ok (.iaload, 1) := by decide +kernel
theorem d_X_divide_25 : decode b_X_divide 25 = .ok (.i2l, 1) := by decide +kernel
theorem d_X_divide_26 : decode b_X_divide 26 = .ok (.ldc2_w 199, 3) := by decide +kernel
theorem d_X_divide_29 : decode b_X_divide 29 = .ok (.lmul, 1) := by decide +kernel
theorem d_X_divide_30 : decode b_X_divide 30 = .ok (.aload_n 0, 1) := by decide +kernel
theorem d_X_divide_31 : decode b_X_divide 31 = .ok (.getfield 19, 3) := by decide +kernel
theorem d_X_divide_34 : decode b_X_divide 34 = .ok (.bipush 7, 2) := by decide +kernel
theorem d_X_divide_36 : decode b_X_divide 36 = .ok (.iaload, 1) := by decide +kernel
theorem d_X_divide_37 : decode b_X_divide 37 = .ok (.i2l, 1) := by decide +kernel
theorem d_X_divide_38 : decode b_X_divide 38 = .ok (.ladd, 1) := by decide +kernel
theorem d_X_divide_39 : decode b_X_divide 39 = .ok (.lstore_n 1, 1) := by decide +kernel
theorem d_X_divide_40 : decode b_X_divide 40 = .ok (.aload_n 0, 1) := by decide +kernel
theorem d_X_divide_41 : decode b_X_divide 41 = .ok (.getfield 16, 3) := by decide +kernel
theorem d_X_divide_44 : decode b_X_divide 44 = .ok (.iconst 0, 1) := by decide +kernel
theorem d_X_divide_45 : decode b_X_divide 45 = .ok (.iaload, 1) := by decide +kernel
theorem d_X_divide_46 : decode b_X_divide 46 = .ok (.istore_n 3, 1) := by decide +kernel
theorem d_X_divide_47 : decode b_X_divide 47 = .ok (.aload_n 0, 1) := by decide +kernel
theorem d_X_divide_48 : decode b_X_divide 48 = .ok (.getfield 19, 3) := by decide +kernel
theorem d_X_divide_51 : decode b_X_divide 51 = .ok (.iconst 0, 1) := by decide +kernel
theorem d_X_divide_52 : decode b_X_divide 52 = .ok (.lload_n 1, 1) := by decide +kernel
theorem d_X_divide_53 : decode b_X_divide 53 = .ok (.aload_n 0, 1) := by decide +kernel
theorem d_X_divide_54 : decode b_X_divide 54 = .ok (.getfield 172, 3) := by decide +kernel
theorem d_X_divide_57 : decode b_X_divide 57 = .ok (.i2l, 1) := by decide +kernel
theorem d_X_divide_58 : decode b_X_divide 58 = .ok (.ldiv, 1) := by decide +kernel
theorem d_X_divide_59 : decode b_X_divide 59 = .ok (.l2i, 1) := by decide +kernel
theorem d_X_divide_60 : decode b_X_divide 60 = .ok (.iastore, 1) := by decide +kernel
theorem d_X_divide_61 : decode b_X_divide 61 = .ok (.aload_n 0, 1) := by decide +kernel
theorem d_X_divide_62 : decode b_X_divide 62 = .ok (.getfield 19, 3) := by decide +kernel
theorem d_X_divide_65 : decode b_X_divide 65 = .ok (.bipush 7, 2) := by decide +kernel
theorem d_X_divide_67 : decode b_X_divide 67 = .ok (.lload_n 1, 1) := by decide +kernel
theorem d_X_divide_68 : decode b_X_divide 68 = .ok (.aload_n 0, 1) := by decide +kernel
theorem d_X_divide_69 : decode b_X_divide 69 = .ok (.getfield 172, 3) := by decide +kernel
theorem d_X_divide_72 : decode b_X_divide 72 = .ok (.i2l, 1) := by decide +kernel
theorem d_X_divide_73 : decode b_X_divide 73 = .ok (.lrem, 1) := by decide +kernel
theorem d_X_divide_74 : decode b_X_divide 74 = .ok (.l2i, 1) := by decide +kernel
theorem d_X_divide_75 : decode b_X_divide 75 = .ok (.iastore, 1) := by decide +kernel
theorem d_X_divide_76 : decode b_X_divide 76 = .ok (.aload_n 0, 1) := by decide +kernel
theorem d_X_divide_77 : decode b_X_divide 77 = .ok (.getfield 16, 3) := by decide +kernel
theorem d_X_divide_80 : decode b_X_divide 80 = .ok (.iconst 0, 1) := by decide +kernel
theorem d_X_divide_81 : decode b_X_divide 81 = .ok (.iload_n 3, 1) := by decide +kernel
theorem d_X_divide_82 : decode b_X_divide 82 = .ok (.aload_n 0, 1) := by decide +kernel
theorem d_X_divide_83 : decode b_X_divide 83 = .ok (.getfield 165, 3) := by decide +kernel
theorem d_X_divide_86 : decode b_X_divide 86 = .ok (.ixor, 1) := by decide +kernel
theorem d_X_divide_87 : decode b_X_divide 87 = .ok (.iastore, 1) := by decide +kernel
theorem d_X_divide_88 : decode b_X_divide 88 = .ok (.aload_n 0, 1) := by decide +kernel
theorem d_X_divide_89 : decode b_X_divide 89 = .ok (.getfield 16, 3) := by decide +kernel
theorem d_X_divide_92 : decode b_X_divide 92 = .ok (.bipush 7, 2) := by decide +kernel
theorem d_X_divide_94 : decode b_X_divide 94 = .ok (.iload_n 3, 1) := by decide +kernel
theorem d_X_divide_95 : decode b_X_divide 95 = .ok (.iastore, 1) := by decide +kernel
theorem d_X_divide_96 : decode b_X_divide 96 = .ok (.return_, 1) := by decide +kernel
abbrev b_X_doFirst : ByteArray := prog_11_method_45_code
abbrev y_X_doFirst : MethodName := ⟨"SignMachineModel", "doFirst", "()V"⟩
theorem h_X_doFirst : (y_X_doFirst).cls ≠ "java/lang/invoke/MethodHandle" ∧ (y_X_doFirst).cls ≠ "java/lang/invoke/VarHandle" ∧ (parseMethodDescriptor (y_X_doFirst).desc).map (fun d => d.parameters.length) = some 0 := by decide +kernel
theorem d_X_doFirst_0 : decode b_X_doFirst 0 = .ok (.aload_n 0, 1) := by decide +kernel
theorem d_X_doFirst_1 : decode b_X_doFirst 1 = .ok (.getfield 132, 3) := by decide +kernel
theorem d_X_doFirst_4 : decode b_X_doFirst 4 = .ok (.tableswitch 175 0 6 #[44, 52, 52, 94, 111, 128, 163], 44) := by decide +kernel
theorem d_X_doFirst_48 : decode b_X_doFirst 48 = .ok (.aload_n 0, 1) := by decide +kernel
theorem d_X_doFirst_49 : decode b_X_doFirst 49 = .ok (.iconst 1, 1) := by decide +kernel
theorem d_X_doFirst_50 : decode b_X_doFirst 50 = .ok (.invokevirtual 218, 3) := by decide +kernel
theorem d_X_doFirst_53 : decode b_X_doFirst 53 = .ok (.goto 142, 3) := by decide +kernel
theorem d_X_doFirst_56 : decode b_X_doFirst 56 = .ok (.aload_n 0, 1) := by decide +kernel
theorem d_X_doFirst_57 : decode b_X_doFirst 57 = .ok (.iconst 2, 1) := by decide +kernel
theorem d_X_doFirst_58 : decode b_X_doFirst 58 = .ok (.invokevirtual 218, 3) := by decide +kernel
theorem d_X_doFirst_61 : decode b_X_doFirst 61 = .ok (.aload_n 0, 1) := by decide +kernel
theorem d_X_doFirst_62 : decode b_X_doFirst 62 = .ok (.invokevirtual 175, 3) := by decide +kernel
theorem d_X_doFirst_65 : decode b_X_doFirst 65 = .ok (.aload_n 0, 1) := by decide +kernel
theorem d_X_doFirst_66 : decode b_X_doFirst 66 = .ok (.iconst 0, 1) := by decide +kernel
theorem d_X_doFirst_67 : decode b_X_doFirst 67 = .ok (.aload_n 0, 1) := by decide +kernel
theorem d_X_doFirst_68 : decode b_X_doFirst 68 = .ok (.getfield 132, 3) := by decide +kernel
theorem d_X_doFirst_71 : decode b_X_doFirst 71 = .ok (.iconst 1, 1) := by decide +kernel
theorem d_X_doFirst_72 : decode b_X_doFirst 72 = .ok (.if_icmp .ne 10, 3) := by decide +kernel
theorem d_X_doFirst_75 : decode b_X_doFirst 75 = .ok (.aload_n 0, 1) := by decide +kernel
theorem d_X_doFirst_76 : decode b_X_doFirst 76 = .ok (.getfield 165, 3) := by decide +kernel
theorem d_X_doFirst_79 : decode b_X_doFirst 79 = .ok (.goto 9, 3) := by decide +kernel
theorem d_X_doFirst_82 : decode b_X_doFirst 82 = .ok (.iconst 1, 1) := by decide +kernel
theorem d_X_doFirst_83 : decode b_X_doFirst 83 = .ok (.aload_n 0, 1) := by decide +kernel
theorem d_X_doFirst_84 : decode b_X_doFirst 84 = .ok (.getfield 165, 3) := by decide +kernel
theorem d_X_doFirst_87 : decode b_X_doFirst 87 = .ok (.isub, 1) := by decide +kernel
theorem d_X_doFirst_88 : decode b_X_doFirst 88 = .ok (.aload_n 0, 1) := by decide +kernel
theorem d_X_doFirst_89 : decode b_X_doFirst 89 = .ok (.getfield 172, 3) := by decide +kernel
theorem d_X_doFirst_92 : decode b_X_doFirst 92 = .ok (.invokevirtual 214, 3) := by decide +kernel
theorem d_X_doFirst_95 : decode b_X_doFirst 95 = .ok (.goto 100, 3) := by decide +kernel
theorem d_X_doFirst_98 : decode b_X_doFirst 98 = .ok (.aload_n 0, 1) := by decide +kernel
theorem d_X_doFirst_99 : decode b_X_doFirst 99 = .ok (.bipush 10, 2) := by decide +kernel
theorem d_X_doFirst_101 : decode b_X_doFirst 101 = .ok (.invokevirtual 218, 3) := by decide +kernel
theorem d_X_doFirst_104 : decode b_X_doFirst 104 = .ok (.aload_n 0, 1) := by decide +kernel
theorem d_X_doFirst_105 : decode b_X_doFirst 105 = .ok (.invokevirtual 175, 3) := by decide +kernel
theorem d_X_doFirst_108 : decode b_X_doFirst 108 = .ok (.aload_n 0, 1) := by decide +kernel
theorem d_X_doFirst_109 : decode b_X_doFirst 109 = .ok (.invokevirtual 244, 3) := by decide +kernel
theorem d_X_doFirst_112 : decode b_X_doFirst 112 = .ok (.goto 83, 3) := by decide +kernel
theorem d_X_doFirst_115 : decode b_X_doFirst 115 = .ok (.aload_n 0, 1) := by decide +kernel
theorem d_X_doFirst_116 : decode b_X_doFirst 116 = .ok (.bipush 12, 2) := by decide +kernel
theorem d_X_doFirst_118 : decode b_X_doFirst 118 = .ok (.invokevirtual 218, 3) := by decide +kernel
theorem d_X_doFirst_121 : decode b_X_doFirst 121 = .ok (.aload_n 0, 1) := by decide +kernel
theorem d_X_doFirst_122 : decode b_X_doFirst 122 = .ok (.invokevirtual 175, 3) := by decide +kernel
theorem d_X_doFirst_125 : decode b_X_doFirst 125 = .ok (.aload_n 0, 1) := by decide +kernel
theorem d_X_doFirst_126 : decode b_X_doFirst 126 = .ok (.invokevirtual 247, 3) := by decide +kernel
theorem d_X_doFirst_129 : decode b_X_doFirst 129 = .ok (.goto 66, 3) := by decide +kernel
theorem d_X_doFirst_132 : decode b_X_doFirst 132 = .ok (.aload_n 0, 1) := by decide +kernel
theorem d_X_doFirst_133 : decode b_X_doFirst 133 = .ok (.bipush 10, 2) := by decide +kernel
theorem d_X_doFirst_135 : decode b_X_doFirst 135 = .ok (.invokevirtual 218, 3) := by decide +kernel
theorem d_X_doFirst_138 : decode b_X_doFirst 138 = .ok (.aload_n 0, 1) := by decide +kernel
theorem d_X_doFirst_139 : decode b_X_doFirst 139 = .ok (.getfield 135, 3) := by decide +kernel
theorem d_X_doFirst_142 : decode b_X_doFirst 142 = .ok (.ifCond .ne 10, 3) := by decide +kernel
theorem d_X_doFirst_145 : decode b_X_doFirst 145 = .ok (.aload_n 0, 1) := by decide +kernel
theorem d_X_doFirst_146 : decode b_X_doFirst 146 = .ok (.invokevirtual 250, 3) := by decide +kernel
theorem d_X_doFirst_149 : decode b_X_doFirst 149 = .ok (.goto 46, 3) := by decide +kernel
theorem d_X_doFirst_152 : decode b_X_doFirst 152 = .ok (.aload_n 0, 1) := by decide +kernel
theorem d_X_doFirst_153 : decode b_X_doFirst 153 = .ok (.getfield 135, 3) := by decide +kernel
theorem d_X_doFirst_156 : decode b_X_doFirst 156 = .ok (.iconst 1, 1) := by decide +kernel
theorem d_X_doFirst_157 : decode b_X_doFirst 157 = .ok (.if_icmp .ne 38, 3) := by decide +kernel
theorem d_X_doFirst_160 : decode b_X_doFirst 160 = .ok (.aload_n 0, 1) := by decide +kernel
theorem d_X_doFirst_161 : decode b_X_doFirst 161 = .ok (.invokevirtual 253, 3) := by decide +kernel
theorem d_X_doFirst_164 : decode b_X_doFirst 164 = .ok (.goto 31, 3) := by decide +kernel
theorem d_X_doFirst_167 : decode b_X_doFirst 167 = .ok (.aload_n 0, 1) := by decide +kernel
theorem d_X_doFirst_168 : decode b_X_doFirst 168 = .ok (.iconst 2, 1) := by decide +kernel
theorem d_X_doFirst_169 : decode b_X_doFirst 169 = .ok (.invokevirtual 218, 3) := by decide +kernel
theorem d_X_doFirst_172 : decode b_X_doFirst 172 = .ok (.aload_n 0, 1) := by decide +kernel
theorem d_X_doFirst_173 : decode b_X_doFirst 173 = .ok (.invokevirtual 256, 3) := by decide +kernel
theorem d_X_doFirst_176 : decode b_X_doFirst 176 = .ok (.goto 19, 3) := by decide +kernel
theorem d_X_doFirst_179 : decode b_X_doFirst 179 = .ok (.aload_n 0, 1) := by decide +kernel
theorem d_X_doFirst_180 : decode b_X_doFirst 180 = .ok (.iconst 1, 1) := by decide +kernel
theorem d_X_doFirst_181 : decode b_X_doFirst 181 = .ok (.iconst 2, 1) := by decide +kernel
theorem d_X_doFirst_182 : decode b_X_doFirst 182 = .ok (.aload_n 0, 1) := by decide +kernel
theorem d_X_doFirst_183 : decode b_X_doFirst 183 = .ok (.getfield 135, 3) := by decide +kernel
theorem d_X_doFirst_186 : decode b_X_doFirst 186 = .ok (.imul, 1) := by decide +kernel
theorem d_X_doFirst_187 : decode b_X_doFirst 187 = .ok (.iadd, 1) := by decide +kernel
theorem d_X_doFirst_188 : decode b_X_doFirst 188 = .ok (.invokevirtual 218, 3) := by decide +kernel
theorem d_X_doFirst_191 : decode b_X_doFirst 191 = .ok (.aload_n 0, 1) := by decide +kernel
theorem d_X_doFirst_192 : decode b_X_doFirst 192 = .ok (.invokevirtual 259, 3) := by decide +kernel
theorem d_X_doFirst_195 : decode b_X_doFirst 195 = .ok (.return_, 1) := by decide +kernel
abbrev b_X_doTape : ByteArray := prog_11_method_43_code
abbrev y_X_doTape : MethodName := ⟨"SignMachineModel", "doTape", "()V"⟩
theorem h_X_doTape : (y_X_doTape).cls ≠ "java/lang/invoke/MethodHandle" ∧ (y_X_doTape).cls ≠ "java/lang/invoke/VarHandle" ∧ (parseMethodDescriptor (y_X_doTape).desc).map (fun d => d.parameters.length) = some 0 := by decide +kernel
theorem d_X_doTape_0 : decode b_X_doTape 0 = .ok (.aload_n 0, 1) := by decide +kernel
theorem d_X_doTape_1 : decode b_X_doTape 1 = .ok (.getfield 132, 3) := by decide +kernel
theorem d_X_doTape_4 : decode b_X_doTape 4 = .ok (.bipush 35, 2) := by decide +kernel
theorem d_X_doTape_6 : decode b_X_doTape 6 = .ok (.if_icmp .ne 38, 3) := by decide +kernel
theorem d_X_doTape_9 : decode b_X_doTape 9 = .ok (.aload_n 0, 1) := by decide +kernel
theorem d_X_doTape_10 : decode b_X_doTape 10 = .ok (.getfield 28, 3) := by decide +kernel
theorem d_X_doTape_13 : decode b_X_doTape 13 = .ok (.aload_n 0, 1) := by decide +kernel
theorem d_X_doTape_14 : decode b_X_doTape 14 = .ok (.getfield 135, 3) := by decide +kernel
theorem d_X_doTape_17 : decode b_X_doTape 17 = .ok (.aload_n 0, 1) := by decide +kernel
theorem d_X_doTape_18 : decode b_X_doTape 18 = .ok (.getfield 142, 3) := by decide +kernel
theorem d_X_doTape_21 : decode b_X_doTape 21 = .ok (.ifCond .ne 7, 3) := by decide +kernel
theorem d_X_doTape_24 : decode b_X_doTape 24 = .ok (.iconst 0, 1) := by decide +kernel
theorem d_X_doTape_25 : decode b_X_doTape 25 = .ok (.goto 17, 3) := by decide +kernel
theorem d_X_doTape_28 : decode b_X_doTape 28 = .ok (.aload_n 0, 1) := by decide +kernel
theorem d_X_doTape_29 : decode b_X_doTape 29 = .ok (.getfield 28, 3) := by decide +kernel
theorem d_X_doTape_32 : decode b_X_doTape 32 = .ok (.aload_n 0, 1) := by decide +kernel
theorem d_X_doTape_33 : decode b_X_doTape 33 = .ok (.getfield 135, 3) := by decide +kernel
theorem d_X_doTape_36 : decode b_X_doTape 36 = .ok (.iaload, 1) := by decide +kernel
theorem d_X_doTape_37 : decode b_X_doTape 37 = .ok (.aload_n 0, 1) := by decide +kernel
theorem d_X_doTape_38 : decode b_X_doTape 38 = .ok (.getfield 142, 3) := by decide +kernel
theorem d_X_doTape_41 : decode b_X_doTape 41 = .ok (.iadd, 1) := by decide +kernel
theorem d_X_doTape_42 : decode b_X_doTape 42 = .ok (.iastore, 1) := by decide +kernel
theorem d_X_doTape_43 : decode b_X_doTape 43 = .ok (.return_, 1) := by decide +kernel
theorem d_X_doTape_44 : decode b_X_doTape 44 = .ok (.sipush 4000, 3) := by decide +kernel
theorem d_X_doTape_47 : decode b_X_doTape 47 = .ok (.aload_n 0, 1) := by decide +kernel
theorem d_X_doTape_48 : decode b_X_doTape 48 = .ok (.getfield 135, 3) := by decide +kernel
theorem d_X_doTape_51 : decode b_X_doTape 51 = .ok (.imul, 1) := by decide +kernel
theorem d_X_doTape_52 : decode b_X_doTape 52 = .ok (.bipush 100, 2) := by decide +kernel
theorem d_X_doTape_54 : decode b_X_doTape 54 = .ok (.aload_n 0, 1) := by decide +kernel
theorem d_X_doTape_55 : decode b_X_doTape 55 = .ok (.getfield 28, 3) := by decide +kernel
theorem d_X_doTape_58 : decode b_X_doTape 58 = .ok (.aload_n 0, 1) := by decide +kernel
theorem d_X_doTape_59 : decode b_X_doTape 59 = .ok (.getfield 135, 3) := by decide +kernel
theorem d_X_doTape_62 : decode b_X_doTape 62 = .ok (.iaload, 1) := by decide +kernel
theorem d_X_doTape_63 : decode b_X_doTape 63 = .ok (.imul, 1) := by decide +kernel
theorem d_X_doTape_64 : decode b_X_doTape 64 = .ok (.iadd, 1) := by decide +kernel
theorem d_X_doTape_65 : decode b_X_doTape 65 = .ok (.istore_n 1, 1) := by decide +kernel
theorem d_X_doTape_66 : decode b_X_doTape 66 = .ok (.iconst 0, 1) := by decide +kernel
theorem d_X_doTape_67 : decode b_X_doTape 67 = .ok (.istore_n 2, 1) := by decide +kernel
theorem d_X_doTape_68 : decode b_X_doTape 68 = .ok (.iload_n 2, 1) := by decide +kernel
theorem d_X_doTape_69 : decode b_X_doTape 69 = .ok (.bipush 100, 2) := by decide +kernel
theorem d_X_doTape_71 : decode b_X_doTape 71 = .ok (.if_icmp .ge 97, 3) := by decide +kernel
theorem d_X_doTape_74 : decode b_X_doTape 74 = .ok (.aload_n 0, 1) := by decide +kernel
theorem d_X_doTape_75 : decode b_X_doTape 75 = .ok (.getfield 132, 3) := by decide +kernel
theorem d_X_doTape_78 : decode b_X_doTape 78 = .ok (.bipush 36, 2) := by decide +kernel
theorem d_X_doTape_80 : decode b_X_doTape 80 = .ok (.if_icmp .ne 44, 3) := by decide +kernel
theorem d_X_doTape_83 : decode b_X_doTape 83 = .ok (.aload_n 0, 1) := by decide +kernel
theorem d_X_doTape_84 : decode b_X_doTape 84 = .ok (.getfield 7, 3) := by decide +kernel
theorem d_X_doTape_87 : decode b_X_doTape 87 = .ok (.aload_n 0, 1) := by decide +kernel
theorem d_X_doTape_88 : decode b_X_doTape 88 = .ok (.getfield 142, 3) := by decide +kernel
theorem d_X_doTape_91 : decode b_X_doTape 91 = .ok (.iload_n 2, 1) := by decide +kernel
theorem d_X_doTape_92 : decode b_X_doTape 92 = .ok (.iadd, 1) := by decide +kernel
theorem d_X_doTape_93 : decode b_X_doTape 93 = .ok (.aload_n 0, 1) := by decide +kernel
theorem d_X_doTape_94 : decode b_X_doTape 94 = .ok (.getfield 22, 3) := by decide +kernel
theorem d_X_doTape_97 : decode b_X_doTape 97 = .ok (.iload_n 1, 1) := by decide +kernel
theorem d_X_doTape_98 : decode b_X_doTape 98 = .ok (.iload_n 2, 1) := by decide +kernel
theorem d_X_doTape_99 : decode b_X_doTape 99 = .ok (.iadd, 1) := by decide +kernel
theorem d_X_doTape_100 : decode b_X_doTape 100 = .ok (.iaload, 1) := by decide +kernel
theorem d_X_doTape_101 : decode b_X_doTape 101 = .ok (.iastore, 1) := by decide +kernel
theorem d_X_doTape_102 : decode b_X_doTape 102 = .ok (.aload_n 0, 1) := by decide +kernel
theorem d_X_doTape_103 : decode b_X_doTape 103 = .ok (.getfield 13, 3) := by decide +kernel
theorem d_X_doTape_106 : decode b_X_doTape 106 = .ok (.aload_n 0, 1) := by decide +kernel
theorem d_X_doTape_107 : decode b_X_doTape 107 = .ok (.getfield 142, 3) := by decide +kernel
theorem d_X_doTape_110 : decode b_X_doTape 110 = .ok (.iload_n 2, 1) := by decide +kernel
theorem d_X_doTape_111 : decode b_X_doTape 111 = .ok (.iadd, 1) := by decide +kernel
theorem d_X_doTape_112 : decode b_X_doTape 112 = .ok (.aload_n 0, 1) := by decide +kernel
theorem d_X_doTape_113 : decode b_X_doTape 113 = .ok (.getfield 25, 3) := by decide +kernel
theorem d_X_doTape_116 : decode b_X_doTape 116 = .ok (.iload_n 1, 1) := by decide +kernel
theorem d_X_doTape_117 : decode b_X_doTape 117 = .ok (.iload_n 2, 1) := by decide +kernel
theorem d_X_doTape_118 : decode b_X_doTape 118 = .ok (.iadd, 1) := by decide +kernel
theorem d_X_doTape_119 : decode b_X_doTape 119 = .ok (.iaload, 1) := by decide +kernel
theorem d_X_doTape_120 : decode b_X_doTape 120 = .ok (.iastore, 1) := by decide +kernel
theorem d_X_doTape_121 : decode b_X_doTape 121 = .ok (.goto 41, 3) := by decide +kernel
theorem d_X_doTape_124 : decode b_X_doTape 124 = .ok (.aload_n 0, 1) := by decide +kernel
theorem d_X_doTape_125 : decode b_X_doTape 125 = .ok (.getfield 22, 3) := by decide +kernel
theorem d_X_doTape_128 : decode b_X_doTape 128 = .ok (.iload_n 1, 1) := by decide +kernel
theorem d_X_doTape_129 : decode b_X_doTape 129 = .ok (.iload_n 2, 1) := by decide +kernel
theorem d_X_doTape_130 : decode b_X_doTape 130 = .ok (.iadd, 1) := by decide +kernel
theorem d_X_doTape_131 : decode b_X_doTape 131 = .ok (.aload_n 0, 1) := by decide +kernel
theorem d_X_doTape_132 : decode b_X_doTape 132 = .ok (.getfield 7, 3) := by decide +kernel
theorem d_X_doTape_135 : decode b_X_doTape 135 = .ok (.aload_n 0, 1) := by decide +kernel
theorem d_X_doTape_136 : decode b_X_doTape 136 = .ok (.getfield 142, 3) := by decide +kernel
theorem d_X_doTape_139 : decode b_X_doTape 139 = .ok (.iload_n 2, 1) := by decide +kernel
theorem d_X_doTape_140 : decode b_X_doTape 140 = .ok (.iadd, 1) := by decide +kernel
theorem d_X_doTape_141 : decode b_X_doTape 141 = .ok (.iaload, 1) := by decide +kernel
theorem d_X_doTape_142 : decode b_X_doTape 142 = .ok (.iastore, 1) := by decide +kernel
theorem d_X_doTape_143 : decode b_X_doTape 143 = .ok (.aload_n 0, 1) := by decide +kernel
theorem d_X_doTape_144 : decode b_X_doTape 144 = .ok (.getfield 25, 3) := by decide +kernel
theorem d_X_doTape_147 : decode b_X_doTape 147 = .ok (.iload_n 1, 1) := by decide +kernel
theorem d_X_doTape_148 : decode b_X_doTape 148 = .ok (.iload_n 2, 1) := by decide +kernel
theorem d_X_doTape_149 : decode b_X_doTape 149 = .ok (.iadd, 1) := by decide +kernel
theorem d_X_doTape_150 : decode b_X_doTape 150 = .ok (.aload_n 0, 1) := by decide +kernel
theorem d_X_doTape_151 : decode b_X_doTape 151 = .ok (.getfield 13, 3) := by decide +kernel
theorem d_X_doTape_154 : decode b_X_doTape 154 = .ok (.aload_n 0, 1) := by decide +kernel
theorem d_X_doTape_155 : decode b_X_doTape 155 = .ok (.getfield 142, 3) := by decide +kernel
theorem d_X_doTape_158 : decode b_X_doTape 158 = .ok (.iload_n 2, 1) := by decide +kernel
theorem d_X_doTape_159 : decode b_X_doTape 159 = .ok (.iadd, 1) := by decide +kernel
theorem d_X_doTape_160 : decode b_X_doTape 160 = .ok (.iaload, 1) := by decide +kernel
theorem d_X_doTape_161 : decode b_X_doTape 161 = .ok (.iastore, 1) := by decide +kernel
theorem d_X_doTape_162 : decode b_X_doTape 162 = .ok (.iinc 2 1, 3) := by decide +kernel
theorem d_X_doTape_165 : decode b_X_doTape 165 = .ok (.goto (-97), 3) := by decide +kernel
theorem d_X_doTape_168 : decode b_X_doTape 168 = .ok (.aload_n 0, 1) := by decide +kernel
theorem d_X_doTape_169 : decode b_X_doTape 169 = .ok (.getfield 28, 3) := by decide +kernel
theorem d_X_doTape_172 : decode b_X_doTape 172 = .ok (.aload_n 0, 1) := by decide +kernel
theorem d_X_doTape_173 : decode b_X_doTape 173 = .ok (.getfield 135, 3) := by decide +kernel
theorem d_X_doTape_176 : decode b_X_doTape 176 = .ok (.dup2, 1) := by decide +kernel
theorem d_X_doTape_177 : decode b_X_doTape 177 = .ok (.iaload, 1) := by decide +kernel
theorem d_X_doTape_178 : decode b_X_doTape 178 = .ok (.iconst 1, 1) := by decide +kernel
theorem d_X_doTape_179 : decode b_X_doTape 179 = .ok (.iadd, 1) := by decide +kernel
theorem d_X_doTape_180 : decode b_X_doTape 180 = .ok (.iastore, 1) := by decide +kernel
theorem d_X_doTape_181 : decode b_X_doTape 181 = .ok (.return_, 1) := by decide +kernel
abbrev b_X_done : ByteArray := prog_11_method_44_code
abbrev y_X_done : MethodName := ⟨"SignMachineModel", "done", "()Z"⟩
theorem h_X_done : (y_X_done).cls ≠ "java/lang/invoke/MethodHandle" ∧ (y_X_done).cls ≠ "java/lang/invoke/VarHandle" ∧ (parseMethodDescriptor (y_X_done).desc).map (fun d => d.parameters.length) = some 0 := by decide +kernel
theorem d_X_done_0 : decode b_X_done 0 = .ok (.aload_n 0, 1) := by decide +kernel
theorem d_X_done_1 : decode b_X_done 1 = .ok (.getfield 132, 3) := by decide +kernel
theorem d_X_done_4 : decode b_X_done 4 = .ok (.bipush 39, 2) := by decide +kernel
theorem d_X_done_6 : decode b_X_done 6 = .ok (.if_icmp .lt 51, 3) := by decide +kernel
theorem d_X_done_9 : decode b_X_done 9 = .ok (.aload_n 0, 1) := by decide +kernel
theorem d_X_done_10 : decode b_X_done 10 = .ok (.getfield 132, 3) := by decide +kernel
theorem d_X_done_13 : decode b_X_done 13 = .ok (.bipush 47, 2) := by decide +kernel
theorem d_X_done_15 : decode b_X_done 15 = .ok (.if_icmp .gt 42, 3) := by decide +kernel
theorem d_X_done_18 : decode b_X_done 18 = .ok (.aload_n 0, 1) := by decide +kernel
theorem d_X_done_19 : decode b_X_done 19 = .ok (.iconst 1, 1) := by decide +kernel
theorem d_X_done_20 : decode b_X_done 20 = .ok (.invokevirtual 218, 3) := by decide +kernel
theorem d_X_done_23 : decode b_X_done 23 = .ok (.aload_n 0, 1) := by decide +kernel
theorem d_X_done_24 : decode b_X_done 24 = .ok (.getfield 132, 3) := by decide +kernel
theorem d_X_done_27 : decode b_X_done 27 = .ok (.bipush 39, 2) := by decide +kernel
theorem d_X_done_29 : decode b_X_done 29 = .ok (.if_icmp .ne 10, 3) := by decide +kernel
theorem d_X_done_32 : decode b_X_done 32 = .ok (.aload_n 0, 1) := by decide +kernel
theorem d_X_done_33 : decode b_X_done 33 = .ok (.invokevirtual 222, 3) := by decide +kernel
theorem d_X_done_36 : decode b_X_done 36 = .ok (.goto 19, 3) := by decide +kernel
theorem d_X_done_39 : decode b_X_done 39 = .ok (.aload_n 0, 1) := by decide +kernel
theorem d_X_done_40 : decode b_X_done 40 = .ok (.aload_n 0, 1) := by decide +kernel
theorem d_X_done_41 : decode b_X_done 41 = .ok (.aload_n 0, 1) := by decide +kernel
theorem d_X_done_42 : decode b_X_done 42 = .ok (.getfield 132, 3) := by decide +kernel
theorem d_X_done_45 : decode b_X_done 45 = .ok (.bipush 40, 2) := by decide +kernel
theorem d_X_done_47 : decode b_X_done 47 = .ok (.isub, 1) := by decide +kernel
theorem d_X_done_48 : decode b_X_done 48 = .ok (.invokevirtual 225, 3) := by decide +kernel
theorem d_X_done_51 : decode b_X_done 51 = .ok (.iconst 0, 1) := by decide +kernel
theorem d_X_done_52 : decode b_X_done 52 = .ok (.invokevirtual 210, 3) := by decide +kernel
theorem d_X_done_55 : decode b_X_done 55 = .ok (.iconst 0, 1) := by decide +kernel
theorem d_X_done_56 : decode b_X_done 56 = .ok (.ireturn, 1) := by decide +kernel
theorem d_X_done_57 : decode b_X_done 57 = .ok (.aload_n 0, 1) := by decide +kernel
theorem d_X_done_58 : decode b_X_done 58 = .ok (.getfield 132, 3) := by decide +kernel
theorem d_X_done_61 : decode b_X_done 61 = .ok (.bipush 34, 2) := by decide +kernel
theorem d_X_done_63 : decode b_X_done 63 = .ok (.if_icmp .eq 12, 3) := by decide +kernel
theorem d_X_done_66 : decode b_X_done 66 = .ok (.aload_n 0, 1) := by decide +kernel
theorem d_X_done_67 : decode b_X_done 67 = .ok (.getfield 132, 3) := by decide +kernel
theorem d_X_done_70 : decode b_X_done 70 = .ok (.bipush 38, 2) := by decide +kernel
theorem d_X_done_72 : decode b_X_done 72 = .ok (.if_icmp .ne 29, 3) := by decide +kernel
theorem d_X_done_75 : decode b_X_done 75 = .ok (.aload_n 0, 1) := by decide +kernel
theorem d_X_done_76 : decode b_X_done 76 = .ok (.iconst 1, 1) := by decide +kernel
theorem d_X_done_77 : decode b_X_done 77 = .ok (.invokevirtual 218, 3) := by decide +kernel
theorem d_X_done_80 : decode b_X_done 80 = .ok (.aload_n 0, 1) := by decide +kernel
theorem d_X_done_81 : decode b_X_done 81 = .ok (.aload_n 0, 1) := by decide +kernel
theorem d_X_done_82 : decode b_X_done 82 = .ok (.getfield 132, 3) := by decide +kernel
theorem d_X_done_85 : decode b_X_done 85 = .ok (.bipush 38, 2) := by decide +kernel
theorem d_X_done_87 : decode b_X_done 87 = .ok (.if_icmp .ne 7, 3) := by decide +kernel
theorem d_X_done_90 : decode b_X_done 90 = .ok (.iconst 1, 1) := by decide +kernel
theorem d_X_done_91 : decode b_X_done 91 = .ok (.goto 4, 3) := by decide +kernel
theorem d_X_done_94 : decode b_X_done 94 = .ok (.iconst 0, 1) := by decide +kernel
theorem d_X_done_95 : decode b_X_done 95 = .ok (.iconst 0, 1) := by decide +kernel
theorem d_X_done_96 : decode b_X_done 96 = .ok (.invokevirtual 210, 3) := by decide +kernel
theorem d_X_done_99 : decode b_X_done 99 = .ok (.iconst 0, 1) := by decide +kernel
theorem d_X_done_100 : decode b_X_done 100 = .ok (.ireturn, 1) := by decide +kernel
theorem d_X_done_101 : decode b_X_done 101 = .ok (.aload_n 0, 1) := by decide +kernel
theorem d_X_done_102 : decode b_X_done 102 = .ok (.getfield 132, 3) := by decide +kernel
theorem d_X_done_105 : decode b_X_done 105 = .ok (.bipush 56, 2) := by decide +kernel
theorem d_X_done_107 : decode b_X_done 107 = .ok (.if_icmp .lt 22, 3) := by decide +kernel
theorem d_X_done_110 : decode b_X_done 110 = .ok (.aload_n 0, 1) := by decide +kernel
theorem d_X_done_111 : decode b_X_done 111 = .ok (.iconst 2, 1) := by decide +kernel
theorem d_X_done_112 : decode b_X_done 112 = .ok (.invokevirtual 218, 3) := by decide +kernel
theorem d_X_done_115 : decode b_X_done 115 = .ok (.aload_n 0, 1) := by decide +kernel
theorem d_X_done_116 : decode b_X_done 116 = .ok (.aload_n 0, 1) := by decide +kernel
theorem d_X_done_117 : decode b_X_done 117 = .ok (.getfield 132, 3) := by decide +kernel
theorem d_X_done_120 : decode b_X_done 120 = .ok (.bipush 56, 2) := by decide +kernel
theorem d_X_done_122 : decode b_X_done 122 = .ok (.isub, 1) := by decide +kernel
theorem d_X_done_123 : decode b_X_done 123 = .ok (.invokevirtual 228, 3) := by decide +kernel
theorem d_X_done_126 : decode b_X_done 126 = .ok (.goto 188, 3) := by decide +kernel
theorem d_X_done_129 : decode b_X_done 129 = .ok (.aload_n 0, 1) := by decide +kernel
theorem d_X_done_130 : decode b_X_done 130 = .ok (.getfield 132, 3) := by decide +kernel
theorem d_X_done_133 : decode b_X_done 133 = .ok (.bipush 48, 2) := by decide +kernel
theorem d_X_done_135 : decode b_X_done 135 = .ok (.if_icmp .lt 22, 3) := by decide +kernel
theorem d_X_done_138 : decode b_X_done 138 = .ok (.aload_n 0, 1) := by decide +kernel
theorem d_X_done_139 : decode b_X_done 139 = .ok (.iconst 1, 1) := by decide +kernel
theorem d_X_done_140 : decode b_X_done 140 = .ok (.invokevirtual 218, 3) := by decide +kernel
theorem d_X_done_143 : decode b_X_done 143 = .ok (.aload_n 0, 1) := by decide +kernel
theorem d_X_done_144 : decode b_X_done 144 = .ok (.aload_n 0, 1) := by decide +kernel
theorem d_X_done_145 : decode b_X_done 145 = .ok (.getfield 132, 3) := by decide +kernel
theorem d_X_done_148 : decode b_X_done 148 = .ok (.bipush 48, 2) := by decide +kernel
theorem d_X_done_150 : decode b_X_done 150 = .ok (.isub, 1) := by decide +kernel
theorem d_X_done_151 : decode b_X_done 151 = .ok (.invokevirtual 231, 3) := by decide +kernel
theorem d_X_done_154 : decode b_X_done 154 = .ok (.goto 160, 3) := by decide +kernel
theorem d_X_done_157 : decode b_X_done 157 = .ok (.aload_n 0, 1) := by decide +kernel
theorem d_X_done_158 : decode b_X_done 158 = .ok (.getfield 132, 3) := by decide +kernel
theorem d_X_done_161 : decode b_X_done 161 = .ok (.bipush 35, 2) := by decide +kernel
theorem d_X_done_163 : decode b_X_done 163 = .ok (.if_icmp .lt 15, 3) := by decide +kernel
theorem d_X_done_166 : decode b_X_done 166 = .ok (.aload_n 0, 1) := by decide +kernel
theorem d_X_done_167 : decode b_X_done 167 = .ok (.iconst 1, 1) := by decide +kernel
theorem d_X_done_168 : decode b_X_done 168 = .ok (.invokevirtual 218, 3) := by decide +kernel
theorem d_X_done_171 : decode b_X_done 171 = .ok (.aload_n 0, 1) := by decide +kernel
theorem d_X_done_172 : decode b_X_done 172 = .ok (.invokevirtual 234, 3) := by decide +kernel
theorem d_X_done_175 : decode b_X_done 175 = .ok (.goto 139, 3) := by decide +kernel
theorem d_X_done_178 : decode b_X_done 178 = .ok (.aload_n 0, 1) := by decide +kernel
theorem d_X_done_179 : decode b_X_done 179 = .ok (.getfield 132, 3) := by decide +kernel
theorem d_X_done_182 : decode b_X_done 182 = .ok (.bipush 24, 2) := by decide +kernel
theorem d_X_done_184 : decode b_X_done 184 = .ok (.if_icmp .lt 55, 3) := by decide +kernel
theorem d_X_done_187 : decode b_X_done 187 = .ok (.aload_n 0, 1) := by decide +kernel
theorem d_X_done_188 : decode b_X_done 188 = .ok (.iconst 2, 1) := by decide +kernel
theorem d_X_done_189 : decode b_X_done 189 = .ok (.invokevirtual 218, 3) := by decide +kernel
theorem d_X_done_192 : decode b_X_done 192 = .ok (.aload_n 0, 1) := by decide +kernel
theorem d_X_done_193 : decode b_X_done 193 = .ok (.getfield 132, 3) := by decide +kernel
theorem d_X_done_196 : decode b_X_done 196 = .ok (.bipush 24, 2) := by decide +kernel
theorem d_X_done_198 : decode b_X_done 198 = .ok (.isub, 1) := by decide +kernel
theorem d_X_done_199 : decode b_X_done 199 = .ok (.istore_n 1, 1) := by decide +kernel
theorem d_X_done_200 : decode b_X_done 200 = .ok (.aload_n 0, 1) := by decide +kernel
theorem d_X_done_201 : decode b_X_done 201 = .ok (.iload_n 1, 1) := by decide +kernel
theorem d_X_done_202 : decode b_X_done 202 = .ok (.bipush 9, 2) := by decide +kernel
theorem d_X_done_204 : decode b_X_done 204 = .ok (.if_icmp .ne 7, 3) := by decide +kernel
theorem d_X_done_207 : decode b_X_done 207 = .ok (.iconst 0, 1) := by decide +kernel
theorem d_X_done_208 : decode b_X_done 208 = .ok (.goto 9, 3) := by decide +kernel
theorem d_X_done_211 : decode b_X_done 211 = .ok (.aload_n 0, 1) := by decide +kernel
theorem d_X_done_212 : decode b_X_done 212 = .ok (.getfield 16, 3) := by decide +kernel
theorem d_X_done_215 : decode b_X_done 215 = .ok (.iload_n 1, 1) := by decide +kernel
theorem d_X_done_216 : decode b_X_done 216 = .ok (.iaload, 1) := by decide +kernel
theorem d_X_done_217 : decode b_X_done 217 = .ok (.iload_n 1, 1) := by decide +kernel
theorem d_X_done_218 : decode b_X_done 218 = .ok (.bipush 9, 2) := by decide +kernel
theorem d_X_done_220 : decode b_X_done 220 = .ok (.if_icmp .ne 7, 3) := by decide +kernel
theorem d_X_done_223 : decode b_X_done 223 = .ok (.iconst 0, 1) := by decide +kernel
theorem d_X_done_224 : decode b_X_done 224 = .ok (.goto 9, 3) := by decide +kernel
theorem d_X_done_227 : decode b_X_done 227 = .ok (.aload_n 0, 1) := by decide +kernel
theorem d_X_done_228 : decode b_X_done 228 = .ok (.getfield 19, 3) := by decide +kernel
theorem d_X_done_231 : decode b_X_done 231 = .ok (.iload_n 1, 1) := by decide +kernel
theorem d_X_done_232 : decode b_X_done 232 = .ok (.iaload, 1) := by decide +kernel
theorem d_X_done_233 : decode b_X_done 233 = .ok (.invokevirtual 237, 3) := by decide +kernel
theorem d_X_done_236 : decode b_X_done 236 = .ok (.goto 78, 3) := by decide +kernel
theorem d_X_done_239 : decode b_X_done 239 = .ok (.aload_n 0, 1) := by decide +kernel
theorem d_X_done_240 : decode b_X_done 240 = .ok (.getfield 132, 3) := by decide +kernel
theorem d_X_done_243 : decode b_X_done 243 = .ok (.bipush 8, 2) := by decide +kernel
theorem d_X_done_245 : decode b_X_done 245 = .ok (.if_icmp .lt 65, 3) := by decide +kernel
theorem d_X_done_248 : decode b_X_done 248 = .ok (.aload_n 0, 1) := by decide +kernel
theorem d_X_done_249 : decode b_X_done 249 = .ok (.iconst 2, 1) := by decide +kernel
theorem d_X_done_250 : decode b_X_done 250 = .ok (.invokevirtual 218, 3) := by decide +kernel
theorem d_X_done_253 : decode b_X_done 253 = .ok (.aload_n 0, 1) := by decide +kernel
theorem d_X_done_254 : decode b_X_done 254 = .ok (.invokevirtual 175, 3) := by decide +kernel
theorem d_X_done_257 : decode b_X_done 257 = .ok (.aload_n 0, 1) := by decide +kernel
theorem d_X_done_258 : decode b_X_done 258 = .ok (.getfield 16, 3) := by decide +kernel
theorem d_X_done_261 : decode b_X_done 261 = .ok (.aload_n 0, 1) := by decide +kernel
theorem d_X_done_262 : decode b_X_done 262 = .ok (.getfield 132, 3) := by decide +kernel
theorem d_X_done_265 : decode b_X_done 265 = .ok (.bipush 8, 2) := by decide +kernel
theorem d_X_done_267 : decode b_X_done 267 = .ok (.irem, 1) := by decide +kernel
theorem d_X_done_268 : decode b_X_done 268 = .ok (.aload_n 0, 1) := by decide +kernel
theorem d_X_done_269 : decode b_X_done 269 = .ok (.getfield 132, 3) := by decide +kernel
theorem d_X_done_272 : decode b_X_done 272 = .ok (.bipush 16, 2) := by decide +kernel
theorem d_X_done_274 : decode b_X_done 274 = .ok (.if_icmp .ge 10, 3) := by decide +kernel
theorem d_X_done_277 : decode b_X_done 277 = .ok (.aload_n 0, 1) := by decide +kernel
theorem d_X_done_278 : decode b_X_done 278 = .ok (.getfield 165, 3) := by decide +kernel
theorem d_X_done_281 : decode b_X_done 281 = .ok (.goto 9, 3) := by decide +kernel
theorem d_X_done_284 : decode b_X_done 284 = .ok (.iconst 1, 1) := by decide +kernel
theorem d_X_done_285 : decode b_X_done 285 = .ok (.aload_n 0, 1) := by decide +kernel
theorem d_X_done_286 : decode b_X_done 286 = .ok (.getfield 165, 3) := by decide +kernel
theorem d_X_done_289 : decode b_X_done 289 = .ok (.isub, 1) := by decide +kernel
theorem d_X_done_290 : decode b_X_done 290 = .ok (.iastore, 1) := by decide +kernel
theorem d_X_done_291 : decode b_X_done 291 = .ok (.aload_n 0, 1) := by decide +kernel
theorem d_X_done_292 : decode b_X_done 292 = .ok (.getfield 19, 3) := by decide +kernel
theorem d_X_done_295 : decode b_X_done 295 = .ok (.aload_n 0, 1) := by decide +kernel
theorem d_X_done_296 : decode b_X_done 296 = .ok (.getfield 132, 3) := by decide +kernel
theorem d_X_done_299 : decode b_X_done 299 = .ok (.bipush 8, 2) := by decide +kernel
theorem d_X_done_301 : decode b_X_done 301 = .ok (.irem, 1) := by decide +kernel
theorem d_X_done_302 : decode b_X_done 302 = .ok (.aload_n 0, 1) := by decide +kernel
theorem d_X_done_303 : decode b_X_done 303 = .ok (.getfield 172, 3) := by decide +kernel
theorem d_X_done_306 : decode b_X_done 306 = .ok (.iastore, 1) := by decide +kernel
theorem d_X_done_307 : decode b_X_done 307 = .ok (.goto 7, 3) := by decide +kernel
theorem d_X_done_310 : decode b_X_done 310 = .ok (.aload_n 0, 1) := by decide +kernel
theorem d_X_done_311 : decode b_X_done 311 = .ok (.invokevirtual 241, 3) := by decide +kernel
theorem d_X_done_314 : decode b_X_done 314 = .ok (.iconst 1, 1) := by decide +kernel
theorem d_X_done_315 : decode b_X_done 315 = .ok (.ireturn, 1) := by decide +kernel
abbrev b_X_end : ByteArray := prog_11_method_50_code
abbrev y_X_end : MethodName := ⟨"SignMachineModel", "end", "(I)I"⟩
theorem h_X_end : (y_X_end).cls ≠ "java/lang/invoke/MethodHandle" ∧ (y_X_end).cls ≠ "java/lang/invoke/VarHandle" ∧ (parseMethodDescriptor (y_X_end).desc).map (fun d => d.parameters.length) = some 1 := by decide +kernel
theorem d_X_end_0 : decode b_X_end 0 = .ok (.iload_n 1, 1) := by decide +kernel
theorem d_X_end_1 : decode b_X_end 1 = .ok (.i2l, 1) := by decide +kernel
theorem d_X_end_2 : decode b_X_end 2 = .ok (.lconst 0, 1) := by decide +kernel
theorem d_X_end_3 : decode b_X_end 3 = .ok (.ldc2_w 277, 3) := by decide +kernel
theorem d_X_end_6 : decode b_X_end 6 = .ok (.invokestatic 96, 3) := by decide +kernel
theorem d_X_end_9 : decode b_X_end 9 = .ok (.ifCond .eq 12, 3) := by decide +kernel
theorem d_X_end_12 : decode b_X_end 12 = .ok (.aload_n 0, 1) := by decide +kernel
theorem d_X_end_13 : decode b_X_end 13 = .ok (.getfield 274, 3) := by decide +kernel
theorem d_X_end_16 : decode b_X_end 16 = .ok (.bipush 20, 2) := by decide +kernel
theorem d_X_end_18 : decode b_X_end 18 = .ok (.if_icmp .ge 5, 3) := by decide +kernel
theorem d_X_end_21 : decode b_X_end 21 = .ok (.iconst (-1), 1) := by decide +kernel
theorem d_X_end_22 : decode b_X_end 22 = .ok (.ireturn, 1) := by decide +kernel
theorem d_X_end_23 : decode b_X_end 23 = .ok (.aload_n 0, 1) := by decide +kernel
theorem d_X_end_24 : decode b_X_end 24 = .ok (.dup, 1) := by decide +kernel
theorem d_X_end_25 : decode b_X_end 25 = .ok (.getfield 274, 3) := by decide +kernel
theorem d_X_end_28 : decode b_X_end 28 = .ok (.bipush 20, 2) := by decide +kernel
theorem d_X_end_30 : decode b_X_end 30 = .ok (.iload_n 1, 1) := by decide +kernel
theorem d_X_end_31 : decode b_X_end 31 = .ok (.isub, 1) := by decide +kernel
theorem d_X_end_32 : decode b_X_end 32 = .ok (.isub, 1) := by decide +kernel
theorem d_X_end_33 : decode b_X_end 33 = .ok (.putfield 274, 3) := by decide +kernel
theorem d_X_end_36 : decode b_X_end 36 = .ok (.aload_n 0, 1) := by decide +kernel
theorem d_X_end_37 : decode b_X_end 37 = .ok (.getfield 274, 3) := by decide +kernel
theorem d_X_end_40 : decode b_X_end 40 = .ok (.ireturn, 1) := by decide +kernel
abbrev b_X_expression : ByteArray := prog_11_method_61_code
abbrev y_X_expression : MethodName := ⟨"SignMachineModel", "expression", "()J"⟩
theorem h_X_expression : (y_X_expression).cls ≠ "java/lang/invoke/MethodHandle" ∧ (y_X_expression).cls ≠ "java/lang/invoke/VarHandle" ∧ (parseMethodDescriptor (y_X_expression).desc).map (fun d => d.parameters.length) = some 0 := by decide +kernel
theorem d_X_expression_0 : decode b_X_expression 0 = .ok (.aload_n 0, 1) := by decide +kernel
theorem d_X_expression_1 : decode b_X_expression 1 = .ok (.invokevirtual 288, 3) := by decide +kernel
theorem d_X_expression_4 : decode b_X_expression 4 = .ok (.bipush 45, 2) := by decide +kernel
theorem d_X_expression_6 : decode b_X_expression 6 = .ok (.if_icmp .ne 7, 3) := by decide +kernel
theorem d_X_expression_9 : decode b_X_expression 9 = .ok (.iconst 1, 1) := by decide +kernel
theorem d_X_expression_10 : decode b_X_expression 10 = .ok (.goto 4, 3) := by decide +kernel
theorem d_X_expression_13 : decode b_X_expression 13 = .ok (.iconst 0, 1) := by decide +kernel
theorem d_X_expression_14 : decode b_X_expression 14 = .ok (.istore_n 1, 1) := by decide +kernel
theorem d_X_expression_15 : decode b_X_expression 15 = .ok (.aload_n 0, 1) := by decide +kernel
theorem d_X_expression_16 : decode b_X_expression 16 = .ok (.invokevirtual 288, 3) := by decide +kernel
theorem d_X_expression_19 : decode b_X_expression 19 = .ok (.bipush 43, 2) := by decide +kernel
theorem d_X_expression_21 : decode b_X_expression 21 = .ok (.if_icmp .eq 7, 3) := by decide +kernel
theorem d_X_expression_24 : decode b_X_expression 24 = .ok (.iload_n 1, 1) := by decide +kernel
theorem d_X_expression_25 : decode b_X_expression 25 = .ok (.ifCond .eq 13, 3) := by decide +kernel
theorem d_X_expression_28 : decode b_X_expression 28 = .ok (.aload_n 0, 1) := by decide +kernel
theorem d_X_expression_29 : decode b_X_expression 29 = .ok (.dup, 1) := by decide +kernel
theorem d_X_expression_30 : decode b_X_expression 30 = .ok (.getfield 282, 3) := by decide +kernel
theorem d_X_expression_33 : decode b_X_expression 33 = .ok (.iconst 1, 1) := by decide +kernel
theorem d_X_expression_34 : decode b_X_expression 34 = .ok (.iadd, 1) := by decide +kernel
theorem d_X_expression_35 : decode b_X_expression 35 = .ok (.putfield 282, 3) := by decide +kernel
theorem d_X_expression_38 : decode b_X_expression 38 = .ok (.aload_n 0, 1) := by decide +kernel
theorem d_X_expression_39 : decode b_X_expression 39 = .ok (.invokevirtual 331, 3) := by decide +kernel
theorem d_X_expression_42 : decode b_X_expression 42 = .ok (.lstore_n 2, 1) := by decide +kernel
theorem d_X_expression_43 : decode b_X_expression 43 = .ok (.iload_n 1, 1) := by decide +kernel
theorem d_X_expression_44 : decode b_X_expression 44 = .ok (.ifCond .eq 8, 3) := by decide +kernel
theorem d_X_expression_47 : decode b_X_expression 47 = .ok (.lload_n 2, 1) := by decide +kernel
theorem d_X_expression_48 : decode b_X_expression 48 = .ok (.lneg, 1) := by decide +kernel
theorem d_X_expression_49 : decode b_X_expression 49 = .ok (.goto 4, 3) := by decide +kernel
theorem d_X_expression_52 : decode b_X_expression 52 = .ok (.lload_n 2, 1) := by decide +kernel
theorem d_X_expression_53 : decode b_X_expression 53 = .ok (.lstore_n 2, 1) := by decide +kernel
theorem d_X_expression_54 : decode b_X_expression 54 = .ok (.aload_n 0, 1) := by decide +kernel
theorem d_X_expression_55 : decode b_X_expression 55 = .ok (.lload_n 2, 1) := by decide +kernel
theorem d_X_expression_56 : decode b_X_expression 56 = .ok (.invokevirtual 335, 3) := by decide +kernel
theorem d_X_expression_59 : decode b_X_expression 59 = .ok (.lreturn, 1) := by decide +kernel
abbrev b_X_feed : ByteArray := prog_11_method_49_code
abbrev y_X_feed : MethodName := ⟨"SignMachineModel", "feed", "(IIIII)I"⟩
theorem h_X_feed : (y_X_feed).cls ≠ "java/lang/invoke/MethodHandle" ∧ (y_X_feed).cls ≠ "java/lang/invoke/VarHandle" ∧ (parseMethodDescriptor (y_X_feed).desc).map (fun d => d.parameters.length) = some 5 := by decide +kernel
theorem d_X_feed_0 : decode b_X_feed 0 = .ok (.aload_n 0, 1) := by decide +kernel
theorem d_X_feed_1 : decode b_X_feed 1 = .ok (.getfield 274, 3) := by decide +kernel
theorem d_X_feed_4 : decode b_X_feed 4 = .ok (.bipush 20, 2) := by decide +kernel
theorem d_X_feed_6 : decode b_X_feed 6 = .ok (.iadd, 1) := by decide +kernel
theorem d_X_feed_7 : decode b_X_feed 7 = .ok (.sipush 4000, 3) := by decide +kernel
theorem d_X_feed_10 : decode b_X_feed 10 = .ok (.if_icmp .le 5, 3) := by decide +kernel
theorem d_X_feed_13 : decode b_X_feed 13 = .ok (.iconst (-1), 1) := by decide +kernel
theorem d_X_feed_14 : decode b_X_feed 14 = .ok (.ireturn, 1) := by decide +kernel
theorem d_X_feed_15 : decode b_X_feed 15 = .ok (.iconst 0, 1) := by decide +kernel
theorem d_X_feed_16 : decode b_X_feed 16 = .ok (.istore 6, 2) := by decide +kernel
theorem d_X_feed_18 : decode b_X_feed 18 = .ok (.iload 6, 2) := by decide +kernel
theorem d_X_feed_20 : decode b_X_feed 20 = .ok (.bipush 20, 2) := by decide +kernel
theorem d_X_feed_22 : decode b_X_feed 22 = .ok (.if_icmp .ge 93, 3) := by decide +kernel
theorem d_X_feed_25 : decode b_X_feed 25 = .ok (.iload 6, 2) := by decide +kernel
theorem d_X_feed_27 : decode b_X_feed 27 = .ok (.iconst 4, 1) := by decide +kernel
theorem d_X_feed_28 : decode b_X_feed 28 = .ok (.if_icmp .ge 7, 3) := by decide +kernel
theorem d_X_feed_31 : decode b_X_feed 31 = .ok (.iload_n 1, 1) := by decide +kernel
theorem d_X_feed_32 : decode b_X_feed 32 = .ok (.goto 39, 3) := by decide +kernel
theorem d_X_feed_35 : decode b_X_feed 35 = .ok (.iload 6, 2) := by decide +kernel
theorem d_X_feed_37 : decode b_X_feed 37 = .ok (.bipush 8, 2) := by decide +kernel
theorem d_X_feed_39 : decode b_X_feed 39 = .ok (.if_icmp .ge 7, 3) := by decide +kernel
theorem d_X_feed_42 : decode b_X_feed 42 = .ok (.iload_n 2, 1) := by decide +kernel
theorem d_X_feed_43 : decode b_X_feed 43 = .ok (.goto 28, 3) := by decide +kernel
theorem d_X_feed_46 : decode b_X_feed 46 = .ok (.iload 6, 2) := by decide +kernel
theorem d_X_feed_48 : decode b_X_feed 48 = .ok (.bipush 12, 2) := by decide +kernel
theorem d_X_feed_50 : decode b_X_feed 50 = .ok (.if_icmp .ge 7, 3) := by decide +kernel
theorem d_X_feed_53 : decode b_X_feed 53 = .ok (.iload_n 3, 1) := by decide +kernel
theorem d_X_feed_54 : decode b_X_feed 54 = .ok (.goto 17, 3) := by decide +kernel
theorem d_X_feed_57 : decode b_X_feed 57 = .ok (.iload 6, 2) := by decide +kernel
theorem d_X_feed_59 : decode b_X_feed 59 = .ok (.bipush 16, 2) := by decide +kernel
theorem d_X_feed_61 : decode b_X_feed 61 = .ok (.if_icmp .ge 8, 3) := by decide +kernel
theorem d_X_feed_64 : decode b_X_feed 64 = .ok (.iload 4, 2) := by decide +kernel
theorem d_X_feed_66 : decode b_X_feed 66 = .ok (.goto 5, 3) := by decide +kernel
theorem d_X_feed_69 : decode b_X_feed 69 = .ok (.iload 5, 2) := by decide +kernel
theorem d_X_feed_71 : decode b_X_feed 71 = .ok (.istore 7, 2) := by decide +kernel
theorem d_X_feed_73 : decode b_X_feed 73 = .ok (.aload_n 0, 1) := by decide +kernel
theorem d_X_feed_74 : decode b_X_feed 74 = .ok (.getfield 37, 3) := by decide +kernel
theorem d_X_feed_77 : decode b_X_feed 77 = .ok (.aload_n 0, 1) := by decide +kernel
theorem d_X_feed_78 : decode b_X_feed 78 = .ok (.getfield 274, 3) := by decide +kernel
theorem d_X_feed_81 : decode b_X_feed 81 = .ok (.iload 7, 2) := by decide +kernel
theorem d_X_feed_83 : decode b_X_feed 83 = .ok (.bipush 24, 2) := by decide +kernel
theorem d_X_feed_85 : decode b_X_feed 85 = .ok (.bipush 8, 2) := by decide +kernel
theorem d_X_feed_87 : decode b_X_feed 87 = .ok (.iload 6, 2) := by decide +kernel
theorem d_X_feed_89 : decode b_X_feed 89 = .ok (.iconst 4, 1) := by decide +kernel
theorem d_X_feed_90 : decode b_X_feed 90 = .ok (.irem, 1) := by decide +kernel
theorem d_X_feed_91 : decode b_X_feed 91 = .ok (.imul, 1) := by decide +kernel
theorem d_X_feed_92 : decode b_X_feed 92 = .ok (.isub, 1) := by decide +kernel
theorem d_X_feed_93 : decode b_X_feed 93 = .ok (.ishr, 1) := by decide +kernel
theorem d_X_feed_94 : decode b_X_feed 94 = .ok (.sipush 255, 3) := by decide +kernel
theorem d_X_feed_97 : decode b_X_feed 97 = .ok (.iand, 1) := by decide +kernel
theorem d_X_feed_98 : decode b_X_feed 98 = .ok (.iastore, 1) := by decide +kernel
theorem d_X_feed_99 : decode b_X_feed 99 = .ok (.aload_n 0, 1) := by decide +kernel
theorem d_X_feed_100 : decode b_X_feed 100 = .ok (.dup, 1) := by decide +kernel
theorem d_X_feed_101 : decode b_X_feed 101 = .ok (.getfield 274, 3) := by decide +kernel
theorem d_X_feed_104 : decode b_X_feed 104 = .ok (.iconst 1, 1) := by decide +kernel
theorem d_X_feed_105 : decode b_X_feed 105 = .ok (.iadd, 1) := by decide +kernel
theorem d_X_feed_106 : decode b_X_feed 106 = .ok (.putfield 274, 3) := by decide +kernel
theorem d_X_feed_109 : decode b_X_feed 109 = .ok (.iinc 6 1, 3) := by decide +kernel
theorem d_X_feed_112 : decode b_X_feed 112 = .ok (.goto (-94), 3) := by decide +kernel
theorem d_X_feed_115 : decode b_X_feed 115 = .ok (.aload_n 0, 1) := by decide +kernel
theorem d_X_feed_116 : decode b_X_feed 116 = .ok (.getfield 274, 3) := by decide +kernel
theorem d_X_feed_119 : decode b_X_feed 119 = .ok (.ireturn, 1) := by decide +kernel
abbrev b_X_findSymbol : ByteArray := prog_11_method_56_code
abbrev y_X_findSymbol : MethodName := ⟨"SignMachineModel", "findSymbol", "(J)I"⟩
theorem h_X_findSymbol : (y_X_findSymbol).cls ≠ "java/lang/invoke/MethodHandle" ∧ (y_X_findSymbol).cls ≠ "java/lang/invoke/VarHandle" ∧ (parseMethodDescriptor (y_X_findSymbol).desc).map (fun d => d.parameters.length) = some 1 := by decide +kernel
theorem d_X_findSymbol_0 : decode b_X_findSymbol 0 = .ok (.iconst 0, 1) := by decide +kernel
theorem d_X_findSymbol_1 : decode b_X_findSymbol 1 = .ok (.istore_n 3, 1) := by decide +kernel
theorem d_X_findSymbol_2 : decode b_X_findSymbol 2 = .ok (.iload_n 3, 1) := by decide +kernel
theorem d_X_findSymbol_3 : decode b_X_findSymbol 3 = .ok (.aload_n 0, 1) := by decide +kernel
theorem d_X_findSymbol_4 : decode b_X_findSymbol 4 = .ok (.getfield 312, 3) := by decide +kernel
theorem d_X_findSymbol_7 : decode b_X_findSymbol 7 = .ok (.if_icmp .ge 22, 3) := by decide +kernel
theorem d_X_findSymbol_10 : decode b_X_findSymbol 10 = .ok (.aload_n 0, 1) := by decide +kernel
theorem d_X_findSymbol_11 : decode b_X_findSymbol 11 = .ok (.getfield 44, 3) := by decide +kernel
theorem d_X_findSymbol_14 : decode b_X_findSymbol 14 = .ok (.iload_n 3, 1) := by decide +kernel
theorem d_X_findSymbol_15 : decode b_X_findSymbol 15 = .ok (.laload, 1) := by decide +kernel
theorem d_X_findSymbol_16 : decode b_X_findSymbol 16 = .ok (.lload_n 1, 1) := by decide +kernel
theorem d_X_findSymbol_17 : decode b_X_findSymbol 17 = .ok (.lcmp, 1) := by decide +kernel
theorem d_X_findSymbol_18 : decode b_X_findSymbol 18 = .ok (.ifCond .ne 5, 3) := by decide +kernel
theorem d_X_findSymbol_21 : decode b_X_findSymbol 21 = .ok (.iload_n 3, 1) := by decide +kernel
theorem d_X_findSymbol_22 : decode b_X_findSymbol 22 = .ok (.ireturn, 1) := by decide +kernel
theorem d_X_findSymbol_23 : decode b_X_findSymbol 23 = .ok (.iinc 3 1, 3) := by decide +kernel
theorem d_X_findSymbol_26 : decode b_X_findSymbol 26 = .ok (.goto (-24), 3) := by decide +kernel
theorem d_X_findSymbol_29 : decode b_X_findSymbol 29 = .ok (.bipush (-2), 2) := by decide +kernel
theorem d_X_findSymbol_31 : decode b_X_findSymbol 31 = .ok (.ireturn, 1) := by decide +kernel
abbrev b_X_fitsIndex : ByteArray := prog_11_method_24_code
abbrev y_X_fitsIndex : MethodName := ⟨"SignMachineModel", "fitsIndex", "()Z"⟩
theorem h_X_fitsIndex : (y_X_fitsIndex).cls ≠ "java/lang/invoke/MethodHandle" ∧ (y_X_fitsIndex).cls ≠ "java/lang/invoke/VarHandle" ∧ (parseMethodDescriptor (y_X_fitsIndex).desc).map (fun d => d.parameters.length) = some 0 := by decide +kernel
theorem d_X_fitsIndex_0 : decode b_X_fitsIndex 0 = .ok (.aload_n 0, 1) := by decide +kernel
theorem d_X_fitsIndex_1 : decode b_X_fitsIndex 1 = .ok (.getfield 132, 3) := by decide +kernel
theorem d_X_fitsIndex_4 : decode b_X_fitsIndex 4 = .ok (.bipush 8, 2) := by decide +kernel
theorem d_X_fitsIndex_6 : decode b_X_fitsIndex 6 = .ok (.if_icmp .lt 45, 3) := by decide +kernel
theorem d_X_fitsIndex_9 : decode b_X_fitsIndex 9 = .ok (.aload_n 0, 1) := by decide +kernel
theorem d_X_fitsIndex_10 : decode b_X_fitsIndex 10 = .ok (.getfield 132, 3) := by decide +kernel
theorem d_X_fitsIndex_13 : decode b_X_fitsIndex 13 = .ok (.bipush 23, 2) := by decide +kernel
theorem d_X_fitsIndex_15 : decode b_X_fitsIndex 15 = .ok (.if_icmp .gt 36, 3) := by decide +kernel
theorem d_X_fitsIndex_18 : decode b_X_fitsIndex 18 = .ok (.aload_n 0, 1) := by decide +kernel
theorem d_X_fitsIndex_19 : decode b_X_fitsIndex 19 = .ok (.invokevirtual 175, 3) := by decide +kernel
theorem d_X_fitsIndex_22 : decode b_X_fitsIndex 22 = .ok (.aload_n 0, 1) := by decide +kernel
theorem d_X_fitsIndex_23 : decode b_X_fitsIndex 23 = .ok (.getfield 132, 3) := by decide +kernel
theorem d_X_fitsIndex_26 : decode b_X_fitsIndex 26 = .ok (.bipush 8, 2) := by decide +kernel
theorem d_X_fitsIndex_28 : decode b_X_fitsIndex 28 = .ok (.irem, 1) := by decide +kernel
theorem d_X_fitsIndex_29 : decode b_X_fitsIndex 29 = .ok (.invokestatic 104, 3) := by decide +kernel
theorem d_X_fitsIndex_32 : decode b_X_fitsIndex 32 = .ok (.ifCond .eq 13, 3) := by decide +kernel
theorem d_X_fitsIndex_35 : decode b_X_fitsIndex 35 = .ok (.aload_n 0, 1) := by decide +kernel
theorem d_X_fitsIndex_36 : decode b_X_fitsIndex 36 = .ok (.getfield 172, 3) := by decide +kernel
theorem d_X_fitsIndex_39 : decode b_X_fitsIndex 39 = .ok (.sipush 4095, 3) := by decide +kernel
theorem d_X_fitsIndex_42 : decode b_X_fitsIndex 42 = .ok (.if_icmp .gt 7, 3) := by decide +kernel
theorem d_X_fitsIndex_45 : decode b_X_fitsIndex 45 = .ok (.iconst 1, 1) := by decide +kernel
theorem d_X_fitsIndex_46 : decode b_X_fitsIndex 46 = .ok (.goto 4, 3) := by decide +kernel
theorem d_X_fitsIndex_49 : decode b_X_fitsIndex 49 = .ok (.iconst 0, 1) := by decide +kernel
theorem d_X_fitsIndex_50 : decode b_X_fitsIndex 50 = .ok (.ireturn, 1) := by decide +kernel
theorem d_X_fitsIndex_51 : decode b_X_fitsIndex 51 = .ok (.aload_n 0, 1) := by decide +kernel
theorem d_X_fitsIndex_52 : decode b_X_fitsIndex 52 = .ok (.getfield 132, 3) := by decide +kernel
theorem d_X_fitsIndex_55 : decode b_X_fitsIndex 55 = .ok (.bipush 48, 2) := by decide +kernel
theorem d_X_fitsIndex_57 : decode b_X_fitsIndex 57 = .ok (.if_icmp .lt 87, 3) := by decide +kernel
theorem d_X_fitsIndex_60 : decode b_X_fitsIndex 60 = .ok (.aload_n 0, 1) := by decide +kernel
theorem d_X_fitsIndex_61 : decode b_X_fitsIndex 61 = .ok (.getfield 132, 3) := by decide +kernel
theorem d_X_fitsIndex_64 : decode b_X_fitsIndex 64 = .ok (.bipush 55, 2) := by decide +kernel
theorem d_X_fitsIndex_66 : decode b_X_fitsIndex 66 = .ok (.if_icmp .gt 78, 3) := by decide +kernel
theorem d_X_fitsIndex_69 : decode b_X_fitsIndex 69 = .ok (.aload_n 0, 1) := by decide +kernel
theorem d_X_fitsIndex_70 : decode b_X_fitsIndex 70 = .ok (.getfield 132, 3) := by decide +kernel
theorem d_X_fitsIndex_73 : decode b_X_fitsIndex 73 = .ok (.bipush 48, 2) := by decide +kernel
theorem d_X_fitsIndex_75 : decode b_X_fitsIndex 75 = .ok (.isub, 1) := by decide +kernel
theorem d_X_fitsIndex_76 : decode b_X_fitsIndex 76 = .ok (.invokestatic 104, 3) := by decide +kernel
theorem d_X_fitsIndex_79 : decode b_X_fitsIndex 79 = .ok (.ifCond .eq 65, 3) := by decide +kernel
theorem d_X_fitsIndex_82 : decode b_X_fitsIndex 82 = .ok (.aload_n 0, 1) := by decide +kernel
theorem d_X_fitsIndex_83 : decode b_X_fitsIndex 83 = .ok (.aload_n 0, 1) := by decide +kernel
theorem d_X_fitsIndex_84 : decode b_X_fitsIndex 84 = .ok (.getfield 132, 3) := by decide +kernel
theorem d_X_fitsIndex_87 : decode b_X_fitsIndex 87 = .ok (.bipush 48, 2) := by decide +kernel
theorem d_X_fitsIndex_89 : decode b_X_fitsIndex 89 = .ok (.isub, 1) := by decide +kernel
theorem d_X_fitsIndex_90 : decode b_X_fitsIndex 90 = .ok (.invokevirtual 162, 3) := by decide +kernel
theorem d_X_fitsIndex_93 : decode b_X_fitsIndex 93 = .ok (.istore_n 1, 1) := by decide +kernel
theorem d_X_fitsIndex_94 : decode b_X_fitsIndex 94 = .ok (.aload_n 0, 1) := by decide +kernel
theorem d_X_fitsIndex_95 : decode b_X_fitsIndex 95 = .ok (.getfield 135, 3) := by decide +kernel
theorem d_X_fitsIndex_98 : decode b_X_fitsIndex 98 = .ok (.ifCond .ne 12, 3) := by decide +kernel
theorem d_X_fitsIndex_101 : decode b_X_fitsIndex 101 = .ok (.iload_n 1, 1) := by decide +kernel
theorem d_X_fitsIndex_102 : decode b_X_fitsIndex 102 = .ok (.aload_n 0, 1) := by decide +kernel
theorem d_X_fitsIndex_103 : decode b_X_fitsIndex 103 = .ok (.getfield 142, 3) := by decide +kernel
theorem d_X_fitsIndex_106 : decode b_X_fitsIndex 106 = .ok (.iadd, 1) := by decide +kernel
theorem d_X_fitsIndex_107 : decode b_X_fitsIndex 107 = .ok (.goto 24, 3) := by decide +kernel
theorem d_X_fitsIndex_110 : decode b_X_fitsIndex 110 = .ok (.aload_n 0, 1) := by decide +kernel
theorem d_X_fitsIndex_111 : decode b_X_fitsIndex 111 = .ok (.getfield 135, 3) := by decide +kernel
theorem d_X_fitsIndex_114 : decode b_X_fitsIndex 114 = .ok (.iconst 1, 1) := by decide +kernel
theorem d_X_fitsIndex_115 : decode b_X_fitsIndex 115 = .ok (.if_icmp .ne 12, 3) := by decide +kernel
theorem d_X_fitsIndex_118 : decode b_X_fitsIndex 118 = .ok (.iload_n 1, 1) := by decide +kernel
theorem d_X_fitsIndex_119 : decode b_X_fitsIndex 119 = .ok (.aload_n 0, 1) := by decide +kernel
theorem d_X_fitsIndex_120 : decode b_X_fitsIndex 120 = .ok (.getfield 142, 3) := by decide +kernel
theorem d_X_fitsIndex_123 : decode b_X_fitsIndex 123 = .ok (.isub, 1) := by decide +kernel
theorem d_X_fitsIndex_124 : decode b_X_fitsIndex 124 = .ok (.goto 7, 3) := by decide +kernel
theorem d_X_fitsIndex_127 : decode b_X_fitsIndex 127 = .ok (.aload_n 0, 1) := by decide +kernel
theorem d_X_fitsIndex_128 : decode b_X_fitsIndex 128 = .ok (.getfield 142, 3) := by decide +kernel
theorem d_X_fitsIndex_131 : decode b_X_fitsIndex 131 = .ok (.istore_n 2, 1) := by decide +kernel
theorem d_X_fitsIndex_132 : decode b_X_fitsIndex 132 = .ok (.iload_n 2, 1) := by decide +kernel
theorem d_X_fitsIndex_133 : decode b_X_fitsIndex 133 = .ok (.i2l, 1) := by decide +kernel
theorem d_X_fitsIndex_134 : decode b_X_fitsIndex 134 = .ok (.ldc2_w 178, 3) := by decide +kernel
theorem d_X_fitsIndex_137 : decode b_X_fitsIndex 137 = .ok (.ldc2_w 108, 3) := by decide +kernel
theorem d_X_fitsIndex_140 : decode b_X_fitsIndex 140 = .ok (.invokestatic 96, 3) := by decide +kernel
theorem d_X_fitsIndex_143 : decode b_X_fitsIndex 143 = .ok (.ireturn, 1) := by decide +kernel
theorem d_X_fitsIndex_144 : decode b_X_fitsIndex 144 = .ok (.aload_n 0, 1) := by decide +kernel
theorem d_X_fitsIndex_145 : decode b_X_fitsIndex 145 = .ok (.getfield 132, 3) := by decide +kernel
theorem d_X_fitsIndex_148 : decode b_X_fitsIndex 148 = .ok (.bipush 7, 2) := by decide +kernel
theorem d_X_fitsIndex_150 : decode b_X_fitsIndex 150 = .ok (.if_icmp .ne 19, 3) := by decide +kernel
theorem d_X_fitsIndex_153 : decode b_X_fitsIndex 153 = .ok (.aload_n 0, 1) := by decide +kernel
theorem d_X_fitsIndex_154 : decode b_X_fitsIndex 154 = .ok (.iconst 1, 1) := by decide +kernel
theorem d_X_fitsIndex_155 : decode b_X_fitsIndex 155 = .ok (.invokevirtual 162, 3) := by decide +kernel
theorem d_X_fitsIndex_158 : decode b_X_fitsIndex 158 = .ok (.aload_n 0, 1) := by decide +kernel
theorem d_X_fitsIndex_159 : decode b_X_fitsIndex 159 = .ok (.getfield 135, 3) := by decide +kernel
theorem d_X_fitsIndex_162 : decode b_X_fitsIndex 162 = .ok (.iadd, 1) := by decide +kernel
theorem d_X_fitsIndex_163 : decode b_X_fitsIndex 163 = .ok (.sipush 4095, 3) := by decide +kernel
theorem d_X_fitsIndex_166 : decode b_X_fitsIndex 166 = .ok (.if_icmp .gt 7, 3) := by decide +kernel
theorem d_X_fitsIndex_169 : decode b_X_fitsIndex 169 = .ok (.iconst 1, 1) := by decide +kernel
theorem d_X_fitsIndex_170 : decode b_X_fitsIndex 170 = .ok (.goto 4, 3) := by decide +kernel
theorem d_X_fitsIndex_173 : decode b_X_fitsIndex 173 = .ok (.iconst 0, 1) := by decide +kernel
theorem d_X_fitsIndex_174 : decode b_X_fitsIndex 174 = .ok (.ireturn, 1) := by decide +kernel
abbrev b_X_go : ByteArray := prog_11_method_12_code
abbrev y_X_go : MethodName := ⟨"SignMachineModel", "go", "(I)Z"⟩
theorem h_X_go : (y_X_go).cls ≠ "java/lang/invoke/MethodHandle" ∧ (y_X_go).cls ≠ "java/lang/invoke/VarHandle" ∧ (parseMethodDescriptor (y_X_go).desc).map (fun d => d.parameters.length) = some 1 := by decide +kernel
theorem d_X_go_0 : decode b_X_go 0 = .ok (.iload_n 1, 1) := by decide +kernel
theorem d_X_go_1 : decode b_X_go 1 = .ok (.i2l, 1) := by decide +kernel
theorem d_X_go_2 : decode b_X_go 2 = .ok (.lconst 0, 1) := by decide +kernel
theorem d_X_go_3 : decode b_X_go 3 = .ok (.ldc2_w 94, 3) := by decide +kernel
theorem d_X_go_6 : decode b_X_go 6 = .ok (.invokestatic 96, 3) := by decide +kernel
theorem d_X_go_9 : decode b_X_go 9 = .ok (.istore_n 2, 1) := by decide +kernel
theorem d_X_go_10 : decode b_X_go 10 = .ok (.aload_n 0, 1) := by decide +kernel
theorem d_X_go_11 : decode b_X_go 11 = .ok (.iload_n 2, 1) := by decide +kernel
theorem d_X_go_12 : decode b_X_go 12 = .ok (.ifCond .eq 7, 3) := by decide +kernel
theorem d_X_go_15 : decode b_X_go 15 = .ok (.iload_n 1, 1) := by decide +kernel
theorem d_X_go_16 : decode b_X_go 16 = .ok (.goto 7, 3) := by decide +kernel
theorem d_X_go_19 : decode b_X_go 19 = .ok (.aload_n 0, 1) := by decide +kernel
theorem d_X_go_20 : decode b_X_go 20 = .ok (.getfield 110, 3) := by decide +kernel
theorem d_X_go_23 : decode b_X_go 23 = .ok (.putfield 110, 3) := by decide +kernel
theorem d_X_go_26 : decode b_X_go 26 = .ok (.iload_n 2, 1) := by decide +kernel
theorem d_X_go_27 : decode b_X_go 27 = .ok (.ireturn, 1) := by decide +kernel
abbrev b_X_goTo : ByteArray := prog_11_method_37_code
abbrev y_X_goTo : MethodName := ⟨"SignMachineModel", "goTo", "(ZZ)V"⟩
theorem h_X_goTo : (y_X_goTo).cls ≠ "java/lang/invoke/MethodHandle" ∧ (y_X_goTo).cls ≠ "java/lang/invoke/VarHandle" ∧ (parseMethodDescriptor (y_X_goTo).desc).map (fun d => d.parameters.length) = some 2 := by decide +kernel
theorem d_X_goTo_0 : decode b_X_goTo 0 = .ok (.iload_n 1, 1) := by decide +kernel
theorem d_X_goTo_1 : decode b_X_goTo 1 = .ok (.ifCond .eq 41, 3) := by decide +kernel
theorem d_X_goTo_4 : decode b_X_goTo 4 = .ok (.aload_n 0, 1) := by decide +kernel
theorem d_X_goTo_5 : decode b_X_goTo 5 = .ok (.getfield 19, 3) := by decide +kernel
theorem d_X_goTo_8 : decode b_X_goTo 8 = .ok (.bipush 8, 2) := by decide +kernel
theorem d_X_goTo_10 : decode b_X_goTo 10 = .ok (.iload_n 2, 1) := by decide +kernel
theorem d_X_goTo_11 : decode b_X_goTo 11 = .ok (.ifCond .eq 13, 3) := by decide +kernel
theorem d_X_goTo_14 : decode b_X_goTo 14 = .ok (.aload_n 0, 1) := by decide +kernel
theorem d_X_goTo_15 : decode b_X_goTo 15 = .ok (.getfield 19, 3) := by decide +kernel
theorem d_X_goTo_18 : decode b_X_goTo 18 = .ok (.bipush 8, 2) := by decide +kernel
theorem d_X_goTo_20 : decode b_X_goTo 20 = .ok (.iaload, 1) := by decide +kernel
theorem d_X_goTo_21 : decode b_X_goTo 21 = .ok (.goto 9, 3) := by decide +kernel
theorem d_X_goTo_24 : decode b_X_goTo 24 = .ok (.aload_n 0, 1) := by decide +kernel
theorem d_X_goTo_25 : decode b_X_goTo 25 = .ok (.getfield 110, 3) := by decide +kernel
theorem d_X_goTo_28 : decode b_X_goTo 28 = .ok (.iconst 1, 1) := by decide +kernel
theorem d_X_goTo_29 : decode b_X_goTo 29 = .ok (.iadd, 1) := by decide +kernel
theorem d_X_goTo_30 : decode b_X_goTo 30 = .ok (.iastore, 1) := by decide +kernel
theorem d_X_goTo_31 : decode b_X_goTo 31 = .ok (.aload_n 0, 1) := by decide +kernel
theorem d_X_goTo_32 : decode b_X_goTo 32 = .ok (.aload_n 0, 1) := by decide +kernel
theorem d_X_goTo_33 : decode b_X_goTo 33 = .ok (.getfield 142, 3) := by decide +kernel
theorem d_X_goTo_36 : decode b_X_goTo 36 = .ok (.putfield 110, 3) := by decide +kernel
theorem d_X_goTo_39 : decode b_X_goTo 39 = .ok (.goto 13, 3) := by decide +kernel
theorem d_X_goTo_42 : decode b_X_goTo 42 = .ok (.aload_n 0, 1) := by decide +kernel
theorem d_X_goTo_43 : decode b_X_goTo 43 = .ok (.dup, 1) := by decide +kernel
theorem d_X_goTo_44 : decode b_X_goTo 44 = .ok (.getfield 110, 3) := by decide +kernel
theorem d_X_goTo_47 : decode b_X_goTo 47 = .ok (.iconst 1, 1) := by decide +kernel
theorem d_X_goTo_48 : decode b_X_goTo 48 = .ok (.iadd, 1) := by decide +kernel
theorem d_X_goTo_49 : decode b_X_goTo 49 = .ok (.putfield 110, 3) := by decide +kernel
theorem d_X_goTo_52 : decode b_X_goTo 52 = .ok (.return_, 1) := by decide +kernel
abbrev b_X_goes39 : ByteArray := prog_11_method_40_code
abbrev y_X_goes39 : MethodName := ⟨"SignMachineModel", "goes39", "()V"⟩
theorem h_X_goes39 : (y_X_goes39).cls ≠ "java/lang/invoke/MethodHandle" ∧ (y_X_goes39).cls ≠ "java/lang/invoke/VarHandle" ∧ (parseMethodDescriptor (y_X_goes39).desc).map (fun d => d.parameters.length) = some 0 := by decide +kernel
theorem d_X_goes39_0 : decode b_X_goes39 0 = .ok (.aload_n 0, 1) := by decide +kernel
theorem d_X_goes39_1 : decode b_X_goes39 1 = .ok (.getfield 113, 3) := by decide +kernel
theorem d_X_goes39_4 : decode b_X_goes39 4 = .ok (.iconst 1, 1) := by decide +kernel
theorem d_X_goes39_5 : decode b_X_goes39 5 = .ok (.if_icmp .ne 7, 3) := by decide +kernel
theorem d_X_goes39_8 : decode b_X_goes39 8 = .ok (.iconst 1, 1) := by decide +kernel
theorem d_X_goes39_9 : decode b_X_goes39 9 = .ok (.goto 4, 3) := by decide +kernel
theorem d_X_goes39_12 : decode b_X_goes39 12 = .ok (.iconst 0, 1) := by decide +kernel
theorem d_X_goes39_13 : decode b_X_goes39 13 = .ok (.istore_n 1, 1) := by decide +kernel
theorem d_X_goes39_14 : decode b_X_goes39 14 = .ok (.aload_n 0, 1) := by decide +kernel
theorem d_X_goes39_15 : decode b_X_goes39 15 = .ok (.getfield 135, 3) := by decide +kernel
theorem d_X_goes39_18 : decode b_X_goes39 18 = .ok (.iconst 2, 1) := by decide +kernel
theorem d_X_goes39_19 : decode b_X_goes39 19 = .ok (.if_icmp .lt 40, 3) := by decide +kernel
theorem d_X_goes39_22 : decode b_X_goes39 22 = .ok (.aload_n 0, 1) := by decide +kernel
theorem d_X_goes39_23 : decode b_X_goes39 23 = .ok (.getfield 135, 3) := by decide +kernel
theorem d_X_goes39_26 : decode b_X_goes39 26 = .ok (.iconst 2, 1) := by decide +kernel
theorem d_X_goes39_27 : decode b_X_goes39 27 = .ok (.if_icmp .ne 10, 3) := by decide +kernel
theorem d_X_goes39_30 : decode b_X_goes39 30 = .ok (.iload_n 1, 1) := by decide +kernel
theorem d_X_goes39_31 : decode b_X_goes39 31 = .ok (.ifCond .eq 32, 3) := by decide +kernel
theorem d_X_goes39_34 : decode b_X_goes39 34 = .ok (.goto 25, 3) := by decide +kernel
theorem d_X_goes39_37 : decode b_X_goes39 37 = .ok (.aload_n 0, 1) := by decide +kernel
theorem d_X_goes39_38 : decode b_X_goes39 38 = .ok (.getfield 135, 3) := by decide +kernel
theorem d_X_goes39_41 : decode b_X_goes39 41 = .ok (.iconst 3, 1) := by decide +kernel
theorem d_X_goes39_42 : decode b_X_goes39 42 = .ok (.if_icmp .ne 10, 3) := by decide +kernel
theorem d_X_goes39_45 : decode b_X_goes39 45 = .ok (.iload_n 1, 1) := by decide +kernel
theorem d_X_goes39_46 : decode b_X_goes39 46 = .ok (.ifCond .ne 17, 3) := by decide +kernel
theorem d_X_goes39_49 : decode b_X_goes39 49 = .ok (.goto 10, 3) := by decide +kernel
theorem d_X_goes39_52 : decode b_X_goes39 52 = .ok (.aload_n 0, 1) := by decide +kernel
theorem d_X_goes39_53 : decode b_X_goes39 53 = .ok (.invokevirtual 207, 3) := by decide +kernel
theorem d_X_goes39_56 : decode b_X_goes39 56 = .ok (.ifCond .eq 7, 3) := by decide +kernel
theorem d_X_goes39_59 : decode b_X_goes39 59 = .ok (.iconst 1, 1) := by decide +kernel
theorem d_X_goes39_60 : decode b_X_goes39 60 = .ok (.goto 4, 3) := by decide +kernel
theorem d_X_goes39_63 : decode b_X_goes39 63 = .ok (.iconst 0, 1) := by decide +kernel
theorem d_X_goes39_64 : decode b_X_goes39 64 = .ok (.istore_n 2, 1) := by decide +kernel
theorem d_X_goes39_65 : decode b_X_goes39 65 = .ok (.aload_n 0, 1) := by decide +kernel
theorem d_X_goes39_66 : decode b_X_goes39 66 = .ok (.aload_n 0, 1) := by decide +kernel
theorem d_X_goes39_67 : decode b_X_goes39 67 = .ok (.getfield 135, 3) := by decide +kernel
theorem d_X_goes39_70 : decode b_X_goes39 70 = .ok (.iconst 2, 1) := by decide +kernel
theorem d_X_goes39_71 : decode b_X_goes39 71 = .ok (.if_icmp .eq 11, 3) := by decide +kernel
theorem d_X_goes39_74 : decode b_X_goes39 74 = .ok (.aload_n 0, 1) := by decide +kernel
theorem d_X_goes39_75 : decode b_X_goes39 75 = .ok (.getfield 135, 3) := by decide +kernel
theorem d_X_goes39_78 : decode b_X_goes39 78 = .ok (.iconst 3, 1) := by decide +kernel
theorem d_X_goes39_79 : decode b_X_goes39 79 = .ok (.if_icmp .ne 7, 3) := by decide +kernel
theorem d_X_goes39_82 : decode b_X_goes39 82 = .ok (.iconst 0, 1) := by decide +kernel
theorem d_X_goes39_83 : decode b_X_goes39 83 = .ok (.goto 7, 3) := by decide +kernel
theorem d_X_goes39_86 : decode b_X_goes39 86 = .ok (.aload_n 0, 1) := by decide +kernel
theorem d_X_goes39_87 : decode b_X_goes39 87 = .ok (.getfield 113, 3) := by decide +kernel
theorem d_X_goes39_90 : decode b_X_goes39 90 = .ok (.putfield 113, 3) := by decide +kernel
theorem d_X_goes39_93 : decode b_X_goes39 93 = .ok (.aload_n 0, 1) := by decide +kernel
theorem d_X_goes39_94 : decode b_X_goes39 94 = .ok (.iload_n 2, 1) := by decide +kernel
theorem d_X_goes39_95 : decode b_X_goes39 95 = .ok (.aload_n 0, 1) := by decide +kernel
theorem d_X_goes39_96 : decode b_X_goes39 96 = .ok (.getfield 135, 3) := by decide +kernel
theorem d_X_goes39_99 : decode b_X_goes39 99 = .ok (.iconst 1, 1) := by decide +kernel
theorem d_X_goes39_100 : decode b_X_goes39 100 = .ok (.if_icmp .ne 7, 3) := by decide +kernel
theorem d_X_goes39_103 : decode b_X_goes39 103 = .ok (.iconst 1, 1) := by decide +kernel
theorem d_X_goes39_104 : decode b_X_goes39 104 = .ok (.goto 4, 3) := by decide +kernel
theorem d_X_goes39_107 : decode b_X_goes39 107 = .ok (.iconst 0, 1) := by decide +kernel
theorem d_X_goes39_108 : decode b_X_goes39 108 = .ok (.invokevirtual 210, 3) := by decide +kernel
theorem d_X_goes39_111 : decode b_X_goes39 111 = .ok (.return_, 1) := by decide +kernel
abbrev b_X_goesBy : ByteArray := prog_11_method_38_code
abbrev y_X_goesBy : MethodName := ⟨"SignMachineModel", "goesBy", "(I)Z"⟩
theorem h_X_goesBy : (y_X_goesBy).cls ≠ "java/lang/invoke/MethodHandle" ∧ (y_X_goesBy).cls ≠ "java/lang/invoke/VarHandle" ∧ (parseMethodDescriptor (y_X_goesBy).desc).map (fun d => d.parameters.length) = some 1 := by decide +kernel
theorem d_X_goesBy_0 : decode b_X_goesBy 0 = .ok (.aload_n 0, 1) := by decide +kernel
theorem d_X_goesBy_1 : decode b_X_goesBy 1 = .ok (.getfield 19, 3) := by decide +kernel
theorem d_X_goesBy_4 : decode b_X_goesBy 4 = .ok (.iload_n 1, 1) := by decide +kernel
theorem d_X_goesBy_5 : decode b_X_goesBy 5 = .ok (.iaload, 1) := by decide +kernel
theorem d_X_goesBy_6 : decode b_X_goesBy 6 = .ok (.ifCond .ne 7, 3) := by decide +kernel
theorem d_X_goesBy_9 : decode b_X_goesBy 9 = .ok (.iconst 0, 1) := by decide +kernel
theorem d_X_goesBy_10 : decode b_X_goesBy 10 = .ok (.goto 18, 3) := by decide +kernel
theorem d_X_goesBy_13 : decode b_X_goesBy 13 = .ok (.aload_n 0, 1) := by decide +kernel
theorem d_X_goesBy_14 : decode b_X_goesBy 14 = .ok (.getfield 16, 3) := by decide +kernel
theorem d_X_goesBy_17 : decode b_X_goesBy 17 = .ok (.iload_n 1, 1) := by decide +kernel
theorem d_X_goesBy_18 : decode b_X_goesBy 18 = .ok (.iaload, 1) := by decide +kernel
theorem d_X_goesBy_19 : decode b_X_goesBy 19 = .ok (.iconst 1, 1) := by decide +kernel
theorem d_X_goesBy_20 : decode b_X_goesBy 20 = .ok (.if_icmp .ne 7, 3) := by decide +kernel
theorem d_X_goesBy_23 : decode b_X_goesBy 23 = .ok (.iconst (-1), 1) := by decide +kernel
theorem d_X_goesBy_24 : decode b_X_goesBy 24 = .ok (.goto 4, 3) := by decide +kernel
theorem d_X_goesBy_27 : decode b_X_goesBy 27 = .ok (.iconst 1, 1) := by decide +kernel
theorem d_X_goesBy_28 : decode b_X_goesBy 28 = .ok (.istore_n 2, 1) := by decide +kernel
theorem d_X_goesBy_29 : decode b_X_goesBy 29 = .ok (.aload_n 0, 1) := by decide +kernel
theorem d_X_goesBy_30 : decode b_X_goesBy 30 = .ok (.getfield 135, 3) := by decide +kernel
theorem d_X_goesBy_33 : decode b_X_goesBy 33 = .ok (.tableswitch 85 0 4 #[35, 45, 55, 65, 75], 35) := by decide +kernel
theorem d_X_goesBy_68 : decode b_X_goesBy 68 = .ok (.iload_n 2, 1) := by decide +kernel
theorem d_X_goesBy_69 : decode b_X_goesBy 69 = .ok (.ifCond .ge 7, 3) := by decide +kernel
theorem d_X_goesBy_72 : decode b_X_goesBy 72 = .ok (.iconst 1, 1) := by decide +kernel
theorem d_X_goesBy_73 : decode b_X_goesBy 73 = .ok (.goto 4, 3) := by decide +kernel
theorem d_X_goesBy_76 : decode b_X_goesBy 76 = .ok (.iconst 0, 1) := by decide +kernel
theorem d_X_goesBy_77 : decode b_X_goesBy 77 = .ok (.ireturn, 1) := by decide +kernel
theorem d_X_goesBy_78 : decode b_X_goesBy 78 = .ok (.iload_n 2, 1) := by decide +kernel
theorem d_X_goesBy_79 : decode b_X_goesBy 79 = .ok (.ifCond .ne 7, 3) := by decide +kernel
theorem d_X_goesBy_82 : decode b_X_goesBy 82 = .ok (.iconst 1, 1) := by decide +kernel
theorem d_X_goesBy_83 : decode b_X_goesBy 83 = .ok (.goto 4, 3) := by decide +kernel
theorem d_X_goesBy_86 : decode b_X_goesBy 86 = .ok (.iconst 0, 1) := by decide +kernel
theorem d_X_goesBy_87 : decode b_X_goesBy 87 = .ok (.ireturn, 1) := by decide +kernel
theorem d_X_goesBy_88 : decode b_X_goesBy 88 = .ok (.iload_n 2, 1) := by decide +kernel
theorem d_X_goesBy_89 : decode b_X_goesBy 89 = .ok (.ifCond .le 7, 3) := by decide +kernel
theorem d_X_goesBy_92 : decode b_X_goesBy 92 = .ok (.iconst 1, 1) := by decide +kernel
theorem d_X_goesBy_93 : decode b_X_goesBy 93 = .ok (.goto 4, 3) := by decide +kernel
theorem d_X_goesBy_96 : decode b_X_goesBy 96 = .ok (.iconst 0, 1) := by decide +kernel
theorem d_X_goesBy_97 : decode b_X_goesBy 97 = .ok (.ireturn, 1) := by decide +kernel
theorem d_X_goesBy_98 : decode b_X_goesBy 98 = .ok (.iload_n 2, 1) := by decide +kernel
theorem d_X_goesBy_99 : decode b_X_goesBy 99 = .ok (.ifCond .lt 7, 3) := by decide +kernel
theorem d_X_goesBy_102 : decode b_X_goesBy 102 = .ok (.iconst 1, 1) := by decide +kernel
theorem d_X_goesBy_103 : decode b_X_goesBy 103 = .ok (.goto 4, 3) := by decide +kernel
theorem d_X_goesBy_106 : decode b_X_goesBy 106 = .ok (.iconst 0, 1) := by decide +kernel
theorem d_X_goesBy_107 : decode b_X_goesBy 107 = .ok (.ireturn, 1) := by decide +kernel
theorem d_X_goesBy_108 : decode b_X_goesBy 108 = .ok (.iload_n 2, 1) := by decide +kernel
theorem d_X_goesBy_109 : decode b_X_goesBy 109 = .ok (.ifCond .eq 7, 3) := by decide +kernel
theorem d_X_goesBy_112 : decode b_X_goesBy 112 = .ok (.iconst 1, 1) := by decide +kernel
theorem d_X_goesBy_113 : decode b_X_goesBy 113 = .ok (.goto 4, 3) := by decide +kernel
theorem d_X_goesBy_116 : decode b_X_goesBy 116 = .ok (.iconst 0, 1) := by decide +kernel
theorem d_X_goesBy_117 : decode b_X_goesBy 117 = .ok (.ireturn, 1) := by decide +kernel
theorem d_X_goesBy_118 : decode b_X_goesBy 118 = .ok (.iload_n 2, 1) := by decide +kernel
theorem d_X_goesBy_119 : decode b_X_goesBy 119 = .ok (.ifCond .gt 7, 3) := by decide +kernel
theorem d_X_goesBy_122 : decode b_X_goesBy 122 = .ok (.iconst 1, 1) := by decide +kernel
theorem d_X_goesBy_123 : decode b_X_goesBy 123 = .ok (.goto 4, 3) := by decide +kernel
theorem d_X_goesBy_126 : decode b_X_goesBy 126 = .ok (.iconst 0, 1) := by decide +kernel
theorem d_X_goesBy_127 : decode b_X_goesBy 127 = .ok (.ireturn, 1) := by decide +kernel
abbrev b_X_goesByIndicator : ByteArray := prog_11_method_39_code
abbrev y_X_goesByIndicator : MethodName := ⟨"SignMachineModel", "goesByIndicator", "()Z"⟩
theorem h_X_goesByIndicator : (y_X_goesByIndicator).cls ≠ "java/lang/invoke/MethodHandle" ∧ (y_X_goesByIndicator).cls ≠ "java/lang/invoke/VarHandle" ∧ (parseMethodDescriptor (y_X_goesByIndicator).desc).map (fun d => d.parameters.length) = some 0 := by decide +kernel
theorem d_X_goesByIndicator_0 : decode b_X_goesByIndicator 0 = .ok (.aload_n 0, 1) := by decide +kernel
theorem d_X_goesByIndicator_1 : decode b_X_goesByIndicator 1 = .ok (.getfield 135, 3) := by decide +kernel
theorem d_X_goesByIndicator_4 : decode b_X_goesByIndicator 4 = .ok (.tableswitch 101 4 8 #[36, 49, 62, 75, 88], 36) := by decide +kernel
theorem d_X_goesByIndicator_40 : decode b_X_goesByIndicator 40 = .ok (.aload_n 0, 1) := by decide +kernel
theorem d_X_goesByIndicator_41 : decode b_X_goesByIndicator 41 = .ok (.getfield 116, 3) := by decide +kernel
theorem d_X_goesByIndicator_44 : decode b_X_goesByIndicator 44 = .ok (.ifCond .ge 7, 3) := by decide +kernel
theorem d_X_goesByIndicator_47 : decode b_X_goesByIndicator 47 = .ok (.iconst 1, 1) := by decide +kernel
theorem d_X_goesByIndicator_48 : decode b_X_goesByIndicator 48 = .ok (.goto 4, 3) := by decide +kernel
theorem d_X_goesByIndicator_51 : decode b_X_goesByIndicator 51 = .ok (.iconst 0, 1) := by decide +kernel
theorem d_X_goesByIndicator_52 : decode b_X_goesByIndicator 52 = .ok (.ireturn, 1) := by decide +kernel
theorem d_X_goesByIndicator_53 : decode b_X_goesByIndicator 53 = .ok (.aload_n 0, 1) := by decide +kernel
theorem d_X_goesByIndicator_54 : decode b_X_goesByIndicator 54 = .ok (.getfield 116, 3) := by decide +kernel
theorem d_X_goesByIndicator_57 : decode b_X_goesByIndicator 57 = .ok (.ifCond .ne 7, 3) := by decide +kernel
theorem d_X_goesByIndicator_60 : decode b_X_goesByIndicator 60 = .ok (.iconst 1, 1) := by decide +kernel
theorem d_X_goesByIndicator_61 : decode b_X_goesByIndicator 61 = .ok (.goto 4, 3) := by decide +kernel
theorem d_X_goesByIndicator_64 : decode b_X_goesByIndicator 64 = .ok (.iconst 0, 1) := by decide +kernel
theorem d_X_goesByIndicator_65 : decode b_X_goesByIndicator 65 = .ok (.ireturn, 1) := by decide +kernel
theorem d_X_goesByIndicator_66 : decode b_X_goesByIndicator 66 = .ok (.aload_n 0, 1) := by decide +kernel
theorem d_X_goesByIndicator_67 : decode b_X_goesByIndicator 67 = .ok (.getfield 116, 3) := by decide +kernel
theorem d_X_goesByIndicator_70 : decode b_X_goesByIndicator 70 = .ok (.ifCond .le 7, 3) := by decide +kernel
theorem d_X_goesByIndicator_73 : decode b_X_goesByIndicator 73 = .ok (.iconst 1, 1) := by decide +kernel
theorem d_X_goesByIndicator_74 : decode b_X_goesByIndicator 74 = .ok (.goto 4, 3) := by decide +kernel
theorem d_X_goesByIndicator_77 : decode b_X_goesByIndicator 77 = .ok (.iconst 0, 1) := by decide +kernel
theorem d_X_goesByIndicator_78 : decode b_X_goesByIndicator 78 = .ok (.ireturn, 1) := by decide +kernel
theorem d_X_goesByIndicator_79 : decode b_X_goesByIndicator 79 = .ok (.aload_n 0, 1) := by decide +kernel
theorem d_X_goesByIndicator_80 : decode b_X_goesByIndicator 80 = .ok (.getfield 116, 3) := by decide +kernel
theorem d_X_goesByIndicator_83 : decode b_X_goesByIndicator 83 = .ok (.ifCond .lt 7, 3) := by decide +kernel
theorem d_X_goesByIndicator_86 : decode b_X_goesByIndicator 86 = .ok (.iconst 1, 1) := by decide +kernel
theorem d_X_goesByIndicator_87 : decode b_X_goesByIndicator 87 = .ok (.goto 4, 3) := by decide +kernel
theorem d_X_goesByIndicator_90 : decode b_X_goesByIndicator 90 = .ok (.iconst 0, 1) := by decide +kernel
theorem d_X_goesByIndicator_91 : decode b_X_goesByIndicator 91 = .ok (.ireturn, 1) := by decide +kernel
theorem d_X_goesByIndicator_92 : decode b_X_goesByIndicator 92 = .ok (.aload_n 0, 1) := by decide +kernel
theorem d_X_goesByIndicator_93 : decode b_X_goesByIndicator 93 = .ok (.getfield 116, 3) := by decide +kernel
theorem d_X_goesByIndicator_96 : decode b_X_goesByIndicator 96 = .ok (.ifCond .eq 7, 3) := by decide +kernel
theorem d_X_goesByIndicator_99 : decode b_X_goesByIndicator 99 = .ok (.iconst 1, 1) := by decide +kernel
theorem d_X_goesByIndicator_100 : decode b_X_goesByIndicator 100 = .ok (.goto 4, 3) := by decide +kernel
theorem d_X_goesByIndicator_103 : decode b_X_goesByIndicator 103 = .ok (.iconst 0, 1) := by decide +kernel
theorem d_X_goesByIndicator_104 : decode b_X_goesByIndicator 104 = .ok (.ireturn, 1) := by decide +kernel
theorem d_X_goesByIndicator_105 : decode b_X_goesByIndicator 105 = .ok (.aload_n 0, 1) := by decide +kernel
theorem d_X_goesByIndicator_106 : decode b_X_goesByIndicator 106 = .ok (.getfield 116, 3) := by decide +kernel
theorem d_X_goesByIndicator_109 : decode b_X_goesByIndicator 109 = .ok (.ifCond .gt 7, 3) := by decide +kernel
theorem d_X_goesByIndicator_112 : decode b_X_goesByIndicator 112 = .ok (.iconst 1, 1) := by decide +kernel
theorem d_X_goesByIndicator_113 : decode b_X_goesByIndicator 113 = .ok (.goto 4, 3) := by decide +kernel
theorem d_X_goesByIndicator_116 : decode b_X_goesByIndicator 116 = .ok (.iconst 0, 1) := by decide +kernel
theorem d_X_goesByIndicator_117 : decode b_X_goesByIndicator 117 = .ok (.ireturn, 1) := by decide +kernel
abbrev b_X_here : ByteArray := prog_11_method_52_code
abbrev y_X_here : MethodName := ⟨"SignMachineModel", "here", "()I"⟩
theorem h_X_here : (y_X_here).cls ≠ "java/lang/invoke/MethodHandle" ∧ (y_X_here).cls ≠ "java/lang/invoke/VarHandle" ∧ (parseMethodDescriptor (y_X_here).desc).map (fun d => d.parameters.length) = some 0 := by decide +kernel
theorem d_X_here_0 : decode b_X_here 0 = .ok (.aload_n 0, 1) := by decide +kernel
theorem d_X_here_1 : decode b_X_here 1 = .ok (.getfield 282, 3) := by decide +kernel
theorem d_X_here_4 : decode b_X_here 4 = .ok (.aload_n 0, 1) := by decide +kernel
theorem d_X_here_5 : decode b_X_here 5 = .ok (.getfield 285, 3) := by decide +kernel
theorem d_X_here_8 : decode b_X_here 8 = .ok (.if_icmp .ge 15, 3) := by decide +kernel
theorem d_X_here_11 : decode b_X_here 11 = .ok (.aload_n 0, 1) := by decide +kernel
theorem d_X_here_12 : decode b_X_here 12 = .ok (.getfield 37, 3) := by decide +kernel
theorem d_X_here_15 : decode b_X_here 15 = .ok (.aload_n 0, 1) := by decide +kernel
theorem d_X_here_16 : decode b_X_here 16 = .ok (.getfield 282, 3) := by decide +kernel
theorem d_X_here_19 : decode b_X_here 19 = .ok (.iaload, 1) := by decide +kernel
theorem d_X_here_20 : decode b_X_here 20 = .ok (.goto 4, 3) := by decide +kernel
theorem d_X_here_23 : decode b_X_here 23 = .ok (.iconst (-1), 1) := by decide +kernel
theorem d_X_here_24 : decode b_X_here 24 = .ok (.ireturn, 1) := by decide +kernel
abbrev b_X_indexValue : ByteArray := prog_11_method_21_code
abbrev y_X_indexValue : MethodName := ⟨"SignMachineModel", "indexValue", "(I)I"⟩
theorem h_X_indexValue : (y_X_indexValue).cls ≠ "java/lang/invoke/MethodHandle" ∧ (y_X_indexValue).cls ≠ "java/lang/invoke/VarHandle" ∧ (parseMethodDescriptor (y_X_indexValue).desc).map (fun d => d.parameters.length) = some 1 := by decide +kernel
theorem d_X_indexValue_0 : decode b_X_indexValue 0 = .ok (.aload_n 0, 1) := by decide +kernel
theorem d_X_indexValue_1 : decode b_X_indexValue 1 = .ok (.getfield 16, 3) := by decide +kernel
theorem d_X_indexValue_4 : decode b_X_indexValue 4 = .ok (.iload_n 1, 1) := by decide +kernel
theorem d_X_indexValue_5 : decode b_X_indexValue 5 = .ok (.iaload, 1) := by decide +kernel
theorem d_X_indexValue_6 : decode b_X_indexValue 6 = .ok (.iconst 1, 1) := by decide +kernel
theorem d_X_indexValue_7 : decode b_X_indexValue 7 = .ok (.if_icmp .ne 13, 3) := by decide +kernel
theorem d_X_indexValue_10 : decode b_X_indexValue 10 = .ok (.aload_n 0, 1) := by decide +kernel
theorem d_X_indexValue_11 : decode b_X_indexValue 11 = .ok (.getfield 19, 3) := by decide +kernel
theorem d_X_indexValue_14 : decode b_X_indexValue 14 = .ok (.iload_n 1, 1) := by decide +kernel
theorem d_X_indexValue_15 : decode b_X_indexValue 15 = .ok (.iaload, 1) := by decide +kernel
theorem d_X_indexValue_16 : decode b_X_indexValue 16 = .ok (.ineg, 1) := by decide +kernel
theorem d_X_indexValue_17 : decode b_X_indexValue 17 = .ok (.goto 9, 3) := by decide +kernel
theorem d_X_indexValue_20 : decode b_X_indexValue 20 = .ok (.aload_n 0, 1) := by decide +kernel
theorem d_X_indexValue_21 : decode b_X_indexValue 21 = .ok (.getfield 19, 3) := by decide +kernel
theorem d_X_indexValue_24 : decode b_X_indexValue 24 = .ok (.iload_n 1, 1) := by decide +kernel
theorem d_X_indexValue_25 : decode b_X_indexValue 25 = .ok (.iaload, 1) := by decide +kernel
theorem d_X_indexValue_26 : decode b_X_indexValue 26 = .ok (.ireturn, 1) := by decide +kernel
abbrev b_X_isAlone : ByteArray := prog_11_method_68_code
abbrev y_X_isAlone : MethodName := ⟨"SignMachineModel", "isAlone", "()Z"⟩
theorem h_X_isAlone : (y_X_isAlone).cls ≠ "java/lang/invoke/MethodHandle" ∧ (y_X_isAlone).cls ≠ "java/lang/invoke/VarHandle" ∧ (parseMethodDescriptor (y_X_isAlone).desc).map (fun d => d.parameters.length) = some 0 := by decide +kernel
theorem d_X_isAlone_0 : decode b_X_isAlone 0 = .ok (.aload_n 0, 1) := by decide +kernel
theorem d_X_isAlone_1 : decode b_X_isAlone 1 = .ok (.invokevirtual 288, 3) := by decide +kernel
theorem d_X_isAlone_4 : decode b_X_isAlone 4 = .ok (.istore_n 1, 1) := by decide +kernel
theorem d_X_isAlone_5 : decode b_X_isAlone 5 = .ok (.iload_n 1, 1) := by decide +kernel
theorem d_X_isAlone_6 : decode b_X_isAlone 6 = .ok (.iconst (-1), 1) := by decide +kernel
theorem d_X_isAlone_7 : decode b_X_isAlone 7 = .ok (.if_icmp .eq 21, 3) := by decide +kernel
theorem d_X_isAlone_10 : decode b_X_isAlone 10 = .ok (.iload_n 1, 1) := by decide +kernel
theorem d_X_isAlone_11 : decode b_X_isAlone 11 = .ok (.bipush 32, 2) := by decide +kernel
theorem d_X_isAlone_13 : decode b_X_isAlone 13 = .ok (.if_icmp .eq 15, 3) := by decide +kernel
theorem d_X_isAlone_16 : decode b_X_isAlone 16 = .ok (.iload_n 1, 1) := by decide +kernel
theorem d_X_isAlone_17 : decode b_X_isAlone 17 = .ok (.bipush 44, 2) := by decide +kernel
theorem d_X_isAlone_19 : decode b_X_isAlone 19 = .ok (.if_icmp .eq 9, 3) := by decide +kernel
theorem d_X_isAlone_22 : decode b_X_isAlone 22 = .ok (.iload_n 1, 1) := by decide +kernel
theorem d_X_isAlone_23 : decode b_X_isAlone 23 = .ok (.bipush 40, 2) := by decide +kernel
theorem d_X_isAlone_25 : decode b_X_isAlone 25 = .ok (.if_icmp .ne 7, 3) := by decide +kernel
theorem d_X_isAlone_28 : decode b_X_isAlone 28 = .ok (.iconst 1, 1) := by decide +kernel
theorem d_X_isAlone_29 : decode b_X_isAlone 29 = .ok (.goto 4, 3) := by decide +kernel
theorem d_X_isAlone_32 : decode b_X_isAlone 32 = .ok (.iconst 0, 1) := by decide +kernel
theorem d_X_isAlone_33 : decode b_X_isAlone 33 = .ok (.ireturn, 1) := by decide +kernel
abbrev b_X_isBlock : ByteArray := prog_11_method_25_code
abbrev y_X_isBlock : MethodName := ⟨"SignMachineModel", "isBlock", "()Z"⟩
theorem h_X_isBlock : (y_X_isBlock).cls ≠ "java/lang/invoke/MethodHandle" ∧ (y_X_isBlock).cls ≠ "java/lang/invoke/VarHandle" ∧ (parseMethodDescriptor (y_X_isBlock).desc).map (fun d => d.parameters.length) = some 0 := by decide +kernel
theorem d_X_isBlock_0 : decode b_X_isBlock 0 = .ok (.aload_n 0, 1) := by decide +kernel
theorem d_X_isBlock_1 : decode b_X_isBlock 1 = .ok (.getfield 132, 3) := by decide +kernel
theorem d_X_isBlock_4 : decode b_X_isBlock 4 = .ok (.bipush 35, 2) := by decide +kernel
theorem d_X_isBlock_6 : decode b_X_isBlock 6 = .ok (.if_icmp .ne 41, 3) := by decide +kernel
theorem d_X_isBlock_9 : decode b_X_isBlock 9 = .ok (.aload_n 0, 1) := by decide +kernel
theorem d_X_isBlock_10 : decode b_X_isBlock 10 = .ok (.getfield 142, 3) := by decide +kernel
theorem d_X_isBlock_13 : decode b_X_isBlock 13 = .ok (.ifCond .eq 28, 3) := by decide +kernel
theorem d_X_isBlock_16 : decode b_X_isBlock 16 = .ok (.aload_n 0, 1) := by decide +kernel
theorem d_X_isBlock_17 : decode b_X_isBlock 17 = .ok (.getfield 28, 3) := by decide +kernel
theorem d_X_isBlock_20 : decode b_X_isBlock 20 = .ok (.aload_n 0, 1) := by decide +kernel
theorem d_X_isBlock_21 : decode b_X_isBlock 21 = .ok (.getfield 135, 3) := by decide +kernel
theorem d_X_isBlock_24 : decode b_X_isBlock 24 = .ok (.iaload, 1) := by decide +kernel
theorem d_X_isBlock_25 : decode b_X_isBlock 25 = .ok (.aload_n 0, 1) := by decide +kernel
theorem d_X_isBlock_26 : decode b_X_isBlock 26 = .ok (.getfield 142, 3) := by decide +kernel
theorem d_X_isBlock_29 : decode b_X_isBlock 29 = .ok (.iadd, 1) := by decide +kernel
theorem d_X_isBlock_30 : decode b_X_isBlock 30 = .ok (.i2l, 1) := by decide +kernel
theorem d_X_isBlock_31 : decode b_X_isBlock 31 = .ok (.lconst 0, 1) := by decide +kernel
theorem d_X_isBlock_32 : decode b_X_isBlock 32 = .ok (.ldc2_w 180, 3) := by decide +kernel
theorem d_X_isBlock_35 : decode b_X_isBlock 35 = .ok (.invokestatic 96, 3) := by decide +kernel
theorem d_X_isBlock_38 : decode b_X_isBlock 38 = .ok (.ifCond .eq 7, 3) := by decide +kernel
theorem d_X_isBlock_41 : decode b_X_isBlock 41 = .ok (.iconst 1, 1) := by decide +kernel
theorem d_X_isBlock_42 : decode b_X_isBlock 42 = .ok (.goto 4, 3) := by decide +kernel
theorem d_X_isBlock_45 : decode b_X_isBlock 45 = .ok (.iconst 0, 1) := by decide +kernel
theorem d_X_isBlock_46 : decode b_X_isBlock 46 = .ok (.ireturn, 1) := by decide +kernel
theorem d_X_isBlock_47 : decode b_X_isBlock 47 = .ok (.aload_n 0, 1) := by decide +kernel
theorem d_X_isBlock_48 : decode b_X_isBlock 48 = .ok (.getfield 132, 3) := by decide +kernel
theorem d_X_isBlock_51 : decode b_X_isBlock 51 = .ok (.bipush 36, 2) := by decide +kernel
theorem d_X_isBlock_53 : decode b_X_isBlock 53 = .ok (.if_icmp .eq 12, 3) := by decide +kernel
theorem d_X_isBlock_56 : decode b_X_isBlock 56 = .ok (.aload_n 0, 1) := by decide +kernel
theorem d_X_isBlock_57 : decode b_X_isBlock 57 = .ok (.getfield 132, 3) := by decide +kernel
theorem d_X_isBlock_60 : decode b_X_isBlock 60 = .ok (.bipush 37, 2) := by decide +kernel
theorem d_X_isBlock_62 : decode b_X_isBlock 62 = .ok (.if_icmp .ne 17, 3) := by decide +kernel
theorem d_X_isBlock_65 : decode b_X_isBlock 65 = .ok (.aload_n 0, 1) := by decide +kernel
theorem d_X_isBlock_66 : decode b_X_isBlock 66 = .ok (.getfield 28, 3) := by decide +kernel
theorem d_X_isBlock_69 : decode b_X_isBlock 69 = .ok (.aload_n 0, 1) := by decide +kernel
theorem d_X_isBlock_70 : decode b_X_isBlock 70 = .ok (.getfield 135, 3) := by decide +kernel
theorem d_X_isBlock_73 : decode b_X_isBlock 73 = .ok (.iaload, 1) := by decide +kernel
theorem d_X_isBlock_74 : decode b_X_isBlock 74 = .ok (.bipush 40, 2) := by decide +kernel
theorem d_X_isBlock_76 : decode b_X_isBlock 76 = .ok (.if_icmp .ge 7, 3) := by decide +kernel
theorem d_X_isBlock_79 : decode b_X_isBlock 79 = .ok (.iconst 1, 1) := by decide +kernel
theorem d_X_isBlock_80 : decode b_X_isBlock 80 = .ok (.goto 4, 3) := by decide +kernel
theorem d_X_isBlock_83 : decode b_X_isBlock 83 = .ok (.iconst 0, 1) := by decide +kernel
theorem d_X_isBlock_84 : decode b_X_isBlock 84 = .ok (.ireturn, 1) := by decide +kernel
abbrev b_X_isDigit : ByteArray := prog_11_method_54_code
abbrev y_X_isDigit : MethodName := ⟨"SignMachineModel", "isDigit", "(I)Z"⟩
theorem h_X_isDigit : (y_X_isDigit).cls ≠ "java/lang/invoke/MethodHandle" ∧ (y_X_isDigit).cls ≠ "java/lang/invoke/VarHandle" ∧ (parseMethodDescriptor (y_X_isDigit).desc).map (fun d => d.parameters.length) = some 1 := by decide +kernel
theorem d_X_isDigit_0 : decode b_X_isDigit 0 = .ok (.iload_n 0, 1) := by decide +kernel
theorem d_X_isDigit_1 : decode b_X_isDigit 1 = .ok (.bipush 48, 2) := by decide +kernel
theorem d_X_isDigit_3 : decode b_X_isDigit 3 = .ok (.if_icmp .lt 13, 3) := by decide +kernel
theorem d_X_isDigit_6 : decode b_X_isDigit 6 = .ok (.iload_n 0, 1) := by decide +kernel
theorem d_X_isDigit_7 : decode b_X_isDigit 7 = .ok (.bipush 57, 2) := by decide +kernel
theorem d_X_isDigit_9 : decode b_X_isDigit 9 = .ok (.if_icmp .gt 7, 3) := by decide +kernel
theorem d_X_isDigit_12 : decode b_X_isDigit 12 = .ok (.iconst 1, 1) := by decide +kernel
theorem d_X_isDigit_13 : decode b_X_isDigit 13 = .ok (.goto 4, 3) := by decide +kernel
theorem d_X_isDigit_16 : decode b_X_isDigit 16 = .ok (.iconst 0, 1) := by decide +kernel
theorem d_X_isDigit_17 : decode b_X_isDigit 17 = .ok (.ireturn, 1) := by decide +kernel
abbrev b_X_isField : ByteArray := prog_11_method_16_code
abbrev y_X_isField : MethodName := ⟨"SignMachineModel", "isField", "(I)Z"⟩
theorem h_X_isField : (y_X_isField).cls ≠ "java/lang/invoke/MethodHandle" ∧ (y_X_isField).cls ≠ "java/lang/invoke/VarHandle" ∧ (parseMethodDescriptor (y_X_isField).desc).map (fun d => d.parameters.length) = some 1 := by decide +kernel
theorem d_X_isField_0 : decode b_X_isField 0 = .ok (.iload_n 0, 1) := by decide +kernel
theorem d_X_isField_1 : decode b_X_isField 1 = .ok (.bipush 8, 2) := by decide +kernel
theorem d_X_isField_3 : decode b_X_isField 3 = .ok (.idiv, 1) := by decide +kernel
theorem d_X_isField_4 : decode b_X_isField 4 = .ok (.iload_n 0, 1) := by decide +kernel
theorem d_X_isField_5 : decode b_X_isField 5 = .ok (.bipush 8, 2) := by decide +kernel
theorem d_X_isField_7 : decode b_X_isField 7 = .ok (.irem, 1) := by decide +kernel
theorem d_X_isField_8 : decode b_X_isField 8 = .ok (.if_icmp .gt 15, 3) := by decide +kernel
theorem d_X_isField_11 : decode b_X_isField 11 = .ok (.iload_n 0, 1) := by decide +kernel
theorem d_X_isField_12 : decode b_X_isField 12 = .ok (.bipush 8, 2) := by decide +kernel
theorem d_X_isField_14 : decode b_X_isField 14 = .ok (.irem, 1) := by decide +kernel
theorem d_X_isField_15 : decode b_X_isField 15 = .ok (.iconst 5, 1) := by decide +kernel
theorem d_X_isField_16 : decode b_X_isField 16 = .ok (.if_icmp .gt 7, 3) := by decide +kernel
theorem d_X_isField_19 : decode b_X_isField 19 = .ok (.iconst 1, 1) := by decide +kernel
theorem d_X_isField_20 : decode b_X_isField 20 = .ok (.goto 4, 3) := by decide +kernel
theorem d_X_isField_23 : decode b_X_isField 23 = .ok (.iconst 0, 1) := by decide +kernel
theorem d_X_isField_24 : decode b_X_isField 24 = .ok (.ireturn, 1) := by decide +kernel
abbrev b_X_isFieldRight : ByteArray := prog_11_method_19_code
abbrev y_X_isFieldRight : MethodName := ⟨"SignMachineModel", "isFieldRight", "()Z"⟩
theorem h_X_isFieldRight : (y_X_isFieldRight).cls ≠ "java/lang/invoke/MethodHandle" ∧ (y_X_isFieldRight).cls ≠ "java/lang/invoke/VarHandle" ∧ (parseMethodDescriptor (y_X_isFieldRight).desc).map (fun d => d.parameters.length) = some 0 := by decide +kernel
theorem d_X_isFieldRight_0 : decode b_X_isFieldRight 0 = .ok (.aload_n 0, 1) := by decide +kernel
theorem d_X_isFieldRight_1 : decode b_X_isFieldRight 1 = .ok (.getfield 132, 3) := by decide +kernel
theorem d_X_isFieldRight_4 : decode b_X_isFieldRight 4 = .ok (.invokestatic 150, 3) := by decide +kernel
theorem d_X_isFieldRight_7 : decode b_X_isFieldRight 7 = .ok (.ifCond .eq 11, 3) := by decide +kernel
theorem d_X_isFieldRight_10 : decode b_X_isFieldRight 10 = .ok (.aload_n 0, 1) := by decide +kernel
theorem d_X_isFieldRight_11 : decode b_X_isFieldRight 11 = .ok (.getfield 135, 3) := by decide +kernel
theorem d_X_isFieldRight_14 : decode b_X_isFieldRight 14 = .ok (.invokestatic 153, 3) := by decide +kernel
theorem d_X_isFieldRight_17 : decode b_X_isFieldRight 17 = .ok (.ireturn, 1) := by decide +kernel
theorem d_X_isFieldRight_18 : decode b_X_isFieldRight 18 = .ok (.aload_n 0, 1) := by decide +kernel
theorem d_X_isFieldRight_19 : decode b_X_isFieldRight 19 = .ok (.getfield 132, 3) := by decide +kernel
theorem d_X_isFieldRight_22 : decode b_X_isFieldRight 22 = .ok (.tableswitch 233 0 39 #[174, 233, 233, 233, 233, 176, 190, 174, 233, 233, 233, 233, 233, 233, 233, 233, 233, 233, 233, 233, 233, 233, 233, 233, 233, 233, 233, 233, 233, 233, 233, 233, 233, 233, 204, 204, 204, 204, 204, 218], 174) := by decide +kernel
theorem d_X_isFieldRight_196 : decode b_X_isFieldRight 196 = .ok (.iconst 1, 1) := by decide +kernel
theorem d_X_isFieldRight_197 : decode b_X_isFieldRight 197 = .ok (.ireturn, 1) := by decide +kernel
theorem d_X_isFieldRight_198 : decode b_X_isFieldRight 198 = .ok (.aload_n 0, 1) := by decide +kernel
theorem d_X_isFieldRight_199 : decode b_X_isFieldRight 199 = .ok (.getfield 135, 3) := by decide +kernel
theorem d_X_isFieldRight_202 : decode b_X_isFieldRight 202 = .ok (.iconst 2, 1) := by decide +kernel
theorem d_X_isFieldRight_203 : decode b_X_isFieldRight 203 = .ok (.if_icmp .gt 7, 3) := by decide +kernel
theorem d_X_isFieldRight_206 : decode b_X_isFieldRight 206 = .ok (.iconst 1, 1) := by decide +kernel
theorem d_X_isFieldRight_207 : decode b_X_isFieldRight 207 = .ok (.goto 4, 3) := by decide +kernel
theorem d_X_isFieldRight_210 : decode b_X_isFieldRight 210 = .ok (.iconst 0, 1) := by decide +kernel
theorem d_X_isFieldRight_211 : decode b_X_isFieldRight 211 = .ok (.ireturn, 1) := by decide +kernel
theorem d_X_isFieldRight_212 : decode b_X_isFieldRight 212 = .ok (.aload_n 0, 1) := by decide +kernel
theorem d_X_isFieldRight_213 : decode b_X_isFieldRight 213 = .ok (.getfield 135, 3) := by decide +kernel
theorem d_X_isFieldRight_216 : decode b_X_isFieldRight 216 = .ok (.iconst 5, 1) := by decide +kernel
theorem d_X_isFieldRight_217 : decode b_X_isFieldRight 217 = .ok (.if_icmp .gt 7, 3) := by decide +kernel
theorem d_X_isFieldRight_220 : decode b_X_isFieldRight 220 = .ok (.iconst 1, 1) := by decide +kernel
theorem d_X_isFieldRight_221 : decode b_X_isFieldRight 221 = .ok (.goto 4, 3) := by decide +kernel
theorem d_X_isFieldRight_224 : decode b_X_isFieldRight 224 = .ok (.iconst 0, 1) := by decide +kernel
theorem d_X_isFieldRight_225 : decode b_X_isFieldRight 225 = .ok (.ireturn, 1) := by decide +kernel
theorem d_X_isFieldRight_226 : decode b_X_isFieldRight 226 = .ok (.aload_n 0, 1) := by decide +kernel
theorem d_X_isFieldRight_227 : decode b_X_isFieldRight 227 = .ok (.getfield 135, 3) := by decide +kernel
theorem d_X_isFieldRight_230 : decode b_X_isFieldRight 230 = .ok (.iconst 1, 1) := by decide +kernel
theorem d_X_isFieldRight_231 : decode b_X_isFieldRight 231 = .ok (.if_icmp .gt 7, 3) := by decide +kernel
theorem d_X_isFieldRight_234 : decode b_X_isFieldRight 234 = .ok (.iconst 1, 1) := by decide +kernel
theorem d_X_isFieldRight_235 : decode b_X_isFieldRight 235 = .ok (.goto 4, 3) := by decide +kernel
theorem d_X_isFieldRight_238 : decode b_X_isFieldRight 238 = .ok (.iconst 0, 1) := by decide +kernel
theorem d_X_isFieldRight_239 : decode b_X_isFieldRight 239 = .ok (.ireturn, 1) := by decide +kernel
theorem d_X_isFieldRight_240 : decode b_X_isFieldRight 240 = .ok (.aload_n 0, 1) := by decide +kernel
theorem d_X_isFieldRight_241 : decode b_X_isFieldRight 241 = .ok (.getfield 135, 3) := by decide +kernel
theorem d_X_isFieldRight_244 : decode b_X_isFieldRight 244 = .ok (.bipush 9, 2) := by decide +kernel
theorem d_X_isFieldRight_246 : decode b_X_isFieldRight 246 = .ok (.if_icmp .gt 7, 3) := by decide +kernel
theorem d_X_isFieldRight_249 : decode b_X_isFieldRight 249 = .ok (.iconst 1, 1) := by decide +kernel
theorem d_X_isFieldRight_250 : decode b_X_isFieldRight 250 = .ok (.goto 4, 3) := by decide +kernel
theorem d_X_isFieldRight_253 : decode b_X_isFieldRight 253 = .ok (.iconst 0, 1) := by decide +kernel
theorem d_X_isFieldRight_254 : decode b_X_isFieldRight 254 = .ok (.ireturn, 1) := by decide +kernel
theorem d_X_isFieldRight_255 : decode b_X_isFieldRight 255 = .ok (.aload_n 0, 1) := by decide +kernel
theorem d_X_isFieldRight_256 : decode b_X_isFieldRight 256 = .ok (.getfield 132, 3) := by decide +kernel
theorem d_X_isFieldRight_259 : decode b_X_isFieldRight 259 = .ok (.bipush 47, 2) := by decide +kernel
theorem d_X_isFieldRight_261 : decode b_X_isFieldRight 261 = .ok (.if_icmp .gt 19, 3) := by decide +kernel
theorem d_X_isFieldRight_264 : decode b_X_isFieldRight 264 = .ok (.aload_n 0, 1) := by decide +kernel
theorem d_X_isFieldRight_265 : decode b_X_isFieldRight 265 = .ok (.getfield 135, 3) := by decide +kernel
theorem d_X_isFieldRight_268 : decode b_X_isFieldRight 268 = .ok (.iconst 5, 1) := by decide +kernel
theorem d_X_isFieldRight_269 : decode b_X_isFieldRight 269 = .ok (.if_icmp .gt 7, 3) := by decide +kernel
theorem d_X_isFieldRight_272 : decode b_X_isFieldRight 272 = .ok (.iconst 1, 1) := by decide +kernel
theorem d_X_isFieldRight_273 : decode b_X_isFieldRight 273 = .ok (.goto 20, 3) := by decide +kernel
theorem d_X_isFieldRight_276 : decode b_X_isFieldRight 276 = .ok (.iconst 0, 1) := by decide +kernel
theorem d_X_isFieldRight_277 : decode b_X_isFieldRight 277 = .ok (.goto 16, 3) := by decide +kernel
theorem d_X_isFieldRight_280 : decode b_X_isFieldRight 280 = .ok (.aload_n 0, 1) := by decide +kernel
theorem d_X_isFieldRight_281 : decode b_X_isFieldRight 281 = .ok (.getfield 135, 3) := by decide +kernel
theorem d_X_isFieldRight_284 : decode b_X_isFieldRight 284 = .ok (.iconst 3, 1) := by decide +kernel
theorem d_X_isFieldRight_285 : decode b_X_isFieldRight 285 = .ok (.if_icmp .gt 7, 3) := by decide +kernel
theorem d_X_isFieldRight_288 : decode b_X_isFieldRight 288 = .ok (.iconst 1, 1) := by decide +kernel
theorem d_X_isFieldRight_289 : decode b_X_isFieldRight 289 = .ok (.goto 4, 3) := by decide +kernel
theorem d_X_isFieldRight_292 : decode b_X_isFieldRight 292 = .ok (.iconst 0, 1) := by decide +kernel
theorem d_X_isFieldRight_293 : decode b_X_isFieldRight 293 = .ok (.ireturn, 1) := by decide +kernel
abbrev b_X_isIn : ByteArray := prog_11_method_3_code
abbrev y_X_isIn : MethodName := ⟨"SignMachineModel", "isIn", "(JJJ)Z"⟩
theorem h_X_isIn : (y_X_isIn).cls ≠ "java/lang/invoke/MethodHandle" ∧ (y_X_isIn).cls ≠ "java/lang/invoke/VarHandle" ∧ (parseMethodDescriptor (y_X_isIn).desc).map (fun d => d.parameters.length) = some 3 := by decide +kernel
theorem d_X_isIn_0 : decode b_X_isIn 0 = .ok (.lload_n 0, 1) := by decide +kernel
theorem d_X_isIn_1 : decode b_X_isIn 1 = .ok (.lload_n 2, 1) := by decide +kernel
theorem d_X_isIn_2 : decode b_X_isIn 2 = .ok (.lcmp, 1) := by decide +kernel
theorem d_X_isIn_3 : decode b_X_isIn 3 = .ok (.ifCond .lt 14, 3) := by decide +kernel
theorem d_X_isIn_6 : decode b_X_isIn 6 = .ok (.lload_n 0, 1) := by decide +kernel
theorem d_X_isIn_7 : decode b_X_isIn 7 = .ok (.lload 4, 2) := by decide +kernel
theorem d_X_isIn_9 : decode b_X_isIn 9 = .ok (.lcmp, 1) := by decide +kernel
theorem d_X_isIn_10 : decode b_X_isIn 10 = .ok (.ifCond .gt 7, 3) := by decide +kernel
theorem d_X_isIn_13 : decode b_X_isIn 13 = .ok (.iconst 1, 1) := by decide +kernel
theorem d_X_isIn_14 : decode b_X_isIn 14 = .ok (.goto 4, 3) := by decide +kernel
theorem d_X_isIn_17 : decode b_X_isIn 17 = .ok (.iconst 0, 1) := by decide +kernel
theorem d_X_isIn_18 : decode b_X_isIn 18 = .ok (.ireturn, 1) := by decide +kernel
abbrev b_X_isLetter : ByteArray := prog_11_method_53_code
abbrev y_X_isLetter : MethodName := ⟨"SignMachineModel", "isLetter", "(I)Z"⟩
theorem h_X_isLetter : (y_X_isLetter).cls ≠ "java/lang/invoke/MethodHandle" ∧ (y_X_isLetter).cls ≠ "java/lang/invoke/VarHandle" ∧ (parseMethodDescriptor (y_X_isLetter).desc).map (fun d => d.parameters.length) = some 1 := by decide +kernel
theorem d_X_isLetter_0 : decode b_X_isLetter 0 = .ok (.iload_n 0, 1) := by decide +kernel
theorem d_X_isLetter_1 : decode b_X_isLetter 1 = .ok (.bipush 65, 2) := by decide +kernel
theorem d_X_isLetter_3 : decode b_X_isLetter 3 = .ok (.if_icmp .lt 13, 3) := by decide +kernel
theorem d_X_isLetter_6 : decode b_X_isLetter 6 = .ok (.iload_n 0, 1) := by decide +kernel
theorem d_X_isLetter_7 : decode b_X_isLetter 7 = .ok (.bipush 90, 2) := by decide +kernel
theorem d_X_isLetter_9 : decode b_X_isLetter 9 = .ok (.if_icmp .gt 7, 3) := by decide +kernel
theorem d_X_isLetter_12 : decode b_X_isLetter 12 = .ok (.iconst 1, 1) := by decide +kernel
theorem d_X_isLetter_13 : decode b_X_isLetter 13 = .ok (.goto 4, 3) := by decide +kernel
theorem d_X_isLetter_16 : decode b_X_isLetter 16 = .ok (.iconst 0, 1) := by decide +kernel
theorem d_X_isLetter_17 : decode b_X_isLetter 17 = .ok (.ireturn, 1) := by decide +kernel
abbrev b_X_isNothing : ByteArray := prog_11_method_83_code
abbrev y_X_isNothing : MethodName := ⟨"SignMachineModel", "isNothing", "()Z"⟩
theorem h_X_isNothing : (y_X_isNothing).cls ≠ "java/lang/invoke/MethodHandle" ∧ (y_X_isNothing).cls ≠ "java/lang/invoke/VarHandle" ∧ (parseMethodDescriptor (y_X_isNothing).desc).map (fun d => d.parameters.length) = some 0 := by decide +kernel
theorem d_X_isNothing_0 : decode b_X_isNothing 0 = .ok (.iconst 1, 1) := by decide +kernel
theorem d_X_isNothing_1 : decode b_X_isNothing 1 = .ok (.istore_n 1, 1) := by decide +kernel
theorem d_X_isNothing_2 : decode b_X_isNothing 2 = .ok (.aload_n 0, 1) := by decide +kernel
theorem d_X_isNothing_3 : decode b_X_isNothing 3 = .ok (.getfield 282, 3) := by decide +kernel
theorem d_X_isNothing_6 : decode b_X_isNothing 6 = .ok (.istore_n 2, 1) := by decide +kernel
theorem d_X_isNothing_7 : decode b_X_isNothing 7 = .ok (.iload_n 2, 1) := by decide +kernel
theorem d_X_isNothing_8 : decode b_X_isNothing 8 = .ok (.aload_n 0, 1) := by decide +kernel
theorem d_X_isNothing_9 : decode b_X_isNothing 9 = .ok (.getfield 285, 3) := by decide +kernel
theorem d_X_isNothing_12 : decode b_X_isNothing 12 = .ok (.if_icmp .ge 30, 3) := by decide +kernel
theorem d_X_isNothing_15 : decode b_X_isNothing 15 = .ok (.iload_n 1, 1) := by decide +kernel
theorem d_X_isNothing_16 : decode b_X_isNothing 16 = .ok (.ifCond .eq 18, 3) := by decide +kernel
theorem d_X_isNothing_19 : decode b_X_isNothing 19 = .ok (.aload_n 0, 1) := by decide +kernel
theorem d_X_isNothing_20 : decode b_X_isNothing 20 = .ok (.getfield 37, 3) := by decide +kernel
theorem d_X_isNothing_23 : decode b_X_isNothing 23 = .ok (.iload_n 2, 1) := by decide +kernel
theorem d_X_isNothing_24 : decode b_X_isNothing 24 = .ok (.iaload, 1) := by decide +kernel
theorem d_X_isNothing_25 : decode b_X_isNothing 25 = .ok (.bipush 32, 2) := by decide +kernel
theorem d_X_isNothing_27 : decode b_X_isNothing 27 = .ok (.if_icmp .ne 7, 3) := by decide +kernel
theorem d_X_isNothing_30 : decode b_X_isNothing 30 = .ok (.iconst 1, 1) := by decide +kernel
theorem d_X_isNothing_31 : decode b_X_isNothing 31 = .ok (.goto 4, 3) := by decide +kernel
theorem d_X_isNothing_34 : decode b_X_isNothing 34 = .ok (.iconst 0, 1) := by decide +kernel
theorem d_X_isNothing_35 : decode b_X_isNothing 35 = .ok (.istore_n 1, 1) := by decide +kernel
theorem d_X_isNothing_36 : decode b_X_isNothing 36 = .ok (.iinc 2 1, 3) := by decide +kernel
theorem d_X_isNothing_39 : decode b_X_isNothing 39 = .ok (.goto (-32), 3) := by decide +kernel
theorem d_X_isNothing_42 : decode b_X_isNothing 42 = .ok (.iload_n 1, 1) := by decide +kernel
theorem d_X_isNothing_43 : decode b_X_isNothing 43 = .ok (.ifCond .ne 17, 3) := by decide +kernel
theorem d_X_isNothing_46 : decode b_X_isNothing 46 = .ok (.aload_n 0, 1) := by decide +kernel
theorem d_X_isNothing_47 : decode b_X_isNothing 47 = .ok (.getfield 37, 3) := by decide +kernel
theorem d_X_isNothing_50 : decode b_X_isNothing 50 = .ok (.aload_n 0, 1) := by decide +kernel
theorem d_X_isNothing_51 : decode b_X_isNothing 51 = .ok (.getfield 282, 3) := by decide +kernel
theorem d_X_isNothing_54 : decode b_X_isNothing 54 = .ok (.iaload, 1) := by decide +kernel
theorem d_X_isNothing_55 : decode b_X_isNothing 55 = .ok (.bipush 59, 2) := by decide +kernel
theorem d_X_isNothing_57 : decode b_X_isNothing 57 = .ok (.if_icmp .ne 7, 3) := by decide +kernel
theorem d_X_isNothing_60 : decode b_X_isNothing 60 = .ok (.iconst 1, 1) := by decide +kernel
theorem d_X_isNothing_61 : decode b_X_isNothing 61 = .ok (.goto 4, 3) := by decide +kernel
theorem d_X_isNothing_64 : decode b_X_isNothing 64 = .ok (.iconst 0, 1) := by decide +kernel
theorem d_X_isNothing_65 : decode b_X_isNothing 65 = .ok (.ireturn, 1) := by decide +kernel
abbrev b_X_isOperator : ByteArray := prog_11_method_60_code
abbrev y_X_isOperator : MethodName := ⟨"SignMachineModel", "isOperator", "(I)Z"⟩
theorem h_X_isOperator : (y_X_isOperator).cls ≠ "java/lang/invoke/MethodHandle" ∧ (y_X_isOperator).cls ≠ "java/lang/invoke/VarHandle" ∧ (parseMethodDescriptor (y_X_isOperator).desc).map (fun d => d.parameters.length) = some 1 := by decide +kernel
theorem d_X_isOperator_0 : decode b_X_isOperator 0 = .ok (.iload_n 0, 1) := by decide +kernel
theorem d_X_isOperator_1 : decode b_X_isOperator 1 = .ok (.bipush 43, 2) := by decide +kernel
theorem d_X_isOperator_3 : decode b_X_isOperator 3 = .ok (.if_icmp .eq 27, 3) := by decide +kernel
theorem d_X_isOperator_6 : decode b_X_isOperator 6 = .ok (.iload_n 0, 1) := by decide +kernel
theorem d_X_isOperator_7 : decode b_X_isOperator 7 = .ok (.bipush 45, 2) := by decide +kernel
theorem d_X_isOperator_9 : decode b_X_isOperator 9 = .ok (.if_icmp .eq 21, 3) := by decide +kernel
theorem d_X_isOperator_12 : decode b_X_isOperator 12 = .ok (.iload_n 0, 1) := by decide +kernel
theorem d_X_isOperator_13 : decode b_X_isOperator 13 = .ok (.bipush 42, 2) := by decide +kernel
theorem d_X_isOperator_15 : decode b_X_isOperator 15 = .ok (.if_icmp .eq 15, 3) := by decide +kernel
theorem d_X_isOperator_18 : decode b_X_isOperator 18 = .ok (.iload_n 0, 1) := by decide +kernel
theorem d_X_isOperator_19 : decode b_X_isOperator 19 = .ok (.bipush 47, 2) := by decide +kernel
theorem d_X_isOperator_21 : decode b_X_isOperator 21 = .ok (.if_icmp .eq 9, 3) := by decide +kernel
theorem d_X_isOperator_24 : decode b_X_isOperator 24 = .ok (.iload_n 0, 1) := by decide +kernel
theorem d_X_isOperator_25 : decode b_X_isOperator 25 = .ok (.bipush 58, 2) := by decide +kernel
theorem d_X_isOperator_27 : decode b_X_isOperator 27 = .ok (.if_icmp .ne 7, 3) := by decide +kernel
theorem d_X_isOperator_30 : decode b_X_isOperator 30 = .ok (.iconst 1, 1) := by decide +kernel
theorem d_X_isOperator_31 : decode b_X_isOperator 31 = .ok (.goto 4, 3) := by decide +kernel
theorem d_X_isOperator_34 : decode b_X_isOperator 34 = .ok (.iconst 0, 1) := by decide +kernel
theorem d_X_isOperator_35 : decode b_X_isOperator 35 = .ok (.ireturn, 1) := by decide +kernel
abbrev b_X_isShort : ByteArray := prog_11_method_9_code
abbrev y_X_isShort : MethodName := ⟨"SignMachineModel", "isShort", "(I)Z"⟩
theorem h_X_isShort : (y_X_isShort).cls ≠ "java/lang/invoke/MethodHandle" ∧ (y_X_isShort).cls ≠ "java/lang/invoke/VarHandle" ∧ (parseMethodDescriptor (y_X_isShort).desc).map (fun d => d.parameters.length) = some 1 := by decide +kernel
theorem d_X_isShort_0 : decode b_X_isShort 0 = .ok (.iload_n 0, 1) := by decide +kernel
theorem d_X_isShort_1 : decode b_X_isShort 1 = .ok (.ifCond .eq 13, 3) := by decide +kernel
theorem d_X_isShort_4 : decode b_X_isShort 4 = .ok (.iload_n 0, 1) := by decide +kernel
theorem d_X_isShort_5 : decode b_X_isShort 5 = .ok (.bipush 7, 2) := by decide +kernel
theorem d_X_isShort_7 : decode b_X_isShort 7 = .ok (.if_icmp .eq 7, 3) := by decide +kernel
theorem d_X_isShort_10 : decode b_X_isShort 10 = .ok (.iconst 1, 1) := by decide +kernel
theorem d_X_isShort_11 : decode b_X_isShort 11 = .ok (.goto 4, 3) := by decide +kernel
theorem d_X_isShort_14 : decode b_X_isShort 14 = .ok (.iconst 0, 1) := by decide +kernel
theorem d_X_isShort_15 : decode b_X_isShort 15 = .ok (.ireturn, 1) := by decide +kernel
abbrev b_X_isWord : ByteArray := prog_11_method_20_code
abbrev y_X_isWord : MethodName := ⟨"SignMachineModel", "isWord", "(J)Z"⟩
theorem h_X_isWord : (y_X_isWord).cls ≠ "java/lang/invoke/MethodHandle" ∧ (y_X_isWord).cls ≠ "java/lang/invoke/VarHandle" ∧ (parseMethodDescriptor (y_X_isWord).desc).map (fun d => d.parameters.length) = some 1 := by decide +kernel
theorem d_X_isWord_0 : decode b_X_isWord 0 = .ok (.lload_n 0, 1) := by decide +kernel
theorem d_X_isWord_1 : decode b_X_isWord 1 = .ok (.lconst 0, 1) := by decide +kernel
theorem d_X_isWord_2 : decode b_X_isWord 2 = .ok (.lcmp, 1) := by decide +kernel
theorem d_X_isWord_3 : decode b_X_isWord 3 = .ok (.ifCond .lt 15, 3) := by decide +kernel
theorem d_X_isWord_6 : decode b_X_isWord 6 = .ok (.lload_n 0, 1) := by decide +kernel
theorem d_X_isWord_7 : decode b_X_isWord 7 = .ok (.ldc2_w 156, 3) := by decide +kernel
theorem d_X_isWord_10 : decode b_X_isWord 10 = .ok (.lcmp, 1) := by decide +kernel
theorem d_X_isWord_11 : decode b_X_isWord 11 = .ok (.ifCond .ge 7, 3) := by decide +kernel
theorem d_X_isWord_14 : decode b_X_isWord 14 = .ok (.iconst 1, 1) := by decide +kernel
theorem d_X_isWord_15 : decode b_X_isWord 15 = .ok (.goto 4, 3) := by decide +kernel
theorem d_X_isWord_18 : decode b_X_isWord 18 = .ok (.iconst 0, 1) := by decide +kernel
theorem d_X_isWord_19 : decode b_X_isWord 19 = .ok (.ireturn, 1) := by decide +kernel
abbrev b_X_judge : ByteArray := prog_11_method_26_code
abbrev y_X_judge : MethodName := ⟨"SignMachineModel", "judge", "()I"⟩
theorem h_X_judge : (y_X_judge).cls ≠ "java/lang/invoke/MethodHandle" ∧ (y_X_judge).cls ≠ "java/lang/invoke/VarHandle" ∧ (parseMethodDescriptor (y_X_judge).desc).map (fun d => d.parameters.length) = some 0 := by decide +kernel
theorem d_X_judge_0 : decode b_X_judge 0 = .ok (.aload_n 0, 1) := by decide +kernel
theorem d_X_judge_1 : decode b_X_judge 1 = .ok (.getfield 110, 3) := by decide +kernel
theorem d_X_judge_4 : decode b_X_judge 4 = .ok (.sipush 4000, 3) := by decide +kernel
theorem d_X_judge_7 : decode b_X_judge 7 = .ok (.if_icmp .lt 5, 3) := by decide +kernel
theorem d_X_judge_10 : decode b_X_judge 10 = .ok (.iconst 3, 1) := by decide +kernel
theorem d_X_judge_11 : decode b_X_judge 11 = .ok (.ireturn, 1) := by decide +kernel
theorem d_X_judge_12 : decode b_X_judge 12 = .ok (.aload_n 0, 1) := by decide +kernel
theorem d_X_judge_13 : decode b_X_judge 13 = .ok (.invokevirtual 182, 3) := by decide +kernel
theorem d_X_judge_16 : decode b_X_judge 16 = .ok (.aload_n 0, 1) := by decide +kernel
theorem d_X_judge_17 : decode b_X_judge 17 = .ok (.getfield 138, 3) := by decide +kernel
theorem d_X_judge_20 : decode b_X_judge 20 = .ok (.bipush 6, 2) := by decide +kernel
theorem d_X_judge_22 : decode b_X_judge 22 = .ok (.if_icmp .gt 10, 3) := by decide +kernel
theorem d_X_judge_25 : decode b_X_judge 25 = .ok (.aload_n 0, 1) := by decide +kernel
theorem d_X_judge_26 : decode b_X_judge 26 = .ok (.invokevirtual 185, 3) := by decide +kernel
theorem d_X_judge_29 : decode b_X_judge 29 = .ok (.ifCond .ne 5, 3) := by decide +kernel
theorem d_X_judge_32 : decode b_X_judge 32 = .ok (.iconst 2, 1) := by decide +kernel
theorem d_X_judge_33 : decode b_X_judge 33 = .ok (.ireturn, 1) := by decide +kernel
theorem d_X_judge_34 : decode b_X_judge 34 = .ok (.aload_n 0, 1) := by decide +kernel
theorem d_X_judge_35 : decode b_X_judge 35 = .ok (.invokevirtual 189, 3) := by decide +kernel
theorem d_X_judge_38 : decode b_X_judge 38 = .ok (.ifCond .ne 7, 3) := by decide +kernel
theorem d_X_judge_41 : decode b_X_judge 41 = .ok (.iconst 3, 1) := by decide +kernel
theorem d_X_judge_42 : decode b_X_judge 42 = .ok (.goto 26, 3) := by decide +kernel
theorem d_X_judge_45 : decode b_X_judge 45 = .ok (.aload_n 0, 1) := by decide +kernel
theorem d_X_judge_46 : decode b_X_judge 46 = .ok (.invokevirtual 192, 3) := by decide +kernel
theorem d_X_judge_49 : decode b_X_judge 49 = .ok (.ifCond .ne 7, 3) := by decide +kernel
theorem d_X_judge_52 : decode b_X_judge 52 = .ok (.iconst 4, 1) := by decide +kernel
theorem d_X_judge_53 : decode b_X_judge 53 = .ok (.goto 15, 3) := by decide +kernel
theorem d_X_judge_56 : decode b_X_judge 56 = .ok (.aload_n 0, 1) := by decide +kernel
theorem d_X_judge_57 : decode b_X_judge 57 = .ok (.invokevirtual 195, 3) := by decide +kernel
theorem d_X_judge_60 : decode b_X_judge 60 = .ok (.ifCond .ne 7, 3) := by decide +kernel
theorem d_X_judge_63 : decode b_X_judge 63 = .ok (.iconst 5, 1) := by decide +kernel
theorem d_X_judge_64 : decode b_X_judge 64 = .ok (.goto 4, 3) := by decide +kernel
theorem d_X_judge_67 : decode b_X_judge 67 = .ok (.iconst 0, 1) := by decide +kernel
theorem d_X_judge_68 : decode b_X_judge 68 = .ok (.ireturn, 1) := by decide +kernel
abbrev b_X_jumpOf : ByteArray := prog_11_method_73_code
abbrev y_X_jumpOf : MethodName := ⟨"SignMachineModel", "jumpOf", "(J)I"⟩
theorem h_X_jumpOf : (y_X_jumpOf).cls ≠ "java/lang/invoke/MethodHandle" ∧ (y_X_jumpOf).cls ≠ "java/lang/invoke/VarHandle" ∧ (parseMethodDescriptor (y_X_jumpOf).desc).map (fun d => d.parameters.length) = some 1 := by decide +kernel
theorem d_X_jumpOf_0 : decode b_X_jumpOf 0 = .ok (.lload_n 0, 1) := by decide +kernel
theorem d_X_jumpOf_1 : decode b_X_jumpOf 1 = .ok (.ldc2_w 462, 3) := by decide +kernel
theorem d_X_jumpOf_4 : decode b_X_jumpOf 4 = .ok (.lcmp, 1) := by decide +kernel
theorem d_X_jumpOf_5 : decode b_X_jumpOf 5 = .ok (.ifCond .ne 7, 3) := by decide +kernel
theorem d_X_jumpOf_8 : decode b_X_jumpOf 8 = .ok (.iconst 0, 1) := by decide +kernel
theorem d_X_jumpOf_9 : decode b_X_jumpOf 9 = .ok (.goto 64, 3) := by decide +kernel
theorem d_X_jumpOf_12 : decode b_X_jumpOf 12 = .ok (.lload_n 0, 1) := by decide +kernel
theorem d_X_jumpOf_13 : decode b_X_jumpOf 13 = .ok (.ldc2_w 464, 3) := by decide +kernel
theorem d_X_jumpOf_16 : decode b_X_jumpOf 16 = .ok (.lcmp, 1) := by decide +kernel
theorem d_X_jumpOf_17 : decode b_X_jumpOf 17 = .ok (.ifCond .ne 7, 3) := by decide +kernel
theorem d_X_jumpOf_20 : decode b_X_jumpOf 20 = .ok (.iconst 1, 1) := by decide +kernel
theorem d_X_jumpOf_21 : decode b_X_jumpOf 21 = .ok (.goto 52, 3) := by decide +kernel
theorem d_X_jumpOf_24 : decode b_X_jumpOf 24 = .ok (.lload_n 0, 1) := by decide +kernel
theorem d_X_jumpOf_25 : decode b_X_jumpOf 25 = .ok (.ldc2_w 466, 3) := by decide +kernel
theorem d_X_jumpOf_28 : decode b_X_jumpOf 28 = .ok (.lcmp, 1) := by decide +kernel
theorem d_X_jumpOf_29 : decode b_X_jumpOf 29 = .ok (.ifCond .ne 7, 3) := by decide +kernel
theorem d_X_jumpOf_32 : decode b_X_jumpOf 32 = .ok (.iconst 2, 1) := by decide +kernel
theorem d_X_jumpOf_33 : decode b_X_jumpOf 33 = .ok (.goto 40, 3) := by decide +kernel
theorem d_X_jumpOf_36 : decode b_X_jumpOf 36 = .ok (.lload_n 0, 1) := by decide +kernel
theorem d_X_jumpOf_37 : decode b_X_jumpOf 37 = .ok (.ldc2_w 468, 3) := by decide +kernel
theorem d_X_jumpOf_40 : decode b_X_jumpOf 40 = .ok (.lcmp, 1) := by decide +kernel
theorem d_X_jumpOf_41 : decode b_X_jumpOf 41 = .ok (.ifCond .ne 7, 3) := by decide +kernel
theorem d_X_jumpOf_44 : decode b_X_jumpOf 44 = .ok (.iconst 3, 1) := by decide +kernel
theorem d_X_jumpOf_45 : decode b_X_jumpOf 45 = .ok (.goto 28, 3) := by decide +kernel
theorem d_X_jumpOf_48 : decode b_X_jumpOf 48 = .ok (.lload_n 0, 1) := by decide +kernel
theorem d_X_jumpOf_49 : decode b_X_jumpOf 49 = .ok (.ldc2_w 470, 3) := by decide +kernel
theorem d_X_jumpOf_52 : decode b_X_jumpOf 52 = .ok (.lcmp, 1) := by decide +kernel
theorem d_X_jumpOf_53 : decode b_X_jumpOf 53 = .ok (.ifCond .ne 7, 3) := by decide +kernel
theorem d_X_jumpOf_56 : decode b_X_jumpOf 56 = .ok (.iconst 4, 1) := by decide +kernel
theorem d_X_jumpOf_57 : decode b_X_jumpOf 57 = .ok (.goto 16, 3) := by decide +kernel
theorem d_X_jumpOf_60 : decode b_X_jumpOf 60 = .ok (.lload_n 0, 1) := by decide +kernel
theorem d_X_jumpOf_61 : decode b_X_jumpOf 61 = .ok (.ldc2_w 472, 3) := by decide +kernel
theorem d_X_jumpOf_64 : decode b_X_jumpOf 64 = .ok (.lcmp, 1) := by decide +kernel
theorem d_X_jumpOf_65 : decode b_X_jumpOf 65 = .ok (.ifCond .ne 7, 3) := by decide +kernel
theorem d_X_jumpOf_68 : decode b_X_jumpOf 68 = .ok (.iconst 5, 1) := by decide +kernel
theorem d_X_jumpOf_69 : decode b_X_jumpOf 69 = .ok (.goto 4, 3) := by decide +kernel
theorem d_X_jumpOf_72 : decode b_X_jumpOf 72 = .ok (.iconst (-1), 1) := by decide +kernel
theorem d_X_jumpOf_73 : decode b_X_jumpOf 73 = .ok (.ireturn, 1) := by decide +kernel
abbrev b_X_laterSymbol : ByteArray := prog_11_method_67_code
abbrev y_X_laterSymbol : MethodName := ⟨"SignMachineModel", "laterSymbol", "(J)V"⟩
theorem h_X_laterSymbol : (y_X_laterSymbol).cls ≠ "java/lang/invoke/MethodHandle" ∧ (y_X_laterSymbol).cls ≠ "java/lang/invoke/VarHandle" ∧ (parseMethodDescriptor (y_X_laterSymbol).desc).map (fun d => d.parameters.length) = some 1 := by decide +kernel
theorem d_X_laterSymbol_0 : decode b_X_laterSymbol 0 = .ok (.aload_n 0, 1) := by decide +kernel
theorem d_X_laterSymbol_1 : decode b_X_laterSymbol 1 = .ok (.lload_n 1, 1) := by decide +kernel
theorem d_X_laterSymbol_2 : decode b_X_laterSymbol 2 = .ok (.invokevirtual 327, 3) := by decide +kernel
theorem d_X_laterSymbol_5 : decode b_X_laterSymbol 5 = .ok (.istore_n 3, 1) := by decide +kernel
theorem d_X_laterSymbol_6 : decode b_X_laterSymbol 6 = .ok (.iload_n 3, 1) := by decide +kernel
theorem d_X_laterSymbol_7 : decode b_X_laterSymbol 7 = .ok (.bipush (-2), 2) := by decide +kernel
theorem d_X_laterSymbol_9 : decode b_X_laterSymbol 9 = .ok (.if_icmp .ne 35, 3) := by decide +kernel
theorem d_X_laterSymbol_12 : decode b_X_laterSymbol 12 = .ok (.aload_n 0, 1) := by decide +kernel
theorem d_X_laterSymbol_13 : decode b_X_laterSymbol 13 = .ok (.lload_n 1, 1) := by decide +kernel
theorem d_X_laterSymbol_14 : decode b_X_laterSymbol 14 = .ok (.invokevirtual 359, 3) := by decide +kernel
theorem d_X_laterSymbol_17 : decode b_X_laterSymbol 17 = .ok (.istore_n 3, 1) := by decide +kernel
theorem d_X_laterSymbol_18 : decode b_X_laterSymbol 18 = .ok (.iload_n 3, 1) := by decide +kernel
theorem d_X_laterSymbol_19 : decode b_X_laterSymbol 19 = .ok (.bipush (-2), 2) := by decide +kernel
theorem d_X_laterSymbol_21 : decode b_X_laterSymbol 21 = .ok (.if_icmp .eq 23, 3) := by decide +kernel
theorem d_X_laterSymbol_24 : decode b_X_laterSymbol 24 = .ok (.aload_n 0, 1) := by decide +kernel
theorem d_X_laterSymbol_25 : decode b_X_laterSymbol 25 = .ok (.getfield 82, 3) := by decide +kernel
theorem d_X_laterSymbol_28 : decode b_X_laterSymbol 28 = .ok (.aload_n 0, 1) := by decide +kernel
theorem d_X_laterSymbol_29 : decode b_X_laterSymbol 29 = .ok (.getfield 362, 3) := by decide +kernel
theorem d_X_laterSymbol_32 : decode b_X_laterSymbol 32 = .ok (.iload_n 3, 1) := by decide +kernel
theorem d_X_laterSymbol_33 : decode b_X_laterSymbol 33 = .ok (.iastore, 1) := by decide +kernel
theorem d_X_laterSymbol_34 : decode b_X_laterSymbol 34 = .ok (.aload_n 0, 1) := by decide +kernel
theorem d_X_laterSymbol_35 : decode b_X_laterSymbol 35 = .ok (.dup, 1) := by decide +kernel
theorem d_X_laterSymbol_36 : decode b_X_laterSymbol 36 = .ok (.getfield 362, 3) := by decide +kernel
theorem d_X_laterSymbol_39 : decode b_X_laterSymbol 39 = .ok (.iconst 1, 1) := by decide +kernel
theorem d_X_laterSymbol_40 : decode b_X_laterSymbol 40 = .ok (.iadd, 1) := by decide +kernel
theorem d_X_laterSymbol_41 : decode b_X_laterSymbol 41 = .ok (.putfield 362, 3) := by decide +kernel
theorem d_X_laterSymbol_44 : decode b_X_laterSymbol 44 = .ok (.aload_n 0, 1) := by decide +kernel
theorem d_X_laterSymbol_45 : decode b_X_laterSymbol 45 = .ok (.iconst 1, 1) := by decide +kernel
theorem d_X_laterSymbol_46 : decode b_X_laterSymbol 46 = .ok (.putfield 365, 3) := by decide +kernel
theorem d_X_laterSymbol_49 : decode b_X_laterSymbol 49 = .ok (.aload_n 0, 1) := by decide +kernel
theorem d_X_laterSymbol_50 : decode b_X_laterSymbol 50 = .ok (.iload_n 3, 1) := by decide +kernel
theorem d_X_laterSymbol_51 : decode b_X_laterSymbol 51 = .ok (.putfield 369, 3) := by decide +kernel
theorem d_X_laterSymbol_54 : decode b_X_laterSymbol 54 = .ok (.return_, 1) := by decide +kernel
abbrev b_X_letters : ByteArray := prog_11_method_32_code
abbrev y_X_letters : MethodName := ⟨"SignMachineModel", "letters", "()V"⟩
theorem h_X_letters : (y_X_letters).cls ≠ "java/lang/invoke/MethodHandle" ∧ (y_X_letters).cls ≠ "java/lang/invoke/VarHandle" ∧ (parseMethodDescriptor (y_X_letters).desc).map (fun d => d.parameters.length) = some 0 := by decide +kernel
theorem d_X_letters_0 : decode b_X_letters 0 = .ok (.aload_n 0, 1) := by decide +kernel
theorem d_X_letters_1 : decode b_X_letters 1 = .ok (.getfield 19, 3) := by decide +kernel
theorem d_X_letters_4 : decode b_X_letters 4 = .ok (.iconst 0, 1) := by decide +kernel
theorem d_X_letters_5 : decode b_X_letters 5 = .ok (.iaload, 1) := by decide +kernel
theorem d_X_letters_6 : decode b_X_letters 6 = .ok (.istore_n 1, 1) := by decide +kernel
theorem d_X_letters_7 : decode b_X_letters 7 = .ok (.iconst 0, 1) := by decide +kernel
theorem d_X_letters_8 : decode b_X_letters 8 = .ok (.istore_n 2, 1) := by decide +kernel
theorem d_X_letters_9 : decode b_X_letters 9 = .ok (.iconst 0, 1) := by decide +kernel
theorem d_X_letters_10 : decode b_X_letters 10 = .ok (.istore_n 3, 1) := by decide +kernel
theorem d_X_letters_11 : decode b_X_letters 11 = .ok (.iconst 1, 1) := by decide +kernel
theorem d_X_letters_12 : decode b_X_letters 12 = .ok (.istore 4, 2) := by decide +kernel
theorem d_X_letters_14 : decode b_X_letters 14 = .ok (.iconst 0, 1) := by decide +kernel
theorem d_X_letters_15 : decode b_X_letters 15 = .ok (.istore 5, 2) := by decide +kernel
theorem d_X_letters_17 : decode b_X_letters 17 = .ok (.iload 5, 2) := by decide +kernel
theorem d_X_letters_19 : decode b_X_letters 19 = .ok (.bipush 10, 2) := by decide +kernel
theorem d_X_letters_21 : decode b_X_letters 21 = .ok (.if_icmp .ge 65, 3) := by decide +kernel
theorem d_X_letters_24 : decode b_X_letters 24 = .ok (.bipush 30, 2) := by decide +kernel
theorem d_X_letters_26 : decode b_X_letters 26 = .ok (.iload_n 1, 1) := by decide +kernel
theorem d_X_letters_27 : decode b_X_letters 27 = .ok (.bipush 10, 2) := by decide +kernel
theorem d_X_letters_29 : decode b_X_letters 29 = .ok (.irem, 1) := by decide +kernel
theorem d_X_letters_30 : decode b_X_letters 30 = .ok (.iadd, 1) := by decide +kernel
theorem d_X_letters_31 : decode b_X_letters 31 = .ok (.istore 6, 2) := by decide +kernel
theorem d_X_letters_33 : decode b_X_letters 33 = .ok (.iload_n 1, 1) := by decide +kernel
theorem d_X_letters_34 : decode b_X_letters 34 = .ok (.bipush 10, 2) := by decide +kernel
theorem d_X_letters_36 : decode b_X_letters 36 = .ok (.idiv, 1) := by decide +kernel
theorem d_X_letters_37 : decode b_X_letters 37 = .ok (.istore_n 1, 1) := by decide +kernel
theorem d_X_letters_38 : decode b_X_letters 38 = .ok (.iload 5, 2) := by decide +kernel
theorem d_X_letters_40 : decode b_X_letters 40 = .ok (.iconst 5, 1) := by decide +kernel
theorem d_X_letters_41 : decode b_X_letters 41 = .ok (.if_icmp .ge 14, 3) := by decide +kernel
theorem d_X_letters_44 : decode b_X_letters 44 = .ok (.iload_n 3, 1) := by decide +kernel
theorem d_X_letters_45 : decode b_X_letters 45 = .ok (.iload 6, 2) := by decide +kernel
theorem d_X_letters_47 : decode b_X_letters 47 = .ok (.iload 4, 2) := by decide +kernel
theorem d_X_letters_49 : decode b_X_letters 49 = .ok (.imul, 1) := by decide +kernel
theorem d_X_letters_50 : decode b_X_letters 50 = .ok (.iadd, 1) := by decide +kernel
theorem d_X_letters_51 : decode b_X_letters 51 = .ok (.istore_n 3, 1) := by decide +kernel
theorem d_X_letters_52 : decode b_X_letters 52 = .ok (.goto 11, 3) := by decide +kernel
theorem d_X_letters_55 : decode b_X_letters 55 = .ok (.iload_n 2, 1) := by decide +kernel
theorem d_X_letters_56 : decode b_X_letters 56 = .ok (.iload 6, 2) := by decide +kernel
theorem d_X_letters_58 : decode b_X_letters 58 = .ok (.iload 4, 2) := by decide +kernel
theorem d_X_letters_60 : decode b_X_letters 60 = .ok (.imul, 1) := by decide +kernel
theorem d_X_letters_61 : decode b_X_letters 61 = .ok (.iadd, 1) := by decide +kernel
theorem d_X_letters_62 : decode b_X_letters 62 = .ok (.istore_n 2, 1) := by decide +kernel
theorem d_X_letters_63 : decode b_X_letters 63 = .ok (.iload 5, 2) := by decide +kernel
theorem d_X_letters_65 : decode b_X_letters 65 = .ok (.iconst 4, 1) := by decide +kernel
theorem d_X_letters_66 : decode b_X_letters 66 = .ok (.if_icmp .ne 7, 3) := by decide +kernel
theorem d_X_letters_69 : decode b_X_letters 69 = .ok (.iconst 1, 1) := by decide +kernel
theorem d_X_letters_70 : decode b_X_letters 70 = .ok (.goto 8, 3) := by decide +kernel
theorem d_X_letters_73 : decode b_X_letters 73 = .ok (.iload 4, 2) := by decide +kernel
theorem d_X_letters_75 : decode b_X_letters 75 = .ok (.bipush 64, 2) := by decide +kernel
theorem d_X_letters_77 : decode b_X_letters 77 = .ok (.imul, 1) := by decide +kernel
theorem d_X_letters_78 : decode b_X_letters 78 = .ok (.istore 4, 2) := by decide +kernel
theorem d_X_letters_80 : decode b_X_letters 80 = .ok (.iinc 5 1, 3) := by decide +kernel
theorem d_X_letters_83 : decode b_X_letters 83 = .ok (.goto (-66), 3) := by decide +kernel
theorem d_X_letters_86 : decode b_X_letters 86 = .ok (.aload_n 0, 1) := by decide +kernel
theorem d_X_letters_87 : decode b_X_letters 87 = .ok (.getfield 19, 3) := by decide +kernel
theorem d_X_letters_90 : decode b_X_letters 90 = .ok (.iconst 0, 1) := by decide +kernel
theorem d_X_letters_91 : decode b_X_letters 91 = .ok (.iload_n 2, 1) := by decide +kernel
theorem d_X_letters_92 : decode b_X_letters 92 = .ok (.iastore, 1) := by decide +kernel
theorem d_X_letters_93 : decode b_X_letters 93 = .ok (.aload_n 0, 1) := by decide +kernel
theorem d_X_letters_94 : decode b_X_letters 94 = .ok (.getfield 19, 3) := by decide +kernel
theorem d_X_letters_97 : decode b_X_letters 97 = .ok (.bipush 7, 2) := by decide +kernel
theorem d_X_letters_99 : decode b_X_letters 99 = .ok (.iload_n 3, 1) := by decide +kernel
theorem d_X_letters_100 : decode b_X_letters 100 = .ok (.iastore, 1) := by decide +kernel
theorem d_X_letters_101 : decode b_X_letters 101 = .ok (.return_, 1) := by decide +kernel
abbrev b_X_looked : ByteArray := prog_11_method_58_code
abbrev y_X_looked : MethodName := ⟨"SignMachineModel", "looked", "(J)J"⟩
theorem h_X_looked : (y_X_looked).cls ≠ "java/lang/invoke/MethodHandle" ∧ (y_X_looked).cls ≠ "java/lang/invoke/VarHandle" ∧ (parseMethodDescriptor (y_X_looked).desc).map (fun d => d.parameters.length) = some 1 := by decide +kernel
theorem d_X_looked_0 : decode b_X_looked 0 = .ok (.lload_n 1, 1) := by decide +kernel
theorem d_X_looked_1 : decode b_X_looked 1 = .ok (.ldc2_w 199, 3) := by decide +kernel
theorem d_X_looked_4 : decode b_X_looked 4 = .ok (.lcmp, 1) := by decide +kernel
theorem d_X_looked_5 : decode b_X_looked 5 = .ok (.ifCond .ge 11, 3) := by decide +kernel
theorem d_X_looked_8 : decode b_X_looked 8 = .ok (.lload_n 1, 1) := by decide +kernel
theorem d_X_looked_9 : decode b_X_looked 9 = .ok (.ldc2_w 315, 3) := by decide +kernel
theorem d_X_looked_12 : decode b_X_looked 12 = .ok (.lcmp, 1) := by decide +kernel
theorem d_X_looked_13 : decode b_X_looked 13 = .ok (.ifCond .gt 10, 3) := by decide +kernel
theorem d_X_looked_16 : decode b_X_looked 16 = .ok (.aload_n 0, 1) := by decide +kernel
theorem d_X_looked_17 : decode b_X_looked 17 = .ok (.iconst 4, 1) := by decide +kernel
theorem d_X_looked_18 : decode b_X_looked 18 = .ok (.invokevirtual 299, 3) := by decide +kernel
theorem d_X_looked_21 : decode b_X_looked 21 = .ok (.lconst 0, 1) := by decide +kernel
theorem d_X_looked_22 : decode b_X_looked 22 = .ok (.lreturn, 1) := by decide +kernel
theorem d_X_looked_23 : decode b_X_looked 23 = .ok (.lload_n 1, 1) := by decide +kernel
theorem d_X_looked_24 : decode b_X_looked 24 = .ok (.lreturn, 1) := by decide +kernel
abbrev b_X_moveWords : ByteArray := prog_11_method_34_code
abbrev y_X_moveWords : MethodName := ⟨"SignMachineModel", "moveWords", "()V"⟩
theorem h_X_moveWords : (y_X_moveWords).cls ≠ "java/lang/invoke/MethodHandle" ∧ (y_X_moveWords).cls ≠ "java/lang/invoke/VarHandle" ∧ (parseMethodDescriptor (y_X_moveWords).desc).map (fun d => d.parameters.length) = some 0 := by decide +kernel
theorem d_X_moveWords_0 : decode b_X_moveWords 0 = .ok (.aload_n 0, 1) := by decide +kernel
theorem d_X_moveWords_1 : decode b_X_moveWords 1 = .ok (.iconst 1, 1) := by decide +kernel
theorem d_X_moveWords_2 : decode b_X_moveWords 2 = .ok (.invokevirtual 162, 3) := by decide +kernel
theorem d_X_moveWords_5 : decode b_X_moveWords 5 = .ok (.istore_n 1, 1) := by decide +kernel
theorem d_X_moveWords_6 : decode b_X_moveWords 6 = .ok (.iconst 0, 1) := by decide +kernel
theorem d_X_moveWords_7 : decode b_X_moveWords 7 = .ok (.istore_n 2, 1) := by decide +kernel
theorem d_X_moveWords_8 : decode b_X_moveWords 8 = .ok (.iload_n 2, 1) := by decide +kernel
theorem d_X_moveWords_9 : decode b_X_moveWords 9 = .ok (.aload_n 0, 1) := by decide +kernel
theorem d_X_moveWords_10 : decode b_X_moveWords 10 = .ok (.getfield 135, 3) := by decide +kernel
theorem d_X_moveWords_13 : decode b_X_moveWords 13 = .ok (.if_icmp .ge 47, 3) := by decide +kernel
theorem d_X_moveWords_16 : decode b_X_moveWords 16 = .ok (.aload_n 0, 1) := by decide +kernel
theorem d_X_moveWords_17 : decode b_X_moveWords 17 = .ok (.getfield 7, 3) := by decide +kernel
theorem d_X_moveWords_20 : decode b_X_moveWords 20 = .ok (.iload_n 1, 1) := by decide +kernel
theorem d_X_moveWords_21 : decode b_X_moveWords 21 = .ok (.iload_n 2, 1) := by decide +kernel
theorem d_X_moveWords_22 : decode b_X_moveWords 22 = .ok (.iadd, 1) := by decide +kernel
theorem d_X_moveWords_23 : decode b_X_moveWords 23 = .ok (.aload_n 0, 1) := by decide +kernel
theorem d_X_moveWords_24 : decode b_X_moveWords 24 = .ok (.getfield 7, 3) := by decide +kernel
theorem d_X_moveWords_27 : decode b_X_moveWords 27 = .ok (.aload_n 0, 1) := by decide +kernel
theorem d_X_moveWords_28 : decode b_X_moveWords 28 = .ok (.getfield 142, 3) := by decide +kernel
theorem d_X_moveWords_31 : decode b_X_moveWords 31 = .ok (.iload_n 2, 1) := by decide +kernel
theorem d_X_moveWords_32 : decode b_X_moveWords 32 = .ok (.iadd, 1) := by decide +kernel
theorem d_X_moveWords_33 : decode b_X_moveWords 33 = .ok (.iaload, 1) := by decide +kernel
theorem d_X_moveWords_34 : decode b_X_moveWords 34 = .ok (.iastore, 1) := by decide +kernel
theorem d_X_moveWords_35 : decode b_X_moveWords 35 = .ok (.aload_n 0, 1) := by decide +kernel
theorem d_X_moveWords_36 : decode b_X_moveWords 36 = .ok (.getfield 13, 3) := by decide +kernel
theorem d_X_moveWords_39 : decode b_X_moveWords 39 = .ok (.iload_n 1, 1) := by decide +kernel
theorem d_X_moveWords_40 : decode b_X_moveWords 40 = .ok (.iload_n 2, 1) := by decide +kernel
theorem d_X_moveWords_41 : decode b_X_moveWords 41 = .ok (.iadd, 1) := by decide +kernel
theorem d_X_moveWords_42 : decode b_X_moveWords 42 = .ok (.aload_n 0, 1) := by decide +kernel
theorem d_X_moveWords_43 : decode b_X_moveWords 43 = .ok (.getfield 13, 3) := by decide +kernel
theorem d_X_moveWords_46 : decode b_X_moveWords 46 = .ok (.aload_n 0, 1) := by decide +kernel
theorem d_X_moveWords_47 : decode b_X_moveWords 47 = .ok (.getfield 142, 3) := by decide +kernel
theorem d_X_moveWords_50 : decode b_X_moveWords 50 = .ok (.iload_n 2, 1) := by decide +kernel
theorem d_X_moveWords_51 : decode b_X_moveWords 51 = .ok (.iadd, 1) := by decide +kernel
theorem d_X_moveWords_52 : decode b_X_moveWords 52 = .ok (.iaload, 1) := by decide +kernel
theorem d_X_moveWords_53 : decode b_X_moveWords 53 = .ok (.iastore, 1) := by decide +kernel
theorem d_X_moveWords_54 : decode b_X_moveWords 54 = .ok (.iinc 2 1, 3) := by decide +kernel
theorem d_X_moveWords_57 : decode b_X_moveWords 57 = .ok (.goto (-49), 3) := by decide +kernel
theorem d_X_moveWords_60 : decode b_X_moveWords 60 = .ok (.aload_n 0, 1) := by decide +kernel
theorem d_X_moveWords_61 : decode b_X_moveWords 61 = .ok (.getfield 135, 3) := by decide +kernel
theorem d_X_moveWords_64 : decode b_X_moveWords 64 = .ok (.ifCond .le 54, 3) := by decide +kernel
theorem d_X_moveWords_67 : decode b_X_moveWords 67 = .ok (.iload_n 1, 1) := by decide +kernel
theorem d_X_moveWords_68 : decode b_X_moveWords 68 = .ok (.aload_n 0, 1) := by decide +kernel
theorem d_X_moveWords_69 : decode b_X_moveWords 69 = .ok (.getfield 135, 3) := by decide +kernel
theorem d_X_moveWords_72 : decode b_X_moveWords 72 = .ok (.iadd, 1) := by decide +kernel
theorem d_X_moveWords_73 : decode b_X_moveWords 73 = .ok (.istore_n 2, 1) := by decide +kernel
theorem d_X_moveWords_74 : decode b_X_moveWords 74 = .ok (.aload_n 0, 1) := by decide +kernel
theorem d_X_moveWords_75 : decode b_X_moveWords 75 = .ok (.getfield 16, 3) := by decide +kernel
theorem d_X_moveWords_78 : decode b_X_moveWords 78 = .ok (.iconst 1, 1) := by decide +kernel
theorem d_X_moveWords_79 : decode b_X_moveWords 79 = .ok (.iload_n 2, 1) := by decide +kernel
theorem d_X_moveWords_80 : decode b_X_moveWords 80 = .ok (.ifCond .ge 7, 3) := by decide +kernel
theorem d_X_moveWords_83 : decode b_X_moveWords 83 = .ok (.iconst 1, 1) := by decide +kernel
theorem d_X_moveWords_84 : decode b_X_moveWords 84 = .ok (.goto 17, 3) := by decide +kernel
theorem d_X_moveWords_87 : decode b_X_moveWords 87 = .ok (.iload_n 2, 1) := by decide +kernel
theorem d_X_moveWords_88 : decode b_X_moveWords 88 = .ok (.ifCond .le 7, 3) := by decide +kernel
theorem d_X_moveWords_91 : decode b_X_moveWords 91 = .ok (.iconst 0, 1) := by decide +kernel
theorem d_X_moveWords_92 : decode b_X_moveWords 92 = .ok (.goto 9, 3) := by decide +kernel
theorem d_X_moveWords_95 : decode b_X_moveWords 95 = .ok (.aload_n 0, 1) := by decide +kernel
theorem d_X_moveWords_96 : decode b_X_moveWords 96 = .ok (.getfield 16, 3) := by decide +kernel
theorem d_X_moveWords_99 : decode b_X_moveWords 99 = .ok (.iconst 1, 1) := by decide +kernel
theorem d_X_moveWords_100 : decode b_X_moveWords 100 = .ok (.iaload, 1) := by decide +kernel
theorem d_X_moveWords_101 : decode b_X_moveWords 101 = .ok (.iastore, 1) := by decide +kernel
theorem d_X_moveWords_102 : decode b_X_moveWords 102 = .ok (.aload_n 0, 1) := by decide +kernel
theorem d_X_moveWords_103 : decode b_X_moveWords 103 = .ok (.getfield 19, 3) := by decide +kernel
theorem d_X_moveWords_106 : decode b_X_moveWords 106 = .ok (.iconst 1, 1) := by decide +kernel
theorem d_X_moveWords_107 : decode b_X_moveWords 107 = .ok (.iload_n 2, 1) := by decide +kernel
theorem d_X_moveWords_108 : decode b_X_moveWords 108 = .ok (.ifCond .ge 8, 3) := by decide +kernel
theorem d_X_moveWords_111 : decode b_X_moveWords 111 = .ok (.iload_n 2, 1) := by decide +kernel
theorem d_X_moveWords_112 : decode b_X_moveWords 112 = .ok (.ineg, 1) := by decide +kernel
theorem d_X_moveWords_113 : decode b_X_moveWords 113 = .ok (.goto 4, 3) := by decide +kernel
theorem d_X_moveWords_116 : decode b_X_moveWords 116 = .ok (.iload_n 2, 1) := by decide +kernel
theorem d_X_moveWords_117 : decode b_X_moveWords 117 = .ok (.iastore, 1) := by decide +kernel
theorem d_X_moveWords_118 : decode b_X_moveWords 118 = .ok (.return_, 1) := by decide +kernel
abbrev b_X_multiply : ByteArray := prog_11_method_29_code
abbrev y_X_multiply : MethodName := ⟨"SignMachineModel", "multiply", "()V"⟩
theorem h_X_multiply : (y_X_multiply).cls ≠ "java/lang/invoke/MethodHandle" ∧ (y_X_multiply).cls ≠ "java/lang/invoke/VarHandle" ∧ (parseMethodDescriptor (y_X_multiply).desc).map (fun d => d.parameters.length) = some 0 := by decide +kernel
theorem d_X_multiply_0 : decode b_X_multiply 0 = .ok (.aload_n 0, 1) := by decide +kernel
theorem d_X_multiply_1 : decode b_X_multiply 1 = .ok (.getfield 19, 3) := by decide +kernel
theorem d_X_multiply_4 : decode b_X_multiply 4 = .ok (.iconst 0, 1) := by decide +kernel
theorem d_X_multiply_5 : decode b_X_multiply 5 = .ok (.iaload, 1) := by decide +kernel
theorem d_X_multiply_6 : decode b_X_multiply 6 = .ok (.i2l, 1) := by decide +kernel
theorem d_X_multiply_7 : decode b_X_multiply 7 = .ok (.aload_n 0, 1) := by decide +kernel
theorem d_X_multiply_8 : decode b_X_multiply 8 = .ok (.getfield 172, 3) := by decide +kernel
theorem d_X_multiply_11 : decode b_X_multiply 11 = .ok (.i2l, 1) := by decide +kernel
theorem d_X_multiply_12 : decode b_X_multiply 12 = .ok (.lmul, 1) := by decide +kernel
theorem d_X_multiply_13 : decode b_X_multiply 13 = .ok (.lstore_n 1, 1) := by decide +kernel
theorem d_X_multiply_14 : decode b_X_multiply 14 = .ok (.aload_n 0, 1) := by decide +kernel
theorem d_X_multiply_15 : decode b_X_multiply 15 = .ok (.getfield 16, 3) := by decide +kernel
theorem d_X_multiply_18 : decode b_X_multiply 18 = .ok (.iconst 0, 1) := by decide +kernel
theorem d_X_multiply_19 : decode b_X_multiply 19 = .ok (.iaload, 1) := by decide +kernel
theorem d_X_multiply_20 : decode b_X_multiply 20 = .ok (.aload_n 0, 1) := by decide +kernel
theorem d_X_multiply_21 : decode b_X_multiply 21 = .ok (.getfield 165, 3) := by decide +kernel
theorem d_X_multiply_24 : decode b_X_multiply 24 = .ok (.ixor, 1) := by decide +kernel
theorem d_X_multiply_25 : decode b_X_multiply 25 = .ok (.istore_n 3, 1) := by decide +kernel
theorem d_X_multiply_26 : decode b_X_multiply 26 = .ok (.aload_n 0, 1) := by decide +kernel
theorem d_X_multiply_27 : decode b_X_multiply 27 = .ok (.getfield 19, 3) := by decide +kernel
theorem d_X_multiply_30 : decode b_X_multiply 30 = .ok (.iconst 0, 1) := by decide +kernel
theorem d_X_multiply_31 : decode b_X_multiply 31 = .ok (.lload_n 1, 1) := by decide +kernel
theorem d_X_multiply_32 : decode b_X_multiply 32 = .ok (.ldc2_w 199, 3) := by decide +kernel
theorem d_X_multiply_35 : decode b_X_multiply 35 = .ok (.ldiv, 1) := by decide +kernel
theorem d_X_multiply_36 : decode b_X_multiply 36 = .ok (.l2i, 1) := by decide +kernel
theorem d_X_multiply_37 : decode b_X_multiply 37 = .ok (.iastore, 1) := by decide +kernel
theorem d_X_multiply_38 : decode b_X_multiply 38 = .ok (.aload_n 0, 1) := by decide +kernel
theorem d_X_multiply_39 : decode b_X_multiply 39 = .ok (.getfield 19, 3) := by decide +kernel
theorem d_X_multiply_42 : decode b_X_multiply 42 = .ok (.bipush 7, 2) := by decide +kernel
theorem d_X_multiply_44 : decode b_X_multiply 44 = .ok (.lload_n 1, 1) := by decide +kernel
theorem d_X_multiply_45 : decode b_X_multiply 45 = .ok (.ldc2_w 199, 3) := by decide +kernel
theorem d_X_multiply_48 : decode b_X_multiply 48 = .ok (.lrem, 1) := by decide +kernel
theorem d_X_multiply_49 : decode b_X_multiply 49 = .ok (.l2i, 1) := by decide +kernel
theorem d_X_multiply_50 : decode b_X_multiply 50 = .ok (.iastore, 1) := by decide +kernel
theorem d_X_multiply_51 : decode b_X_multiply 51 = .ok (.aload_n 0, 1) := by decide +kernel
theorem d_X_multiply_52 : decode b_X_multiply 52 = .ok (.getfield 16, 3) := by decide +kernel
theorem d_X_multiply_55 : decode b_X_multiply 55 = .ok (.iconst 0, 1) := by decide +kernel
theorem d_X_multiply_56 : decode b_X_multiply 56 = .ok (.iload_n 3, 1) := by decide +kernel
theorem d_X_multiply_57 : decode b_X_multiply 57 = .ok (.iastore, 1) := by decide +kernel
theorem d_X_multiply_58 : decode b_X_multiply 58 = .ok (.aload_n 0, 1) := by decide +kernel
theorem d_X_multiply_59 : decode b_X_multiply 59 = .ok (.getfield 16, 3) := by decide +kernel
theorem d_X_multiply_62 : decode b_X_multiply 62 = .ok (.bipush 7, 2) := by decide +kernel
theorem d_X_multiply_64 : decode b_X_multiply 64 = .ok (.iload_n 3, 1) := by decide +kernel
theorem d_X_multiply_65 : decode b_X_multiply 65 = .ok (.iastore, 1) := by decide +kernel
theorem d_X_multiply_66 : decode b_X_multiply 66 = .ok (.return_, 1) := by decide +kernel
abbrev b_X_newSymbol : ByteArray := prog_11_method_57_code
abbrev y_X_newSymbol : MethodName := ⟨"SignMachineModel", "newSymbol", "(J)I"⟩
theorem h_X_newSymbol : (y_X_newSymbol).cls ≠ "java/lang/invoke/MethodHandle" ∧ (y_X_newSymbol).cls ≠ "java/lang/invoke/VarHandle" ∧ (parseMethodDescriptor (y_X_newSymbol).desc).map (fun d => d.parameters.length) = some 1 := by decide +kernel
theorem d_X_newSymbol_0 : decode b_X_newSymbol 0 = .ok (.aload_n 0, 1) := by decide +kernel
theorem d_X_newSymbol_1 : decode b_X_newSymbol 1 = .ok (.getfield 312, 3) := by decide +kernel
theorem d_X_newSymbol_4 : decode b_X_newSymbol 4 = .ok (.bipush 60, 2) := by decide +kernel
theorem d_X_newSymbol_6 : decode b_X_newSymbol 6 = .ok (.if_icmp .ne 11, 3) := by decide +kernel
theorem d_X_newSymbol_9 : decode b_X_newSymbol 9 = .ok (.aload_n 0, 1) := by decide +kernel
theorem d_X_newSymbol_10 : decode b_X_newSymbol 10 = .ok (.iconst 5, 1) := by decide +kernel
theorem d_X_newSymbol_11 : decode b_X_newSymbol 11 = .ok (.invokevirtual 299, 3) := by decide +kernel
theorem d_X_newSymbol_14 : decode b_X_newSymbol 14 = .ok (.bipush (-2), 2) := by decide +kernel
theorem d_X_newSymbol_16 : decode b_X_newSymbol 16 = .ok (.ireturn, 1) := by decide +kernel
theorem d_X_newSymbol_17 : decode b_X_newSymbol 17 = .ok (.aload_n 0, 1) := by decide +kernel
theorem d_X_newSymbol_18 : decode b_X_newSymbol 18 = .ok (.getfield 44, 3) := by decide +kernel
theorem d_X_newSymbol_21 : decode b_X_newSymbol 21 = .ok (.aload_n 0, 1) := by decide +kernel
theorem d_X_newSymbol_22 : decode b_X_newSymbol 22 = .ok (.getfield 312, 3) := by decide +kernel
theorem d_X_newSymbol_25 : decode b_X_newSymbol 25 = .ok (.lload_n 1, 1) := by decide +kernel
theorem d_X_newSymbol_26 : decode b_X_newSymbol 26 = .ok (.lastore, 1) := by decide +kernel
theorem d_X_newSymbol_27 : decode b_X_newSymbol 27 = .ok (.aload_n 0, 1) := by decide +kernel
theorem d_X_newSymbol_28 : decode b_X_newSymbol 28 = .ok (.getfield 48, 3) := by decide +kernel
theorem d_X_newSymbol_31 : decode b_X_newSymbol 31 = .ok (.aload_n 0, 1) := by decide +kernel
theorem d_X_newSymbol_32 : decode b_X_newSymbol 32 = .ok (.getfield 312, 3) := by decide +kernel
theorem d_X_newSymbol_35 : decode b_X_newSymbol 35 = .ok (.iconst 0, 1) := by decide +kernel
theorem d_X_newSymbol_36 : decode b_X_newSymbol 36 = .ok (.bastore, 1) := by decide +kernel
theorem d_X_newSymbol_37 : decode b_X_newSymbol 37 = .ok (.aload_n 0, 1) := by decide +kernel
theorem d_X_newSymbol_38 : decode b_X_newSymbol 38 = .ok (.dup, 1) := by decide +kernel
theorem d_X_newSymbol_39 : decode b_X_newSymbol 39 = .ok (.getfield 312, 3) := by decide +kernel
theorem d_X_newSymbol_42 : decode b_X_newSymbol 42 = .ok (.iconst 1, 1) := by decide +kernel
theorem d_X_newSymbol_43 : decode b_X_newSymbol 43 = .ok (.iadd, 1) := by decide +kernel
theorem d_X_newSymbol_44 : decode b_X_newSymbol 44 = .ok (.putfield 312, 3) := by decide +kernel
theorem d_X_newSymbol_47 : decode b_X_newSymbol 47 = .ok (.aload_n 0, 1) := by decide +kernel
theorem d_X_newSymbol_48 : decode b_X_newSymbol 48 = .ok (.getfield 312, 3) := by decide +kernel
theorem d_X_newSymbol_51 : decode b_X_newSymbol 51 = .ok (.iconst 1, 1) := by decide +kernel
theorem d_X_newSymbol_52 : decode b_X_newSymbol 52 = .ok (.isub, 1) := by decide +kernel
theorem d_X_newSymbol_53 : decode b_X_newSymbol 53 = .ok (.ireturn, 1) := by decide +kernel
abbrev b_X_one : ByteArray := prog_11_method_46_code
abbrev y_X_one : MethodName := ⟨"SignMachineModel", "one", "()I"⟩
theorem h_X_one : (y_X_one).cls ≠ "java/lang/invoke/MethodHandle" ∧ (y_X_one).cls ≠ "java/lang/invoke/VarHandle" ∧ (parseMethodDescriptor (y_X_one).desc).map (fun d => d.parameters.length) = some 0 := by decide +kernel
theorem d_X_one_0 : decode b_X_one 0 = .ok (.aload_n 0, 1) := by decide +kernel
theorem d_X_one_1 : decode b_X_one 1 = .ok (.invokevirtual 262, 3) := by decide +kernel
theorem d_X_one_4 : decode b_X_one 4 = .ok (.istore_n 1, 1) := by decide +kernel
theorem d_X_one_5 : decode b_X_one 5 = .ok (.iload_n 1, 1) := by decide +kernel
theorem d_X_one_6 : decode b_X_one 6 = .ok (.ifCond .le 5, 3) := by decide +kernel
theorem d_X_one_9 : decode b_X_one 9 = .ok (.iload_n 1, 1) := by decide +kernel
theorem d_X_one_10 : decode b_X_one 10 = .ok (.ireturn, 1) := by decide +kernel
theorem d_X_one_11 : decode b_X_one 11 = .ok (.aload_n 0, 1) := by decide +kernel
theorem d_X_one_12 : decode b_X_one 12 = .ok (.getfield 132, 3) := by decide +kernel
theorem d_X_one_15 : decode b_X_one 15 = .ok (.iconst 5, 1) := by decide +kernel
theorem d_X_one_16 : decode b_X_one 16 = .ok (.if_icmp .ne 15, 3) := by decide +kernel
theorem d_X_one_19 : decode b_X_one 19 = .ok (.aload_n 0, 1) := by decide +kernel
theorem d_X_one_20 : decode b_X_one 20 = .ok (.getfield 135, 3) := by decide +kernel
theorem d_X_one_23 : decode b_X_one 23 = .ok (.iconst 2, 1) := by decide +kernel
theorem d_X_one_24 : decode b_X_one 24 = .ok (.if_icmp .ne 7, 3) := by decide +kernel
theorem d_X_one_27 : decode b_X_one 27 = .ok (.iconst 1, 1) := by decide +kernel
theorem d_X_one_28 : decode b_X_one 28 = .ok (.goto 4, 3) := by decide +kernel
theorem d_X_one_31 : decode b_X_one 31 = .ok (.iconst 0, 1) := by decide +kernel
theorem d_X_one_32 : decode b_X_one 32 = .ok (.istore_n 2, 1) := by decide +kernel
theorem d_X_one_33 : decode b_X_one 33 = .ok (.aload_n 0, 1) := by decide +kernel
theorem d_X_one_34 : decode b_X_one 34 = .ok (.invokevirtual 266, 3) := by decide +kernel
theorem d_X_one_37 : decode b_X_one 37 = .ok (.ifCond .eq 13, 3) := by decide +kernel
theorem d_X_one_40 : decode b_X_one 40 = .ok (.aload_n 0, 1) := by decide +kernel
theorem d_X_one_41 : decode b_X_one 41 = .ok (.dup, 1) := by decide +kernel
theorem d_X_one_42 : decode b_X_one 42 = .ok (.getfield 110, 3) := by decide +kernel
theorem d_X_one_45 : decode b_X_one 45 = .ok (.iconst 1, 1) := by decide +kernel
theorem d_X_one_46 : decode b_X_one 46 = .ok (.iadd, 1) := by decide +kernel
theorem d_X_one_47 : decode b_X_one 47 = .ok (.putfield 110, 3) := by decide +kernel
theorem d_X_one_50 : decode b_X_one 50 = .ok (.iload_n 2, 1) := by decide +kernel
theorem d_X_one_51 : decode b_X_one 51 = .ok (.ifCond .eq 7, 3) := by decide +kernel
theorem d_X_one_54 : decode b_X_one 54 = .ok (.iconst 1, 1) := by decide +kernel
theorem d_X_one_55 : decode b_X_one 55 = .ok (.goto 4, 3) := by decide +kernel
theorem d_X_one_58 : decode b_X_one 58 = .ok (.iconst 0, 1) := by decide +kernel
theorem d_X_one_59 : decode b_X_one 59 = .ok (.ireturn, 1) := by decide +kernel
abbrev b_X_opOf : ByteArray := prog_11_method_74_code
abbrev y_X_opOf : MethodName := ⟨"SignMachineModel", "opOf", "(II)I"⟩
theorem h_X_opOf : (y_X_opOf).cls ≠ "java/lang/invoke/MethodHandle" ∧ (y_X_opOf).cls ≠ "java/lang/invoke/VarHandle" ∧ (parseMethodDescriptor (y_X_opOf).desc).map (fun d => d.parameters.length) = some 2 := by decide +kernel
theorem d_X_opOf_0 : decode b_X_opOf 0 = .ok (.lconst 0, 1) := by decide +kernel
theorem d_X_opOf_1 : decode b_X_opOf 1 = .ok (.lstore_n 3, 1) := by decide +kernel
theorem d_X_opOf_2 : decode b_X_opOf 2 = .ok (.iconst 0, 1) := by decide +kernel
theorem d_X_opOf_3 : decode b_X_opOf 3 = .ok (.istore 5, 2) := by decide +kernel
theorem d_X_opOf_5 : decode b_X_opOf 5 = .ok (.iload 5, 2) := by decide +kernel
theorem d_X_opOf_7 : decode b_X_opOf 7 = .ok (.iload_n 2, 1) := by decide +kernel
theorem d_X_opOf_8 : decode b_X_opOf 8 = .ok (.if_icmp .ge 25, 3) := by decide +kernel
theorem d_X_opOf_11 : decode b_X_opOf 11 = .ok (.lload_n 3, 1) := by decide +kernel
theorem d_X_opOf_12 : decode b_X_opOf 12 = .ok (.bipush 8, 2) := by decide +kernel
theorem d_X_opOf_14 : decode b_X_opOf 14 = .ok (.lshl, 1) := by decide +kernel
theorem d_X_opOf_15 : decode b_X_opOf 15 = .ok (.aload_n 0, 1) := by decide +kernel
theorem d_X_opOf_16 : decode b_X_opOf 16 = .ok (.getfield 37, 3) := by decide +kernel
theorem d_X_opOf_19 : decode b_X_opOf 19 = .ok (.iload_n 1, 1) := by decide +kernel
theorem d_X_opOf_20 : decode b_X_opOf 20 = .ok (.iload 5, 2) := by decide +kernel
theorem d_X_opOf_22 : decode b_X_opOf 22 = .ok (.iadd, 1) := by decide +kernel
theorem d_X_opOf_23 : decode b_X_opOf 23 = .ok (.iaload, 1) := by decide +kernel
theorem d_X_opOf_24 : decode b_X_opOf 24 = .ok (.i2l, 1) := by decide +kernel
theorem d_X_opOf_25 : decode b_X_opOf 25 = .ok (.lor, 1) := by decide +kernel
theorem d_X_opOf_26 : decode b_X_opOf 26 = .ok (.lstore_n 3, 1) := by decide +kernel
theorem d_X_opOf_27 : decode b_X_opOf 27 = .ok (.iinc 5 1, 3) := by decide +kernel
theorem d_X_opOf_30 : decode b_X_opOf 30 = .ok (.goto (-25), 3) := by decide +kernel
theorem d_X_opOf_33 : decode b_X_opOf 33 = .ok (.lload_n 3, 1) := by decide +kernel
theorem d_X_opOf_34 : decode b_X_opOf 34 = .ok (.invokestatic 474, 3) := by decide +kernel
theorem d_X_opOf_37 : decode b_X_opOf 37 = .ok (.istore 5, 2) := by decide +kernel
theorem d_X_opOf_39 : decode b_X_opOf 39 = .ok (.iload 5, 2) := by decide +kernel
theorem d_X_opOf_41 : decode b_X_opOf 41 = .ok (.iconst (-1), 1) := by decide +kernel
theorem d_X_opOf_42 : decode b_X_opOf 42 = .ok (.if_icmp .eq 6, 3) := by decide +kernel
theorem d_X_opOf_45 : decode b_X_opOf 45 = .ok (.iload 5, 2) := by decide +kernel
theorem d_X_opOf_47 : decode b_X_opOf 47 = .ok (.ireturn, 1) := by decide +kernel
theorem d_X_opOf_48 : decode b_X_opOf 48 = .ok (.iload_n 2, 1) := by decide +kernel
theorem d_X_opOf_49 : decode b_X_opOf 49 = .ok (.iconst 3, 1) := by decide +kernel
theorem d_X_opOf_50 : decode b_X_opOf 50 = .ok (.if_icmp .ge 5, 3) := by decide +kernel
theorem d_X_opOf_53 : decode b_X_opOf 53 = .ok (.iconst (-1), 1) := by decide +kernel
theorem d_X_opOf_54 : decode b_X_opOf 54 = .ok (.ireturn, 1) := by decide +kernel
theorem d_X_opOf_55 : decode b_X_opOf 55 = .ok (.aload_n 0, 1) := by decide +kernel
theorem d_X_opOf_56 : decode b_X_opOf 56 = .ok (.getfield 37, 3) := by decide +kernel
theorem d_X_opOf_59 : decode b_X_opOf 59 = .ok (.iload_n 1, 1) := by decide +kernel
theorem d_X_opOf_60 : decode b_X_opOf 60 = .ok (.iconst 2, 1) := by decide +kernel
theorem d_X_opOf_61 : decode b_X_opOf 61 = .ok (.iadd, 1) := by decide +kernel
theorem d_X_opOf_62 : decode b_X_opOf 62 = .ok (.iaload, 1) := by decide +kernel
theorem d_X_opOf_63 : decode b_X_opOf 63 = .ok (.invokestatic 477, 3) := by decide +kernel
theorem d_X_opOf_66 : decode b_X_opOf 66 = .ok (.istore 6, 2) := by decide +kernel
theorem d_X_opOf_68 : decode b_X_opOf 68 = .ok (.aload_n 0, 1) := by decide +kernel
theorem d_X_opOf_69 : decode b_X_opOf 69 = .ok (.getfield 37, 3) := by decide +kernel
theorem d_X_opOf_72 : decode b_X_opOf 72 = .ok (.iload_n 1, 1) := by decide +kernel
theorem d_X_opOf_73 : decode b_X_opOf 73 = .ok (.iaload, 1) := by decide +kernel
theorem d_X_opOf_74 : decode b_X_opOf 74 = .ok (.bipush 76, 2) := by decide +kernel
theorem d_X_opOf_76 : decode b_X_opOf 76 = .ok (.if_icmp .ne 64, 3) := by decide +kernel
theorem d_X_opOf_79 : decode b_X_opOf 79 = .ok (.aload_n 0, 1) := by decide +kernel
theorem d_X_opOf_80 : decode b_X_opOf 80 = .ok (.getfield 37, 3) := by decide +kernel
theorem d_X_opOf_83 : decode b_X_opOf 83 = .ok (.iload_n 1, 1) := by decide +kernel
theorem d_X_opOf_84 : decode b_X_opOf 84 = .ok (.iconst 1, 1) := by decide +kernel
theorem d_X_opOf_85 : decode b_X_opOf 85 = .ok (.iadd, 1) := by decide +kernel
theorem d_X_opOf_86 : decode b_X_opOf 86 = .ok (.iaload, 1) := by decide +kernel
theorem d_X_opOf_87 : decode b_X_opOf 87 = .ok (.bipush 68, 2) := by decide +kernel
theorem d_X_opOf_89 : decode b_X_opOf 89 = .ok (.if_icmp .ne 51, 3) := by decide +kernel
theorem d_X_opOf_92 : decode b_X_opOf 92 = .ok (.iload 6, 2) := by decide +kernel
theorem d_X_opOf_94 : decode b_X_opOf 94 = .ok (.ifCond .lt 46, 3) := by decide +kernel
theorem d_X_opOf_97 : decode b_X_opOf 97 = .ok (.iload_n 2, 1) := by decide +kernel
theorem d_X_opOf_98 : decode b_X_opOf 98 = .ok (.iconst 3, 1) := by decide +kernel
theorem d_X_opOf_99 : decode b_X_opOf 99 = .ok (.if_icmp .ne 12, 3) := by decide +kernel
theorem d_X_opOf_102 : decode b_X_opOf 102 = .ok (.sipush 328, 3) := by decide +kernel
theorem d_X_opOf_105 : decode b_X_opOf 105 = .ok (.iload 6, 2) := by decide +kernel
theorem d_X_opOf_107 : decode b_X_opOf 107 = .ok (.iadd, 1) := by decide +kernel
theorem d_X_opOf_108 : decode b_X_opOf 108 = .ok (.goto 31, 3) := by decide +kernel
theorem d_X_opOf_111 : decode b_X_opOf 111 = .ok (.iload_n 2, 1) := by decide +kernel
theorem d_X_opOf_112 : decode b_X_opOf 112 = .ok (.iconst 4, 1) := by decide +kernel
theorem d_X_opOf_113 : decode b_X_opOf 113 = .ok (.if_icmp .ne 25, 3) := by decide +kernel
theorem d_X_opOf_116 : decode b_X_opOf 116 = .ok (.aload_n 0, 1) := by decide +kernel
theorem d_X_opOf_117 : decode b_X_opOf 117 = .ok (.getfield 37, 3) := by decide +kernel
theorem d_X_opOf_120 : decode b_X_opOf 120 = .ok (.iload_n 1, 1) := by decide +kernel
theorem d_X_opOf_121 : decode b_X_opOf 121 = .ok (.iconst 3, 1) := by decide +kernel
theorem d_X_opOf_122 : decode b_X_opOf 122 = .ok (.iadd, 1) := by decide +kernel
theorem d_X_opOf_123 : decode b_X_opOf 123 = .ok (.iaload, 1) := by decide +kernel
theorem d_X_opOf_124 : decode b_X_opOf 124 = .ok (.bipush 78, 2) := by decide +kernel
theorem d_X_opOf_126 : decode b_X_opOf 126 = .ok (.if_icmp .ne 12, 3) := by decide +kernel
theorem d_X_opOf_129 : decode b_X_opOf 129 = .ok (.sipush 336, 3) := by decide +kernel
theorem d_X_opOf_132 : decode b_X_opOf 132 = .ok (.iload 6, 2) := by decide +kernel
theorem d_X_opOf_134 : decode b_X_opOf 134 = .ok (.iadd, 1) := by decide +kernel
theorem d_X_opOf_135 : decode b_X_opOf 135 = .ok (.goto 4, 3) := by decide +kernel
theorem d_X_opOf_138 : decode b_X_opOf 138 = .ok (.iconst (-1), 1) := by decide +kernel
theorem d_X_opOf_139 : decode b_X_opOf 139 = .ok (.ireturn, 1) := by decide +kernel
theorem d_X_opOf_140 : decode b_X_opOf 140 = .ok (.aload_n 0, 1) := by decide +kernel
theorem d_X_opOf_141 : decode b_X_opOf 141 = .ok (.getfield 37, 3) := by decide +kernel
theorem d_X_opOf_144 : decode b_X_opOf 144 = .ok (.iload_n 1, 1) := by decide +kernel
theorem d_X_opOf_145 : decode b_X_opOf 145 = .ok (.iaload, 1) := by decide +kernel
theorem d_X_opOf_146 : decode b_X_opOf 146 = .ok (.bipush 83, 2) := by decide +kernel
theorem d_X_opOf_148 : decode b_X_opOf 148 = .ok (.if_icmp .ne 33, 3) := by decide +kernel
theorem d_X_opOf_151 : decode b_X_opOf 151 = .ok (.aload_n 0, 1) := by decide +kernel
theorem d_X_opOf_152 : decode b_X_opOf 152 = .ok (.getfield 37, 3) := by decide +kernel
theorem d_X_opOf_155 : decode b_X_opOf 155 = .ok (.iload_n 1, 1) := by decide +kernel
theorem d_X_opOf_156 : decode b_X_opOf 156 = .ok (.iconst 1, 1) := by decide +kernel
theorem d_X_opOf_157 : decode b_X_opOf 157 = .ok (.iadd, 1) := by decide +kernel
theorem d_X_opOf_158 : decode b_X_opOf 158 = .ok (.iaload, 1) := by decide +kernel
theorem d_X_opOf_159 : decode b_X_opOf 159 = .ok (.bipush 84, 2) := by decide +kernel
theorem d_X_opOf_161 : decode b_X_opOf 161 = .ok (.if_icmp .ne 20, 3) := by decide +kernel
theorem d_X_opOf_164 : decode b_X_opOf 164 = .ok (.iload_n 2, 1) := by decide +kernel
theorem d_X_opOf_165 : decode b_X_opOf 165 = .ok (.iconst 3, 1) := by decide +kernel
theorem d_X_opOf_166 : decode b_X_opOf 166 = .ok (.if_icmp .ne 15, 3) := by decide +kernel
theorem d_X_opOf_169 : decode b_X_opOf 169 = .ok (.iload 6, 2) := by decide +kernel
theorem d_X_opOf_171 : decode b_X_opOf 171 = .ok (.ifCond .lt 10, 3) := by decide +kernel
theorem d_X_opOf_174 : decode b_X_opOf 174 = .ok (.sipush 344, 3) := by decide +kernel
theorem d_X_opOf_177 : decode b_X_opOf 177 = .ok (.iload 6, 2) := by decide +kernel
theorem d_X_opOf_179 : decode b_X_opOf 179 = .ok (.iadd, 1) := by decide +kernel
theorem d_X_opOf_180 : decode b_X_opOf 180 = .ok (.ireturn, 1) := by decide +kernel
theorem d_X_opOf_181 : decode b_X_opOf 181 = .ok (.aload_n 0, 1) := by decide +kernel
theorem d_X_opOf_182 : decode b_X_opOf 182 = .ok (.getfield 37, 3) := by decide +kernel
theorem d_X_opOf_185 : decode b_X_opOf 185 = .ok (.iload_n 1, 1) := by decide +kernel
theorem d_X_opOf_186 : decode b_X_opOf 186 = .ok (.iconst 1, 1) := by decide +kernel
theorem d_X_opOf_187 : decode b_X_opOf 187 = .ok (.iadd, 1) := by decide +kernel
theorem d_X_opOf_188 : decode b_X_opOf 188 = .ok (.iaload, 1) := by decide +kernel
theorem d_X_opOf_189 : decode b_X_opOf 189 = .ok (.invokestatic 477, 3) := by decide +kernel
theorem d_X_opOf_192 : decode b_X_opOf 192 = .ok (.istore 7, 2) := by decide +kernel
theorem d_X_opOf_194 : decode b_X_opOf 194 = .ok (.aload_n 0, 1) := by decide +kernel
theorem d_X_opOf_195 : decode b_X_opOf 195 = .ok (.getfield 37, 3) := by decide +kernel
theorem d_X_opOf_198 : decode b_X_opOf 198 = .ok (.iload_n 1, 1) := by decide +kernel
theorem d_X_opOf_199 : decode b_X_opOf 199 = .ok (.iaload, 1) := by decide +kernel
theorem d_X_opOf_200 : decode b_X_opOf 200 = .ok (.bipush 74, 2) := by decide +kernel
theorem d_X_opOf_202 : decode b_X_opOf 202 = .ok (.if_icmp .ne 86, 3) := by decide +kernel
theorem d_X_opOf_205 : decode b_X_opOf 205 = .ok (.iload 7, 2) := by decide +kernel
theorem d_X_opOf_207 : decode b_X_opOf 207 = .ok (.ifCond .lt 81, 3) := by decide +kernel
theorem d_X_opOf_210 : decode b_X_opOf 210 = .ok (.iload_n 2, 1) := by decide +kernel
theorem d_X_opOf_211 : decode b_X_opOf 211 = .ok (.iconst 3, 1) := by decide +kernel
theorem d_X_opOf_212 : decode b_X_opOf 212 = .ok (.if_icmp .ne 15, 3) := by decide +kernel
theorem d_X_opOf_215 : decode b_X_opOf 215 = .ok (.aload_n 0, 1) := by decide +kernel
theorem d_X_opOf_216 : decode b_X_opOf 216 = .ok (.getfield 37, 3) := by decide +kernel
theorem d_X_opOf_219 : decode b_X_opOf 219 = .ok (.iload_n 1, 1) := by decide +kernel
theorem d_X_opOf_220 : decode b_X_opOf 220 = .ok (.iconst 2, 1) := by decide +kernel
theorem d_X_opOf_221 : decode b_X_opOf 221 = .ok (.iadd, 1) := by decide +kernel
theorem d_X_opOf_222 : decode b_X_opOf 222 = .ok (.iaload, 1) := by decide +kernel
theorem d_X_opOf_223 : decode b_X_opOf 223 = .ok (.i2l, 1) := by decide +kernel
theorem d_X_opOf_224 : decode b_X_opOf 224 = .ok (.goto 34, 3) := by decide +kernel
theorem d_X_opOf_227 : decode b_X_opOf 227 = .ok (.iload_n 2, 1) := by decide +kernel
theorem d_X_opOf_228 : decode b_X_opOf 228 = .ok (.iconst 4, 1) := by decide +kernel
theorem d_X_opOf_229 : decode b_X_opOf 229 = .ok (.if_icmp .ne 28, 3) := by decide +kernel
theorem d_X_opOf_232 : decode b_X_opOf 232 = .ok (.aload_n 0, 1) := by decide +kernel
theorem d_X_opOf_233 : decode b_X_opOf 233 = .ok (.getfield 37, 3) := by decide +kernel
theorem d_X_opOf_236 : decode b_X_opOf 236 = .ok (.iload_n 1, 1) := by decide +kernel
theorem d_X_opOf_237 : decode b_X_opOf 237 = .ok (.iconst 2, 1) := by decide +kernel
theorem d_X_opOf_238 : decode b_X_opOf 238 = .ok (.iadd, 1) := by decide +kernel
theorem d_X_opOf_239 : decode b_X_opOf 239 = .ok (.iaload, 1) := by decide +kernel
theorem d_X_opOf_240 : decode b_X_opOf 240 = .ok (.i2l, 1) := by decide +kernel
theorem d_X_opOf_241 : decode b_X_opOf 241 = .ok (.bipush 8, 2) := by decide +kernel
theorem d_X_opOf_243 : decode b_X_opOf 243 = .ok (.lshl, 1) := by decide +kernel
theorem d_X_opOf_244 : decode b_X_opOf 244 = .ok (.aload_n 0, 1) := by decide +kernel
theorem d_X_opOf_245 : decode b_X_opOf 245 = .ok (.getfield 37, 3) := by decide +kernel
theorem d_X_opOf_248 : decode b_X_opOf 248 = .ok (.iload_n 1, 1) := by decide +kernel
theorem d_X_opOf_249 : decode b_X_opOf 249 = .ok (.iconst 3, 1) := by decide +kernel
theorem d_X_opOf_250 : decode b_X_opOf 250 = .ok (.iadd, 1) := by decide +kernel
theorem d_X_opOf_251 : decode b_X_opOf 251 = .ok (.iaload, 1) := by decide +kernel
theorem d_X_opOf_252 : decode b_X_opOf 252 = .ok (.i2l, 1) := by decide +kernel
theorem d_X_opOf_253 : decode b_X_opOf 253 = .ok (.lor, 1) := by decide +kernel
theorem d_X_opOf_254 : decode b_X_opOf 254 = .ok (.goto 4, 3) := by decide +kernel
theorem d_X_opOf_257 : decode b_X_opOf 257 = .ok (.lconst 0, 1) := by decide +kernel
theorem d_X_opOf_258 : decode b_X_opOf 258 = .ok (.lstore 8, 2) := by decide +kernel
theorem d_X_opOf_260 : decode b_X_opOf 260 = .ok (.lload 8, 2) := by decide +kernel
theorem d_X_opOf_262 : decode b_X_opOf 262 = .ok (.invokestatic 480, 3) := by decide +kernel
theorem d_X_opOf_265 : decode b_X_opOf 265 = .ok (.istore 10, 2) := by decide +kernel
theorem d_X_opOf_267 : decode b_X_opOf 267 = .ok (.iload 10, 2) := by decide +kernel
theorem d_X_opOf_269 : decode b_X_opOf 269 = .ok (.ifCond .lt 17, 3) := by decide +kernel
theorem d_X_opOf_272 : decode b_X_opOf 272 = .ok (.bipush 64, 2) := by decide +kernel
theorem d_X_opOf_274 : decode b_X_opOf 274 = .ok (.iload 10, 2) := by decide +kernel
theorem d_X_opOf_276 : decode b_X_opOf 276 = .ok (.imul, 1) := by decide +kernel
theorem d_X_opOf_277 : decode b_X_opOf 277 = .ok (.bipush 40, 2) := by decide +kernel
theorem d_X_opOf_279 : decode b_X_opOf 279 = .ok (.iadd, 1) := by decide +kernel
theorem d_X_opOf_280 : decode b_X_opOf 280 = .ok (.iload 7, 2) := by decide +kernel
theorem d_X_opOf_282 : decode b_X_opOf 282 = .ok (.iadd, 1) := by decide +kernel
theorem d_X_opOf_283 : decode b_X_opOf 283 = .ok (.goto 4, 3) := by decide +kernel
theorem d_X_opOf_286 : decode b_X_opOf 286 = .ok (.iconst (-1), 1) := by decide +kernel
theorem d_X_opOf_287 : decode b_X_opOf 287 = .ok (.ireturn, 1) := by decide +kernel
theorem d_X_opOf_288 : decode b_X_opOf 288 = .ok (.iload_n 2, 1) := by decide +kernel
theorem d_X_opOf_289 : decode b_X_opOf 289 = .ok (.iconst 4, 1) := by decide +kernel
theorem d_X_opOf_290 : decode b_X_opOf 290 = .ok (.if_icmp .ne 125, 3) := by decide +kernel
theorem d_X_opOf_293 : decode b_X_opOf 293 = .ok (.aload_n 0, 1) := by decide +kernel
theorem d_X_opOf_294 : decode b_X_opOf 294 = .ok (.getfield 37, 3) := by decide +kernel
theorem d_X_opOf_297 : decode b_X_opOf 297 = .ok (.iload_n 1, 1) := by decide +kernel
theorem d_X_opOf_298 : decode b_X_opOf 298 = .ok (.iconst 3, 1) := by decide +kernel
theorem d_X_opOf_299 : decode b_X_opOf 299 = .ok (.iadd, 1) := by decide +kernel
theorem d_X_opOf_300 : decode b_X_opOf 300 = .ok (.iaload, 1) := by decide +kernel
theorem d_X_opOf_301 : decode b_X_opOf 301 = .ok (.invokestatic 477, 3) := by decide +kernel
theorem d_X_opOf_304 : decode b_X_opOf 304 = .ok (.istore 8, 2) := by decide +kernel
theorem d_X_opOf_306 : decode b_X_opOf 306 = .ok (.lload_n 3, 1) := by decide +kernel
theorem d_X_opOf_307 : decode b_X_opOf 307 = .ok (.bipush 8, 2) := by decide +kernel
theorem d_X_opOf_309 : decode b_X_opOf 309 = .ok (.lshr, 1) := by decide +kernel
theorem d_X_opOf_310 : decode b_X_opOf 310 = .ok (.lstore 9, 2) := by decide +kernel
theorem d_X_opOf_312 : decode b_X_opOf 312 = .ok (.lload 9, 2) := by decide +kernel
theorem d_X_opOf_314 : decode b_X_opOf 314 = .ok (.ldc2_w 483, 3) := by decide +kernel
theorem d_X_opOf_317 : decode b_X_opOf 317 = .ok (.lcmp, 1) := by decide +kernel
theorem d_X_opOf_318 : decode b_X_opOf 318 = .ok (.ifCond .ne 7, 3) := by decide +kernel
theorem d_X_opOf_321 : decode b_X_opOf 321 = .ok (.iconst 0, 1) := by decide +kernel
theorem d_X_opOf_322 : decode b_X_opOf 322 = .ok (.goto 43, 3) := by decide +kernel
theorem d_X_opOf_325 : decode b_X_opOf 325 = .ok (.lload 9, 2) := by decide +kernel
theorem d_X_opOf_327 : decode b_X_opOf 327 = .ok (.ldc2_w 485, 3) := by decide +kernel
theorem d_X_opOf_330 : decode b_X_opOf 330 = .ok (.lcmp, 1) := by decide +kernel
theorem d_X_opOf_331 : decode b_X_opOf 331 = .ok (.ifCond .ne 7, 3) := by decide +kernel
theorem d_X_opOf_334 : decode b_X_opOf 334 = .ok (.iconst 1, 1) := by decide +kernel
theorem d_X_opOf_335 : decode b_X_opOf 335 = .ok (.goto 30, 3) := by decide +kernel
theorem d_X_opOf_338 : decode b_X_opOf 338 = .ok (.lload 9, 2) := by decide +kernel
theorem d_X_opOf_340 : decode b_X_opOf 340 = .ok (.ldc2_w 487, 3) := by decide +kernel
theorem d_X_opOf_343 : decode b_X_opOf 343 = .ok (.lcmp, 1) := by decide +kernel
theorem d_X_opOf_344 : decode b_X_opOf 344 = .ok (.ifCond .ne 7, 3) := by decide +kernel
theorem d_X_opOf_347 : decode b_X_opOf 347 = .ok (.iconst 2, 1) := by decide +kernel
theorem d_X_opOf_348 : decode b_X_opOf 348 = .ok (.goto 17, 3) := by decide +kernel
theorem d_X_opOf_351 : decode b_X_opOf 351 = .ok (.lload 9, 2) := by decide +kernel
theorem d_X_opOf_353 : decode b_X_opOf 353 = .ok (.ldc2_w 489, 3) := by decide +kernel
theorem d_X_opOf_356 : decode b_X_opOf 356 = .ok (.lcmp, 1) := by decide +kernel
theorem d_X_opOf_357 : decode b_X_opOf 357 = .ok (.ifCond .ne 7, 3) := by decide +kernel
theorem d_X_opOf_360 : decode b_X_opOf 360 = .ok (.iconst 3, 1) := by decide +kernel
theorem d_X_opOf_361 : decode b_X_opOf 361 = .ok (.goto 4, 3) := by decide +kernel
theorem d_X_opOf_364 : decode b_X_opOf 364 = .ok (.iconst (-1), 1) := by decide +kernel
theorem d_X_opOf_365 : decode b_X_opOf 365 = .ok (.istore 11, 2) := by decide +kernel
theorem d_X_opOf_367 : decode b_X_opOf 367 = .ok (.iload 8, 2) := by decide +kernel
theorem d_X_opOf_369 : decode b_X_opOf 369 = .ok (.ifCond .ge 7, 3) := by decide +kernel
theorem d_X_opOf_372 : decode b_X_opOf 372 = .ok (.iconst (-1), 1) := by decide +kernel
theorem d_X_opOf_373 : decode b_X_opOf 373 = .ok (.goto 41, 3) := by decide +kernel
theorem d_X_opOf_376 : decode b_X_opOf 376 = .ok (.iload 11, 2) := by decide +kernel
theorem d_X_opOf_378 : decode b_X_opOf 378 = .ok (.ifCond .lt 17, 3) := by decide +kernel
theorem d_X_opOf_381 : decode b_X_opOf 381 = .ok (.bipush 64, 2) := by decide +kernel
theorem d_X_opOf_383 : decode b_X_opOf 383 = .ok (.iload 11, 2) := by decide +kernel
theorem d_X_opOf_385 : decode b_X_opOf 385 = .ok (.imul, 1) := by decide +kernel
theorem d_X_opOf_386 : decode b_X_opOf 386 = .ok (.bipush 48, 2) := by decide +kernel
theorem d_X_opOf_388 : decode b_X_opOf 388 = .ok (.iadd, 1) := by decide +kernel
theorem d_X_opOf_389 : decode b_X_opOf 389 = .ok (.iload 8, 2) := by decide +kernel
theorem d_X_opOf_391 : decode b_X_opOf 391 = .ok (.iadd, 1) := by decide +kernel
theorem d_X_opOf_392 : decode b_X_opOf 392 = .ok (.goto 22, 3) := by decide +kernel
theorem d_X_opOf_395 : decode b_X_opOf 395 = .ok (.lload 9, 2) := by decide +kernel
theorem d_X_opOf_397 : decode b_X_opOf 397 = .ok (.ldc2_w 491, 3) := by decide +kernel
theorem d_X_opOf_400 : decode b_X_opOf 400 = .ok (.lcmp, 1) := by decide +kernel
theorem d_X_opOf_401 : decode b_X_opOf 401 = .ok (.ifCond .ne 12, 3) := by decide +kernel
theorem d_X_opOf_404 : decode b_X_opOf 404 = .ok (.sipush 376, 3) := by decide +kernel
theorem d_X_opOf_407 : decode b_X_opOf 407 = .ok (.iload 8, 2) := by decide +kernel
theorem d_X_opOf_409 : decode b_X_opOf 409 = .ok (.iadd, 1) := by decide +kernel
theorem d_X_opOf_410 : decode b_X_opOf 410 = .ok (.goto 4, 3) := by decide +kernel
theorem d_X_opOf_413 : decode b_X_opOf 413 = .ok (.iconst (-1), 1) := by decide +kernel
theorem d_X_opOf_414 : decode b_X_opOf 414 = .ok (.ireturn, 1) := by decide +kernel
theorem d_X_opOf_415 : decode b_X_opOf 415 = .ok (.iconst (-1), 1) := by decide +kernel
theorem d_X_opOf_416 : decode b_X_opOf 416 = .ok (.ireturn, 1) := by decide +kernel
abbrev b_X_operation : ByteArray := prog_11_method_70_code
abbrev y_X_operation : MethodName := ⟨"SignMachineModel", "operation", "(II)V"⟩
theorem h_X_operation : (y_X_operation).cls ≠ "java/lang/invoke/MethodHandle" ∧ (y_X_operation).cls ≠ "java/lang/invoke/VarHandle" ∧ (parseMethodDescriptor (y_X_operation).desc).map (fun d => d.parameters.length) = some 2 := by decide +kernel
theorem d_X_operation_0 : decode b_X_operation 0 = .ok (.aload_n 0, 1) := by decide +kernel
theorem d_X_operation_1 : decode b_X_operation 1 = .ok (.iconst 0, 1) := by decide +kernel
theorem d_X_operation_2 : decode b_X_operation 2 = .ok (.putfield 365, 3) := by decide +kernel
theorem d_X_operation_5 : decode b_X_operation 5 = .ok (.lconst 0, 1) := by decide +kernel
theorem d_X_operation_6 : decode b_X_operation 6 = .ok (.lstore_n 3, 1) := by decide +kernel
theorem d_X_operation_7 : decode b_X_operation 7 = .ok (.lconst 0, 1) := by decide +kernel
theorem d_X_operation_8 : decode b_X_operation 8 = .ok (.lstore 5, 2) := by decide +kernel
theorem d_X_operation_10 : decode b_X_operation 10 = .ok (.iload_n 2, 1) := by decide +kernel
theorem d_X_operation_11 : decode b_X_operation 11 = .ok (.i2l, 1) := by decide +kernel
theorem d_X_operation_12 : decode b_X_operation 12 = .ok (.lstore 7, 2) := by decide +kernel
theorem d_X_operation_14 : decode b_X_operation 14 = .ok (.aload_n 0, 1) := by decide +kernel
theorem d_X_operation_15 : decode b_X_operation 15 = .ok (.invokevirtual 288, 3) := by decide +kernel
theorem d_X_operation_18 : decode b_X_operation 18 = .ok (.istore 9, 2) := by decide +kernel
theorem d_X_operation_20 : decode b_X_operation 20 = .ok (.iload 9, 2) := by decide +kernel
theorem d_X_operation_22 : decode b_X_operation 22 = .ok (.iconst (-1), 1) := by decide +kernel
theorem d_X_operation_23 : decode b_X_operation 23 = .ok (.if_icmp .eq 29, 3) := by decide +kernel
theorem d_X_operation_26 : decode b_X_operation 26 = .ok (.iload 9, 2) := by decide +kernel
theorem d_X_operation_28 : decode b_X_operation 28 = .ok (.bipush 32, 2) := by decide +kernel
theorem d_X_operation_30 : decode b_X_operation 30 = .ok (.if_icmp .eq 22, 3) := by decide +kernel
theorem d_X_operation_33 : decode b_X_operation 33 = .ok (.iload 9, 2) := by decide +kernel
theorem d_X_operation_35 : decode b_X_operation 35 = .ok (.bipush 44, 2) := by decide +kernel
theorem d_X_operation_37 : decode b_X_operation 37 = .ok (.if_icmp .eq 15, 3) := by decide +kernel
theorem d_X_operation_40 : decode b_X_operation 40 = .ok (.iload 9, 2) := by decide +kernel
theorem d_X_operation_42 : decode b_X_operation 42 = .ok (.bipush 40, 2) := by decide +kernel
theorem d_X_operation_44 : decode b_X_operation 44 = .ok (.if_icmp .eq 8, 3) := by decide +kernel
theorem d_X_operation_47 : decode b_X_operation 47 = .ok (.aload_n 0, 1) := by decide +kernel
theorem d_X_operation_48 : decode b_X_operation 48 = .ok (.invokevirtual 385, 3) := by decide +kernel
theorem d_X_operation_51 : decode b_X_operation 51 = .ok (.lstore_n 3, 1) := by decide +kernel
theorem d_X_operation_52 : decode b_X_operation 52 = .ok (.aload_n 0, 1) := by decide +kernel
theorem d_X_operation_53 : decode b_X_operation 53 = .ok (.invokevirtual 288, 3) := by decide +kernel
theorem d_X_operation_56 : decode b_X_operation 56 = .ok (.bipush 44, 2) := by decide +kernel
theorem d_X_operation_58 : decode b_X_operation 58 = .ok (.if_icmp .ne 19, 3) := by decide +kernel
theorem d_X_operation_61 : decode b_X_operation 61 = .ok (.aload_n 0, 1) := by decide +kernel
theorem d_X_operation_62 : decode b_X_operation 62 = .ok (.dup, 1) := by decide +kernel
theorem d_X_operation_63 : decode b_X_operation 63 = .ok (.getfield 282, 3) := by decide +kernel
theorem d_X_operation_66 : decode b_X_operation 66 = .ok (.iconst 1, 1) := by decide +kernel
theorem d_X_operation_67 : decode b_X_operation 67 = .ok (.iadd, 1) := by decide +kernel
theorem d_X_operation_68 : decode b_X_operation 68 = .ok (.putfield 282, 3) := by decide +kernel
theorem d_X_operation_71 : decode b_X_operation 71 = .ok (.aload_n 0, 1) := by decide +kernel
theorem d_X_operation_72 : decode b_X_operation 72 = .ok (.invokevirtual 347, 3) := by decide +kernel
theorem d_X_operation_75 : decode b_X_operation 75 = .ok (.lstore 5, 2) := by decide +kernel
theorem d_X_operation_77 : decode b_X_operation 77 = .ok (.aload_n 0, 1) := by decide +kernel
theorem d_X_operation_78 : decode b_X_operation 78 = .ok (.invokevirtual 288, 3) := by decide +kernel
theorem d_X_operation_81 : decode b_X_operation 81 = .ok (.bipush 40, 2) := by decide +kernel
theorem d_X_operation_83 : decode b_X_operation 83 = .ok (.if_icmp .ne 25, 3) := by decide +kernel
theorem d_X_operation_86 : decode b_X_operation 86 = .ok (.aload_n 0, 1) := by decide +kernel
theorem d_X_operation_87 : decode b_X_operation 87 = .ok (.dup, 1) := by decide +kernel
theorem d_X_operation_88 : decode b_X_operation 88 = .ok (.getfield 282, 3) := by decide +kernel
theorem d_X_operation_91 : decode b_X_operation 91 = .ok (.iconst 1, 1) := by decide +kernel
theorem d_X_operation_92 : decode b_X_operation 92 = .ok (.iadd, 1) := by decide +kernel
theorem d_X_operation_93 : decode b_X_operation 93 = .ok (.putfield 282, 3) := by decide +kernel
theorem d_X_operation_96 : decode b_X_operation 96 = .ok (.aload_n 0, 1) := by decide +kernel
theorem d_X_operation_97 : decode b_X_operation 97 = .ok (.invokevirtual 347, 3) := by decide +kernel
theorem d_X_operation_100 : decode b_X_operation 100 = .ok (.lstore 7, 2) := by decide +kernel
theorem d_X_operation_102 : decode b_X_operation 102 = .ok (.aload_n 0, 1) := by decide +kernel
theorem d_X_operation_103 : decode b_X_operation 103 = .ok (.bipush 41, 2) := by decide +kernel
theorem d_X_operation_105 : decode b_X_operation 105 = .ok (.invokevirtual 352, 3) := by decide +kernel
theorem d_X_operation_108 : decode b_X_operation 108 = .ok (.aload_n 0, 1) := by decide +kernel
theorem d_X_operation_109 : decode b_X_operation 109 = .ok (.invokevirtual 288, 3) := by decide +kernel
theorem d_X_operation_112 : decode b_X_operation 112 = .ok (.iconst (-1), 1) := by decide +kernel
theorem d_X_operation_113 : decode b_X_operation 113 = .ok (.if_icmp .eq 17, 3) := by decide +kernel
theorem d_X_operation_116 : decode b_X_operation 116 = .ok (.aload_n 0, 1) := by decide +kernel
theorem d_X_operation_117 : decode b_X_operation 117 = .ok (.invokevirtual 288, 3) := by decide +kernel
theorem d_X_operation_120 : decode b_X_operation 120 = .ok (.bipush 32, 2) := by decide +kernel
theorem d_X_operation_122 : decode b_X_operation 122 = .ok (.if_icmp .eq 8, 3) := by decide +kernel
theorem d_X_operation_125 : decode b_X_operation 125 = .ok (.aload_n 0, 1) := by decide +kernel
theorem d_X_operation_126 : decode b_X_operation 126 = .ok (.iconst 1, 1) := by decide +kernel
theorem d_X_operation_127 : decode b_X_operation 127 = .ok (.invokevirtual 299, 3) := by decide +kernel
theorem d_X_operation_130 : decode b_X_operation 130 = .ok (.lload_n 3, 1) := by decide +kernel
theorem d_X_operation_131 : decode b_X_operation 131 = .ok (.ldc2_w 178, 3) := by decide +kernel
theorem d_X_operation_134 : decode b_X_operation 134 = .ok (.ldc2_w 108, 3) := by decide +kernel
theorem d_X_operation_137 : decode b_X_operation 137 = .ok (.invokestatic 96, 3) := by decide +kernel
theorem d_X_operation_140 : decode b_X_operation 140 = .ok (.ifCond .eq 38, 3) := by decide +kernel
theorem d_X_operation_143 : decode b_X_operation 143 = .ok (.lload 5, 2) := by decide +kernel
theorem d_X_operation_145 : decode b_X_operation 145 = .ok (.lconst 0, 1) := by decide +kernel
theorem d_X_operation_146 : decode b_X_operation 146 = .ok (.ldc2_w 145, 3) := by decide +kernel
theorem d_X_operation_149 : decode b_X_operation 149 = .ok (.invokestatic 96, 3) := by decide +kernel
theorem d_X_operation_152 : decode b_X_operation 152 = .ok (.ifCond .eq 26, 3) := by decide +kernel
theorem d_X_operation_155 : decode b_X_operation 155 = .ok (.lload 7, 2) := by decide +kernel
theorem d_X_operation_157 : decode b_X_operation 157 = .ok (.lconst 0, 1) := by decide +kernel
theorem d_X_operation_158 : decode b_X_operation 158 = .ok (.ldc2_w 354, 3) := by decide +kernel
theorem d_X_operation_161 : decode b_X_operation 161 = .ok (.invokestatic 96, 3) := by decide +kernel
theorem d_X_operation_164 : decode b_X_operation 164 = .ok (.ifCond .eq 14, 3) := by decide +kernel
theorem d_X_operation_167 : decode b_X_operation 167 = .ok (.aload_n 0, 1) := by decide +kernel
theorem d_X_operation_168 : decode b_X_operation 168 = .ok (.getfield 317, 3) := by decide +kernel
theorem d_X_operation_171 : decode b_X_operation 171 = .ok (.i2l, 1) := by decide +kernel
theorem d_X_operation_172 : decode b_X_operation 172 = .ok (.invokestatic 158, 3) := by decide +kernel
theorem d_X_operation_175 : decode b_X_operation 175 = .ok (.ifCond .ne 8, 3) := by decide +kernel
theorem d_X_operation_178 : decode b_X_operation 178 = .ok (.aload_n 0, 1) := by decide +kernel
theorem d_X_operation_179 : decode b_X_operation 179 = .ok (.iconst 4, 1) := by decide +kernel
theorem d_X_operation_180 : decode b_X_operation 180 = .ok (.invokevirtual 299, 3) := by decide +kernel
theorem d_X_operation_183 : decode b_X_operation 183 = .ok (.aload_n 0, 1) := by decide +kernel
theorem d_X_operation_184 : decode b_X_operation 184 = .ok (.getfield 279, 3) := by decide +kernel
theorem d_X_operation_187 : decode b_X_operation 187 = .ok (.ifCond .le 4, 3) := by decide +kernel
theorem d_X_operation_190 : decode b_X_operation 190 = .ok (.return_, 1) := by decide +kernel
theorem d_X_operation_191 : decode b_X_operation 191 = .ok (.lload_n 3, 1) := by decide +kernel
theorem d_X_operation_192 : decode b_X_operation 192 = .ok (.lconst 0, 1) := by decide +kernel
theorem d_X_operation_193 : decode b_X_operation 193 = .ok (.lcmp, 1) := by decide +kernel
theorem d_X_operation_194 : decode b_X_operation 194 = .ok (.ifCond .ge 8, 3) := by decide +kernel
theorem d_X_operation_197 : decode b_X_operation 197 = .ok (.lload_n 3, 1) := by decide +kernel
theorem d_X_operation_198 : decode b_X_operation 198 = .ok (.lneg, 1) := by decide +kernel
theorem d_X_operation_199 : decode b_X_operation 199 = .ok (.goto 4, 3) := by decide +kernel
theorem d_X_operation_202 : decode b_X_operation 202 = .ok (.lload_n 3, 1) := by decide +kernel
theorem d_X_operation_203 : decode b_X_operation 203 = .ok (.l2i, 1) := by decide +kernel
theorem d_X_operation_204 : decode b_X_operation 204 = .ok (.istore 10, 2) := by decide +kernel
theorem d_X_operation_206 : decode b_X_operation 206 = .ok (.aload_n 0, 1) := by decide +kernel
theorem d_X_operation_207 : decode b_X_operation 207 = .ok (.lload_n 3, 1) := by decide +kernel
theorem d_X_operation_208 : decode b_X_operation 208 = .ok (.lconst 0, 1) := by decide +kernel
theorem d_X_operation_209 : decode b_X_operation 209 = .ok (.lcmp, 1) := by decide +kernel
theorem d_X_operation_210 : decode b_X_operation 210 = .ok (.ifCond .ge 7, 3) := by decide +kernel
theorem d_X_operation_213 : decode b_X_operation 213 = .ok (.iconst 1, 1) := by decide +kernel
theorem d_X_operation_214 : decode b_X_operation 214 = .ok (.goto 4, 3) := by decide +kernel
theorem d_X_operation_217 : decode b_X_operation 217 = .ok (.iconst 0, 1) := by decide +kernel
theorem d_X_operation_218 : decode b_X_operation 218 = .ok (.iload 10, 2) := by decide +kernel
theorem d_X_operation_220 : decode b_X_operation 220 = .ok (.ldc 141, 2) := by decide +kernel
theorem d_X_operation_222 : decode b_X_operation 222 = .ok (.imul, 1) := by decide +kernel
theorem d_X_operation_223 : decode b_X_operation 223 = .ok (.lload 5, 2) := by decide +kernel
theorem d_X_operation_225 : decode b_X_operation 225 = .ok (.l2i, 1) := by decide +kernel
theorem d_X_operation_226 : decode b_X_operation 226 = .ok (.sipush 4096, 3) := by decide +kernel
theorem d_X_operation_229 : decode b_X_operation 229 = .ok (.imul, 1) := by decide +kernel
theorem d_X_operation_230 : decode b_X_operation 230 = .ok (.iadd, 1) := by decide +kernel
theorem d_X_operation_231 : decode b_X_operation 231 = .ok (.lload 7, 2) := by decide +kernel
theorem d_X_operation_233 : decode b_X_operation 233 = .ok (.l2i, 1) := by decide +kernel
theorem d_X_operation_234 : decode b_X_operation 234 = .ok (.bipush 64, 2) := by decide +kernel
theorem d_X_operation_236 : decode b_X_operation 236 = .ok (.imul, 1) := by decide +kernel
theorem d_X_operation_237 : decode b_X_operation 237 = .ok (.iadd, 1) := by decide +kernel
theorem d_X_operation_238 : decode b_X_operation 238 = .ok (.iload_n 1, 1) := by decide +kernel
theorem d_X_operation_239 : decode b_X_operation 239 = .ok (.iadd, 1) := by decide +kernel
theorem d_X_operation_240 : decode b_X_operation 240 = .ok (.invokevirtual 388, 3) := by decide +kernel
theorem d_X_operation_243 : decode b_X_operation 243 = .ok (.istore 11, 2) := by decide +kernel
theorem d_X_operation_245 : decode b_X_operation 245 = .ok (.aload_n 0, 1) := by decide +kernel
theorem d_X_operation_246 : decode b_X_operation 246 = .ok (.getfield 365, 3) := by decide +kernel
theorem d_X_operation_249 : decode b_X_operation 249 = .ok (.ifCond .eq 67, 3) := by decide +kernel
theorem d_X_operation_252 : decode b_X_operation 252 = .ok (.aload_n 0, 1) := by decide +kernel
theorem d_X_operation_253 : decode b_X_operation 253 = .ok (.getfield 279, 3) := by decide +kernel
theorem d_X_operation_256 : decode b_X_operation 256 = .ok (.ifCond .ne 60, 3) := by decide +kernel
theorem d_X_operation_259 : decode b_X_operation 259 = .ok (.aload_n 0, 1) := by decide +kernel
theorem d_X_operation_260 : decode b_X_operation 260 = .ok (.getfield 70, 3) := by decide +kernel
theorem d_X_operation_263 : decode b_X_operation 263 = .ok (.aload_n 0, 1) := by decide +kernel
theorem d_X_operation_264 : decode b_X_operation 264 = .ok (.getfield 392, 3) := by decide +kernel
theorem d_X_operation_267 : decode b_X_operation 267 = .ok (.iload 11, 2) := by decide +kernel
theorem d_X_operation_269 : decode b_X_operation 269 = .ok (.iastore, 1) := by decide +kernel
theorem d_X_operation_270 : decode b_X_operation 270 = .ok (.aload_n 0, 1) := by decide +kernel
theorem d_X_operation_271 : decode b_X_operation 271 = .ok (.getfield 73, 3) := by decide +kernel
theorem d_X_operation_274 : decode b_X_operation 274 = .ok (.aload_n 0, 1) := by decide +kernel
theorem d_X_operation_275 : decode b_X_operation 275 = .ok (.getfield 392, 3) := by decide +kernel
theorem d_X_operation_278 : decode b_X_operation 278 = .ok (.aload_n 0, 1) := by decide +kernel
theorem d_X_operation_279 : decode b_X_operation 279 = .ok (.getfield 395, 3) := by decide +kernel
theorem d_X_operation_282 : decode b_X_operation 282 = .ok (.iastore, 1) := by decide +kernel
theorem d_X_operation_283 : decode b_X_operation 283 = .ok (.aload_n 0, 1) := by decide +kernel
theorem d_X_operation_284 : decode b_X_operation 284 = .ok (.getfield 76, 3) := by decide +kernel
theorem d_X_operation_287 : decode b_X_operation 287 = .ok (.aload_n 0, 1) := by decide +kernel
theorem d_X_operation_288 : decode b_X_operation 288 = .ok (.getfield 392, 3) := by decide +kernel
theorem d_X_operation_291 : decode b_X_operation 291 = .ok (.aload_n 0, 1) := by decide +kernel
theorem d_X_operation_292 : decode b_X_operation 292 = .ok (.getfield 369, 3) := by decide +kernel
theorem d_X_operation_295 : decode b_X_operation 295 = .ok (.iastore, 1) := by decide +kernel
theorem d_X_operation_296 : decode b_X_operation 296 = .ok (.aload_n 0, 1) := by decide +kernel
theorem d_X_operation_297 : decode b_X_operation 297 = .ok (.getfield 79, 3) := by decide +kernel
theorem d_X_operation_300 : decode b_X_operation 300 = .ok (.aload_n 0, 1) := by decide +kernel
theorem d_X_operation_301 : decode b_X_operation 301 = .ok (.getfield 392, 3) := by decide +kernel
theorem d_X_operation_304 : decode b_X_operation 304 = .ok (.iconst 0, 1) := by decide +kernel
theorem d_X_operation_305 : decode b_X_operation 305 = .ok (.bastore, 1) := by decide +kernel
theorem d_X_operation_306 : decode b_X_operation 306 = .ok (.aload_n 0, 1) := by decide +kernel
theorem d_X_operation_307 : decode b_X_operation 307 = .ok (.dup, 1) := by decide +kernel
theorem d_X_operation_308 : decode b_X_operation 308 = .ok (.getfield 392, 3) := by decide +kernel
theorem d_X_operation_311 : decode b_X_operation 311 = .ok (.iconst 1, 1) := by decide +kernel
theorem d_X_operation_312 : decode b_X_operation 312 = .ok (.iadd, 1) := by decide +kernel
theorem d_X_operation_313 : decode b_X_operation 313 = .ok (.putfield 392, 3) := by decide +kernel
theorem d_X_operation_316 : decode b_X_operation 316 = .ok (.return_, 1) := by decide +kernel
abbrev b_X_passes : ByteArray := prog_11_method_27_code
abbrev y_X_passes : MethodName := ⟨"SignMachineModel", "passes", "(I)V"⟩
theorem h_X_passes : (y_X_passes).cls ≠ "java/lang/invoke/MethodHandle" ∧ (y_X_passes).cls ≠ "java/lang/invoke/VarHandle" ∧ (parseMethodDescriptor (y_X_passes).desc).map (fun d => d.parameters.length) = some 1 := by decide +kernel
theorem d_X_passes_0 : decode b_X_passes 0 = .ok (.aload_n 0, 1) := by decide +kernel
theorem d_X_passes_1 : decode b_X_passes 1 = .ok (.aload_n 0, 1) := by decide +kernel
theorem d_X_passes_2 : decode b_X_passes 2 = .ok (.getfield 119, 3) := by decide +kernel
theorem d_X_passes_5 : decode b_X_passes 5 = .ok (.iload_n 1, 1) := by decide +kernel
theorem d_X_passes_6 : decode b_X_passes 6 = .ok (.iadd, 1) := by decide +kernel
theorem d_X_passes_7 : decode b_X_passes 7 = .ok (.ldc 198, 2) := by decide +kernel
theorem d_X_passes_9 : decode b_X_passes 9 = .ok (.iand, 1) := by decide +kernel
theorem d_X_passes_10 : decode b_X_passes 10 = .ok (.putfield 119, 3) := by decide +kernel
theorem d_X_passes_13 : decode b_X_passes 13 = .ok (.return_, 1) := by decide +kernel
abbrev b_X_peekSign : ByteArray := prog_11_method_5_code
abbrev y_X_peekSign : MethodName := ⟨"SignMachineModel", "peekSign", "(I)I"⟩
theorem h_X_peekSign : (y_X_peekSign).cls ≠ "java/lang/invoke/MethodHandle" ∧ (y_X_peekSign).cls ≠ "java/lang/invoke/VarHandle" ∧ (parseMethodDescriptor (y_X_peekSign).desc).map (fun d => d.parameters.length) = some 1 := by decide +kernel
theorem d_X_peekSign_0 : decode b_X_peekSign 0 = .ok (.iload_n 1, 1) := by decide +kernel
theorem d_X_peekSign_1 : decode b_X_peekSign 1 = .ok (.i2l, 1) := by decide +kernel
theorem d_X_peekSign_2 : decode b_X_peekSign 2 = .ok (.lconst 0, 1) := by decide +kernel
theorem d_X_peekSign_3 : decode b_X_peekSign 3 = .ok (.ldc2_w 94, 3) := by decide +kernel
theorem d_X_peekSign_6 : decode b_X_peekSign 6 = .ok (.invokestatic 96, 3) := by decide +kernel
theorem d_X_peekSign_9 : decode b_X_peekSign 9 = .ok (.ifCond .eq 12, 3) := by decide +kernel
theorem d_X_peekSign_12 : decode b_X_peekSign 12 = .ok (.aload_n 0, 1) := by decide +kernel
theorem d_X_peekSign_13 : decode b_X_peekSign 13 = .ok (.getfield 7, 3) := by decide +kernel
theorem d_X_peekSign_16 : decode b_X_peekSign 16 = .ok (.iload_n 1, 1) := by decide +kernel
theorem d_X_peekSign_17 : decode b_X_peekSign 17 = .ok (.iaload, 1) := by decide +kernel
theorem d_X_peekSign_18 : decode b_X_peekSign 18 = .ok (.goto 4, 3) := by decide +kernel
theorem d_X_peekSign_21 : decode b_X_peekSign 21 = .ok (.iconst (-1), 1) := by decide +kernel
theorem d_X_peekSign_22 : decode b_X_peekSign 22 = .ok (.ireturn, 1) := by decide +kernel
abbrev b_X_peekSize : ByteArray := prog_11_method_6_code
abbrev y_X_peekSize : MethodName := ⟨"SignMachineModel", "peekSize", "(I)I"⟩
theorem h_X_peekSize : (y_X_peekSize).cls ≠ "java/lang/invoke/MethodHandle" ∧ (y_X_peekSize).cls ≠ "java/lang/invoke/VarHandle" ∧ (parseMethodDescriptor (y_X_peekSize).desc).map (fun d => d.parameters.length) = some 1 := by decide +kernel
theorem d_X_peekSize_0 : decode b_X_peekSize 0 = .ok (.iload_n 1, 1) := by decide +kernel
theorem d_X_peekSize_1 : decode b_X_peekSize 1 = .ok (.i2l, 1) := by decide +kernel
theorem d_X_peekSize_2 : decode b_X_peekSize 2 = .ok (.lconst 0, 1) := by decide +kernel
theorem d_X_peekSize_3 : decode b_X_peekSize 3 = .ok (.ldc2_w 94, 3) := by decide +kernel
theorem d_X_peekSize_6 : decode b_X_peekSize 6 = .ok (.invokestatic 96, 3) := by decide +kernel
theorem d_X_peekSize_9 : decode b_X_peekSize 9 = .ok (.ifCond .eq 12, 3) := by decide +kernel
theorem d_X_peekSize_12 : decode b_X_peekSize 12 = .ok (.aload_n 0, 1) := by decide +kernel
theorem d_X_peekSize_13 : decode b_X_peekSize 13 = .ok (.getfield 13, 3) := by decide +kernel
theorem d_X_peekSize_16 : decode b_X_peekSize 16 = .ok (.iload_n 1, 1) := by decide +kernel
theorem d_X_peekSize_17 : decode b_X_peekSize 17 = .ok (.iaload, 1) := by decide +kernel
theorem d_X_peekSize_18 : decode b_X_peekSize 18 = .ok (.goto 4, 3) := by decide +kernel
theorem d_X_peekSize_21 : decode b_X_peekSize 21 = .ok (.iconst (-1), 1) := by decide +kernel
theorem d_X_peekSize_22 : decode b_X_peekSize 22 = .ok (.ireturn, 1) := by decide +kernel
abbrev b_X_plainOps : ByteArray := prog_11_method_71_code
abbrev y_X_plainOps : MethodName := ⟨"SignMachineModel", "plainOps", "(J)I"⟩
theorem h_X_plainOps : (y_X_plainOps).cls ≠ "java/lang/invoke/MethodHandle" ∧ (y_X_plainOps).cls ≠ "java/lang/invoke/VarHandle" ∧ (parseMethodDescriptor (y_X_plainOps).desc).map (fun d => d.parameters.length) = some 1 := by decide +kernel
theorem d_X_plainOps_0 : decode b_X_plainOps 0 = .ok (.lload_n 0, 1) := by decide +kernel
theorem d_X_plainOps_1 : decode b_X_plainOps 1 = .ok (.ldc2_w 398, 3) := by decide +kernel
theorem d_X_plainOps_4 : decode b_X_plainOps 4 = .ok (.lcmp, 1) := by decide +kernel
theorem d_X_plainOps_5 : decode b_X_plainOps 5 = .ok (.ifCond .ne 7, 3) := by decide +kernel
theorem d_X_plainOps_8 : decode b_X_plainOps 8 = .ok (.iconst 0, 1) := by decide +kernel
theorem d_X_plainOps_9 : decode b_X_plainOps 9 = .ok (.goto 208, 3) := by decide +kernel
theorem d_X_plainOps_12 : decode b_X_plainOps 12 = .ok (.lload_n 0, 1) := by decide +kernel
theorem d_X_plainOps_13 : decode b_X_plainOps 13 = .ok (.ldc2_w 400, 3) := by decide +kernel
theorem d_X_plainOps_16 : decode b_X_plainOps 16 = .ok (.lcmp, 1) := by decide +kernel
theorem d_X_plainOps_17 : decode b_X_plainOps 17 = .ok (.ifCond .ne 9, 3) := by decide +kernel
theorem d_X_plainOps_20 : decode b_X_plainOps 20 = .ok (.sipush 321, 3) := by decide +kernel
theorem d_X_plainOps_23 : decode b_X_plainOps 23 = .ok (.goto 194, 3) := by decide +kernel
theorem d_X_plainOps_26 : decode b_X_plainOps 26 = .ok (.lload_n 0, 1) := by decide +kernel
theorem d_X_plainOps_27 : decode b_X_plainOps 27 = .ok (.ldc2_w 402, 3) := by decide +kernel
theorem d_X_plainOps_30 : decode b_X_plainOps 30 = .ok (.lcmp, 1) := by decide +kernel
theorem d_X_plainOps_31 : decode b_X_plainOps 31 = .ok (.ifCond .ne 9, 3) := by decide +kernel
theorem d_X_plainOps_34 : decode b_X_plainOps 34 = .ok (.sipush 322, 3) := by decide +kernel
theorem d_X_plainOps_37 : decode b_X_plainOps 37 = .ok (.goto 180, 3) := by decide +kernel
theorem d_X_plainOps_40 : decode b_X_plainOps 40 = .ok (.lload_n 0, 1) := by decide +kernel
theorem d_X_plainOps_41 : decode b_X_plainOps 41 = .ok (.ldc2_w 404, 3) := by decide +kernel
theorem d_X_plainOps_44 : decode b_X_plainOps 44 = .ok (.lcmp, 1) := by decide +kernel
theorem d_X_plainOps_45 : decode b_X_plainOps 45 = .ok (.ifCond .ne 9, 3) := by decide +kernel
theorem d_X_plainOps_48 : decode b_X_plainOps 48 = .ok (.sipush 323, 3) := by decide +kernel
theorem d_X_plainOps_51 : decode b_X_plainOps 51 = .ok (.goto 166, 3) := by decide +kernel
theorem d_X_plainOps_54 : decode b_X_plainOps 54 = .ok (.lload_n 0, 1) := by decide +kernel
theorem d_X_plainOps_55 : decode b_X_plainOps 55 = .ok (.ldc2_w 406, 3) := by decide +kernel
theorem d_X_plainOps_58 : decode b_X_plainOps 58 = .ok (.lcmp, 1) := by decide +kernel
theorem d_X_plainOps_59 : decode b_X_plainOps 59 = .ok (.ifCond .ne 9, 3) := by decide +kernel
theorem d_X_plainOps_62 : decode b_X_plainOps 62 = .ok (.sipush 324, 3) := by decide +kernel
theorem d_X_plainOps_65 : decode b_X_plainOps 65 = .ok (.goto 152, 3) := by decide +kernel
theorem d_X_plainOps_68 : decode b_X_plainOps 68 = .ok (.lload_n 0, 1) := by decide +kernel
theorem d_X_plainOps_69 : decode b_X_plainOps 69 = .ok (.ldc2_w 408, 3) := by decide +kernel
theorem d_X_plainOps_72 : decode b_X_plainOps 72 = .ok (.lcmp, 1) := by decide +kernel
theorem d_X_plainOps_73 : decode b_X_plainOps 73 = .ok (.ifCond .ne 7, 3) := by decide +kernel
theorem d_X_plainOps_76 : decode b_X_plainOps 76 = .ok (.iconst 5, 1) := by decide +kernel
theorem d_X_plainOps_77 : decode b_X_plainOps 77 = .ok (.goto 140, 3) := by decide +kernel
theorem d_X_plainOps_80 : decode b_X_plainOps 80 = .ok (.lload_n 0, 1) := by decide +kernel
theorem d_X_plainOps_81 : decode b_X_plainOps 81 = .ok (.ldc2_w 410, 3) := by decide +kernel
theorem d_X_plainOps_84 : decode b_X_plainOps 84 = .ok (.lcmp, 1) := by decide +kernel
theorem d_X_plainOps_85 : decode b_X_plainOps 85 = .ok (.ifCond .ne 8, 3) := by decide +kernel
theorem d_X_plainOps_88 : decode b_X_plainOps 88 = .ok (.bipush 69, 2) := by decide +kernel
theorem d_X_plainOps_90 : decode b_X_plainOps 90 = .ok (.goto 127, 3) := by decide +kernel
theorem d_X_plainOps_93 : decode b_X_plainOps 93 = .ok (.lload_n 0, 1) := by decide +kernel
theorem d_X_plainOps_94 : decode b_X_plainOps 94 = .ok (.ldc2_w 412, 3) := by decide +kernel
theorem d_X_plainOps_97 : decode b_X_plainOps 97 = .ok (.lcmp, 1) := by decide +kernel
theorem d_X_plainOps_98 : decode b_X_plainOps 98 = .ok (.ifCond .ne 9, 3) := by decide +kernel
theorem d_X_plainOps_101 : decode b_X_plainOps 101 = .ok (.sipush 133, 3) := by decide +kernel
theorem d_X_plainOps_104 : decode b_X_plainOps 104 = .ok (.goto 113, 3) := by decide +kernel
theorem d_X_plainOps_107 : decode b_X_plainOps 107 = .ok (.lload_n 0, 1) := by decide +kernel
theorem d_X_plainOps_108 : decode b_X_plainOps 108 = .ok (.ldc2_w 414, 3) := by decide +kernel
theorem d_X_plainOps_111 : decode b_X_plainOps 111 = .ok (.lcmp, 1) := by decide +kernel
theorem d_X_plainOps_112 : decode b_X_plainOps 112 = .ok (.ifCond .ne 8, 3) := by decide +kernel
theorem d_X_plainOps_115 : decode b_X_plainOps 115 = .ok (.bipush 6, 2) := by decide +kernel
theorem d_X_plainOps_117 : decode b_X_plainOps 117 = .ok (.goto 100, 3) := by decide +kernel
theorem d_X_plainOps_120 : decode b_X_plainOps 120 = .ok (.lload_n 0, 1) := by decide +kernel
theorem d_X_plainOps_121 : decode b_X_plainOps 121 = .ok (.ldc2_w 416, 3) := by decide +kernel
theorem d_X_plainOps_124 : decode b_X_plainOps 124 = .ok (.lcmp, 1) := by decide +kernel
theorem d_X_plainOps_125 : decode b_X_plainOps 125 = .ok (.ifCond .ne 8, 3) := by decide +kernel
theorem d_X_plainOps_128 : decode b_X_plainOps 128 = .ok (.bipush 70, 2) := by decide +kernel
theorem d_X_plainOps_130 : decode b_X_plainOps 130 = .ok (.goto 87, 3) := by decide +kernel
theorem d_X_plainOps_133 : decode b_X_plainOps 133 = .ok (.lload_n 0, 1) := by decide +kernel
theorem d_X_plainOps_134 : decode b_X_plainOps 134 = .ok (.ldc2_w 418, 3) := by decide +kernel
theorem d_X_plainOps_137 : decode b_X_plainOps 137 = .ok (.lcmp, 1) := by decide +kernel
theorem d_X_plainOps_138 : decode b_X_plainOps 138 = .ok (.ifCond .ne 9, 3) := by decide +kernel
theorem d_X_plainOps_141 : decode b_X_plainOps 141 = .ok (.sipush 134, 3) := by decide +kernel
theorem d_X_plainOps_144 : decode b_X_plainOps 144 = .ok (.goto 73, 3) := by decide +kernel
theorem d_X_plainOps_147 : decode b_X_plainOps 147 = .ok (.lload_n 0, 1) := by decide +kernel
theorem d_X_plainOps_148 : decode b_X_plainOps 148 = .ok (.ldc2_w 420, 3) := by decide +kernel
theorem d_X_plainOps_151 : decode b_X_plainOps 151 = .ok (.lcmp, 1) := by decide +kernel
theorem d_X_plainOps_152 : decode b_X_plainOps 152 = .ok (.ifCond .ne 9, 3) := by decide +kernel
theorem d_X_plainOps_155 : decode b_X_plainOps 155 = .ok (.sipush 198, 3) := by decide +kernel
theorem d_X_plainOps_158 : decode b_X_plainOps 158 = .ok (.goto 59, 3) := by decide +kernel
theorem d_X_plainOps_161 : decode b_X_plainOps 161 = .ok (.lload_n 0, 1) := by decide +kernel
theorem d_X_plainOps_162 : decode b_X_plainOps 162 = .ok (.ldc2_w 422, 3) := by decide +kernel
theorem d_X_plainOps_165 : decode b_X_plainOps 165 = .ok (.lcmp, 1) := by decide +kernel
theorem d_X_plainOps_166 : decode b_X_plainOps 166 = .ok (.ifCond .ne 9, 3) := by decide +kernel
theorem d_X_plainOps_169 : decode b_X_plainOps 169 = .ok (.sipush 262, 3) := by decide +kernel
theorem d_X_plainOps_172 : decode b_X_plainOps 172 = .ok (.goto 45, 3) := by decide +kernel
theorem d_X_plainOps_175 : decode b_X_plainOps 175 = .ok (.lload_n 0, 1) := by decide +kernel
theorem d_X_plainOps_176 : decode b_X_plainOps 176 = .ok (.ldc2_w 424, 3) := by decide +kernel
theorem d_X_plainOps_179 : decode b_X_plainOps 179 = .ok (.lcmp, 1) := by decide +kernel
theorem d_X_plainOps_180 : decode b_X_plainOps 180 = .ok (.ifCond .ne 9, 3) := by decide +kernel
theorem d_X_plainOps_183 : decode b_X_plainOps 183 = .ok (.sipush 326, 3) := by decide +kernel
theorem d_X_plainOps_186 : decode b_X_plainOps 186 = .ok (.goto 31, 3) := by decide +kernel
theorem d_X_plainOps_189 : decode b_X_plainOps 189 = .ok (.lload_n 0, 1) := by decide +kernel
theorem d_X_plainOps_190 : decode b_X_plainOps 190 = .ok (.ldc2_w 426, 3) := by decide +kernel
theorem d_X_plainOps_193 : decode b_X_plainOps 193 = .ok (.lcmp, 1) := by decide +kernel
theorem d_X_plainOps_194 : decode b_X_plainOps 194 = .ok (.ifCond .ne 8, 3) := by decide +kernel
theorem d_X_plainOps_197 : decode b_X_plainOps 197 = .ok (.bipush 71, 2) := by decide +kernel
theorem d_X_plainOps_199 : decode b_X_plainOps 199 = .ok (.goto 18, 3) := by decide +kernel
theorem d_X_plainOps_202 : decode b_X_plainOps 202 = .ok (.lload_n 0, 1) := by decide +kernel
theorem d_X_plainOps_203 : decode b_X_plainOps 203 = .ok (.ldc2_w 428, 3) := by decide +kernel
theorem d_X_plainOps_206 : decode b_X_plainOps 206 = .ok (.lcmp, 1) := by decide +kernel
theorem d_X_plainOps_207 : decode b_X_plainOps 207 = .ok (.ifCond .ne 9, 3) := by decide +kernel
theorem d_X_plainOps_210 : decode b_X_plainOps 210 = .ok (.sipush 160, 3) := by decide +kernel
theorem d_X_plainOps_213 : decode b_X_plainOps 213 = .ok (.goto 4, 3) := by decide +kernel
theorem d_X_plainOps_216 : decode b_X_plainOps 216 = .ok (.iconst (-1), 1) := by decide +kernel
theorem d_X_plainOps_217 : decode b_X_plainOps 217 = .ok (.istore_n 2, 1) := by decide +kernel
theorem d_X_plainOps_218 : decode b_X_plainOps 218 = .ok (.iload_n 2, 1) := by decide +kernel
theorem d_X_plainOps_219 : decode b_X_plainOps 219 = .ok (.iconst (-1), 1) := by decide +kernel
theorem d_X_plainOps_220 : decode b_X_plainOps 220 = .ok (.if_icmp .eq 7, 3) := by decide +kernel
theorem d_X_plainOps_223 : decode b_X_plainOps 223 = .ok (.iload_n 2, 1) := by decide +kernel
theorem d_X_plainOps_224 : decode b_X_plainOps 224 = .ok (.goto 221, 3) := by decide +kernel
theorem d_X_plainOps_227 : decode b_X_plainOps 227 = .ok (.lload_n 0, 1) := by decide +kernel
theorem d_X_plainOps_228 : decode b_X_plainOps 228 = .ok (.ldc2_w 430, 3) := by decide +kernel
theorem d_X_plainOps_231 : decode b_X_plainOps 231 = .ok (.lcmp, 1) := by decide +kernel
theorem d_X_plainOps_232 : decode b_X_plainOps 232 = .ok (.ifCond .ne 9, 3) := by decide +kernel
theorem d_X_plainOps_235 : decode b_X_plainOps 235 = .ok (.sipush 353, 3) := by decide +kernel
theorem d_X_plainOps_238 : decode b_X_plainOps 238 = .ok (.goto 207, 3) := by decide +kernel
theorem d_X_plainOps_241 : decode b_X_plainOps 241 = .ok (.lload_n 0, 1) := by decide +kernel
theorem d_X_plainOps_242 : decode b_X_plainOps 242 = .ok (.ldc2_w 432, 3) := by decide +kernel
theorem d_X_plainOps_245 : decode b_X_plainOps 245 = .ok (.lcmp, 1) := by decide +kernel
theorem d_X_plainOps_246 : decode b_X_plainOps 246 = .ok (.ifCond .ne 8, 3) := by decide +kernel
theorem d_X_plainOps_249 : decode b_X_plainOps 249 = .ok (.bipush 34, 2) := by decide +kernel
theorem d_X_plainOps_251 : decode b_X_plainOps 251 = .ok (.goto 194, 3) := by decide +kernel
theorem d_X_plainOps_254 : decode b_X_plainOps 254 = .ok (.lload_n 0, 1) := by decide +kernel
theorem d_X_plainOps_255 : decode b_X_plainOps 255 = .ok (.ldc2_w 434, 3) := by decide +kernel
theorem d_X_plainOps_258 : decode b_X_plainOps 258 = .ok (.lcmp, 1) := by decide +kernel
theorem d_X_plainOps_259 : decode b_X_plainOps 259 = .ok (.ifCond .ne 8, 3) := by decide +kernel
theorem d_X_plainOps_262 : decode b_X_plainOps 262 = .ok (.bipush 35, 2) := by decide +kernel
theorem d_X_plainOps_264 : decode b_X_plainOps 264 = .ok (.goto 181, 3) := by decide +kernel
theorem d_X_plainOps_267 : decode b_X_plainOps 267 = .ok (.lload_n 0, 1) := by decide +kernel
theorem d_X_plainOps_268 : decode b_X_plainOps 268 = .ok (.ldc2_w 436, 3) := by decide +kernel
theorem d_X_plainOps_271 : decode b_X_plainOps 271 = .ok (.lcmp, 1) := by decide +kernel
theorem d_X_plainOps_272 : decode b_X_plainOps 272 = .ok (.ifCond .ne 8, 3) := by decide +kernel
theorem d_X_plainOps_275 : decode b_X_plainOps 275 = .ok (.bipush 36, 2) := by decide +kernel
theorem d_X_plainOps_277 : decode b_X_plainOps 277 = .ok (.goto 168, 3) := by decide +kernel
theorem d_X_plainOps_280 : decode b_X_plainOps 280 = .ok (.lload_n 0, 1) := by decide +kernel
theorem d_X_plainOps_281 : decode b_X_plainOps 281 = .ok (.ldc2_w 438, 3) := by decide +kernel
theorem d_X_plainOps_284 : decode b_X_plainOps 284 = .ok (.lcmp, 1) := by decide +kernel
theorem d_X_plainOps_285 : decode b_X_plainOps 285 = .ok (.ifCond .ne 8, 3) := by decide +kernel
theorem d_X_plainOps_288 : decode b_X_plainOps 288 = .ok (.bipush 37, 2) := by decide +kernel
theorem d_X_plainOps_290 : decode b_X_plainOps 290 = .ok (.goto 155, 3) := by decide +kernel
theorem d_X_plainOps_293 : decode b_X_plainOps 293 = .ok (.lload_n 0, 1) := by decide +kernel
theorem d_X_plainOps_294 : decode b_X_plainOps 294 = .ok (.ldc2_w 440, 3) := by decide +kernel
theorem d_X_plainOps_297 : decode b_X_plainOps 297 = .ok (.lcmp, 1) := by decide +kernel
theorem d_X_plainOps_298 : decode b_X_plainOps 298 = .ok (.ifCond .ne 8, 3) := by decide +kernel
theorem d_X_plainOps_301 : decode b_X_plainOps 301 = .ok (.bipush 38, 2) := by decide +kernel
theorem d_X_plainOps_303 : decode b_X_plainOps 303 = .ok (.goto 142, 3) := by decide +kernel
theorem d_X_plainOps_306 : decode b_X_plainOps 306 = .ok (.lload_n 0, 1) := by decide +kernel
theorem d_X_plainOps_307 : decode b_X_plainOps 307 = .ok (.ldc2_w 442, 3) := by decide +kernel
theorem d_X_plainOps_310 : decode b_X_plainOps 310 = .ok (.lcmp, 1) := by decide +kernel
theorem d_X_plainOps_311 : decode b_X_plainOps 311 = .ok (.ifCond .ne 8, 3) := by decide +kernel
theorem d_X_plainOps_314 : decode b_X_plainOps 314 = .ok (.bipush 39, 2) := by decide +kernel
theorem d_X_plainOps_316 : decode b_X_plainOps 316 = .ok (.goto 129, 3) := by decide +kernel
theorem d_X_plainOps_319 : decode b_X_plainOps 319 = .ok (.lload_n 0, 1) := by decide +kernel
theorem d_X_plainOps_320 : decode b_X_plainOps 320 = .ok (.ldc2_w 444, 3) := by decide +kernel
theorem d_X_plainOps_323 : decode b_X_plainOps 323 = .ok (.lcmp, 1) := by decide +kernel
theorem d_X_plainOps_324 : decode b_X_plainOps 324 = .ok (.ifCond .ne 8, 3) := by decide +kernel
theorem d_X_plainOps_327 : decode b_X_plainOps 327 = .ok (.bipush 103, 2) := by decide +kernel
theorem d_X_plainOps_329 : decode b_X_plainOps 329 = .ok (.goto 116, 3) := by decide +kernel
theorem d_X_plainOps_332 : decode b_X_plainOps 332 = .ok (.lload_n 0, 1) := by decide +kernel
theorem d_X_plainOps_333 : decode b_X_plainOps 333 = .ok (.ldc2_w 446, 3) := by decide +kernel
theorem d_X_plainOps_336 : decode b_X_plainOps 336 = .ok (.lcmp, 1) := by decide +kernel
theorem d_X_plainOps_337 : decode b_X_plainOps 337 = .ok (.ifCond .ne 9, 3) := by decide +kernel
theorem d_X_plainOps_340 : decode b_X_plainOps 340 = .ok (.sipush 167, 3) := by decide +kernel
theorem d_X_plainOps_343 : decode b_X_plainOps 343 = .ok (.goto 102, 3) := by decide +kernel
theorem d_X_plainOps_346 : decode b_X_plainOps 346 = .ok (.lload_n 0, 1) := by decide +kernel
theorem d_X_plainOps_347 : decode b_X_plainOps 347 = .ok (.ldc2_w 448, 3) := by decide +kernel
theorem d_X_plainOps_350 : decode b_X_plainOps 350 = .ok (.lcmp, 1) := by decide +kernel
theorem d_X_plainOps_351 : decode b_X_plainOps 351 = .ok (.ifCond .ne 9, 3) := by decide +kernel
theorem d_X_plainOps_354 : decode b_X_plainOps 354 = .ok (.sipush 231, 3) := by decide +kernel
theorem d_X_plainOps_357 : decode b_X_plainOps 357 = .ok (.goto 88, 3) := by decide +kernel
theorem d_X_plainOps_360 : decode b_X_plainOps 360 = .ok (.lload_n 0, 1) := by decide +kernel
theorem d_X_plainOps_361 : decode b_X_plainOps 361 = .ok (.ldc2_w 450, 3) := by decide +kernel
theorem d_X_plainOps_364 : decode b_X_plainOps 364 = .ok (.lcmp, 1) := by decide +kernel
theorem d_X_plainOps_365 : decode b_X_plainOps 365 = .ok (.ifCond .ne 9, 3) := by decide +kernel
theorem d_X_plainOps_368 : decode b_X_plainOps 368 = .ok (.sipush 295, 3) := by decide +kernel
theorem d_X_plainOps_371 : decode b_X_plainOps 371 = .ok (.goto 74, 3) := by decide +kernel
theorem d_X_plainOps_374 : decode b_X_plainOps 374 = .ok (.lload_n 0, 1) := by decide +kernel
theorem d_X_plainOps_375 : decode b_X_plainOps 375 = .ok (.ldc2_w 452, 3) := by decide +kernel
theorem d_X_plainOps_378 : decode b_X_plainOps 378 = .ok (.lcmp, 1) := by decide +kernel
theorem d_X_plainOps_379 : decode b_X_plainOps 379 = .ok (.ifCond .ne 9, 3) := by decide +kernel
theorem d_X_plainOps_382 : decode b_X_plainOps 382 = .ok (.sipush 359, 3) := by decide +kernel
theorem d_X_plainOps_385 : decode b_X_plainOps 385 = .ok (.goto 60, 3) := by decide +kernel
theorem d_X_plainOps_388 : decode b_X_plainOps 388 = .ok (.lload_n 0, 1) := by decide +kernel
theorem d_X_plainOps_389 : decode b_X_plainOps 389 = .ok (.ldc2_w 454, 3) := by decide +kernel
theorem d_X_plainOps_392 : decode b_X_plainOps 392 = .ok (.lcmp, 1) := by decide +kernel
theorem d_X_plainOps_393 : decode b_X_plainOps 393 = .ok (.ifCond .ne 9, 3) := by decide +kernel
theorem d_X_plainOps_396 : decode b_X_plainOps 396 = .ok (.sipush 423, 3) := by decide +kernel
theorem d_X_plainOps_399 : decode b_X_plainOps 399 = .ok (.goto 46, 3) := by decide +kernel
theorem d_X_plainOps_402 : decode b_X_plainOps 402 = .ok (.lload_n 0, 1) := by decide +kernel
theorem d_X_plainOps_403 : decode b_X_plainOps 403 = .ok (.ldc2_w 456, 3) := by decide +kernel
theorem d_X_plainOps_406 : decode b_X_plainOps 406 = .ok (.lcmp, 1) := by decide +kernel
theorem d_X_plainOps_407 : decode b_X_plainOps 407 = .ok (.ifCond .ne 9, 3) := by decide +kernel
theorem d_X_plainOps_410 : decode b_X_plainOps 410 = .ok (.sipush 487, 3) := by decide +kernel
theorem d_X_plainOps_413 : decode b_X_plainOps 413 = .ok (.goto 32, 3) := by decide +kernel
theorem d_X_plainOps_416 : decode b_X_plainOps 416 = .ok (.lload_n 0, 1) := by decide +kernel
theorem d_X_plainOps_417 : decode b_X_plainOps 417 = .ok (.ldc2_w 458, 3) := by decide +kernel
theorem d_X_plainOps_420 : decode b_X_plainOps 420 = .ok (.lcmp, 1) := by decide +kernel
theorem d_X_plainOps_421 : decode b_X_plainOps 421 = .ok (.ifCond .ne 9, 3) := by decide +kernel
theorem d_X_plainOps_424 : decode b_X_plainOps 424 = .ok (.sipush 551, 3) := by decide +kernel
theorem d_X_plainOps_427 : decode b_X_plainOps 427 = .ok (.goto 18, 3) := by decide +kernel
theorem d_X_plainOps_430 : decode b_X_plainOps 430 = .ok (.lload_n 0, 1) := by decide +kernel
theorem d_X_plainOps_431 : decode b_X_plainOps 431 = .ok (.ldc2_w 460, 3) := by decide +kernel
theorem d_X_plainOps_434 : decode b_X_plainOps 434 = .ok (.lcmp, 1) := by decide +kernel
theorem d_X_plainOps_435 : decode b_X_plainOps 435 = .ok (.ifCond .ne 9, 3) := by decide +kernel
theorem d_X_plainOps_438 : decode b_X_plainOps 438 = .ok (.sipush 615, 3) := by decide +kernel
theorem d_X_plainOps_441 : decode b_X_plainOps 441 = .ok (.goto 4, 3) := by decide +kernel
theorem d_X_plainOps_444 : decode b_X_plainOps 444 = .ok (.iconst (-1), 1) := by decide +kernel
theorem d_X_plainOps_445 : decode b_X_plainOps 445 = .ok (.ireturn, 1) := by decide +kernel
abbrev b_X_poke : ByteArray := prog_11_method_4_code
abbrev y_X_poke : MethodName := ⟨"SignMachineModel", "poke", "(III)Z"⟩
theorem h_X_poke : (y_X_poke).cls ≠ "java/lang/invoke/MethodHandle" ∧ (y_X_poke).cls ≠ "java/lang/invoke/VarHandle" ∧ (parseMethodDescriptor (y_X_poke).desc).map (fun d => d.parameters.length) = some 3 := by decide +kernel
theorem d_X_poke_0 : decode b_X_poke 0 = .ok (.iload_n 1, 1) := by decide +kernel
theorem d_X_poke_1 : decode b_X_poke 1 = .ok (.i2l, 1) := by decide +kernel
theorem d_X_poke_2 : decode b_X_poke 2 = .ok (.lconst 0, 1) := by decide +kernel
theorem d_X_poke_3 : decode b_X_poke 3 = .ok (.ldc2_w 94, 3) := by decide +kernel
theorem d_X_poke_6 : decode b_X_poke 6 = .ok (.invokestatic 96, 3) := by decide +kernel
theorem d_X_poke_9 : decode b_X_poke 9 = .ok (.ifCond .eq 25, 3) := by decide +kernel
theorem d_X_poke_12 : decode b_X_poke 12 = .ok (.iload_n 2, 1) := by decide +kernel
theorem d_X_poke_13 : decode b_X_poke 13 = .ok (.i2l, 1) := by decide +kernel
theorem d_X_poke_14 : decode b_X_poke 14 = .ok (.lconst 0, 1) := by decide +kernel
theorem d_X_poke_15 : decode b_X_poke 15 = .ok (.lconst 1, 1) := by decide +kernel
theorem d_X_poke_16 : decode b_X_poke 16 = .ok (.invokestatic 96, 3) := by decide +kernel
theorem d_X_poke_19 : decode b_X_poke 19 = .ok (.ifCond .eq 15, 3) := by decide +kernel
theorem d_X_poke_22 : decode b_X_poke 22 = .ok (.iload_n 3, 1) := by decide +kernel
theorem d_X_poke_23 : decode b_X_poke 23 = .ok (.i2l, 1) := by decide +kernel
theorem d_X_poke_24 : decode b_X_poke 24 = .ok (.lconst 0, 1) := by decide +kernel
theorem d_X_poke_25 : decode b_X_poke 25 = .ok (.ldc2_w 100, 3) := by decide +kernel
theorem d_X_poke_28 : decode b_X_poke 28 = .ok (.invokestatic 96, 3) := by decide +kernel
theorem d_X_poke_31 : decode b_X_poke 31 = .ok (.ifCond .ne 5, 3) := by decide +kernel
theorem d_X_poke_34 : decode b_X_poke 34 = .ok (.iconst 0, 1) := by decide +kernel
theorem d_X_poke_35 : decode b_X_poke 35 = .ok (.ireturn, 1) := by decide +kernel
theorem d_X_poke_36 : decode b_X_poke 36 = .ok (.aload_n 0, 1) := by decide +kernel
theorem d_X_poke_37 : decode b_X_poke 37 = .ok (.getfield 7, 3) := by decide +kernel
theorem d_X_poke_40 : decode b_X_poke 40 = .ok (.iload_n 1, 1) := by decide +kernel
theorem d_X_poke_41 : decode b_X_poke 41 = .ok (.iload_n 2, 1) := by decide +kernel
theorem d_X_poke_42 : decode b_X_poke 42 = .ok (.iastore, 1) := by decide +kernel
theorem d_X_poke_43 : decode b_X_poke 43 = .ok (.aload_n 0, 1) := by decide +kernel
theorem d_X_poke_44 : decode b_X_poke 44 = .ok (.getfield 13, 3) := by decide +kernel
theorem d_X_poke_47 : decode b_X_poke 47 = .ok (.iload_n 1, 1) := by decide +kernel
theorem d_X_poke_48 : decode b_X_poke 48 = .ok (.iload_n 3, 1) := by decide +kernel
theorem d_X_poke_49 : decode b_X_poke 49 = .ok (.iastore, 1) := by decide +kernel
theorem d_X_poke_50 : decode b_X_poke 50 = .ok (.iconst 1, 1) := by decide +kernel
theorem d_X_poke_51 : decode b_X_poke 51 = .ok (.ireturn, 1) := by decide +kernel
abbrev b_X_power : ByteArray := prog_11_method_14_code
abbrev y_X_power : MethodName := ⟨"SignMachineModel", "power", "(I)I"⟩
theorem h_X_power : (y_X_power).cls ≠ "java/lang/invoke/MethodHandle" ∧ (y_X_power).cls ≠ "java/lang/invoke/VarHandle" ∧ (parseMethodDescriptor (y_X_power).desc).map (fun d => d.parameters.length) = some 1 := by decide +kernel
theorem d_X_power_0 : decode b_X_power 0 = .ok (.iconst 1, 1) := by decide +kernel
theorem d_X_power_1 : decode b_X_power 1 = .ok (.istore_n 1, 1) := by decide +kernel
theorem d_X_power_2 : decode b_X_power 2 = .ok (.iconst 0, 1) := by decide +kernel
theorem d_X_power_3 : decode b_X_power 3 = .ok (.istore_n 2, 1) := by decide +kernel
theorem d_X_power_4 : decode b_X_power 4 = .ok (.iload_n 2, 1) := by decide +kernel
theorem d_X_power_5 : decode b_X_power 5 = .ok (.iload_n 0, 1) := by decide +kernel
theorem d_X_power_6 : decode b_X_power 6 = .ok (.if_icmp .ge 14, 3) := by decide +kernel
theorem d_X_power_9 : decode b_X_power 9 = .ok (.iload_n 1, 1) := by decide +kernel
theorem d_X_power_10 : decode b_X_power 10 = .ok (.bipush 64, 2) := by decide +kernel
theorem d_X_power_12 : decode b_X_power 12 = .ok (.imul, 1) := by decide +kernel
theorem d_X_power_13 : decode b_X_power 13 = .ok (.istore_n 1, 1) := by decide +kernel
theorem d_X_power_14 : decode b_X_power 14 = .ok (.iinc 2 1, 3) := by decide +kernel
theorem d_X_power_17 : decode b_X_power 17 = .ok (.goto (-13), 3) := by decide +kernel
theorem d_X_power_20 : decode b_X_power 20 = .ok (.iload_n 1, 1) := by decide +kernel
theorem d_X_power_21 : decode b_X_power 21 = .ok (.ireturn, 1) := by decide +kernel
abbrev b_X_putIn : ByteArray := prog_11_method_84_code
abbrev y_X_putIn : MethodName := ⟨"SignMachineModel", "putIn", "()V"⟩
theorem h_X_putIn : (y_X_putIn).cls ≠ "java/lang/invoke/MethodHandle" ∧ (y_X_putIn).cls ≠ "java/lang/invoke/VarHandle" ∧ (parseMethodDescriptor (y_X_putIn).desc).map (fun d => d.parameters.length) = some 0 := by decide +kernel
theorem d_X_putIn_0 : decode b_X_putIn 0 = .ok (.iconst 0, 1) := by decide +kernel
theorem d_X_putIn_1 : decode b_X_putIn 1 = .ok (.istore_n 1, 1) := by decide +kernel
theorem d_X_putIn_2 : decode b_X_putIn 2 = .ok (.iload_n 1, 1) := by decide +kernel
theorem d_X_putIn_3 : decode b_X_putIn 3 = .ok (.aload_n 0, 1) := by decide +kernel
theorem d_X_putIn_4 : decode b_X_putIn 4 = .ok (.getfield 392, 3) := by decide +kernel
theorem d_X_putIn_7 : decode b_X_putIn 7 = .ok (.if_icmp .ge 168, 3) := by decide +kernel
theorem d_X_putIn_10 : decode b_X_putIn 10 = .ok (.aload_n 0, 1) := by decide +kernel
theorem d_X_putIn_11 : decode b_X_putIn 11 = .ok (.getfield 76, 3) := by decide +kernel
theorem d_X_putIn_14 : decode b_X_putIn 14 = .ok (.iload_n 1, 1) := by decide +kernel
theorem d_X_putIn_15 : decode b_X_putIn 15 = .ok (.iaload, 1) := by decide +kernel
theorem d_X_putIn_16 : decode b_X_putIn 16 = .ok (.istore_n 2, 1) := by decide +kernel
theorem d_X_putIn_17 : decode b_X_putIn 17 = .ok (.iload_n 2, 1) := by decide +kernel
theorem d_X_putIn_18 : decode b_X_putIn 18 = .ok (.bipush 100, 2) := by decide +kernel
theorem d_X_putIn_20 : decode b_X_putIn 20 = .ok (.if_icmp .lt 15, 3) := by decide +kernel
theorem d_X_putIn_23 : decode b_X_putIn 23 = .ok (.aload_n 0, 1) := by decide +kernel
theorem d_X_putIn_24 : decode b_X_putIn 24 = .ok (.getfield 85, 3) := by decide +kernel
theorem d_X_putIn_27 : decode b_X_putIn 27 = .ok (.iload_n 2, 1) := by decide +kernel
theorem d_X_putIn_28 : decode b_X_putIn 28 = .ok (.bipush 100, 2) := by decide +kernel
theorem d_X_putIn_30 : decode b_X_putIn 30 = .ok (.isub, 1) := by decide +kernel
theorem d_X_putIn_31 : decode b_X_putIn 31 = .ok (.laload, 1) := by decide +kernel
theorem d_X_putIn_32 : decode b_X_putIn 32 = .ok (.goto 22, 3) := by decide +kernel
theorem d_X_putIn_35 : decode b_X_putIn 35 = .ok (.iload_n 2, 1) := by decide +kernel
theorem d_X_putIn_36 : decode b_X_putIn 36 = .ok (.ifCond .lt 12, 3) := by decide +kernel
theorem d_X_putIn_39 : decode b_X_putIn 39 = .ok (.aload_n 0, 1) := by decide +kernel
theorem d_X_putIn_40 : decode b_X_putIn 40 = .ok (.getfield 52, 3) := by decide +kernel
theorem d_X_putIn_43 : decode b_X_putIn 43 = .ok (.iload_n 2, 1) := by decide +kernel
theorem d_X_putIn_44 : decode b_X_putIn 44 = .ok (.laload, 1) := by decide +kernel
theorem d_X_putIn_45 : decode b_X_putIn 45 = .ok (.goto 9, 3) := by decide +kernel
theorem d_X_putIn_48 : decode b_X_putIn 48 = .ok (.aload_n 0, 1) := by decide +kernel
theorem d_X_putIn_49 : decode b_X_putIn 49 = .ok (.getfield 88, 3) := by decide +kernel
theorem d_X_putIn_52 : decode b_X_putIn 52 = .ok (.iload_n 1, 1) := by decide +kernel
theorem d_X_putIn_53 : decode b_X_putIn 53 = .ok (.laload, 1) := by decide +kernel
theorem d_X_putIn_54 : decode b_X_putIn 54 = .ok (.lstore_n 3, 1) := by decide +kernel
theorem d_X_putIn_55 : decode b_X_putIn 55 = .ok (.iload_n 2, 1) := by decide +kernel
theorem d_X_putIn_56 : decode b_X_putIn 56 = .ok (.ifCond .ge 16, 3) := by decide +kernel
theorem d_X_putIn_59 : decode b_X_putIn 59 = .ok (.aload_n 0, 1) := by decide +kernel
theorem d_X_putIn_60 : decode b_X_putIn 60 = .ok (.getfield 79, 3) := by decide +kernel
theorem d_X_putIn_63 : decode b_X_putIn 63 = .ok (.iload_n 1, 1) := by decide +kernel
theorem d_X_putIn_64 : decode b_X_putIn 64 = .ok (.baload, 1) := by decide +kernel
theorem d_X_putIn_65 : decode b_X_putIn 65 = .ok (.ifCond .ne 7, 3) := by decide +kernel
theorem d_X_putIn_68 : decode b_X_putIn 68 = .ok (.iconst 3, 1) := by decide +kernel
theorem d_X_putIn_69 : decode b_X_putIn 69 = .ok (.goto 24, 3) := by decide +kernel
theorem d_X_putIn_72 : decode b_X_putIn 72 = .ok (.lload_n 3, 1) := by decide +kernel
theorem d_X_putIn_73 : decode b_X_putIn 73 = .ok (.ldc2_w 108, 3) := by decide +kernel
theorem d_X_putIn_76 : decode b_X_putIn 76 = .ok (.lcmp, 1) := by decide +kernel
theorem d_X_putIn_77 : decode b_X_putIn 77 = .ok (.ifCond .gt 11, 3) := by decide +kernel
theorem d_X_putIn_80 : decode b_X_putIn 80 = .ok (.lload_n 3, 1) := by decide +kernel
theorem d_X_putIn_81 : decode b_X_putIn 81 = .ok (.ldc2_w 178, 3) := by decide +kernel
theorem d_X_putIn_84 : decode b_X_putIn 84 = .ok (.lcmp, 1) := by decide +kernel
theorem d_X_putIn_85 : decode b_X_putIn 85 = .ok (.ifCond .ge 7, 3) := by decide +kernel
theorem d_X_putIn_88 : decode b_X_putIn 88 = .ok (.iconst 4, 1) := by decide +kernel
theorem d_X_putIn_89 : decode b_X_putIn 89 = .ok (.goto 4, 3) := by decide +kernel
theorem d_X_putIn_92 : decode b_X_putIn 92 = .ok (.iconst 0, 1) := by decide +kernel
theorem d_X_putIn_93 : decode b_X_putIn 93 = .ok (.istore 5, 2) := by decide +kernel
theorem d_X_putIn_95 : decode b_X_putIn 95 = .ok (.iload 5, 2) := by decide +kernel
theorem d_X_putIn_97 : decode b_X_putIn 97 = .ok (.ifCond .le 20, 3) := by decide +kernel
theorem d_X_putIn_100 : decode b_X_putIn 100 = .ok (.aload_n 0, 1) := by decide +kernel
theorem d_X_putIn_101 : decode b_X_putIn 101 = .ok (.iload 5, 2) := by decide +kernel
theorem d_X_putIn_103 : decode b_X_putIn 103 = .ok (.putfield 279, 3) := by decide +kernel
theorem d_X_putIn_106 : decode b_X_putIn 106 = .ok (.aload_n 0, 1) := by decide +kernel
theorem d_X_putIn_107 : decode b_X_putIn 107 = .ok (.aload_n 0, 1) := by decide +kernel
theorem d_X_putIn_108 : decode b_X_putIn 108 = .ok (.getfield 73, 3) := by decide +kernel
theorem d_X_putIn_111 : decode b_X_putIn 111 = .ok (.iload_n 1, 1) := by decide +kernel
theorem d_X_putIn_112 : decode b_X_putIn 112 = .ok (.iaload, 1) := by decide +kernel
theorem d_X_putIn_113 : decode b_X_putIn 113 = .ok (.putfield 553, 3) := by decide +kernel
theorem d_X_putIn_116 : decode b_X_putIn 116 = .ok (.return_, 1) := by decide +kernel
theorem d_X_putIn_117 : decode b_X_putIn 117 = .ok (.aload_n 0, 1) := by decide +kernel
theorem d_X_putIn_118 : decode b_X_putIn 118 = .ok (.getfield 70, 3) := by decide +kernel
theorem d_X_putIn_121 : decode b_X_putIn 121 = .ok (.iload_n 1, 1) := by decide +kernel
theorem d_X_putIn_122 : decode b_X_putIn 122 = .ok (.iaload, 1) := by decide +kernel
theorem d_X_putIn_123 : decode b_X_putIn 123 = .ok (.istore 6, 2) := by decide +kernel
theorem d_X_putIn_125 : decode b_X_putIn 125 = .ok (.aload_n 0, 1) := by decide +kernel
theorem d_X_putIn_126 : decode b_X_putIn 126 = .ok (.getfield 64, 3) := by decide +kernel
theorem d_X_putIn_129 : decode b_X_putIn 129 = .ok (.iload 6, 2) := by decide +kernel
theorem d_X_putIn_131 : decode b_X_putIn 131 = .ok (.lload_n 3, 1) := by decide +kernel
theorem d_X_putIn_132 : decode b_X_putIn 132 = .ok (.lconst 0, 1) := by decide +kernel
theorem d_X_putIn_133 : decode b_X_putIn 133 = .ok (.lcmp, 1) := by decide +kernel
theorem d_X_putIn_134 : decode b_X_putIn 134 = .ok (.ifCond .ge 7, 3) := by decide +kernel
theorem d_X_putIn_137 : decode b_X_putIn 137 = .ok (.iconst 1, 1) := by decide +kernel
theorem d_X_putIn_138 : decode b_X_putIn 138 = .ok (.goto 4, 3) := by decide +kernel
theorem d_X_putIn_141 : decode b_X_putIn 141 = .ok (.iconst 0, 1) := by decide +kernel
theorem d_X_putIn_142 : decode b_X_putIn 142 = .ok (.iastore, 1) := by decide +kernel
theorem d_X_putIn_143 : decode b_X_putIn 143 = .ok (.aload_n 0, 1) := by decide +kernel
theorem d_X_putIn_144 : decode b_X_putIn 144 = .ok (.getfield 67, 3) := by decide +kernel
theorem d_X_putIn_147 : decode b_X_putIn 147 = .ok (.iload 6, 2) := by decide +kernel
theorem d_X_putIn_149 : decode b_X_putIn 149 = .ok (.dup2, 1) := by decide +kernel
theorem d_X_putIn_150 : decode b_X_putIn 150 = .ok (.iaload, 1) := by decide +kernel
theorem d_X_putIn_151 : decode b_X_putIn 151 = .ok (.lload_n 3, 1) := by decide +kernel
theorem d_X_putIn_152 : decode b_X_putIn 152 = .ok (.lconst 0, 1) := by decide +kernel
theorem d_X_putIn_153 : decode b_X_putIn 153 = .ok (.lcmp, 1) := by decide +kernel
theorem d_X_putIn_154 : decode b_X_putIn 154 = .ok (.ifCond .ge 8, 3) := by decide +kernel
theorem d_X_putIn_157 : decode b_X_putIn 157 = .ok (.lload_n 3, 1) := by decide +kernel
theorem d_X_putIn_158 : decode b_X_putIn 158 = .ok (.lneg, 1) := by decide +kernel
theorem d_X_putIn_159 : decode b_X_putIn 159 = .ok (.goto 4, 3) := by decide +kernel
theorem d_X_putIn_162 : decode b_X_putIn 162 = .ok (.lload_n 3, 1) := by decide +kernel
theorem d_X_putIn_163 : decode b_X_putIn 163 = .ok (.l2i, 1) := by decide +kernel
theorem d_X_putIn_164 : decode b_X_putIn 164 = .ok (.ldc 141, 2) := by decide +kernel
theorem d_X_putIn_166 : decode b_X_putIn 166 = .ok (.imul, 1) := by decide +kernel
theorem d_X_putIn_167 : decode b_X_putIn 167 = .ok (.iadd, 1) := by decide +kernel
theorem d_X_putIn_168 : decode b_X_putIn 168 = .ok (.iastore, 1) := by decide +kernel
theorem d_X_putIn_169 : decode b_X_putIn 169 = .ok (.iinc 1 1, 3) := by decide +kernel
theorem d_X_putIn_172 : decode b_X_putIn 172 = .ok (.goto (-170), 3) := by decide +kernel
theorem d_X_putIn_175 : decode b_X_putIn 175 = .ok (.return_, 1) := by decide +kernel
abbrev b_X_readAlf : ByteArray := prog_11_method_79_code
abbrev y_X_readAlf : MethodName := ⟨"SignMachineModel", "readAlf", "()V"⟩
theorem h_X_readAlf : (y_X_readAlf).cls ≠ "java/lang/invoke/MethodHandle" ∧ (y_X_readAlf).cls ≠ "java/lang/invoke/VarHandle" ∧ (parseMethodDescriptor (y_X_readAlf).desc).map (fun d => d.parameters.length) = some 0 := by decide +kernel
theorem d_X_readAlf_0 : decode b_X_readAlf 0 = .ok (.iconst 0, 1) := by decide +kernel
theorem d_X_readAlf_1 : decode b_X_readAlf 1 = .ok (.istore_n 1, 1) := by decide +kernel
theorem d_X_readAlf_2 : decode b_X_readAlf 2 = .ok (.aload_n 0, 1) := by decide +kernel
theorem d_X_readAlf_3 : decode b_X_readAlf 3 = .ok (.invokevirtual 288, 3) := by decide +kernel
theorem d_X_readAlf_6 : decode b_X_readAlf 6 = .ok (.bipush 32, 2) := by decide +kernel
theorem d_X_readAlf_8 : decode b_X_readAlf 8 = .ok (.if_icmp .ne 7, 3) := by decide +kernel
theorem d_X_readAlf_11 : decode b_X_readAlf 11 = .ok (.iconst 1, 1) := by decide +kernel
theorem d_X_readAlf_12 : decode b_X_readAlf 12 = .ok (.goto 4, 3) := by decide +kernel
theorem d_X_readAlf_15 : decode b_X_readAlf 15 = .ok (.iconst 0, 1) := by decide +kernel
theorem d_X_readAlf_16 : decode b_X_readAlf 16 = .ok (.istore_n 2, 1) := by decide +kernel
theorem d_X_readAlf_17 : decode b_X_readAlf 17 = .ok (.aload_n 0, 1) := by decide +kernel
theorem d_X_readAlf_18 : decode b_X_readAlf 18 = .ok (.dup, 1) := by decide +kernel
theorem d_X_readAlf_19 : decode b_X_readAlf 19 = .ok (.getfield 282, 3) := by decide +kernel
theorem d_X_readAlf_22 : decode b_X_readAlf 22 = .ok (.iload_n 2, 1) := by decide +kernel
theorem d_X_readAlf_23 : decode b_X_readAlf 23 = .ok (.ifCond .eq 7, 3) := by decide +kernel
theorem d_X_readAlf_26 : decode b_X_readAlf 26 = .ok (.iconst 1, 1) := by decide +kernel
theorem d_X_readAlf_27 : decode b_X_readAlf 27 = .ok (.goto 4, 3) := by decide +kernel
theorem d_X_readAlf_30 : decode b_X_readAlf 30 = .ok (.iconst 0, 1) := by decide +kernel
theorem d_X_readAlf_31 : decode b_X_readAlf 31 = .ok (.iadd, 1) := by decide +kernel
theorem d_X_readAlf_32 : decode b_X_readAlf 32 = .ok (.putfield 282, 3) := by decide +kernel
theorem d_X_readAlf_35 : decode b_X_readAlf 35 = .ok (.iconst 0, 1) := by decide +kernel
theorem d_X_readAlf_36 : decode b_X_readAlf 36 = .ok (.istore_n 3, 1) := by decide +kernel
theorem d_X_readAlf_37 : decode b_X_readAlf 37 = .ok (.iload_n 3, 1) := by decide +kernel
theorem d_X_readAlf_38 : decode b_X_readAlf 38 = .ok (.iconst 5, 1) := by decide +kernel
theorem d_X_readAlf_39 : decode b_X_readAlf 39 = .ok (.if_icmp .ge 92, 3) := by decide +kernel
theorem d_X_readAlf_42 : decode b_X_readAlf 42 = .ok (.iload_n 2, 1) := by decide +kernel
theorem d_X_readAlf_43 : decode b_X_readAlf 43 = .ok (.ifCond .eq 29, 3) := by decide +kernel
theorem d_X_readAlf_46 : decode b_X_readAlf 46 = .ok (.aload_n 0, 1) := by decide +kernel
theorem d_X_readAlf_47 : decode b_X_readAlf 47 = .ok (.getfield 282, 3) := by decide +kernel
theorem d_X_readAlf_50 : decode b_X_readAlf 50 = .ok (.aload_n 0, 1) := by decide +kernel
theorem d_X_readAlf_51 : decode b_X_readAlf 51 = .ok (.getfield 285, 3) := by decide +kernel
theorem d_X_readAlf_54 : decode b_X_readAlf 54 = .ok (.if_icmp .ge 18, 3) := by decide +kernel
theorem d_X_readAlf_57 : decode b_X_readAlf 57 = .ok (.aload_n 0, 1) := by decide +kernel
theorem d_X_readAlf_58 : decode b_X_readAlf 58 = .ok (.getfield 37, 3) := by decide +kernel
theorem d_X_readAlf_61 : decode b_X_readAlf 61 = .ok (.aload_n 0, 1) := by decide +kernel
theorem d_X_readAlf_62 : decode b_X_readAlf 62 = .ok (.getfield 282, 3) := by decide +kernel
theorem d_X_readAlf_65 : decode b_X_readAlf 65 = .ok (.iaload, 1) := by decide +kernel
theorem d_X_readAlf_66 : decode b_X_readAlf 66 = .ok (.invokestatic 505, 3) := by decide +kernel
theorem d_X_readAlf_69 : decode b_X_readAlf 69 = .ok (.goto 4, 3) := by decide +kernel
theorem d_X_readAlf_72 : decode b_X_readAlf 72 = .ok (.iconst 0, 1) := by decide +kernel
theorem d_X_readAlf_73 : decode b_X_readAlf 73 = .ok (.istore 4, 2) := by decide +kernel
theorem d_X_readAlf_75 : decode b_X_readAlf 75 = .ok (.aload_n 0, 1) := by decide +kernel
theorem d_X_readAlf_76 : decode b_X_readAlf 76 = .ok (.dup, 1) := by decide +kernel
theorem d_X_readAlf_77 : decode b_X_readAlf 77 = .ok (.getfield 282, 3) := by decide +kernel
theorem d_X_readAlf_80 : decode b_X_readAlf 80 = .ok (.iload_n 2, 1) := by decide +kernel
theorem d_X_readAlf_81 : decode b_X_readAlf 81 = .ok (.ifCond .eq 18, 3) := by decide +kernel
theorem d_X_readAlf_84 : decode b_X_readAlf 84 = .ok (.aload_n 0, 1) := by decide +kernel
theorem d_X_readAlf_85 : decode b_X_readAlf 85 = .ok (.getfield 282, 3) := by decide +kernel
theorem d_X_readAlf_88 : decode b_X_readAlf 88 = .ok (.aload_n 0, 1) := by decide +kernel
theorem d_X_readAlf_89 : decode b_X_readAlf 89 = .ok (.getfield 285, 3) := by decide +kernel
theorem d_X_readAlf_92 : decode b_X_readAlf 92 = .ok (.if_icmp .ge 7, 3) := by decide +kernel
theorem d_X_readAlf_95 : decode b_X_readAlf 95 = .ok (.iconst 1, 1) := by decide +kernel
theorem d_X_readAlf_96 : decode b_X_readAlf 96 = .ok (.goto 4, 3) := by decide +kernel
theorem d_X_readAlf_99 : decode b_X_readAlf 99 = .ok (.iconst 0, 1) := by decide +kernel
theorem d_X_readAlf_100 : decode b_X_readAlf 100 = .ok (.iadd, 1) := by decide +kernel
theorem d_X_readAlf_101 : decode b_X_readAlf 101 = .ok (.putfield 282, 3) := by decide +kernel
theorem d_X_readAlf_104 : decode b_X_readAlf 104 = .ok (.iload 4, 2) := by decide +kernel
theorem d_X_readAlf_106 : decode b_X_readAlf 106 = .ok (.ifCond .ge 11, 3) := by decide +kernel
theorem d_X_readAlf_109 : decode b_X_readAlf 109 = .ok (.aload_n 0, 1) := by decide +kernel
theorem d_X_readAlf_110 : decode b_X_readAlf 110 = .ok (.iconst 1, 1) := by decide +kernel
theorem d_X_readAlf_111 : decode b_X_readAlf 111 = .ok (.invokevirtual 299, 3) := by decide +kernel
theorem d_X_readAlf_114 : decode b_X_readAlf 114 = .ok (.iconst 0, 1) := by decide +kernel
theorem d_X_readAlf_115 : decode b_X_readAlf 115 = .ok (.istore 4, 2) := by decide +kernel
theorem d_X_readAlf_117 : decode b_X_readAlf 117 = .ok (.iload_n 1, 1) := by decide +kernel
theorem d_X_readAlf_118 : decode b_X_readAlf 118 = .ok (.bipush 64, 2) := by decide +kernel
theorem d_X_readAlf_120 : decode b_X_readAlf 120 = .ok (.imul, 1) := by decide +kernel
theorem d_X_readAlf_121 : decode b_X_readAlf 121 = .ok (.iload 4, 2) := by decide +kernel
theorem d_X_readAlf_123 : decode b_X_readAlf 123 = .ok (.iadd, 1) := by decide +kernel
theorem d_X_readAlf_124 : decode b_X_readAlf 124 = .ok (.istore_n 1, 1) := by decide +kernel
theorem d_X_readAlf_125 : decode b_X_readAlf 125 = .ok (.iinc 3 1, 3) := by decide +kernel
theorem d_X_readAlf_128 : decode b_X_readAlf 128 = .ok (.goto (-91), 3) := by decide +kernel
theorem d_X_readAlf_131 : decode b_X_readAlf 131 = .ok (.aload_n 0, 1) := by decide +kernel
theorem d_X_readAlf_132 : decode b_X_readAlf 132 = .ok (.iconst 0, 1) := by decide +kernel
theorem d_X_readAlf_133 : decode b_X_readAlf 133 = .ok (.iload_n 1, 1) := by decide +kernel
theorem d_X_readAlf_134 : decode b_X_readAlf 134 = .ok (.invokevirtual 388, 3) := by decide +kernel
theorem d_X_readAlf_137 : decode b_X_readAlf 137 = .ok (.pop, 1) := by decide +kernel
theorem d_X_readAlf_138 : decode b_X_readAlf 138 = .ok (.return_, 1) := by decide +kernel
abbrev b_X_readEnd : ByteArray := prog_11_method_81_code
abbrev y_X_readEnd : MethodName := ⟨"SignMachineModel", "readEnd", "()V"⟩
theorem h_X_readEnd : (y_X_readEnd).cls ≠ "java/lang/invoke/MethodHandle" ∧ (y_X_readEnd).cls ≠ "java/lang/invoke/VarHandle" ∧ (parseMethodDescriptor (y_X_readEnd).desc).map (fun d => d.parameters.length) = some 0 := by decide +kernel
theorem d_X_readEnd_0 : decode b_X_readEnd 0 = .ok (.aload_n 0, 1) := by decide +kernel
theorem d_X_readEnd_1 : decode b_X_readEnd 1 = .ok (.invokevirtual 508, 3) := by decide +kernel
theorem d_X_readEnd_4 : decode b_X_readEnd 4 = .ok (.aload_n 0, 1) := by decide +kernel
theorem d_X_readEnd_5 : decode b_X_readEnd 5 = .ok (.invokevirtual 511, 3) := by decide +kernel
theorem d_X_readEnd_8 : decode b_X_readEnd 8 = .ok (.lstore_n 1, 1) := by decide +kernel
theorem d_X_readEnd_9 : decode b_X_readEnd 9 = .ok (.lload_n 1, 1) := by decide +kernel
theorem d_X_readEnd_10 : decode b_X_readEnd 10 = .ok (.lconst 0, 1) := by decide +kernel
theorem d_X_readEnd_11 : decode b_X_readEnd 11 = .ok (.lcmp, 1) := by decide +kernel
theorem d_X_readEnd_12 : decode b_X_readEnd 12 = .ok (.ifCond .lt 11, 3) := by decide +kernel
theorem d_X_readEnd_15 : decode b_X_readEnd 15 = .ok (.lload_n 1, 1) := by decide +kernel
theorem d_X_readEnd_16 : decode b_X_readEnd 16 = .ok (.ldc2_w 156, 3) := by decide +kernel
theorem d_X_readEnd_19 : decode b_X_readEnd 19 = .ok (.lcmp, 1) := by decide +kernel
theorem d_X_readEnd_20 : decode b_X_readEnd 20 = .ok (.ifCond .lt 8, 3) := by decide +kernel
theorem d_X_readEnd_23 : decode b_X_readEnd 23 = .ok (.aload_n 0, 1) := by decide +kernel
theorem d_X_readEnd_24 : decode b_X_readEnd 24 = .ok (.iconst 4, 1) := by decide +kernel
theorem d_X_readEnd_25 : decode b_X_readEnd 25 = .ok (.invokevirtual 299, 3) := by decide +kernel
theorem d_X_readEnd_28 : decode b_X_readEnd 28 = .ok (.aload_n 0, 1) := by decide +kernel
theorem d_X_readEnd_29 : decode b_X_readEnd 29 = .ok (.lload_n 1, 1) := by decide +kernel
theorem d_X_readEnd_30 : decode b_X_readEnd 30 = .ok (.l2i, 1) := by decide +kernel
theorem d_X_readEnd_31 : decode b_X_readEnd 31 = .ok (.putfield 514, 3) := by decide +kernel
theorem d_X_readEnd_34 : decode b_X_readEnd 34 = .ok (.aload_n 0, 1) := by decide +kernel
theorem d_X_readEnd_35 : decode b_X_readEnd 35 = .ok (.iconst 1, 1) := by decide +kernel
theorem d_X_readEnd_36 : decode b_X_readEnd 36 = .ok (.putfield 517, 3) := by decide +kernel
theorem d_X_readEnd_39 : decode b_X_readEnd 39 = .ok (.aload_n 0, 1) := by decide +kernel
theorem d_X_readEnd_40 : decode b_X_readEnd 40 = .ok (.aload_n 0, 1) := by decide +kernel
theorem d_X_readEnd_41 : decode b_X_readEnd 41 = .ok (.getfield 317, 3) := by decide +kernel
theorem d_X_readEnd_44 : decode b_X_readEnd 44 = .ok (.putfield 40, 3) := by decide +kernel
theorem d_X_readEnd_47 : decode b_X_readEnd 47 = .ok (.iconst 0, 1) := by decide +kernel
theorem d_X_readEnd_48 : decode b_X_readEnd 48 = .ok (.istore_n 3, 1) := by decide +kernel
theorem d_X_readEnd_49 : decode b_X_readEnd 49 = .ok (.iload_n 3, 1) := by decide +kernel
theorem d_X_readEnd_50 : decode b_X_readEnd 50 = .ok (.aload_n 0, 1) := by decide +kernel
theorem d_X_readEnd_51 : decode b_X_readEnd 51 = .ok (.getfield 362, 3) := by decide +kernel
theorem d_X_readEnd_54 : decode b_X_readEnd 54 = .ok (.if_icmp .ge 125, 3) := by decide +kernel
theorem d_X_readEnd_57 : decode b_X_readEnd 57 = .ok (.aload_n 0, 1) := by decide +kernel
theorem d_X_readEnd_58 : decode b_X_readEnd 58 = .ok (.getfield 279, 3) := by decide +kernel
theorem d_X_readEnd_61 : decode b_X_readEnd 61 = .ok (.ifCond .ne 118, 3) := by decide +kernel
theorem d_X_readEnd_64 : decode b_X_readEnd 64 = .ok (.aload_n 0, 1) := by decide +kernel
theorem d_X_readEnd_65 : decode b_X_readEnd 65 = .ok (.getfield 82, 3) := by decide +kernel
theorem d_X_readEnd_68 : decode b_X_readEnd 68 = .ok (.iload_n 3, 1) := by decide +kernel
theorem d_X_readEnd_69 : decode b_X_readEnd 69 = .ok (.iaload, 1) := by decide +kernel
theorem d_X_readEnd_70 : decode b_X_readEnd 70 = .ok (.istore 4, 2) := by decide +kernel
theorem d_X_readEnd_72 : decode b_X_readEnd 72 = .ok (.iload 4, 2) := by decide +kernel
theorem d_X_readEnd_74 : decode b_X_readEnd 74 = .ok (.bipush 100, 2) := by decide +kernel
theorem d_X_readEnd_76 : decode b_X_readEnd 76 = .ok (.if_icmp .lt 68, 3) := by decide +kernel
theorem d_X_readEnd_79 : decode b_X_readEnd 79 = .ok (.aload_n 0, 1) := by decide +kernel
theorem d_X_readEnd_80 : decode b_X_readEnd 80 = .ok (.getfield 85, 3) := by decide +kernel
theorem d_X_readEnd_83 : decode b_X_readEnd 83 = .ok (.iload 4, 2) := by decide +kernel
theorem d_X_readEnd_85 : decode b_X_readEnd 85 = .ok (.bipush 100, 2) := by decide +kernel
theorem d_X_readEnd_87 : decode b_X_readEnd 87 = .ok (.isub, 1) := by decide +kernel
theorem d_X_readEnd_88 : decode b_X_readEnd 88 = .ok (.laload, 1) := by decide +kernel
theorem d_X_readEnd_89 : decode b_X_readEnd 89 = .ok (.lstore 5, 2) := by decide +kernel
theorem d_X_readEnd_91 : decode b_X_readEnd 91 = .ok (.aload_n 0, 1) := by decide +kernel
theorem d_X_readEnd_92 : decode b_X_readEnd 92 = .ok (.getfield 85, 3) := by decide +kernel
theorem d_X_readEnd_95 : decode b_X_readEnd 95 = .ok (.iload 4, 2) := by decide +kernel
theorem d_X_readEnd_97 : decode b_X_readEnd 97 = .ok (.bipush 100, 2) := by decide +kernel
theorem d_X_readEnd_99 : decode b_X_readEnd 99 = .ok (.isub, 1) := by decide +kernel
theorem d_X_readEnd_100 : decode b_X_readEnd 100 = .ok (.aload_n 0, 1) := by decide +kernel
theorem d_X_readEnd_101 : decode b_X_readEnd 101 = .ok (.getfield 317, 3) := by decide +kernel
theorem d_X_readEnd_104 : decode b_X_readEnd 104 = .ok (.i2l, 1) := by decide +kernel
theorem d_X_readEnd_105 : decode b_X_readEnd 105 = .ok (.lastore, 1) := by decide +kernel
theorem d_X_readEnd_106 : decode b_X_readEnd 106 = .ok (.aload_n 0, 1) := by decide +kernel
theorem d_X_readEnd_107 : decode b_X_readEnd 107 = .ok (.lload 5, 2) := by decide +kernel
theorem d_X_readEnd_109 : decode b_X_readEnd 109 = .ok (.lconst 0, 1) := by decide +kernel
theorem d_X_readEnd_110 : decode b_X_readEnd 110 = .ok (.lcmp, 1) := by decide +kernel
theorem d_X_readEnd_111 : decode b_X_readEnd 111 = .ok (.ifCond .ge 7, 3) := by decide +kernel
theorem d_X_readEnd_114 : decode b_X_readEnd 114 = .ok (.iconst 1, 1) := by decide +kernel
theorem d_X_readEnd_115 : decode b_X_readEnd 115 = .ok (.goto 4, 3) := by decide +kernel
theorem d_X_readEnd_118 : decode b_X_readEnd 118 = .ok (.iconst 0, 1) := by decide +kernel
theorem d_X_readEnd_119 : decode b_X_readEnd 119 = .ok (.lload 5, 2) := by decide +kernel
theorem d_X_readEnd_121 : decode b_X_readEnd 121 = .ok (.lconst 0, 1) := by decide +kernel
theorem d_X_readEnd_122 : decode b_X_readEnd 122 = .ok (.lcmp, 1) := by decide +kernel
theorem d_X_readEnd_123 : decode b_X_readEnd 123 = .ok (.ifCond .ge 11, 3) := by decide +kernel
theorem d_X_readEnd_126 : decode b_X_readEnd 126 = .ok (.lload 5, 2) := by decide +kernel
theorem d_X_readEnd_128 : decode b_X_readEnd 128 = .ok (.lneg, 1) := by decide +kernel
theorem d_X_readEnd_129 : decode b_X_readEnd 129 = .ok (.lconst 1, 1) := by decide +kernel
theorem d_X_readEnd_130 : decode b_X_readEnd 130 = .ok (.lsub, 1) := by decide +kernel
theorem d_X_readEnd_131 : decode b_X_readEnd 131 = .ok (.goto 5, 3) := by decide +kernel
theorem d_X_readEnd_134 : decode b_X_readEnd 134 = .ok (.lload 5, 2) := by decide +kernel
theorem d_X_readEnd_136 : decode b_X_readEnd 136 = .ok (.l2i, 1) := by decide +kernel
theorem d_X_readEnd_137 : decode b_X_readEnd 137 = .ok (.invokevirtual 388, 3) := by decide +kernel
theorem d_X_readEnd_140 : decode b_X_readEnd 140 = .ok (.pop, 1) := by decide +kernel
theorem d_X_readEnd_141 : decode b_X_readEnd 141 = .ok (.goto 32, 3) := by decide +kernel
theorem d_X_readEnd_144 : decode b_X_readEnd 144 = .ok (.aload_n 0, 1) := by decide +kernel
theorem d_X_readEnd_145 : decode b_X_readEnd 145 = .ok (.getfield 48, 3) := by decide +kernel
theorem d_X_readEnd_148 : decode b_X_readEnd 148 = .ok (.iload 4, 2) := by decide +kernel
theorem d_X_readEnd_150 : decode b_X_readEnd 150 = .ok (.baload, 1) := by decide +kernel
theorem d_X_readEnd_151 : decode b_X_readEnd 151 = .ok (.ifCond .ne 22, 3) := by decide +kernel
theorem d_X_readEnd_154 : decode b_X_readEnd 154 = .ok (.aload_n 0, 1) := by decide +kernel
theorem d_X_readEnd_155 : decode b_X_readEnd 155 = .ok (.getfield 52, 3) := by decide +kernel
theorem d_X_readEnd_158 : decode b_X_readEnd 158 = .ok (.iload 4, 2) := by decide +kernel
theorem d_X_readEnd_160 : decode b_X_readEnd 160 = .ok (.aload_n 0, 1) := by decide +kernel
theorem d_X_readEnd_161 : decode b_X_readEnd 161 = .ok (.getfield 317, 3) := by decide +kernel
theorem d_X_readEnd_164 : decode b_X_readEnd 164 = .ok (.i2l, 1) := by decide +kernel
theorem d_X_readEnd_165 : decode b_X_readEnd 165 = .ok (.lastore, 1) := by decide +kernel
theorem d_X_readEnd_166 : decode b_X_readEnd 166 = .ok (.aload_n 0, 1) := by decide +kernel
theorem d_X_readEnd_167 : decode b_X_readEnd 167 = .ok (.iconst 0, 1) := by decide +kernel
theorem d_X_readEnd_168 : decode b_X_readEnd 168 = .ok (.iconst 0, 1) := by decide +kernel
theorem d_X_readEnd_169 : decode b_X_readEnd 169 = .ok (.invokevirtual 388, 3) := by decide +kernel
theorem d_X_readEnd_172 : decode b_X_readEnd 172 = .ok (.pop, 1) := by decide +kernel
theorem d_X_readEnd_173 : decode b_X_readEnd 173 = .ok (.iinc 3 1, 3) := by decide +kernel
theorem d_X_readEnd_176 : decode b_X_readEnd 176 = .ok (.goto (-127), 3) := by decide +kernel
theorem d_X_readEnd_179 : decode b_X_readEnd 179 = .ok (.return_, 1) := by decide +kernel
abbrev b_X_readLabel : ByteArray := prog_11_method_76_code
abbrev y_X_readLabel : MethodName := ⟨"SignMachineModel", "readLabel", "()V"⟩
theorem h_X_readLabel : (y_X_readLabel).cls ≠ "java/lang/invoke/MethodHandle" ∧ (y_X_readLabel).cls ≠ "java/lang/invoke/VarHandle" ∧ (parseMethodDescriptor (y_X_readLabel).desc).map (fun d => d.parameters.length) = some 0 := by decide +kernel
theorem d_X_readLabel_0 : decode b_X_readLabel 0 = .ok (.aload_n 0, 1) := by decide +kernel
theorem d_X_readLabel_1 : decode b_X_readLabel 1 = .ok (.iconst 0, 1) := by decide +kernel
theorem d_X_readLabel_2 : decode b_X_readLabel 2 = .ok (.putfield 493, 3) := by decide +kernel
theorem d_X_readLabel_5 : decode b_X_readLabel 5 = .ok (.aload_n 0, 1) := by decide +kernel
theorem d_X_readLabel_6 : decode b_X_readLabel 6 = .ok (.invokevirtual 288, 3) := by decide +kernel
theorem d_X_readLabel_9 : decode b_X_readLabel 9 = .ok (.bipush 32, 2) := by decide +kernel
theorem d_X_readLabel_11 : decode b_X_readLabel 11 = .ok (.if_icmp .ne 4, 3) := by decide +kernel
theorem d_X_readLabel_14 : decode b_X_readLabel 14 = .ok (.return_, 1) := by decide +kernel
theorem d_X_readLabel_15 : decode b_X_readLabel 15 = .ok (.aload_n 0, 1) := by decide +kernel
theorem d_X_readLabel_16 : decode b_X_readLabel 16 = .ok (.getfield 282, 3) := by decide +kernel
theorem d_X_readLabel_19 : decode b_X_readLabel 19 = .ok (.istore_n 1, 1) := by decide +kernel
theorem d_X_readLabel_20 : decode b_X_readLabel 20 = .ok (.iload_n 1, 1) := by decide +kernel
theorem d_X_readLabel_21 : decode b_X_readLabel 21 = .ok (.aload_n 0, 1) := by decide +kernel
theorem d_X_readLabel_22 : decode b_X_readLabel 22 = .ok (.getfield 285, 3) := by decide +kernel
theorem d_X_readLabel_25 : decode b_X_readLabel 25 = .ok (.if_icmp .ge 20, 3) := by decide +kernel
theorem d_X_readLabel_28 : decode b_X_readLabel 28 = .ok (.aload_n 0, 1) := by decide +kernel
theorem d_X_readLabel_29 : decode b_X_readLabel 29 = .ok (.getfield 37, 3) := by decide +kernel
theorem d_X_readLabel_32 : decode b_X_readLabel 32 = .ok (.iload_n 1, 1) := by decide +kernel
theorem d_X_readLabel_33 : decode b_X_readLabel 33 = .ok (.iaload, 1) := by decide +kernel
theorem d_X_readLabel_34 : decode b_X_readLabel 34 = .ok (.bipush 32, 2) := by decide +kernel
theorem d_X_readLabel_36 : decode b_X_readLabel 36 = .ok (.if_icmp .eq 9, 3) := by decide +kernel
theorem d_X_readLabel_39 : decode b_X_readLabel 39 = .ok (.iinc 1 1, 3) := by decide +kernel
theorem d_X_readLabel_42 : decode b_X_readLabel 42 = .ok (.goto (-22), 3) := by decide +kernel
theorem d_X_readLabel_45 : decode b_X_readLabel 45 = .ok (.aload_n 0, 1) := by decide +kernel
theorem d_X_readLabel_46 : decode b_X_readLabel 46 = .ok (.invokevirtual 324, 3) := by decide +kernel
theorem d_X_readLabel_49 : decode b_X_readLabel 49 = .ok (.aload_n 0, 1) := by decide +kernel
theorem d_X_readLabel_50 : decode b_X_readLabel 50 = .ok (.getfield 282, 3) := by decide +kernel
theorem d_X_readLabel_53 : decode b_X_readLabel 53 = .ok (.iload_n 1, 1) := by decide +kernel
theorem d_X_readLabel_54 : decode b_X_readLabel 54 = .ok (.if_icmp .lt 11, 3) := by decide +kernel
theorem d_X_readLabel_57 : decode b_X_readLabel 57 = .ok (.aload_n 0, 1) := by decide +kernel
theorem d_X_readLabel_58 : decode b_X_readLabel 58 = .ok (.getfield 302, 3) := by decide +kernel
theorem d_X_readLabel_61 : decode b_X_readLabel 61 = .ok (.iconst 2, 1) := by decide +kernel
theorem d_X_readLabel_62 : decode b_X_readLabel 62 = .ok (.if_icmp .ge 8, 3) := by decide +kernel
theorem d_X_readLabel_65 : decode b_X_readLabel 65 = .ok (.aload_n 0, 1) := by decide +kernel
theorem d_X_readLabel_66 : decode b_X_readLabel 66 = .ok (.iconst 1, 1) := by decide +kernel
theorem d_X_readLabel_67 : decode b_X_readLabel 67 = .ok (.invokevirtual 299, 3) := by decide +kernel
theorem d_X_readLabel_70 : decode b_X_readLabel 70 = .ok (.aload_n 0, 1) := by decide +kernel
theorem d_X_readLabel_71 : decode b_X_readLabel 71 = .ok (.getfield 279, 3) := by decide +kernel
theorem d_X_readLabel_74 : decode b_X_readLabel 74 = .ok (.ifCond .ne 33, 3) := by decide +kernel
theorem d_X_readLabel_77 : decode b_X_readLabel 77 = .ok (.aload_n 0, 1) := by decide +kernel
theorem d_X_readLabel_78 : decode b_X_readLabel 78 = .ok (.getfield 302, 3) := by decide +kernel
theorem d_X_readLabel_81 : decode b_X_readLabel 81 = .ok (.iconst 3, 1) := by decide +kernel
theorem d_X_readLabel_82 : decode b_X_readLabel 82 = .ok (.if_icmp .ne 25, 3) := by decide +kernel
theorem d_X_readLabel_85 : decode b_X_readLabel 85 = .ok (.aload_n 0, 1) := by decide +kernel
theorem d_X_readLabel_86 : decode b_X_readLabel 86 = .ok (.getfield 309, 3) := by decide +kernel
theorem d_X_readLabel_89 : decode b_X_readLabel 89 = .ok (.bipush 72, 2) := by decide +kernel
theorem d_X_readLabel_91 : decode b_X_readLabel 91 = .ok (.if_icmp .eq 16, 3) := by decide +kernel
theorem d_X_readLabel_94 : decode b_X_readLabel 94 = .ok (.iload_n 1, 1) := by decide +kernel
theorem d_X_readLabel_95 : decode b_X_readLabel 95 = .ok (.aload_n 0, 1) := by decide +kernel
theorem d_X_readLabel_96 : decode b_X_readLabel 96 = .ok (.getfield 285, 3) := by decide +kernel
theorem d_X_readLabel_99 : decode b_X_readLabel 99 = .ok (.if_icmp .ge 8, 3) := by decide +kernel
theorem d_X_readLabel_102 : decode b_X_readLabel 102 = .ok (.aload_n 0, 1) := by decide +kernel
theorem d_X_readLabel_103 : decode b_X_readLabel 103 = .ok (.iconst 3, 1) := by decide +kernel
theorem d_X_readLabel_104 : decode b_X_readLabel 104 = .ok (.invokevirtual 299, 3) := by decide +kernel
theorem d_X_readLabel_107 : decode b_X_readLabel 107 = .ok (.aload_n 0, 1) := by decide +kernel
theorem d_X_readLabel_108 : decode b_X_readLabel 108 = .ok (.getfield 279, 3) := by decide +kernel
theorem d_X_readLabel_111 : decode b_X_readLabel 111 = .ok (.ifCond .le 4, 3) := by decide +kernel
theorem d_X_readLabel_114 : decode b_X_readLabel 114 = .ok (.return_, 1) := by decide +kernel
theorem d_X_readLabel_115 : decode b_X_readLabel 115 = .ok (.aload_n 0, 1) := by decide +kernel
theorem d_X_readLabel_116 : decode b_X_readLabel 116 = .ok (.aload_n 0, 1) := by decide +kernel
theorem d_X_readLabel_117 : decode b_X_readLabel 117 = .ok (.getfield 302, 3) := by decide +kernel
theorem d_X_readLabel_120 : decode b_X_readLabel 120 = .ok (.putfield 493, 3) := by decide +kernel
theorem d_X_readLabel_123 : decode b_X_readLabel 123 = .ok (.aload_n 0, 1) := by decide +kernel
theorem d_X_readLabel_124 : decode b_X_readLabel 124 = .ok (.aload_n 0, 1) := by decide +kernel
theorem d_X_readLabel_125 : decode b_X_readLabel 125 = .ok (.getfield 305, 3) := by decide +kernel
theorem d_X_readLabel_128 : decode b_X_readLabel 128 = .ok (.putfield 496, 3) := by decide +kernel
theorem d_X_readLabel_131 : decode b_X_readLabel 131 = .ok (.return_, 1) := by decide +kernel
abbrev b_X_readLine : ByteArray := prog_11_method_82_code
abbrev y_X_readLine : MethodName := ⟨"SignMachineModel", "readLine", "()V"⟩
theorem h_X_readLine : (y_X_readLine).cls ≠ "java/lang/invoke/MethodHandle" ∧ (y_X_readLine).cls ≠ "java/lang/invoke/VarHandle" ∧ (parseMethodDescriptor (y_X_readLine).desc).map (fun d => d.parameters.length) = some 0 := by decide +kernel
theorem d_X_readLine_0 : decode b_X_readLine 0 = .ok (.aload_n 0, 1) := by decide +kernel
theorem d_X_readLine_1 : decode b_X_readLine 1 = .ok (.iconst (-1), 1) := by decide +kernel
theorem d_X_readLine_2 : decode b_X_readLine 2 = .ok (.putfield 499, 3) := by decide +kernel
theorem d_X_readLine_5 : decode b_X_readLine 5 = .ok (.aload_n 0, 1) := by decide +kernel
theorem d_X_readLine_6 : decode b_X_readLine 6 = .ok (.invokevirtual 520, 3) := by decide +kernel
theorem d_X_readLine_9 : decode b_X_readLine 9 = .ok (.aload_n 0, 1) := by decide +kernel
theorem d_X_readLine_10 : decode b_X_readLine 10 = .ok (.getfield 279, 3) := by decide +kernel
theorem d_X_readLine_13 : decode b_X_readLine 13 = .ok (.ifCond .le 4, 3) := by decide +kernel
theorem d_X_readLine_16 : decode b_X_readLine 16 = .ok (.return_, 1) := by decide +kernel
theorem d_X_readLine_17 : decode b_X_readLine 17 = .ok (.aload_n 0, 1) := by decide +kernel
theorem d_X_readLine_18 : decode b_X_readLine 18 = .ok (.invokevirtual 523, 3) := by decide +kernel
theorem d_X_readLine_21 : decode b_X_readLine 21 = .ok (.aload_n 0, 1) := by decide +kernel
theorem d_X_readLine_22 : decode b_X_readLine 22 = .ok (.invokevirtual 288, 3) := by decide +kernel
theorem d_X_readLine_25 : decode b_X_readLine 25 = .ok (.iconst (-1), 1) := by decide +kernel
theorem d_X_readLine_26 : decode b_X_readLine 26 = .ok (.if_icmp .ne 9, 3) := by decide +kernel
theorem d_X_readLine_29 : decode b_X_readLine 29 = .ok (.aload_n 0, 1) := by decide +kernel
theorem d_X_readLine_30 : decode b_X_readLine 30 = .ok (.iconst 1, 1) := by decide +kernel
theorem d_X_readLine_31 : decode b_X_readLine 31 = .ok (.invokevirtual 299, 3) := by decide +kernel
theorem d_X_readLine_34 : decode b_X_readLine 34 = .ok (.return_, 1) := by decide +kernel
theorem d_X_readLine_35 : decode b_X_readLine 35 = .ok (.aload_n 0, 1) := by decide +kernel
theorem d_X_readLine_36 : decode b_X_readLine 36 = .ok (.getfield 282, 3) := by decide +kernel
theorem d_X_readLine_39 : decode b_X_readLine 39 = .ok (.istore_n 1, 1) := by decide +kernel
theorem d_X_readLine_40 : decode b_X_readLine 40 = .ok (.lconst 0, 1) := by decide +kernel
theorem d_X_readLine_41 : decode b_X_readLine 41 = .ok (.lstore_n 2, 1) := by decide +kernel
theorem d_X_readLine_42 : decode b_X_readLine 42 = .ok (.aload_n 0, 1) := by decide +kernel
theorem d_X_readLine_43 : decode b_X_readLine 43 = .ok (.invokevirtual 288, 3) := by decide +kernel
theorem d_X_readLine_46 : decode b_X_readLine 46 = .ok (.iconst (-1), 1) := by decide +kernel
theorem d_X_readLine_47 : decode b_X_readLine 47 = .ok (.if_icmp .eq 53, 3) := by decide +kernel
theorem d_X_readLine_50 : decode b_X_readLine 50 = .ok (.aload_n 0, 1) := by decide +kernel
theorem d_X_readLine_51 : decode b_X_readLine 51 = .ok (.invokevirtual 288, 3) := by decide +kernel
theorem d_X_readLine_54 : decode b_X_readLine 54 = .ok (.bipush 32, 2) := by decide +kernel
theorem d_X_readLine_56 : decode b_X_readLine 56 = .ok (.if_icmp .eq 44, 3) := by decide +kernel
theorem d_X_readLine_59 : decode b_X_readLine 59 = .ok (.aload_n 0, 1) := by decide +kernel
theorem d_X_readLine_60 : decode b_X_readLine 60 = .ok (.getfield 282, 3) := by decide +kernel
theorem d_X_readLine_63 : decode b_X_readLine 63 = .ok (.iload_n 1, 1) := by decide +kernel
theorem d_X_readLine_64 : decode b_X_readLine 64 = .ok (.isub, 1) := by decide +kernel
theorem d_X_readLine_65 : decode b_X_readLine 65 = .ok (.bipush 8, 2) := by decide +kernel
theorem d_X_readLine_67 : decode b_X_readLine 67 = .ok (.if_icmp .ge 16, 3) := by decide +kernel
theorem d_X_readLine_70 : decode b_X_readLine 70 = .ok (.lload_n 2, 1) := by decide +kernel
theorem d_X_readLine_71 : decode b_X_readLine 71 = .ok (.bipush 8, 2) := by decide +kernel
theorem d_X_readLine_73 : decode b_X_readLine 73 = .ok (.lshl, 1) := by decide +kernel
theorem d_X_readLine_74 : decode b_X_readLine 74 = .ok (.aload_n 0, 1) := by decide +kernel
theorem d_X_readLine_75 : decode b_X_readLine 75 = .ok (.invokevirtual 288, 3) := by decide +kernel
theorem d_X_readLine_78 : decode b_X_readLine 78 = .ok (.i2l, 1) := by decide +kernel
theorem d_X_readLine_79 : decode b_X_readLine 79 = .ok (.lor, 1) := by decide +kernel
theorem d_X_readLine_80 : decode b_X_readLine 80 = .ok (.goto 6, 3) := by decide +kernel
theorem d_X_readLine_83 : decode b_X_readLine 83 = .ok (.ldc2_w 526, 3) := by decide +kernel
theorem d_X_readLine_86 : decode b_X_readLine 86 = .ok (.lstore_n 2, 1) := by decide +kernel
theorem d_X_readLine_87 : decode b_X_readLine 87 = .ok (.aload_n 0, 1) := by decide +kernel
theorem d_X_readLine_88 : decode b_X_readLine 88 = .ok (.dup, 1) := by decide +kernel
theorem d_X_readLine_89 : decode b_X_readLine 89 = .ok (.getfield 282, 3) := by decide +kernel
theorem d_X_readLine_92 : decode b_X_readLine 92 = .ok (.iconst 1, 1) := by decide +kernel
theorem d_X_readLine_93 : decode b_X_readLine 93 = .ok (.iadd, 1) := by decide +kernel
theorem d_X_readLine_94 : decode b_X_readLine 94 = .ok (.putfield 282, 3) := by decide +kernel
theorem d_X_readLine_97 : decode b_X_readLine 97 = .ok (.goto (-55), 3) := by decide +kernel
theorem d_X_readLine_100 : decode b_X_readLine 100 = .ok (.aload_n 0, 1) := by decide +kernel
theorem d_X_readLine_101 : decode b_X_readLine 101 = .ok (.getfield 282, 3) := by decide +kernel
theorem d_X_readLine_104 : decode b_X_readLine 104 = .ok (.iload_n 1, 1) := by decide +kernel
theorem d_X_readLine_105 : decode b_X_readLine 105 = .ok (.isub, 1) := by decide +kernel
theorem d_X_readLine_106 : decode b_X_readLine 106 = .ok (.istore 4, 2) := by decide +kernel
theorem d_X_readLine_108 : decode b_X_readLine 108 = .ok (.aload_n 0, 1) := by decide +kernel
theorem d_X_readLine_109 : decode b_X_readLine 109 = .ok (.getfield 37, 3) := by decide +kernel
theorem d_X_readLine_112 : decode b_X_readLine 112 = .ok (.iload_n 1, 1) := by decide +kernel
theorem d_X_readLine_113 : decode b_X_readLine 113 = .ok (.iaload, 1) := by decide +kernel
theorem d_X_readLine_114 : decode b_X_readLine 114 = .ok (.ifCond .ne 9, 3) := by decide +kernel
theorem d_X_readLine_117 : decode b_X_readLine 117 = .ok (.aload_n 0, 1) := by decide +kernel
theorem d_X_readLine_118 : decode b_X_readLine 118 = .ok (.iconst 2, 1) := by decide +kernel
theorem d_X_readLine_119 : decode b_X_readLine 119 = .ok (.invokevirtual 299, 3) := by decide +kernel
theorem d_X_readLine_122 : decode b_X_readLine 122 = .ok (.return_, 1) := by decide +kernel
theorem d_X_readLine_123 : decode b_X_readLine 123 = .ok (.lload_n 2, 1) := by decide +kernel
theorem d_X_readLine_124 : decode b_X_readLine 124 = .ok (.ldc2_w 528, 3) := by decide +kernel
theorem d_X_readLine_127 : decode b_X_readLine 127 = .ok (.lcmp, 1) := by decide +kernel
theorem d_X_readLine_128 : decode b_X_readLine 128 = .ok (.ifCond .eq 35, 3) := by decide +kernel
theorem d_X_readLine_131 : decode b_X_readLine 131 = .ok (.lload_n 2, 1) := by decide +kernel
theorem d_X_readLine_132 : decode b_X_readLine 132 = .ok (.ldc2_w 530, 3) := by decide +kernel
theorem d_X_readLine_135 : decode b_X_readLine 135 = .ok (.lcmp, 1) := by decide +kernel
theorem d_X_readLine_136 : decode b_X_readLine 136 = .ok (.ifCond .eq 27, 3) := by decide +kernel
theorem d_X_readLine_139 : decode b_X_readLine 139 = .ok (.lload_n 2, 1) := by decide +kernel
theorem d_X_readLine_140 : decode b_X_readLine 140 = .ok (.ldc2_w 532, 3) := by decide +kernel
theorem d_X_readLine_143 : decode b_X_readLine 143 = .ok (.lcmp, 1) := by decide +kernel
theorem d_X_readLine_144 : decode b_X_readLine 144 = .ok (.ifCond .eq 19, 3) := by decide +kernel
theorem d_X_readLine_147 : decode b_X_readLine 147 = .ok (.lload_n 2, 1) := by decide +kernel
theorem d_X_readLine_148 : decode b_X_readLine 148 = .ok (.ldc2_w 534, 3) := by decide +kernel
theorem d_X_readLine_151 : decode b_X_readLine 151 = .ok (.lcmp, 1) := by decide +kernel
theorem d_X_readLine_152 : decode b_X_readLine 152 = .ok (.ifCond .eq 11, 3) := by decide +kernel
theorem d_X_readLine_155 : decode b_X_readLine 155 = .ok (.lload_n 2, 1) := by decide +kernel
theorem d_X_readLine_156 : decode b_X_readLine 156 = .ok (.ldc2_w 536, 3) := by decide +kernel
theorem d_X_readLine_159 : decode b_X_readLine 159 = .ok (.lcmp, 1) := by decide +kernel
theorem d_X_readLine_160 : decode b_X_readLine 160 = .ok (.ifCond .ne 7, 3) := by decide +kernel
theorem d_X_readLine_163 : decode b_X_readLine 163 = .ok (.iconst 0, 1) := by decide +kernel
theorem d_X_readLine_164 : decode b_X_readLine 164 = .ok (.goto 21, 3) := by decide +kernel
theorem d_X_readLine_167 : decode b_X_readLine 167 = .ok (.iload 4, 2) := by decide +kernel
theorem d_X_readLine_169 : decode b_X_readLine 169 = .ok (.bipush 8, 2) := by decide +kernel
theorem d_X_readLine_171 : decode b_X_readLine 171 = .ok (.if_icmp .le 7, 3) := by decide +kernel
theorem d_X_readLine_174 : decode b_X_readLine 174 = .ok (.iconst (-1), 1) := by decide +kernel
theorem d_X_readLine_175 : decode b_X_readLine 175 = .ok (.goto 10, 3) := by decide +kernel
theorem d_X_readLine_178 : decode b_X_readLine 178 = .ok (.aload_n 0, 1) := by decide +kernel
theorem d_X_readLine_179 : decode b_X_readLine 179 = .ok (.iload_n 1, 1) := by decide +kernel
theorem d_X_readLine_180 : decode b_X_readLine 180 = .ok (.iload 4, 2) := by decide +kernel
theorem d_X_readLine_182 : decode b_X_readLine 182 = .ok (.invokevirtual 538, 3) := by decide +kernel
theorem d_X_readLine_185 : decode b_X_readLine 185 = .ok (.istore 5, 2) := by decide +kernel
theorem d_X_readLine_187 : decode b_X_readLine 187 = .ok (.iload 5, 2) := by decide +kernel
theorem d_X_readLine_189 : decode b_X_readLine 189 = .ok (.ifCond .ge 9, 3) := by decide +kernel
theorem d_X_readLine_192 : decode b_X_readLine 192 = .ok (.aload_n 0, 1) := by decide +kernel
theorem d_X_readLine_193 : decode b_X_readLine 193 = .ok (.iconst 2, 1) := by decide +kernel
theorem d_X_readLine_194 : decode b_X_readLine 194 = .ok (.invokevirtual 299, 3) := by decide +kernel
theorem d_X_readLine_197 : decode b_X_readLine 197 = .ok (.return_, 1) := by decide +kernel
theorem d_X_readLine_198 : decode b_X_readLine 198 = .ok (.lload_n 2, 1) := by decide +kernel
theorem d_X_readLine_199 : decode b_X_readLine 199 = .ok (.ldc2_w 528, 3) := by decide +kernel
theorem d_X_readLine_202 : decode b_X_readLine 202 = .ok (.lcmp, 1) := by decide +kernel
theorem d_X_readLine_203 : decode b_X_readLine 203 = .ok (.ifCond .eq 12, 3) := by decide +kernel
theorem d_X_readLine_206 : decode b_X_readLine 206 = .ok (.aload_n 0, 1) := by decide +kernel
theorem d_X_readLine_207 : decode b_X_readLine 207 = .ok (.aload_n 0, 1) := by decide +kernel
theorem d_X_readLine_208 : decode b_X_readLine 208 = .ok (.getfield 317, 3) := by decide +kernel
theorem d_X_readLine_211 : decode b_X_readLine 211 = .ok (.i2l, 1) := by decide +kernel
theorem d_X_readLine_212 : decode b_X_readLine 212 = .ok (.invokevirtual 541, 3) := by decide +kernel
theorem d_X_readLine_215 : decode b_X_readLine 215 = .ok (.lload_n 2, 1) := by decide +kernel
theorem d_X_readLine_216 : decode b_X_readLine 216 = .ok (.ldc2_w 534, 3) := by decide +kernel
theorem d_X_readLine_219 : decode b_X_readLine 219 = .ok (.lcmp, 1) := by decide +kernel
theorem d_X_readLine_220 : decode b_X_readLine 220 = .ok (.ifCond .ne 8, 3) := by decide +kernel
theorem d_X_readLine_223 : decode b_X_readLine 223 = .ok (.aload_n 0, 1) := by decide +kernel
theorem d_X_readLine_224 : decode b_X_readLine 224 = .ok (.invokevirtual 544, 3) := by decide +kernel
theorem d_X_readLine_227 : decode b_X_readLine 227 = .ok (.return_, 1) := by decide +kernel
theorem d_X_readLine_228 : decode b_X_readLine 228 = .ok (.aload_n 0, 1) := by decide +kernel
theorem d_X_readLine_229 : decode b_X_readLine 229 = .ok (.invokevirtual 523, 3) := by decide +kernel
theorem d_X_readLine_232 : decode b_X_readLine 232 = .ok (.lload_n 2, 1) := by decide +kernel
theorem d_X_readLine_233 : decode b_X_readLine 233 = .ok (.ldc2_w 528, 3) := by decide +kernel
theorem d_X_readLine_236 : decode b_X_readLine 236 = .ok (.lcmp, 1) := by decide +kernel
theorem d_X_readLine_237 : decode b_X_readLine 237 = .ok (.ifCond .ne 18, 3) := by decide +kernel
theorem d_X_readLine_240 : decode b_X_readLine 240 = .ok (.aload_n 0, 1) := by decide +kernel
theorem d_X_readLine_241 : decode b_X_readLine 241 = .ok (.invokevirtual 508, 3) := by decide +kernel
theorem d_X_readLine_244 : decode b_X_readLine 244 = .ok (.aload_n 0, 1) := by decide +kernel
theorem d_X_readLine_245 : decode b_X_readLine 245 = .ok (.aload_n 0, 1) := by decide +kernel
theorem d_X_readLine_246 : decode b_X_readLine 246 = .ok (.invokevirtual 511, 3) := by decide +kernel
theorem d_X_readLine_249 : decode b_X_readLine 249 = .ok (.invokevirtual 541, 3) := by decide +kernel
theorem d_X_readLine_252 : decode b_X_readLine 252 = .ok (.goto 125, 3) := by decide +kernel
theorem d_X_readLine_255 : decode b_X_readLine 255 = .ok (.lload_n 2, 1) := by decide +kernel
theorem d_X_readLine_256 : decode b_X_readLine 256 = .ok (.ldc2_w 530, 3) := by decide +kernel
theorem d_X_readLine_259 : decode b_X_readLine 259 = .ok (.lcmp, 1) := by decide +kernel
theorem d_X_readLine_260 : decode b_X_readLine 260 = .ok (.ifCond .ne 44, 3) := by decide +kernel
theorem d_X_readLine_263 : decode b_X_readLine 263 = .ok (.aload_n 0, 1) := by decide +kernel
theorem d_X_readLine_264 : decode b_X_readLine 264 = .ok (.invokevirtual 508, 3) := by decide +kernel
theorem d_X_readLine_267 : decode b_X_readLine 267 = .ok (.aload_n 0, 1) := by decide +kernel
theorem d_X_readLine_268 : decode b_X_readLine 268 = .ok (.invokevirtual 511, 3) := by decide +kernel
theorem d_X_readLine_271 : decode b_X_readLine 271 = .ok (.lstore 6, 2) := by decide +kernel
theorem d_X_readLine_273 : decode b_X_readLine 273 = .ok (.lload 6, 2) := by decide +kernel
theorem d_X_readLine_275 : decode b_X_readLine 275 = .ok (.lconst 0, 1) := by decide +kernel
theorem d_X_readLine_276 : decode b_X_readLine 276 = .ok (.lcmp, 1) := by decide +kernel
theorem d_X_readLine_277 : decode b_X_readLine 277 = .ok (.ifCond .lt 12, 3) := by decide +kernel
theorem d_X_readLine_280 : decode b_X_readLine 280 = .ok (.lload 6, 2) := by decide +kernel
theorem d_X_readLine_282 : decode b_X_readLine 282 = .ok (.ldc2_w 156, 3) := by decide +kernel
theorem d_X_readLine_285 : decode b_X_readLine 285 = .ok (.lcmp, 1) := by decide +kernel
theorem d_X_readLine_286 : decode b_X_readLine 286 = .ok (.ifCond .lt 8, 3) := by decide +kernel
theorem d_X_readLine_289 : decode b_X_readLine 289 = .ok (.aload_n 0, 1) := by decide +kernel
theorem d_X_readLine_290 : decode b_X_readLine 290 = .ok (.iconst 4, 1) := by decide +kernel
theorem d_X_readLine_291 : decode b_X_readLine 291 = .ok (.invokevirtual 299, 3) := by decide +kernel
theorem d_X_readLine_294 : decode b_X_readLine 294 = .ok (.aload_n 0, 1) := by decide +kernel
theorem d_X_readLine_295 : decode b_X_readLine 295 = .ok (.lload 6, 2) := by decide +kernel
theorem d_X_readLine_297 : decode b_X_readLine 297 = .ok (.l2i, 1) := by decide +kernel
theorem d_X_readLine_298 : decode b_X_readLine 298 = .ok (.putfield 317, 3) := by decide +kernel
theorem d_X_readLine_301 : decode b_X_readLine 301 = .ok (.goto 76, 3) := by decide +kernel
theorem d_X_readLine_304 : decode b_X_readLine 304 = .ok (.lload_n 2, 1) := by decide +kernel
theorem d_X_readLine_305 : decode b_X_readLine 305 = .ok (.ldc2_w 532, 3) := by decide +kernel
theorem d_X_readLine_308 : decode b_X_readLine 308 = .ok (.lcmp, 1) := by decide +kernel
theorem d_X_readLine_309 : decode b_X_readLine 309 = .ok (.ifCond .ne 39, 3) := by decide +kernel
theorem d_X_readLine_312 : decode b_X_readLine 312 = .ok (.aload_n 0, 1) := by decide +kernel
theorem d_X_readLine_313 : decode b_X_readLine 313 = .ok (.invokevirtual 508, 3) := by decide +kernel
theorem d_X_readLine_316 : decode b_X_readLine 316 = .ok (.aload_n 0, 1) := by decide +kernel
theorem d_X_readLine_317 : decode b_X_readLine 317 = .ok (.getfield 317, 3) := by decide +kernel
theorem d_X_readLine_320 : decode b_X_readLine 320 = .ok (.i2l, 1) := by decide +kernel
theorem d_X_readLine_321 : decode b_X_readLine 321 = .ok (.invokestatic 158, 3) := by decide +kernel
theorem d_X_readLine_324 : decode b_X_readLine 324 = .ok (.ifCond .ne 8, 3) := by decide +kernel
theorem d_X_readLine_327 : decode b_X_readLine 327 = .ok (.aload_n 0, 1) := by decide +kernel
theorem d_X_readLine_328 : decode b_X_readLine 328 = .ok (.iconst 4, 1) := by decide +kernel
theorem d_X_readLine_329 : decode b_X_readLine 329 = .ok (.invokevirtual 299, 3) := by decide +kernel
theorem d_X_readLine_332 : decode b_X_readLine 332 = .ok (.aload_n 0, 1) := by decide +kernel
theorem d_X_readLine_333 : decode b_X_readLine 333 = .ok (.aload_n 0, 1) := by decide +kernel
theorem d_X_readLine_334 : decode b_X_readLine 334 = .ok (.getfield 341, 3) := by decide +kernel
theorem d_X_readLine_337 : decode b_X_readLine 337 = .ok (.aload_n 0, 1) := by decide +kernel
theorem d_X_readLine_338 : decode b_X_readLine 338 = .ok (.getfield 344, 3) := by decide +kernel
theorem d_X_readLine_341 : decode b_X_readLine 341 = .ok (.invokevirtual 388, 3) := by decide +kernel
theorem d_X_readLine_344 : decode b_X_readLine 344 = .ok (.pop, 1) := by decide +kernel
theorem d_X_readLine_345 : decode b_X_readLine 345 = .ok (.goto 32, 3) := by decide +kernel
theorem d_X_readLine_348 : decode b_X_readLine 348 = .ok (.lload_n 2, 1) := by decide +kernel
theorem d_X_readLine_349 : decode b_X_readLine 349 = .ok (.ldc2_w 536, 3) := by decide +kernel
theorem d_X_readLine_352 : decode b_X_readLine 352 = .ok (.lcmp, 1) := by decide +kernel
theorem d_X_readLine_353 : decode b_X_readLine 353 = .ok (.ifCond .ne 10, 3) := by decide +kernel
theorem d_X_readLine_356 : decode b_X_readLine 356 = .ok (.aload_n 0, 1) := by decide +kernel
theorem d_X_readLine_357 : decode b_X_readLine 357 = .ok (.invokevirtual 547, 3) := by decide +kernel
theorem d_X_readLine_360 : decode b_X_readLine 360 = .ok (.goto 17, 3) := by decide +kernel
theorem d_X_readLine_363 : decode b_X_readLine 363 = .ok (.aload_n 0, 1) := by decide +kernel
theorem d_X_readLine_364 : decode b_X_readLine 364 = .ok (.iload 5, 2) := by decide +kernel
theorem d_X_readLine_366 : decode b_X_readLine 366 = .ok (.bipush 64, 2) := by decide +kernel
theorem d_X_readLine_368 : decode b_X_readLine 368 = .ok (.irem, 1) := by decide +kernel
theorem d_X_readLine_369 : decode b_X_readLine 369 = .ok (.iload 5, 2) := by decide +kernel
theorem d_X_readLine_371 : decode b_X_readLine 371 = .ok (.bipush 64, 2) := by decide +kernel
theorem d_X_readLine_373 : decode b_X_readLine 373 = .ok (.idiv, 1) := by decide +kernel
theorem d_X_readLine_374 : decode b_X_readLine 374 = .ok (.invokevirtual 550, 3) := by decide +kernel
theorem d_X_readLine_377 : decode b_X_readLine 377 = .ok (.return_, 1) := by decide +kernel
abbrev b_X_readName : ByteArray := prog_11_method_55_code
abbrev y_X_readName : MethodName := ⟨"SignMachineModel", "readName", "()V"⟩
theorem h_X_readName : (y_X_readName).cls ≠ "java/lang/invoke/MethodHandle" ∧ (y_X_readName).cls ≠ "java/lang/invoke/VarHandle" ∧ (parseMethodDescriptor (y_X_readName).desc).map (fun d => d.parameters.length) = some 0 := by decide +kernel
theorem d_X_readName_0 : decode b_X_readName 0 = .ok (.aload_n 0, 1) := by decide +kernel
theorem d_X_readName_1 : decode b_X_readName 1 = .ok (.getfield 282, 3) := by decide +kernel
theorem d_X_readName_4 : decode b_X_readName 4 = .ok (.istore_n 1, 1) := by decide +kernel
theorem d_X_readName_5 : decode b_X_readName 5 = .ok (.iconst 0, 1) := by decide +kernel
theorem d_X_readName_6 : decode b_X_readName 6 = .ok (.istore_n 2, 1) := by decide +kernel
theorem d_X_readName_7 : decode b_X_readName 7 = .ok (.lconst 0, 1) := by decide +kernel
theorem d_X_readName_8 : decode b_X_readName 8 = .ok (.lstore_n 3, 1) := by decide +kernel
theorem d_X_readName_9 : decode b_X_readName 9 = .ok (.lconst 0, 1) := by decide +kernel
theorem d_X_readName_10 : decode b_X_readName 10 = .ok (.lstore 5, 2) := by decide +kernel
theorem d_X_readName_12 : decode b_X_readName 12 = .ok (.aload_n 0, 1) := by decide +kernel
theorem d_X_readName_13 : decode b_X_readName 13 = .ok (.invokevirtual 288, 3) := by decide +kernel
theorem d_X_readName_16 : decode b_X_readName 16 = .ok (.invokestatic 291, 3) := by decide +kernel
theorem d_X_readName_19 : decode b_X_readName 19 = .ok (.ifCond .ne 13, 3) := by decide +kernel
theorem d_X_readName_22 : decode b_X_readName 22 = .ok (.aload_n 0, 1) := by decide +kernel
theorem d_X_readName_23 : decode b_X_readName 23 = .ok (.invokevirtual 288, 3) := by decide +kernel
theorem d_X_readName_26 : decode b_X_readName 26 = .ok (.invokestatic 294, 3) := by decide +kernel
theorem d_X_readName_29 : decode b_X_readName 29 = .ok (.ifCond .eq 96, 3) := by decide +kernel
theorem d_X_readName_32 : decode b_X_readName 32 = .ok (.iload_n 2, 1) := by decide +kernel
theorem d_X_readName_33 : decode b_X_readName 33 = .ok (.ifCond .ne 13, 3) := by decide +kernel
theorem d_X_readName_36 : decode b_X_readName 36 = .ok (.aload_n 0, 1) := by decide +kernel
theorem d_X_readName_37 : decode b_X_readName 37 = .ok (.invokevirtual 288, 3) := by decide +kernel
theorem d_X_readName_40 : decode b_X_readName 40 = .ok (.invokestatic 291, 3) := by decide +kernel
theorem d_X_readName_43 : decode b_X_readName 43 = .ok (.ifCond .eq 7, 3) := by decide +kernel
theorem d_X_readName_46 : decode b_X_readName 46 = .ok (.iconst 1, 1) := by decide +kernel
theorem d_X_readName_47 : decode b_X_readName 47 = .ok (.goto 4, 3) := by decide +kernel
theorem d_X_readName_50 : decode b_X_readName 50 = .ok (.iconst 0, 1) := by decide +kernel
theorem d_X_readName_51 : decode b_X_readName 51 = .ok (.istore_n 2, 1) := by decide +kernel
theorem d_X_readName_52 : decode b_X_readName 52 = .ok (.aload_n 0, 1) := by decide +kernel
theorem d_X_readName_53 : decode b_X_readName 53 = .ok (.getfield 282, 3) := by decide +kernel
theorem d_X_readName_56 : decode b_X_readName 56 = .ok (.iload_n 1, 1) := by decide +kernel
theorem d_X_readName_57 : decode b_X_readName 57 = .ok (.isub, 1) := by decide +kernel
theorem d_X_readName_58 : decode b_X_readName 58 = .ok (.bipush 10, 2) := by decide +kernel
theorem d_X_readName_60 : decode b_X_readName 60 = .ok (.if_icmp .ge 21, 3) := by decide +kernel
theorem d_X_readName_63 : decode b_X_readName 63 = .ok (.ldc2_w 201, 3) := by decide +kernel
theorem d_X_readName_66 : decode b_X_readName 66 = .ok (.lload_n 3, 1) := by decide +kernel
theorem d_X_readName_67 : decode b_X_readName 67 = .ok (.lmul, 1) := by decide +kernel
theorem d_X_readName_68 : decode b_X_readName 68 = .ok (.aload_n 0, 1) := by decide +kernel
theorem d_X_readName_69 : decode b_X_readName 69 = .ok (.invokevirtual 288, 3) := by decide +kernel
theorem d_X_readName_72 : decode b_X_readName 72 = .ok (.i2l, 1) := by decide +kernel
theorem d_X_readName_73 : decode b_X_readName 73 = .ok (.ladd, 1) := by decide +kernel
theorem d_X_readName_74 : decode b_X_readName 74 = .ok (.ldc2_w 297, 3) := by decide +kernel
theorem d_X_readName_77 : decode b_X_readName 77 = .ok (.lsub, 1) := by decide +kernel
theorem d_X_readName_78 : decode b_X_readName 78 = .ok (.goto 4, 3) := by decide +kernel
theorem d_X_readName_81 : decode b_X_readName 81 = .ok (.lload_n 3, 1) := by decide +kernel
theorem d_X_readName_82 : decode b_X_readName 82 = .ok (.lstore_n 3, 1) := by decide +kernel
theorem d_X_readName_83 : decode b_X_readName 83 = .ok (.aload_n 0, 1) := by decide +kernel
theorem d_X_readName_84 : decode b_X_readName 84 = .ok (.getfield 282, 3) := by decide +kernel
theorem d_X_readName_87 : decode b_X_readName 87 = .ok (.iload_n 1, 1) := by decide +kernel
theorem d_X_readName_88 : decode b_X_readName 88 = .ok (.isub, 1) := by decide +kernel
theorem d_X_readName_89 : decode b_X_readName 89 = .ok (.bipush 8, 2) := by decide +kernel
theorem d_X_readName_91 : decode b_X_readName 91 = .ok (.if_icmp .ge 17, 3) := by decide +kernel
theorem d_X_readName_94 : decode b_X_readName 94 = .ok (.lload 5, 2) := by decide +kernel
theorem d_X_readName_96 : decode b_X_readName 96 = .ok (.bipush 8, 2) := by decide +kernel
theorem d_X_readName_98 : decode b_X_readName 98 = .ok (.lshl, 1) := by decide +kernel
theorem d_X_readName_99 : decode b_X_readName 99 = .ok (.aload_n 0, 1) := by decide +kernel
theorem d_X_readName_100 : decode b_X_readName 100 = .ok (.invokevirtual 288, 3) := by decide +kernel
theorem d_X_readName_103 : decode b_X_readName 103 = .ok (.i2l, 1) := by decide +kernel
theorem d_X_readName_104 : decode b_X_readName 104 = .ok (.lor, 1) := by decide +kernel
theorem d_X_readName_105 : decode b_X_readName 105 = .ok (.goto 5, 3) := by decide +kernel
theorem d_X_readName_108 : decode b_X_readName 108 = .ok (.lload 5, 2) := by decide +kernel
theorem d_X_readName_110 : decode b_X_readName 110 = .ok (.lstore 5, 2) := by decide +kernel
theorem d_X_readName_112 : decode b_X_readName 112 = .ok (.aload_n 0, 1) := by decide +kernel
theorem d_X_readName_113 : decode b_X_readName 113 = .ok (.dup, 1) := by decide +kernel
theorem d_X_readName_114 : decode b_X_readName 114 = .ok (.getfield 282, 3) := by decide +kernel
theorem d_X_readName_117 : decode b_X_readName 117 = .ok (.iconst 1, 1) := by decide +kernel
theorem d_X_readName_118 : decode b_X_readName 118 = .ok (.iadd, 1) := by decide +kernel
theorem d_X_readName_119 : decode b_X_readName 119 = .ok (.putfield 282, 3) := by decide +kernel
theorem d_X_readName_122 : decode b_X_readName 122 = .ok (.goto (-110), 3) := by decide +kernel
theorem d_X_readName_125 : decode b_X_readName 125 = .ok (.aload_n 0, 1) := by decide +kernel
theorem d_X_readName_126 : decode b_X_readName 126 = .ok (.getfield 282, 3) := by decide +kernel
theorem d_X_readName_129 : decode b_X_readName 129 = .ok (.iload_n 1, 1) := by decide +kernel
theorem d_X_readName_130 : decode b_X_readName 130 = .ok (.isub, 1) := by decide +kernel
theorem d_X_readName_131 : decode b_X_readName 131 = .ok (.istore 7, 2) := by decide +kernel
theorem d_X_readName_133 : decode b_X_readName 133 = .ok (.iload 7, 2) := by decide +kernel
theorem d_X_readName_135 : decode b_X_readName 135 = .ok (.ifCond .ne 14, 3) := by decide +kernel
theorem d_X_readName_138 : decode b_X_readName 138 = .ok (.aload_n 0, 1) := by decide +kernel
theorem d_X_readName_139 : decode b_X_readName 139 = .ok (.iconst 1, 1) := by decide +kernel
theorem d_X_readName_140 : decode b_X_readName 140 = .ok (.invokevirtual 299, 3) := by decide +kernel
theorem d_X_readName_143 : decode b_X_readName 143 = .ok (.aload_n 0, 1) := by decide +kernel
theorem d_X_readName_144 : decode b_X_readName 144 = .ok (.iconst 0, 1) := by decide +kernel
theorem d_X_readName_145 : decode b_X_readName 145 = .ok (.putfield 302, 3) := by decide +kernel
theorem d_X_readName_148 : decode b_X_readName 148 = .ok (.return_, 1) := by decide +kernel
theorem d_X_readName_149 : decode b_X_readName 149 = .ok (.aload_n 0, 1) := by decide +kernel
theorem d_X_readName_150 : decode b_X_readName 150 = .ok (.iload_n 2, 1) := by decide +kernel
theorem d_X_readName_151 : decode b_X_readName 151 = .ok (.ifCond .eq 7, 3) := by decide +kernel
theorem d_X_readName_154 : decode b_X_readName 154 = .ok (.iconst 2, 1) := by decide +kernel
theorem d_X_readName_155 : decode b_X_readName 155 = .ok (.goto 4, 3) := by decide +kernel
theorem d_X_readName_158 : decode b_X_readName 158 = .ok (.iconst 1, 1) := by decide +kernel
theorem d_X_readName_159 : decode b_X_readName 159 = .ok (.putfield 302, 3) := by decide +kernel
theorem d_X_readName_162 : decode b_X_readName 162 = .ok (.aload_n 0, 1) := by decide +kernel
theorem d_X_readName_163 : decode b_X_readName 163 = .ok (.iload_n 2, 1) := by decide +kernel
theorem d_X_readName_164 : decode b_X_readName 164 = .ok (.ifCond .eq 8, 3) := by decide +kernel
theorem d_X_readName_167 : decode b_X_readName 167 = .ok (.lload 5, 2) := by decide +kernel
theorem d_X_readName_169 : decode b_X_readName 169 = .ok (.goto 8, 3) := by decide +kernel
theorem d_X_readName_172 : decode b_X_readName 172 = .ok (.lload_n 3, 1) := by decide +kernel
theorem d_X_readName_173 : decode b_X_readName 173 = .ok (.ldc2_w 199, 3) := by decide +kernel
theorem d_X_readName_176 : decode b_X_readName 176 = .ok (.lrem, 1) := by decide +kernel
theorem d_X_readName_177 : decode b_X_readName 177 = .ok (.putfield 305, 3) := by decide +kernel
theorem d_X_readName_180 : decode b_X_readName 180 = .ok (.iload 7, 2) := by decide +kernel
theorem d_X_readName_182 : decode b_X_readName 182 = .ok (.iload_n 2, 1) := by decide +kernel
theorem d_X_readName_183 : decode b_X_readName 183 = .ok (.ifCond .eq 8, 3) := by decide +kernel
theorem d_X_readName_186 : decode b_X_readName 186 = .ok (.bipush 8, 2) := by decide +kernel
theorem d_X_readName_188 : decode b_X_readName 188 = .ok (.goto 5, 3) := by decide +kernel
theorem d_X_readName_191 : decode b_X_readName 191 = .ok (.bipush 10, 2) := by decide +kernel
theorem d_X_readName_193 : decode b_X_readName 193 = .ok (.if_icmp .le 8, 3) := by decide +kernel
theorem d_X_readName_196 : decode b_X_readName 196 = .ok (.aload_n 0, 1) := by decide +kernel
theorem d_X_readName_197 : decode b_X_readName 197 = .ok (.iconst 1, 1) := by decide +kernel
theorem d_X_readName_198 : decode b_X_readName 198 = .ok (.invokevirtual 299, 3) := by decide +kernel
theorem d_X_readName_201 : decode b_X_readName 201 = .ok (.aload_n 0, 1) := by decide +kernel
theorem d_X_readName_202 : decode b_X_readName 202 = .ok (.getfield 37, 3) := by decide +kernel
theorem d_X_readName_205 : decode b_X_readName 205 = .ok (.aload_n 0, 1) := by decide +kernel
theorem d_X_readName_206 : decode b_X_readName 206 = .ok (.getfield 282, 3) := by decide +kernel
theorem d_X_readName_209 : decode b_X_readName 209 = .ok (.iconst 1, 1) := by decide +kernel
theorem d_X_readName_210 : decode b_X_readName 210 = .ok (.isub, 1) := by decide +kernel
theorem d_X_readName_211 : decode b_X_readName 211 = .ok (.iaload, 1) := by decide +kernel
theorem d_X_readName_212 : decode b_X_readName 212 = .ok (.istore 8, 2) := by decide +kernel
theorem d_X_readName_214 : decode b_X_readName 214 = .ok (.iload 7, 2) := by decide +kernel
theorem d_X_readName_216 : decode b_X_readName 216 = .ok (.iconst 2, 1) := by decide +kernel
theorem d_X_readName_217 : decode b_X_readName 217 = .ok (.if_icmp .ne 61, 3) := by decide +kernel
theorem d_X_readName_220 : decode b_X_readName 220 = .ok (.aload_n 0, 1) := by decide +kernel
theorem d_X_readName_221 : decode b_X_readName 221 = .ok (.getfield 37, 3) := by decide +kernel
theorem d_X_readName_224 : decode b_X_readName 224 = .ok (.iload_n 1, 1) := by decide +kernel
theorem d_X_readName_225 : decode b_X_readName 225 = .ok (.iaload, 1) := by decide +kernel
theorem d_X_readName_226 : decode b_X_readName 226 = .ok (.invokestatic 294, 3) := by decide +kernel
theorem d_X_readName_229 : decode b_X_readName 229 = .ok (.ifCond .eq 49, 3) := by decide +kernel
theorem d_X_readName_232 : decode b_X_readName 232 = .ok (.iload 8, 2) := by decide +kernel
theorem d_X_readName_234 : decode b_X_readName 234 = .ok (.bipush 72, 2) := by decide +kernel
theorem d_X_readName_236 : decode b_X_readName 236 = .ok (.if_icmp .eq 17, 3) := by decide +kernel
theorem d_X_readName_239 : decode b_X_readName 239 = .ok (.iload 8, 2) := by decide +kernel
theorem d_X_readName_241 : decode b_X_readName 241 = .ok (.bipush 66, 2) := by decide +kernel
theorem d_X_readName_243 : decode b_X_readName 243 = .ok (.if_icmp .eq 10, 3) := by decide +kernel
theorem d_X_readName_246 : decode b_X_readName 246 = .ok (.iload 8, 2) := by decide +kernel
theorem d_X_readName_248 : decode b_X_readName 248 = .ok (.bipush 70, 2) := by decide +kernel
theorem d_X_readName_250 : decode b_X_readName 250 = .ok (.if_icmp .ne 28, 3) := by decide +kernel
theorem d_X_readName_253 : decode b_X_readName 253 = .ok (.aload_n 0, 1) := by decide +kernel
theorem d_X_readName_254 : decode b_X_readName 254 = .ok (.iconst 3, 1) := by decide +kernel
theorem d_X_readName_255 : decode b_X_readName 255 = .ok (.putfield 302, 3) := by decide +kernel
theorem d_X_readName_258 : decode b_X_readName 258 = .ok (.aload_n 0, 1) := by decide +kernel
theorem d_X_readName_259 : decode b_X_readName 259 = .ok (.aload_n 0, 1) := by decide +kernel
theorem d_X_readName_260 : decode b_X_readName 260 = .ok (.getfield 37, 3) := by decide +kernel
theorem d_X_readName_263 : decode b_X_readName 263 = .ok (.iload_n 1, 1) := by decide +kernel
theorem d_X_readName_264 : decode b_X_readName 264 = .ok (.iaload, 1) := by decide +kernel
theorem d_X_readName_265 : decode b_X_readName 265 = .ok (.bipush 48, 2) := by decide +kernel
theorem d_X_readName_267 : decode b_X_readName 267 = .ok (.isub, 1) := by decide +kernel
theorem d_X_readName_268 : decode b_X_readName 268 = .ok (.i2l, 1) := by decide +kernel
theorem d_X_readName_269 : decode b_X_readName 269 = .ok (.putfield 305, 3) := by decide +kernel
theorem d_X_readName_272 : decode b_X_readName 272 = .ok (.aload_n 0, 1) := by decide +kernel
theorem d_X_readName_273 : decode b_X_readName 273 = .ok (.iload 8, 2) := by decide +kernel
theorem d_X_readName_275 : decode b_X_readName 275 = .ok (.putfield 309, 3) := by decide +kernel
theorem d_X_readName_278 : decode b_X_readName 278 = .ok (.return_, 1) := by decide +kernel
abbrev b_X_readText : ByteArray := prog_11_method_85_code
abbrev y_X_readText : MethodName := ⟨"SignMachineModel", "readText", "()V"⟩
theorem h_X_readText : (y_X_readText).cls ≠ "java/lang/invoke/MethodHandle" ∧ (y_X_readText).cls ≠ "java/lang/invoke/VarHandle" ∧ (parseMethodDescriptor (y_X_readText).desc).map (fun d => d.parameters.length) = some 0 := by decide +kernel
theorem d_X_readText_0 : decode b_X_readText 0 = .ok (.aload_n 0, 1) := by decide +kernel
theorem d_X_readText_1 : decode b_X_readText 1 = .ok (.iconst 0, 1) := by decide +kernel
theorem d_X_readText_2 : decode b_X_readText 2 = .ok (.putfield 279, 3) := by decide +kernel
theorem d_X_readText_5 : decode b_X_readText 5 = .ok (.aload_n 0, 1) := by decide +kernel
theorem d_X_readText_6 : decode b_X_readText 6 = .ok (.iconst 0, 1) := by decide +kernel
theorem d_X_readText_7 : decode b_X_readText 7 = .ok (.putfield 312, 3) := by decide +kernel
theorem d_X_readText_10 : decode b_X_readText 10 = .ok (.aload_n 0, 1) := by decide +kernel
theorem d_X_readText_11 : decode b_X_readText 11 = .ok (.iconst 0, 1) := by decide +kernel
theorem d_X_readText_12 : decode b_X_readText 12 = .ok (.putfield 356, 3) := by decide +kernel
theorem d_X_readText_15 : decode b_X_readText 15 = .ok (.aload_n 0, 1) := by decide +kernel
theorem d_X_readText_16 : decode b_X_readText 16 = .ok (.iconst 0, 1) := by decide +kernel
theorem d_X_readText_17 : decode b_X_readText 17 = .ok (.putfield 392, 3) := by decide +kernel
theorem d_X_readText_20 : decode b_X_readText 20 = .ok (.aload_n 0, 1) := by decide +kernel
theorem d_X_readText_21 : decode b_X_readText 21 = .ok (.iconst 0, 1) := by decide +kernel
theorem d_X_readText_22 : decode b_X_readText 22 = .ok (.putfield 362, 3) := by decide +kernel
theorem d_X_readText_25 : decode b_X_readText 25 = .ok (.aload_n 0, 1) := by decide +kernel
theorem d_X_readText_26 : decode b_X_readText 26 = .ok (.iconst 0, 1) := by decide +kernel
theorem d_X_readText_27 : decode b_X_readText 27 = .ok (.putfield 375, 3) := by decide +kernel
theorem d_X_readText_30 : decode b_X_readText 30 = .ok (.aload_n 0, 1) := by decide +kernel
theorem d_X_readText_31 : decode b_X_readText 31 = .ok (.iconst 0, 1) := by decide +kernel
theorem d_X_readText_32 : decode b_X_readText 32 = .ok (.putfield 317, 3) := by decide +kernel
theorem d_X_readText_35 : decode b_X_readText 35 = .ok (.aload_n 0, 1) := by decide +kernel
theorem d_X_readText_36 : decode b_X_readText 36 = .ok (.iconst 0, 1) := by decide +kernel
theorem d_X_readText_37 : decode b_X_readText 37 = .ok (.putfield 395, 3) := by decide +kernel
theorem d_X_readText_40 : decode b_X_readText 40 = .ok (.aload_n 0, 1) := by decide +kernel
theorem d_X_readText_41 : decode b_X_readText 41 = .ok (.iconst 0, 1) := by decide +kernel
theorem d_X_readText_42 : decode b_X_readText 42 = .ok (.putfield 517, 3) := by decide +kernel
theorem d_X_readText_45 : decode b_X_readText 45 = .ok (.iconst 0, 1) := by decide +kernel
theorem d_X_readText_46 : decode b_X_readText 46 = .ok (.istore_n 1, 1) := by decide +kernel
theorem d_X_readText_47 : decode b_X_readText 47 = .ok (.iload_n 1, 1) := by decide +kernel
theorem d_X_readText_48 : decode b_X_readText 48 = .ok (.bipush 10, 2) := by decide +kernel
theorem d_X_readText_50 : decode b_X_readText 50 = .ok (.if_icmp .ge 16, 3) := by decide +kernel
theorem d_X_readText_53 : decode b_X_readText 53 = .ok (.aload_n 0, 1) := by decide +kernel
theorem d_X_readText_54 : decode b_X_readText 54 = .ok (.getfield 55, 3) := by decide +kernel
theorem d_X_readText_57 : decode b_X_readText 57 = .ok (.iload_n 1, 1) := by decide +kernel
theorem d_X_readText_58 : decode b_X_readText 58 = .ok (.iconst 0, 1) := by decide +kernel
theorem d_X_readText_59 : decode b_X_readText 59 = .ok (.bastore, 1) := by decide +kernel
theorem d_X_readText_60 : decode b_X_readText 60 = .ok (.iinc 1 1, 3) := by decide +kernel
theorem d_X_readText_63 : decode b_X_readText 63 = .ok (.goto (-16), 3) := by decide +kernel
theorem d_X_readText_66 : decode b_X_readText 66 = .ok (.iconst 0, 1) := by decide +kernel
theorem d_X_readText_67 : decode b_X_readText 67 = .ok (.istore_n 1, 1) := by decide +kernel
theorem d_X_readText_68 : decode b_X_readText 68 = .ok (.iload_n 1, 1) := by decide +kernel
theorem d_X_readText_69 : decode b_X_readText 69 = .ok (.aload_n 0, 1) := by decide +kernel
theorem d_X_readText_70 : decode b_X_readText 70 = .ok (.getfield 274, 3) := by decide +kernel
theorem d_X_readText_73 : decode b_X_readText 73 = .ok (.if_icmp .ge 126, 3) := by decide +kernel
theorem d_X_readText_76 : decode b_X_readText 76 = .ok (.aload_n 0, 1) := by decide +kernel
theorem d_X_readText_77 : decode b_X_readText 77 = .ok (.getfield 517, 3) := by decide +kernel
theorem d_X_readText_80 : decode b_X_readText 80 = .ok (.ifCond .ne 119, 3) := by decide +kernel
theorem d_X_readText_83 : decode b_X_readText 83 = .ok (.aload_n 0, 1) := by decide +kernel
theorem d_X_readText_84 : decode b_X_readText 84 = .ok (.getfield 279, 3) := by decide +kernel
theorem d_X_readText_87 : decode b_X_readText 87 = .ok (.ifCond .ne 112, 3) := by decide +kernel
theorem d_X_readText_90 : decode b_X_readText 90 = .ok (.aload_n 0, 1) := by decide +kernel
theorem d_X_readText_91 : decode b_X_readText 91 = .ok (.dup, 1) := by decide +kernel
theorem d_X_readText_92 : decode b_X_readText 92 = .ok (.getfield 395, 3) := by decide +kernel
theorem d_X_readText_95 : decode b_X_readText 95 = .ok (.iconst 1, 1) := by decide +kernel
theorem d_X_readText_96 : decode b_X_readText 96 = .ok (.iadd, 1) := by decide +kernel
theorem d_X_readText_97 : decode b_X_readText 97 = .ok (.putfield 395, 3) := by decide +kernel
theorem d_X_readText_100 : decode b_X_readText 100 = .ok (.aload_n 0, 1) := by decide +kernel
theorem d_X_readText_101 : decode b_X_readText 101 = .ok (.iload_n 1, 1) := by decide +kernel
theorem d_X_readText_102 : decode b_X_readText 102 = .ok (.putfield 285, 3) := by decide +kernel
theorem d_X_readText_105 : decode b_X_readText 105 = .ok (.aload_n 0, 1) := by decide +kernel
theorem d_X_readText_106 : decode b_X_readText 106 = .ok (.getfield 285, 3) := by decide +kernel
theorem d_X_readText_109 : decode b_X_readText 109 = .ok (.aload_n 0, 1) := by decide +kernel
theorem d_X_readText_110 : decode b_X_readText 110 = .ok (.getfield 274, 3) := by decide +kernel
theorem d_X_readText_113 : decode b_X_readText 113 = .ok (.if_icmp .ge 30, 3) := by decide +kernel
theorem d_X_readText_116 : decode b_X_readText 116 = .ok (.aload_n 0, 1) := by decide +kernel
theorem d_X_readText_117 : decode b_X_readText 117 = .ok (.getfield 37, 3) := by decide +kernel
theorem d_X_readText_120 : decode b_X_readText 120 = .ok (.aload_n 0, 1) := by decide +kernel
theorem d_X_readText_121 : decode b_X_readText 121 = .ok (.getfield 285, 3) := by decide +kernel
theorem d_X_readText_124 : decode b_X_readText 124 = .ok (.iaload, 1) := by decide +kernel
theorem d_X_readText_125 : decode b_X_readText 125 = .ok (.bipush 10, 2) := by decide +kernel
theorem d_X_readText_127 : decode b_X_readText 127 = .ok (.if_icmp .eq 16, 3) := by decide +kernel
theorem d_X_readText_130 : decode b_X_readText 130 = .ok (.aload_n 0, 1) := by decide +kernel
theorem d_X_readText_131 : decode b_X_readText 131 = .ok (.dup, 1) := by decide +kernel
theorem d_X_readText_132 : decode b_X_readText 132 = .ok (.getfield 285, 3) := by decide +kernel
theorem d_X_readText_135 : decode b_X_readText 135 = .ok (.iconst 1, 1) := by decide +kernel
theorem d_X_readText_136 : decode b_X_readText 136 = .ok (.iadd, 1) := by decide +kernel
theorem d_X_readText_137 : decode b_X_readText 137 = .ok (.putfield 285, 3) := by decide +kernel
theorem d_X_readText_140 : decode b_X_readText 140 = .ok (.goto (-35), 3) := by decide +kernel
theorem d_X_readText_143 : decode b_X_readText 143 = .ok (.aload_n 0, 1) := by decide +kernel
theorem d_X_readText_144 : decode b_X_readText 144 = .ok (.iload_n 1, 1) := by decide +kernel
theorem d_X_readText_145 : decode b_X_readText 145 = .ok (.putfield 282, 3) := by decide +kernel
theorem d_X_readText_148 : decode b_X_readText 148 = .ok (.aload_n 0, 1) := by decide +kernel
theorem d_X_readText_149 : decode b_X_readText 149 = .ok (.invokevirtual 556, 3) := by decide +kernel
theorem d_X_readText_152 : decode b_X_readText 152 = .ok (.ifCond .ne 37, 3) := by decide +kernel
theorem d_X_readText_155 : decode b_X_readText 155 = .ok (.aload_n 0, 1) := by decide +kernel
theorem d_X_readText_156 : decode b_X_readText 156 = .ok (.invokevirtual 559, 3) := by decide +kernel
theorem d_X_readText_159 : decode b_X_readText 159 = .ok (.aload_n 0, 1) := by decide +kernel
theorem d_X_readText_160 : decode b_X_readText 160 = .ok (.getfield 499, 3) := by decide +kernel
theorem d_X_readText_163 : decode b_X_readText 163 = .ok (.ifCond .lt 26, 3) := by decide +kernel
theorem d_X_readText_166 : decode b_X_readText 166 = .ok (.aload_n 0, 1) := by decide +kernel
theorem d_X_readText_167 : decode b_X_readText 167 = .ok (.getfield 55, 3) := by decide +kernel
theorem d_X_readText_170 : decode b_X_readText 170 = .ok (.aload_n 0, 1) := by decide +kernel
theorem d_X_readText_171 : decode b_X_readText 171 = .ok (.getfield 499, 3) := by decide +kernel
theorem d_X_readText_174 : decode b_X_readText 174 = .ok (.iconst 1, 1) := by decide +kernel
theorem d_X_readText_175 : decode b_X_readText 175 = .ok (.bastore, 1) := by decide +kernel
theorem d_X_readText_176 : decode b_X_readText 176 = .ok (.aload_n 0, 1) := by decide +kernel
theorem d_X_readText_177 : decode b_X_readText 177 = .ok (.getfield 58, 3) := by decide +kernel
theorem d_X_readText_180 : decode b_X_readText 180 = .ok (.aload_n 0, 1) := by decide +kernel
theorem d_X_readText_181 : decode b_X_readText 181 = .ok (.getfield 499, 3) := by decide +kernel
theorem d_X_readText_184 : decode b_X_readText 184 = .ok (.aload_n 0, 1) := by decide +kernel
theorem d_X_readText_185 : decode b_X_readText 185 = .ok (.getfield 502, 3) := by decide +kernel
theorem d_X_readText_188 : decode b_X_readText 188 = .ok (.lastore, 1) := by decide +kernel
theorem d_X_readText_189 : decode b_X_readText 189 = .ok (.aload_n 0, 1) := by decide +kernel
theorem d_X_readText_190 : decode b_X_readText 190 = .ok (.getfield 285, 3) := by decide +kernel
theorem d_X_readText_193 : decode b_X_readText 193 = .ok (.iconst 1, 1) := by decide +kernel
theorem d_X_readText_194 : decode b_X_readText 194 = .ok (.iadd, 1) := by decide +kernel
theorem d_X_readText_195 : decode b_X_readText 195 = .ok (.istore_n 1, 1) := by decide +kernel
theorem d_X_readText_196 : decode b_X_readText 196 = .ok (.goto (-128), 3) := by decide +kernel
theorem d_X_readText_199 : decode b_X_readText 199 = .ok (.aload_n 0, 1) := by decide +kernel
theorem d_X_readText_200 : decode b_X_readText 200 = .ok (.aload_n 0, 1) := by decide +kernel
theorem d_X_readText_201 : decode b_X_readText 201 = .ok (.getfield 395, 3) := by decide +kernel
theorem d_X_readText_204 : decode b_X_readText 204 = .ok (.putfield 553, 3) := by decide +kernel
theorem d_X_readText_207 : decode b_X_readText 207 = .ok (.aload_n 0, 1) := by decide +kernel
theorem d_X_readText_208 : decode b_X_readText 208 = .ok (.getfield 279, 3) := by decide +kernel
theorem d_X_readText_211 : decode b_X_readText 211 = .ok (.ifCond .ne 16, 3) := by decide +kernel
theorem d_X_readText_214 : decode b_X_readText 214 = .ok (.aload_n 0, 1) := by decide +kernel
theorem d_X_readText_215 : decode b_X_readText 215 = .ok (.getfield 517, 3) := by decide +kernel
theorem d_X_readText_218 : decode b_X_readText 218 = .ok (.ifCond .ne 9, 3) := by decide +kernel
theorem d_X_readText_221 : decode b_X_readText 221 = .ok (.aload_n 0, 1) := by decide +kernel
theorem d_X_readText_222 : decode b_X_readText 222 = .ok (.bipush 6, 2) := by decide +kernel
theorem d_X_readText_224 : decode b_X_readText 224 = .ok (.putfield 279, 3) := by decide +kernel
theorem d_X_readText_227 : decode b_X_readText 227 = .ok (.aload_n 0, 1) := by decide +kernel
theorem d_X_readText_228 : decode b_X_readText 228 = .ok (.getfield 279, 3) := by decide +kernel
theorem d_X_readText_231 : decode b_X_readText 231 = .ok (.ifCond .ne 7, 3) := by decide +kernel
theorem d_X_readText_234 : decode b_X_readText 234 = .ok (.aload_n 0, 1) := by decide +kernel
theorem d_X_readText_235 : decode b_X_readText 235 = .ok (.invokevirtual 562, 3) := by decide +kernel
theorem d_X_readText_238 : decode b_X_readText 238 = .ok (.return_, 1) := by decide +kernel
abbrev b_X_readWord : ByteArray := prog_11_method_64_code
abbrev y_X_readWord : MethodName := ⟨"SignMachineModel", "readWord", "()V"⟩
theorem h_X_readWord : (y_X_readWord).cls ≠ "java/lang/invoke/MethodHandle" ∧ (y_X_readWord).cls ≠ "java/lang/invoke/VarHandle" ∧ (parseMethodDescriptor (y_X_readWord).desc).map (fun d => d.parameters.length) = some 0 := by decide +kernel
theorem d_X_readWord_0 : decode b_X_readWord 0 = .ok (.aload_n 0, 1) := by decide +kernel
theorem d_X_readWord_1 : decode b_X_readWord 1 = .ok (.iconst 0, 1) := by decide +kernel
theorem d_X_readWord_2 : decode b_X_readWord 2 = .ok (.putfield 341, 3) := by decide +kernel
theorem d_X_readWord_5 : decode b_X_readWord 5 = .ok (.aload_n 0, 1) := by decide +kernel
theorem d_X_readWord_6 : decode b_X_readWord 6 = .ok (.iconst 0, 1) := by decide +kernel
theorem d_X_readWord_7 : decode b_X_readWord 7 = .ok (.putfield 344, 3) := by decide +kernel
theorem d_X_readWord_10 : decode b_X_readWord 10 = .ok (.iconst 1, 1) := by decide +kernel
theorem d_X_readWord_11 : decode b_X_readWord 11 = .ok (.istore_n 1, 1) := by decide +kernel
theorem d_X_readWord_12 : decode b_X_readWord 12 = .ok (.iload_n 1, 1) := by decide +kernel
theorem d_X_readWord_13 : decode b_X_readWord 13 = .ok (.ifCond .eq 186, 3) := by decide +kernel
theorem d_X_readWord_16 : decode b_X_readWord 16 = .ok (.aload_n 0, 1) := by decide +kernel
theorem d_X_readWord_17 : decode b_X_readWord 17 = .ok (.getfield 279, 3) := by decide +kernel
theorem d_X_readWord_20 : decode b_X_readWord 20 = .ok (.ifCond .ne 179, 3) := by decide +kernel
theorem d_X_readWord_23 : decode b_X_readWord 23 = .ok (.aload_n 0, 1) := by decide +kernel
theorem d_X_readWord_24 : decode b_X_readWord 24 = .ok (.invokevirtual 347, 3) := by decide +kernel
theorem d_X_readWord_27 : decode b_X_readWord 27 = .ok (.lstore_n 2, 1) := by decide +kernel
theorem d_X_readWord_28 : decode b_X_readWord 28 = .ok (.ldc2_w 350, 3) := by decide +kernel
theorem d_X_readWord_31 : decode b_X_readWord 31 = .ok (.lstore 4, 2) := by decide +kernel
theorem d_X_readWord_33 : decode b_X_readWord 33 = .ok (.aload_n 0, 1) := by decide +kernel
theorem d_X_readWord_34 : decode b_X_readWord 34 = .ok (.invokevirtual 288, 3) := by decide +kernel
theorem d_X_readWord_37 : decode b_X_readWord 37 = .ok (.bipush 40, 2) := by decide +kernel
theorem d_X_readWord_39 : decode b_X_readWord 39 = .ok (.if_icmp .ne 60, 3) := by decide +kernel
theorem d_X_readWord_42 : decode b_X_readWord 42 = .ok (.aload_n 0, 1) := by decide +kernel
theorem d_X_readWord_43 : decode b_X_readWord 43 = .ok (.dup, 1) := by decide +kernel
theorem d_X_readWord_44 : decode b_X_readWord 44 = .ok (.getfield 282, 3) := by decide +kernel
theorem d_X_readWord_47 : decode b_X_readWord 47 = .ok (.iconst 1, 1) := by decide +kernel
theorem d_X_readWord_48 : decode b_X_readWord 48 = .ok (.iadd, 1) := by decide +kernel
theorem d_X_readWord_49 : decode b_X_readWord 49 = .ok (.putfield 282, 3) := by decide +kernel
theorem d_X_readWord_52 : decode b_X_readWord 52 = .ok (.aload_n 0, 1) := by decide +kernel
theorem d_X_readWord_53 : decode b_X_readWord 53 = .ok (.invokevirtual 347, 3) := by decide +kernel
theorem d_X_readWord_56 : decode b_X_readWord 56 = .ok (.lstore 4, 2) := by decide +kernel
theorem d_X_readWord_58 : decode b_X_readWord 58 = .ok (.aload_n 0, 1) := by decide +kernel
theorem d_X_readWord_59 : decode b_X_readWord 59 = .ok (.bipush 41, 2) := by decide +kernel
theorem d_X_readWord_61 : decode b_X_readWord 61 = .ok (.invokevirtual 352, 3) := by decide +kernel
theorem d_X_readWord_64 : decode b_X_readWord 64 = .ok (.lload 4, 2) := by decide +kernel
theorem d_X_readWord_66 : decode b_X_readWord 66 = .ok (.lconst 0, 1) := by decide +kernel
theorem d_X_readWord_67 : decode b_X_readWord 67 = .ok (.lcmp, 1) := by decide +kernel
theorem d_X_readWord_68 : decode b_X_readWord 68 = .ok (.ifCond .lt 21, 3) := by decide +kernel
theorem d_X_readWord_71 : decode b_X_readWord 71 = .ok (.lload 4, 2) := by decide +kernel
theorem d_X_readWord_73 : decode b_X_readWord 73 = .ok (.ldc2_w 354, 3) := by decide +kernel
theorem d_X_readWord_76 : decode b_X_readWord 76 = .ok (.lcmp, 1) := by decide +kernel
theorem d_X_readWord_77 : decode b_X_readWord 77 = .ok (.ifCond .gt 12, 3) := by decide +kernel
theorem d_X_readWord_80 : decode b_X_readWord 80 = .ok (.lload 4, 2) := by decide +kernel
theorem d_X_readWord_82 : decode b_X_readWord 82 = .ok (.l2i, 1) := by decide +kernel
theorem d_X_readWord_83 : decode b_X_readWord 83 = .ok (.invokestatic 153, 3) := by decide +kernel
theorem d_X_readWord_86 : decode b_X_readWord 86 = .ok (.ifCond .ne 13, 3) := by decide +kernel
theorem d_X_readWord_89 : decode b_X_readWord 89 = .ok (.aload_n 0, 1) := by decide +kernel
theorem d_X_readWord_90 : decode b_X_readWord 90 = .ok (.iconst 4, 1) := by decide +kernel
theorem d_X_readWord_91 : decode b_X_readWord 91 = .ok (.invokevirtual 299, 3) := by decide +kernel
theorem d_X_readWord_94 : decode b_X_readWord 94 = .ok (.ldc2_w 350, 3) := by decide +kernel
theorem d_X_readWord_97 : decode b_X_readWord 97 = .ok (.lstore 4, 2) := by decide +kernel
theorem d_X_readWord_99 : decode b_X_readWord 99 = .ok (.lload_n 2, 1) := by decide +kernel
theorem d_X_readWord_100 : decode b_X_readWord 100 = .ok (.lconst 0, 1) := by decide +kernel
theorem d_X_readWord_101 : decode b_X_readWord 101 = .ok (.lcmp, 1) := by decide +kernel
theorem d_X_readWord_102 : decode b_X_readWord 102 = .ok (.ifCond .ge 7, 3) := by decide +kernel
theorem d_X_readWord_105 : decode b_X_readWord 105 = .ok (.iconst 1, 1) := by decide +kernel
theorem d_X_readWord_106 : decode b_X_readWord 106 = .ok (.goto 4, 3) := by decide +kernel
theorem d_X_readWord_109 : decode b_X_readWord 109 = .ok (.iconst 0, 1) := by decide +kernel
theorem d_X_readWord_110 : decode b_X_readWord 110 = .ok (.istore 6, 2) := by decide +kernel
theorem d_X_readWord_112 : decode b_X_readWord 112 = .ok (.aload_n 0, 1) := by decide +kernel
theorem d_X_readWord_113 : decode b_X_readWord 113 = .ok (.lload 4, 2) := by decide +kernel
theorem d_X_readWord_115 : decode b_X_readWord 115 = .ok (.ldc2_w 102, 3) := by decide +kernel
theorem d_X_readWord_118 : decode b_X_readWord 118 = .ok (.ldiv, 1) := by decide +kernel
theorem d_X_readWord_119 : decode b_X_readWord 119 = .ok (.lconst 0, 1) := by decide +kernel
theorem d_X_readWord_120 : decode b_X_readWord 120 = .ok (.lcmp, 1) := by decide +kernel
theorem d_X_readWord_121 : decode b_X_readWord 121 = .ok (.ifCond .ne 8, 3) := by decide +kernel
theorem d_X_readWord_124 : decode b_X_readWord 124 = .ok (.iload 6, 2) := by decide +kernel
theorem d_X_readWord_126 : decode b_X_readWord 126 = .ok (.goto 7, 3) := by decide +kernel
theorem d_X_readWord_129 : decode b_X_readWord 129 = .ok (.aload_n 0, 1) := by decide +kernel
theorem d_X_readWord_130 : decode b_X_readWord 130 = .ok (.getfield 341, 3) := by decide +kernel
theorem d_X_readWord_133 : decode b_X_readWord 133 = .ok (.putfield 341, 3) := by decide +kernel
theorem d_X_readWord_136 : decode b_X_readWord 136 = .ok (.aload_n 0, 1) := by decide +kernel
theorem d_X_readWord_137 : decode b_X_readWord 137 = .ok (.aload_n 0, 1) := by decide +kernel
theorem d_X_readWord_138 : decode b_X_readWord 138 = .ok (.getfield 344, 3) := by decide +kernel
theorem d_X_readWord_141 : decode b_X_readWord 141 = .ok (.lload_n 2, 1) := by decide +kernel
theorem d_X_readWord_142 : decode b_X_readWord 142 = .ok (.lconst 0, 1) := by decide +kernel
theorem d_X_readWord_143 : decode b_X_readWord 143 = .ok (.lcmp, 1) := by decide +kernel
theorem d_X_readWord_144 : decode b_X_readWord 144 = .ok (.ifCond .ge 8, 3) := by decide +kernel
theorem d_X_readWord_147 : decode b_X_readWord 147 = .ok (.lload_n 2, 1) := by decide +kernel
theorem d_X_readWord_148 : decode b_X_readWord 148 = .ok (.lneg, 1) := by decide +kernel
theorem d_X_readWord_149 : decode b_X_readWord 149 = .ok (.goto 4, 3) := by decide +kernel
theorem d_X_readWord_152 : decode b_X_readWord 152 = .ok (.lload_n 2, 1) := by decide +kernel
theorem d_X_readWord_153 : decode b_X_readWord 153 = .ok (.l2i, 1) := by decide +kernel
theorem d_X_readWord_154 : decode b_X_readWord 154 = .ok (.lload 4, 2) := by decide +kernel
theorem d_X_readWord_156 : decode b_X_readWord 156 = .ok (.l2i, 1) := by decide +kernel
theorem d_X_readWord_157 : decode b_X_readWord 157 = .ok (.invokestatic 204, 3) := by decide +kernel
theorem d_X_readWord_160 : decode b_X_readWord 160 = .ok (.putfield 344, 3) := by decide +kernel
theorem d_X_readWord_163 : decode b_X_readWord 163 = .ok (.aload_n 0, 1) := by decide +kernel
theorem d_X_readWord_164 : decode b_X_readWord 164 = .ok (.invokevirtual 288, 3) := by decide +kernel
theorem d_X_readWord_167 : decode b_X_readWord 167 = .ok (.bipush 44, 2) := by decide +kernel
theorem d_X_readWord_169 : decode b_X_readWord 169 = .ok (.if_icmp .ne 7, 3) := by decide +kernel
theorem d_X_readWord_172 : decode b_X_readWord 172 = .ok (.iconst 1, 1) := by decide +kernel
theorem d_X_readWord_173 : decode b_X_readWord 173 = .ok (.goto 4, 3) := by decide +kernel
theorem d_X_readWord_176 : decode b_X_readWord 176 = .ok (.iconst 0, 1) := by decide +kernel
theorem d_X_readWord_177 : decode b_X_readWord 177 = .ok (.istore_n 1, 1) := by decide +kernel
theorem d_X_readWord_178 : decode b_X_readWord 178 = .ok (.aload_n 0, 1) := by decide +kernel
theorem d_X_readWord_179 : decode b_X_readWord 179 = .ok (.dup, 1) := by decide +kernel
theorem d_X_readWord_180 : decode b_X_readWord 180 = .ok (.getfield 282, 3) := by decide +kernel
theorem d_X_readWord_183 : decode b_X_readWord 183 = .ok (.iload_n 1, 1) := by decide +kernel
theorem d_X_readWord_184 : decode b_X_readWord 184 = .ok (.ifCond .eq 7, 3) := by decide +kernel
theorem d_X_readWord_187 : decode b_X_readWord 187 = .ok (.iconst 1, 1) := by decide +kernel
theorem d_X_readWord_188 : decode b_X_readWord 188 = .ok (.goto 4, 3) := by decide +kernel
theorem d_X_readWord_191 : decode b_X_readWord 191 = .ok (.iconst 0, 1) := by decide +kernel
theorem d_X_readWord_192 : decode b_X_readWord 192 = .ok (.iadd, 1) := by decide +kernel
theorem d_X_readWord_193 : decode b_X_readWord 193 = .ok (.putfield 282, 3) := by decide +kernel
theorem d_X_readWord_196 : decode b_X_readWord 196 = .ok (.goto (-184), 3) := by decide +kernel
theorem d_X_readWord_199 : decode b_X_readWord 199 = .ok (.return_, 1) := by decide +kernel
abbrev b_X_registerOf : ByteArray := prog_11_method_72_code
abbrev y_X_registerOf : MethodName := ⟨"SignMachineModel", "registerOf", "(I)I"⟩
theorem h_X_registerOf : (y_X_registerOf).cls ≠ "java/lang/invoke/MethodHandle" ∧ (y_X_registerOf).cls ≠ "java/lang/invoke/VarHandle" ∧ (parseMethodDescriptor (y_X_registerOf).desc).map (fun d => d.parameters.length) = some 1 := by decide +kernel
theorem d_X_registerOf_0 : decode b_X_registerOf 0 = .ok (.iload_n 0, 1) := by decide +kernel
theorem d_X_registerOf_1 : decode b_X_registerOf 1 = .ok (.bipush 65, 2) := by decide +kernel
theorem d_X_registerOf_3 : decode b_X_registerOf 3 = .ok (.if_icmp .ne 7, 3) := by decide +kernel
theorem d_X_registerOf_6 : decode b_X_registerOf 6 = .ok (.iconst 0, 1) := by decide +kernel
theorem d_X_registerOf_7 : decode b_X_registerOf 7 = .ok (.goto 34, 3) := by decide +kernel
theorem d_X_registerOf_10 : decode b_X_registerOf 10 = .ok (.iload_n 0, 1) := by decide +kernel
theorem d_X_registerOf_11 : decode b_X_registerOf 11 = .ok (.bipush 88, 2) := by decide +kernel
theorem d_X_registerOf_13 : decode b_X_registerOf 13 = .ok (.if_icmp .ne 8, 3) := by decide +kernel
theorem d_X_registerOf_16 : decode b_X_registerOf 16 = .ok (.bipush 7, 2) := by decide +kernel
theorem d_X_registerOf_18 : decode b_X_registerOf 18 = .ok (.goto 23, 3) := by decide +kernel
theorem d_X_registerOf_21 : decode b_X_registerOf 21 = .ok (.iload_n 0, 1) := by decide +kernel
theorem d_X_registerOf_22 : decode b_X_registerOf 22 = .ok (.bipush 49, 2) := by decide +kernel
theorem d_X_registerOf_24 : decode b_X_registerOf 24 = .ok (.if_icmp .lt 16, 3) := by decide +kernel
theorem d_X_registerOf_27 : decode b_X_registerOf 27 = .ok (.iload_n 0, 1) := by decide +kernel
theorem d_X_registerOf_28 : decode b_X_registerOf 28 = .ok (.bipush 54, 2) := by decide +kernel
theorem d_X_registerOf_30 : decode b_X_registerOf 30 = .ok (.if_icmp .gt 10, 3) := by decide +kernel
theorem d_X_registerOf_33 : decode b_X_registerOf 33 = .ok (.iload_n 0, 1) := by decide +kernel
theorem d_X_registerOf_34 : decode b_X_registerOf 34 = .ok (.bipush 48, 2) := by decide +kernel
theorem d_X_registerOf_36 : decode b_X_registerOf 36 = .ok (.isub, 1) := by decide +kernel
theorem d_X_registerOf_37 : decode b_X_registerOf 37 = .ok (.goto 4, 3) := by decide +kernel
theorem d_X_registerOf_40 : decode b_X_registerOf 40 = .ok (.iconst (-1), 1) := by decide +kernel
theorem d_X_registerOf_41 : decode b_X_registerOf 41 = .ok (.ireturn, 1) := by decide +kernel
abbrev b_X_registerSign : ByteArray := prog_11_method_7_code
abbrev y_X_registerSign : MethodName := ⟨"SignMachineModel", "registerSign", "(I)I"⟩
theorem h_X_registerSign : (y_X_registerSign).cls ≠ "java/lang/invoke/MethodHandle" ∧ (y_X_registerSign).cls ≠ "java/lang/invoke/VarHandle" ∧ (parseMethodDescriptor (y_X_registerSign).desc).map (fun d => d.parameters.length) = some 1 := by decide +kernel
theorem d_X_registerSign_0 : decode b_X_registerSign 0 = .ok (.iload_n 1, 1) := by decide +kernel
theorem d_X_registerSign_1 : decode b_X_registerSign 1 = .ok (.i2l, 1) := by decide +kernel
theorem d_X_registerSign_2 : decode b_X_registerSign 2 = .ok (.lconst 0, 1) := by decide +kernel
theorem d_X_registerSign_3 : decode b_X_registerSign 3 = .ok (.ldc2_w 102, 3) := by decide +kernel
theorem d_X_registerSign_6 : decode b_X_registerSign 6 = .ok (.invokestatic 96, 3) := by decide +kernel
theorem d_X_registerSign_9 : decode b_X_registerSign 9 = .ok (.ifCond .eq 12, 3) := by decide +kernel
theorem d_X_registerSign_12 : decode b_X_registerSign 12 = .ok (.aload_n 0, 1) := by decide +kernel
theorem d_X_registerSign_13 : decode b_X_registerSign 13 = .ok (.getfield 16, 3) := by decide +kernel
theorem d_X_registerSign_16 : decode b_X_registerSign 16 = .ok (.iload_n 1, 1) := by decide +kernel
theorem d_X_registerSign_17 : decode b_X_registerSign 17 = .ok (.iaload, 1) := by decide +kernel
theorem d_X_registerSign_18 : decode b_X_registerSign 18 = .ok (.goto 4, 3) := by decide +kernel
theorem d_X_registerSign_21 : decode b_X_registerSign 21 = .ok (.iconst (-1), 1) := by decide +kernel
theorem d_X_registerSign_22 : decode b_X_registerSign 22 = .ok (.ireturn, 1) := by decide +kernel
abbrev b_X_registerSize : ByteArray := prog_11_method_8_code
abbrev y_X_registerSize : MethodName := ⟨"SignMachineModel", "registerSize", "(I)I"⟩
theorem h_X_registerSize : (y_X_registerSize).cls ≠ "java/lang/invoke/MethodHandle" ∧ (y_X_registerSize).cls ≠ "java/lang/invoke/VarHandle" ∧ (parseMethodDescriptor (y_X_registerSize).desc).map (fun d => d.parameters.length) = some 1 := by decide +kernel
theorem d_X_registerSize_0 : decode b_X_registerSize 0 = .ok (.iload_n 1, 1) := by decide +kernel
theorem d_X_registerSize_1 : decode b_X_registerSize 1 = .ok (.i2l, 1) := by decide +kernel
theorem d_X_registerSize_2 : decode b_X_registerSize 2 = .ok (.lconst 0, 1) := by decide +kernel
theorem d_X_registerSize_3 : decode b_X_registerSize 3 = .ok (.ldc2_w 102, 3) := by decide +kernel
theorem d_X_registerSize_6 : decode b_X_registerSize 6 = .ok (.invokestatic 96, 3) := by decide +kernel
theorem d_X_registerSize_9 : decode b_X_registerSize 9 = .ok (.ifCond .eq 12, 3) := by decide +kernel
theorem d_X_registerSize_12 : decode b_X_registerSize 12 = .ok (.aload_n 0, 1) := by decide +kernel
theorem d_X_registerSize_13 : decode b_X_registerSize 13 = .ok (.getfield 19, 3) := by decide +kernel
theorem d_X_registerSize_16 : decode b_X_registerSize 16 = .ok (.iload_n 1, 1) := by decide +kernel
theorem d_X_registerSize_17 : decode b_X_registerSize 17 = .ok (.iaload, 1) := by decide +kernel
theorem d_X_registerSize_18 : decode b_X_registerSize 18 = .ok (.goto 4, 3) := by decide +kernel
theorem d_X_registerSize_21 : decode b_X_registerSize 21 = .ok (.iconst (-1), 1) := by decide +kernel
theorem d_X_registerSize_22 : decode b_X_registerSize 22 = .ok (.ireturn, 1) := by decide +kernel
abbrev b_X_run : ByteArray := prog_11_method_48_code
abbrev y_X_run : MethodName := ⟨"SignMachineModel", "run", "(I)I"⟩
theorem h_X_run : (y_X_run).cls ≠ "java/lang/invoke/MethodHandle" ∧ (y_X_run).cls ≠ "java/lang/invoke/VarHandle" ∧ (parseMethodDescriptor (y_X_run).desc).map (fun d => d.parameters.length) = some 1 := by decide +kernel
theorem d_X_run_0 : decode b_X_run 0 = .ok (.iload_n 1, 1) := by decide +kernel
theorem d_X_run_1 : decode b_X_run 1 = .ok (.i2l, 1) := by decide +kernel
theorem d_X_run_2 : decode b_X_run 2 = .ok (.lconst 1, 1) := by decide +kernel
theorem d_X_run_3 : decode b_X_run 3 = .ok (.ldc2_w 272, 3) := by decide +kernel
theorem d_X_run_6 : decode b_X_run 6 = .ok (.invokestatic 96, 3) := by decide +kernel
theorem d_X_run_9 : decode b_X_run 9 = .ok (.ifCond .ne 5, 3) := by decide +kernel
theorem d_X_run_12 : decode b_X_run 12 = .ok (.iconst (-1), 1) := by decide +kernel
theorem d_X_run_13 : decode b_X_run 13 = .ok (.ireturn, 1) := by decide +kernel
theorem d_X_run_14 : decode b_X_run 14 = .ok (.iconst 0, 1) := by decide +kernel
theorem d_X_run_15 : decode b_X_run 15 = .ok (.istore_n 2, 1) := by decide +kernel
theorem d_X_run_16 : decode b_X_run 16 = .ok (.aload_n 0, 1) := by decide +kernel
theorem d_X_run_17 : decode b_X_run 17 = .ok (.iconst 0, 1) := by decide +kernel
theorem d_X_run_18 : decode b_X_run 18 = .ok (.putfield 91, 3) := by decide +kernel
theorem d_X_run_21 : decode b_X_run 21 = .ok (.iload_n 2, 1) := by decide +kernel
theorem d_X_run_22 : decode b_X_run 22 = .ok (.iload_n 1, 1) := by decide +kernel
theorem d_X_run_23 : decode b_X_run 23 = .ok (.if_icmp .ge 37, 3) := by decide +kernel
theorem d_X_run_26 : decode b_X_run 26 = .ok (.aload_n 0, 1) := by decide +kernel
theorem d_X_run_27 : decode b_X_run 27 = .ok (.getfield 91, 3) := by decide +kernel
theorem d_X_run_30 : decode b_X_run 30 = .ok (.ifCond .ne 30, 3) := by decide +kernel
theorem d_X_run_33 : decode b_X_run 33 = .ok (.aload_n 0, 1) := by decide +kernel
theorem d_X_run_34 : decode b_X_run 34 = .ok (.aload_n 0, 1) := by decide +kernel
theorem d_X_run_35 : decode b_X_run 35 = .ok (.invokevirtual 269, 3) := by decide +kernel
theorem d_X_run_38 : decode b_X_run 38 = .ok (.putfield 91, 3) := by decide +kernel
theorem d_X_run_41 : decode b_X_run 41 = .ok (.iload_n 2, 1) := by decide +kernel
theorem d_X_run_42 : decode b_X_run 42 = .ok (.aload_n 0, 1) := by decide +kernel
theorem d_X_run_43 : decode b_X_run 43 = .ok (.getfield 91, 3) := by decide +kernel
theorem d_X_run_46 : decode b_X_run 46 = .ok (.iconst 2, 1) := by decide +kernel
theorem d_X_run_47 : decode b_X_run 47 = .ok (.if_icmp .ge 7, 3) := by decide +kernel
theorem d_X_run_50 : decode b_X_run 50 = .ok (.iconst 1, 1) := by decide +kernel
theorem d_X_run_51 : decode b_X_run 51 = .ok (.goto 4, 3) := by decide +kernel
theorem d_X_run_54 : decode b_X_run 54 = .ok (.iconst 0, 1) := by decide +kernel
theorem d_X_run_55 : decode b_X_run 55 = .ok (.iadd, 1) := by decide +kernel
theorem d_X_run_56 : decode b_X_run 56 = .ok (.istore_n 2, 1) := by decide +kernel
theorem d_X_run_57 : decode b_X_run 57 = .ok (.goto (-36), 3) := by decide +kernel
theorem d_X_run_60 : decode b_X_run 60 = .ok (.iload_n 2, 1) := by decide +kernel
theorem d_X_run_61 : decode b_X_run 61 = .ok (.ireturn, 1) := by decide +kernel
abbrev b_X_set : ByteArray := prog_11_method_10_code
abbrev y_X_set : MethodName := ⟨"SignMachineModel", "set", "(III)Z"⟩
theorem h_X_set : (y_X_set).cls ≠ "java/lang/invoke/MethodHandle" ∧ (y_X_set).cls ≠ "java/lang/invoke/VarHandle" ∧ (parseMethodDescriptor (y_X_set).desc).map (fun d => d.parameters.length) = some 3 := by decide +kernel
theorem d_X_set_0 : decode b_X_set 0 = .ok (.iload_n 1, 1) := by decide +kernel
theorem d_X_set_1 : decode b_X_set 1 = .ok (.i2l, 1) := by decide +kernel
theorem d_X_set_2 : decode b_X_set 2 = .ok (.lconst 0, 1) := by decide +kernel
theorem d_X_set_3 : decode b_X_set 3 = .ok (.ldc2_w 102, 3) := by decide +kernel
theorem d_X_set_6 : decode b_X_set 6 = .ok (.invokestatic 96, 3) := by decide +kernel
theorem d_X_set_9 : decode b_X_set 9 = .ok (.ifCond .eq 48, 3) := by decide +kernel
theorem d_X_set_12 : decode b_X_set 12 = .ok (.iload_n 2, 1) := by decide +kernel
theorem d_X_set_13 : decode b_X_set 13 = .ok (.i2l, 1) := by decide +kernel
theorem d_X_set_14 : decode b_X_set 14 = .ok (.lconst 0, 1) := by decide +kernel
theorem d_X_set_15 : decode b_X_set 15 = .ok (.iload_n 1, 1) := by decide +kernel
theorem d_X_set_16 : decode b_X_set 16 = .ok (.bipush 8, 2) := by decide +kernel
theorem d_X_set_18 : decode b_X_set 18 = .ok (.if_icmp .ne 7, 3) := by decide +kernel
theorem d_X_set_21 : decode b_X_set 21 = .ok (.lconst 0, 1) := by decide +kernel
theorem d_X_set_22 : decode b_X_set 22 = .ok (.goto 4, 3) := by decide +kernel
theorem d_X_set_25 : decode b_X_set 25 = .ok (.lconst 1, 1) := by decide +kernel
theorem d_X_set_26 : decode b_X_set 26 = .ok (.invokestatic 96, 3) := by decide +kernel
theorem d_X_set_29 : decode b_X_set 29 = .ok (.ifCond .eq 28, 3) := by decide +kernel
theorem d_X_set_32 : decode b_X_set 32 = .ok (.iload_n 3, 1) := by decide +kernel
theorem d_X_set_33 : decode b_X_set 33 = .ok (.i2l, 1) := by decide +kernel
theorem d_X_set_34 : decode b_X_set 34 = .ok (.lconst 0, 1) := by decide +kernel
theorem d_X_set_35 : decode b_X_set 35 = .ok (.iload_n 1, 1) := by decide +kernel
theorem d_X_set_36 : decode b_X_set 36 = .ok (.invokestatic 104, 3) := by decide +kernel
theorem d_X_set_39 : decode b_X_set 39 = .ok (.ifCond .eq 9, 3) := by decide +kernel
theorem d_X_set_42 : decode b_X_set 42 = .ok (.ldc2_w 108, 3) := by decide +kernel
theorem d_X_set_45 : decode b_X_set 45 = .ok (.goto 6, 3) := by decide +kernel
theorem d_X_set_48 : decode b_X_set 48 = .ok (.ldc2_w 100, 3) := by decide +kernel
theorem d_X_set_51 : decode b_X_set 51 = .ok (.invokestatic 96, 3) := by decide +kernel
theorem d_X_set_54 : decode b_X_set 54 = .ok (.ifCond .ne 5, 3) := by decide +kernel
theorem d_X_set_57 : decode b_X_set 57 = .ok (.iconst 0, 1) := by decide +kernel
theorem d_X_set_58 : decode b_X_set 58 = .ok (.ireturn, 1) := by decide +kernel
theorem d_X_set_59 : decode b_X_set 59 = .ok (.aload_n 0, 1) := by decide +kernel
theorem d_X_set_60 : decode b_X_set 60 = .ok (.getfield 16, 3) := by decide +kernel
theorem d_X_set_63 : decode b_X_set 63 = .ok (.iload_n 1, 1) := by decide +kernel
theorem d_X_set_64 : decode b_X_set 64 = .ok (.iload_n 2, 1) := by decide +kernel
theorem d_X_set_65 : decode b_X_set 65 = .ok (.iastore, 1) := by decide +kernel
theorem d_X_set_66 : decode b_X_set 66 = .ok (.aload_n 0, 1) := by decide +kernel
theorem d_X_set_67 : decode b_X_set 67 = .ok (.getfield 19, 3) := by decide +kernel
theorem d_X_set_70 : decode b_X_set 70 = .ok (.iload_n 1, 1) := by decide +kernel
theorem d_X_set_71 : decode b_X_set 71 = .ok (.iload_n 3, 1) := by decide +kernel
theorem d_X_set_72 : decode b_X_set 72 = .ok (.iastore, 1) := by decide +kernel
theorem d_X_set_73 : decode b_X_set 73 = .ok (.iconst 1, 1) := by decide +kernel
theorem d_X_set_74 : decode b_X_set 74 = .ok (.ireturn, 1) := by decide +kernel
abbrev b_X_shift : ByteArray := prog_11_method_33_code
abbrev y_X_shift : MethodName := ⟨"SignMachineModel", "shift", "()V"⟩
theorem h_X_shift : (y_X_shift).cls ≠ "java/lang/invoke/MethodHandle" ∧ (y_X_shift).cls ≠ "java/lang/invoke/VarHandle" ∧ (parseMethodDescriptor (y_X_shift).desc).map (fun d => d.parameters.length) = some 0 := by decide +kernel
theorem d_X_shift_0 : decode b_X_shift 0 = .ok (.iconst 0, 1) := by decide +kernel
theorem d_X_shift_1 : decode b_X_shift 1 = .ok (.istore_n 1, 1) := by decide +kernel
theorem d_X_shift_2 : decode b_X_shift 2 = .ok (.iload_n 1, 1) := by decide +kernel
theorem d_X_shift_3 : decode b_X_shift 3 = .ok (.bipush 10, 2) := by decide +kernel
theorem d_X_shift_5 : decode b_X_shift 5 = .ok (.if_icmp .ge 54, 3) := by decide +kernel
theorem d_X_shift_8 : decode b_X_shift 8 = .ok (.aload_n 0, 1) := by decide +kernel
theorem d_X_shift_9 : decode b_X_shift 9 = .ok (.getfield 31, 3) := by decide +kernel
theorem d_X_shift_12 : decode b_X_shift 12 = .ok (.iload_n 1, 1) := by decide +kernel
theorem d_X_shift_13 : decode b_X_shift 13 = .ok (.iload_n 1, 1) := by decide +kernel
theorem d_X_shift_14 : decode b_X_shift 14 = .ok (.iconst 5, 1) := by decide +kernel
theorem d_X_shift_15 : decode b_X_shift 15 = .ok (.if_icmp .ge 21, 3) := by decide +kernel
theorem d_X_shift_18 : decode b_X_shift 18 = .ok (.aload_n 0, 1) := by decide +kernel
theorem d_X_shift_19 : decode b_X_shift 19 = .ok (.getfield 19, 3) := by decide +kernel
theorem d_X_shift_22 : decode b_X_shift 22 = .ok (.iconst 0, 1) := by decide +kernel
theorem d_X_shift_23 : decode b_X_shift 23 = .ok (.iaload, 1) := by decide +kernel
theorem d_X_shift_24 : decode b_X_shift 24 = .ok (.iload_n 1, 1) := by decide +kernel
theorem d_X_shift_25 : decode b_X_shift 25 = .ok (.iconst 1, 1) := by decide +kernel
theorem d_X_shift_26 : decode b_X_shift 26 = .ok (.iadd, 1) := by decide +kernel
theorem d_X_shift_27 : decode b_X_shift 27 = .ok (.iload_n 1, 1) := by decide +kernel
theorem d_X_shift_28 : decode b_X_shift 28 = .ok (.iconst 1, 1) := by decide +kernel
theorem d_X_shift_29 : decode b_X_shift 29 = .ok (.iadd, 1) := by decide +kernel
theorem d_X_shift_30 : decode b_X_shift 30 = .ok (.invokestatic 168, 3) := by decide +kernel
theorem d_X_shift_33 : decode b_X_shift 33 = .ok (.goto 19, 3) := by decide +kernel
theorem d_X_shift_36 : decode b_X_shift 36 = .ok (.aload_n 0, 1) := by decide +kernel
theorem d_X_shift_37 : decode b_X_shift 37 = .ok (.getfield 19, 3) := by decide +kernel
theorem d_X_shift_40 : decode b_X_shift 40 = .ok (.bipush 7, 2) := by decide +kernel
theorem d_X_shift_42 : decode b_X_shift 42 = .ok (.iaload, 1) := by decide +kernel
theorem d_X_shift_43 : decode b_X_shift 43 = .ok (.iload_n 1, 1) := by decide +kernel
theorem d_X_shift_44 : decode b_X_shift 44 = .ok (.iconst 4, 1) := by decide +kernel
theorem d_X_shift_45 : decode b_X_shift 45 = .ok (.isub, 1) := by decide +kernel
theorem d_X_shift_46 : decode b_X_shift 46 = .ok (.iload_n 1, 1) := by decide +kernel
theorem d_X_shift_47 : decode b_X_shift 47 = .ok (.iconst 4, 1) := by decide +kernel
theorem d_X_shift_48 : decode b_X_shift 48 = .ok (.isub, 1) := by decide +kernel
theorem d_X_shift_49 : decode b_X_shift 49 = .ok (.invokestatic 168, 3) := by decide +kernel
theorem d_X_shift_52 : decode b_X_shift 52 = .ok (.iastore, 1) := by decide +kernel
theorem d_X_shift_53 : decode b_X_shift 53 = .ok (.iinc 1 1, 3) := by decide +kernel
theorem d_X_shift_56 : decode b_X_shift 56 = .ok (.goto (-54), 3) := by decide +kernel
theorem d_X_shift_59 : decode b_X_shift 59 = .ok (.aload_n 0, 1) := by decide +kernel
theorem d_X_shift_60 : decode b_X_shift 60 = .ok (.getfield 135, 3) := by decide +kernel
theorem d_X_shift_63 : decode b_X_shift 63 = .ok (.iconst 2, 1) := by decide +kernel
theorem d_X_shift_64 : decode b_X_shift 64 = .ok (.if_icmp .ge 7, 3) := by decide +kernel
theorem d_X_shift_67 : decode b_X_shift 67 = .ok (.iconst 1, 1) := by decide +kernel
theorem d_X_shift_68 : decode b_X_shift 68 = .ok (.goto 4, 3) := by decide +kernel
theorem d_X_shift_71 : decode b_X_shift 71 = .ok (.iconst 0, 1) := by decide +kernel
theorem d_X_shift_72 : decode b_X_shift 72 = .ok (.istore_n 1, 1) := by decide +kernel
theorem d_X_shift_73 : decode b_X_shift 73 = .ok (.aload_n 0, 1) := by decide +kernel
theorem d_X_shift_74 : decode b_X_shift 74 = .ok (.getfield 135, 3) := by decide +kernel
theorem d_X_shift_77 : decode b_X_shift 77 = .ok (.iconst 2, 1) := by decide +kernel
theorem d_X_shift_78 : decode b_X_shift 78 = .ok (.irem, 1) := by decide +kernel
theorem d_X_shift_79 : decode b_X_shift 79 = .ok (.ifCond .ne 10, 3) := by decide +kernel
theorem d_X_shift_82 : decode b_X_shift 82 = .ok (.aload_n 0, 1) := by decide +kernel
theorem d_X_shift_83 : decode b_X_shift 83 = .ok (.getfield 142, 3) := by decide +kernel
theorem d_X_shift_86 : decode b_X_shift 86 = .ok (.goto 8, 3) := by decide +kernel
theorem d_X_shift_89 : decode b_X_shift 89 = .ok (.aload_n 0, 1) := by decide +kernel
theorem d_X_shift_90 : decode b_X_shift 90 = .ok (.getfield 142, 3) := by decide +kernel
theorem d_X_shift_93 : decode b_X_shift 93 = .ok (.ineg, 1) := by decide +kernel
theorem d_X_shift_94 : decode b_X_shift 94 = .ok (.istore_n 2, 1) := by decide +kernel
theorem d_X_shift_95 : decode b_X_shift 95 = .ok (.iconst 0, 1) := by decide +kernel
theorem d_X_shift_96 : decode b_X_shift 96 = .ok (.istore_n 3, 1) := by decide +kernel
theorem d_X_shift_97 : decode b_X_shift 97 = .ok (.iload_n 3, 1) := by decide +kernel
theorem d_X_shift_98 : decode b_X_shift 98 = .ok (.bipush 10, 2) := by decide +kernel
theorem d_X_shift_100 : decode b_X_shift 100 = .ok (.if_icmp .ge 112, 3) := by decide +kernel
theorem d_X_shift_103 : decode b_X_shift 103 = .ok (.iload_n 3, 1) := by decide +kernel
theorem d_X_shift_104 : decode b_X_shift 104 = .ok (.i2l, 1) := by decide +kernel
theorem d_X_shift_105 : decode b_X_shift 105 = .ok (.iload_n 2, 1) := by decide +kernel
theorem d_X_shift_106 : decode b_X_shift 106 = .ok (.i2l, 1) := by decide +kernel
theorem d_X_shift_107 : decode b_X_shift 107 = .ok (.ladd, 1) := by decide +kernel
theorem d_X_shift_108 : decode b_X_shift 108 = .ok (.lstore 4, 2) := by decide +kernel
theorem d_X_shift_110 : decode b_X_shift 110 = .ok (.aload_n 0, 1) := by decide +kernel
theorem d_X_shift_111 : decode b_X_shift 111 = .ok (.getfield 135, 3) := by decide +kernel
theorem d_X_shift_114 : decode b_X_shift 114 = .ok (.iconst 4, 1) := by decide +kernel
theorem d_X_shift_115 : decode b_X_shift 115 = .ok (.if_icmp .lt 19, 3) := by decide +kernel
theorem d_X_shift_118 : decode b_X_shift 118 = .ok (.lload 4, 2) := by decide +kernel
theorem d_X_shift_120 : decode b_X_shift 120 = .ok (.ldc2_w 201, 3) := by decide +kernel
theorem d_X_shift_123 : decode b_X_shift 123 = .ok (.lrem, 1) := by decide +kernel
theorem d_X_shift_124 : decode b_X_shift 124 = .ok (.ldc2_w 201, 3) := by decide +kernel
theorem d_X_shift_127 : decode b_X_shift 127 = .ok (.ladd, 1) := by decide +kernel
theorem d_X_shift_128 : decode b_X_shift 128 = .ok (.ldc2_w 201, 3) := by decide +kernel
theorem d_X_shift_131 : decode b_X_shift 131 = .ok (.lrem, 1) := by decide +kernel
theorem d_X_shift_132 : decode b_X_shift 132 = .ok (.lstore 4, 2) := by decide +kernel
theorem d_X_shift_134 : decode b_X_shift 134 = .ok (.iload_n 1, 1) := by decide +kernel
theorem d_X_shift_135 : decode b_X_shift 135 = .ok (.ifCond .eq 12, 3) := by decide +kernel
theorem d_X_shift_138 : decode b_X_shift 138 = .ok (.iload_n 3, 1) := by decide +kernel
theorem d_X_shift_139 : decode b_X_shift 139 = .ok (.iconst 5, 1) := by decide +kernel
theorem d_X_shift_140 : decode b_X_shift 140 = .ok (.if_icmp .lt 7, 3) := by decide +kernel
theorem d_X_shift_143 : decode b_X_shift 143 = .ok (.iconst 1, 1) := by decide +kernel
theorem d_X_shift_144 : decode b_X_shift 144 = .ok (.goto 4, 3) := by decide +kernel
theorem d_X_shift_147 : decode b_X_shift 147 = .ok (.iconst 0, 1) := by decide +kernel
theorem d_X_shift_148 : decode b_X_shift 148 = .ok (.istore 6, 2) := by decide +kernel
theorem d_X_shift_150 : decode b_X_shift 150 = .ok (.aload_n 0, 1) := by decide +kernel
theorem d_X_shift_151 : decode b_X_shift 151 = .ok (.getfield 34, 3) := by decide +kernel
theorem d_X_shift_154 : decode b_X_shift 154 = .ok (.iload_n 3, 1) := by decide +kernel
theorem d_X_shift_155 : decode b_X_shift 155 = .ok (.iload 6, 2) := by decide +kernel
theorem d_X_shift_157 : decode b_X_shift 157 = .ok (.ifCond .eq 12, 3) := by decide +kernel
theorem d_X_shift_160 : decode b_X_shift 160 = .ok (.aload_n 0, 1) := by decide +kernel
theorem d_X_shift_161 : decode b_X_shift 161 = .ok (.getfield 31, 3) := by decide +kernel
theorem d_X_shift_164 : decode b_X_shift 164 = .ok (.iload_n 3, 1) := by decide +kernel
theorem d_X_shift_165 : decode b_X_shift 165 = .ok (.iaload, 1) := by decide +kernel
theorem d_X_shift_166 : decode b_X_shift 166 = .ok (.goto 39, 3) := by decide +kernel
theorem d_X_shift_169 : decode b_X_shift 169 = .ok (.lload 4, 2) := by decide +kernel
theorem d_X_shift_171 : decode b_X_shift 171 = .ok (.lconst 0, 1) := by decide +kernel
theorem d_X_shift_172 : decode b_X_shift 172 = .ok (.lcmp, 1) := by decide +kernel
theorem d_X_shift_173 : decode b_X_shift 173 = .ok (.ifCond .lt 31, 3) := by decide +kernel
theorem d_X_shift_176 : decode b_X_shift 176 = .ok (.lload 4, 2) := by decide +kernel
theorem d_X_shift_178 : decode b_X_shift 178 = .ok (.iload_n 1, 1) := by decide +kernel
theorem d_X_shift_179 : decode b_X_shift 179 = .ok (.ifCond .eq 7, 3) := by decide +kernel
theorem d_X_shift_182 : decode b_X_shift 182 = .ok (.iconst 5, 1) := by decide +kernel
theorem d_X_shift_183 : decode b_X_shift 183 = .ok (.goto 5, 3) := by decide +kernel
theorem d_X_shift_186 : decode b_X_shift 186 = .ok (.bipush 10, 2) := by decide +kernel
theorem d_X_shift_188 : decode b_X_shift 188 = .ok (.i2l, 1) := by decide +kernel
theorem d_X_shift_189 : decode b_X_shift 189 = .ok (.lcmp, 1) := by decide +kernel
theorem d_X_shift_190 : decode b_X_shift 190 = .ok (.ifCond .ge 14, 3) := by decide +kernel
theorem d_X_shift_193 : decode b_X_shift 193 = .ok (.aload_n 0, 1) := by decide +kernel
theorem d_X_shift_194 : decode b_X_shift 194 = .ok (.getfield 31, 3) := by decide +kernel
theorem d_X_shift_197 : decode b_X_shift 197 = .ok (.lload 4, 2) := by decide +kernel
theorem d_X_shift_199 : decode b_X_shift 199 = .ok (.l2i, 1) := by decide +kernel
theorem d_X_shift_200 : decode b_X_shift 200 = .ok (.iaload, 1) := by decide +kernel
theorem d_X_shift_201 : decode b_X_shift 201 = .ok (.goto 4, 3) := by decide +kernel
theorem d_X_shift_204 : decode b_X_shift 204 = .ok (.iconst 0, 1) := by decide +kernel
theorem d_X_shift_205 : decode b_X_shift 205 = .ok (.iastore, 1) := by decide +kernel
theorem d_X_shift_206 : decode b_X_shift 206 = .ok (.iinc 3 1, 3) := by decide +kernel
theorem d_X_shift_209 : decode b_X_shift 209 = .ok (.goto (-112), 3) := by decide +kernel
theorem d_X_shift_212 : decode b_X_shift 212 = .ok (.iconst 0, 1) := by decide +kernel
theorem d_X_shift_213 : decode b_X_shift 213 = .ok (.istore_n 3, 1) := by decide +kernel
theorem d_X_shift_214 : decode b_X_shift 214 = .ok (.iconst 0, 1) := by decide +kernel
theorem d_X_shift_215 : decode b_X_shift 215 = .ok (.istore 4, 2) := by decide +kernel
theorem d_X_shift_217 : decode b_X_shift 217 = .ok (.iconst 0, 1) := by decide +kernel
theorem d_X_shift_218 : decode b_X_shift 218 = .ok (.istore 5, 2) := by decide +kernel
theorem d_X_shift_220 : decode b_X_shift 220 = .ok (.iload 5, 2) := by decide +kernel
theorem d_X_shift_222 : decode b_X_shift 222 = .ok (.iconst 5, 1) := by decide +kernel
theorem d_X_shift_223 : decode b_X_shift 223 = .ok (.if_icmp .ge 39, 3) := by decide +kernel
theorem d_X_shift_226 : decode b_X_shift 226 = .ok (.iload_n 3, 1) := by decide +kernel
theorem d_X_shift_227 : decode b_X_shift 227 = .ok (.bipush 64, 2) := by decide +kernel
theorem d_X_shift_229 : decode b_X_shift 229 = .ok (.imul, 1) := by decide +kernel
theorem d_X_shift_230 : decode b_X_shift 230 = .ok (.aload_n 0, 1) := by decide +kernel
theorem d_X_shift_231 : decode b_X_shift 231 = .ok (.getfield 34, 3) := by decide +kernel
theorem d_X_shift_234 : decode b_X_shift 234 = .ok (.iload 5, 2) := by decide +kernel
theorem d_X_shift_236 : decode b_X_shift 236 = .ok (.iaload, 1) := by decide +kernel
theorem d_X_shift_237 : decode b_X_shift 237 = .ok (.iadd, 1) := by decide +kernel
theorem d_X_shift_238 : decode b_X_shift 238 = .ok (.istore_n 3, 1) := by decide +kernel
theorem d_X_shift_239 : decode b_X_shift 239 = .ok (.iload 4, 2) := by decide +kernel
theorem d_X_shift_241 : decode b_X_shift 241 = .ok (.bipush 64, 2) := by decide +kernel
theorem d_X_shift_243 : decode b_X_shift 243 = .ok (.imul, 1) := by decide +kernel
theorem d_X_shift_244 : decode b_X_shift 244 = .ok (.aload_n 0, 1) := by decide +kernel
theorem d_X_shift_245 : decode b_X_shift 245 = .ok (.getfield 34, 3) := by decide +kernel
theorem d_X_shift_248 : decode b_X_shift 248 = .ok (.iload 5, 2) := by decide +kernel
theorem d_X_shift_250 : decode b_X_shift 250 = .ok (.iconst 5, 1) := by decide +kernel
theorem d_X_shift_251 : decode b_X_shift 251 = .ok (.iadd, 1) := by decide +kernel
theorem d_X_shift_252 : decode b_X_shift 252 = .ok (.iaload, 1) := by decide +kernel
theorem d_X_shift_253 : decode b_X_shift 253 = .ok (.iadd, 1) := by decide +kernel
theorem d_X_shift_254 : decode b_X_shift 254 = .ok (.istore 4, 2) := by decide +kernel
theorem d_X_shift_256 : decode b_X_shift 256 = .ok (.iinc 5 1, 3) := by decide +kernel
theorem d_X_shift_259 : decode b_X_shift 259 = .ok (.goto (-39), 3) := by decide +kernel
theorem d_X_shift_262 : decode b_X_shift 262 = .ok (.aload_n 0, 1) := by decide +kernel
theorem d_X_shift_263 : decode b_X_shift 263 = .ok (.getfield 19, 3) := by decide +kernel
theorem d_X_shift_266 : decode b_X_shift 266 = .ok (.iconst 0, 1) := by decide +kernel
theorem d_X_shift_267 : decode b_X_shift 267 = .ok (.iload_n 3, 1) := by decide +kernel
theorem d_X_shift_268 : decode b_X_shift 268 = .ok (.iastore, 1) := by decide +kernel
theorem d_X_shift_269 : decode b_X_shift 269 = .ok (.aload_n 0, 1) := by decide +kernel
theorem d_X_shift_270 : decode b_X_shift 270 = .ok (.getfield 19, 3) := by decide +kernel
theorem d_X_shift_273 : decode b_X_shift 273 = .ok (.bipush 7, 2) := by decide +kernel
theorem d_X_shift_275 : decode b_X_shift 275 = .ok (.iload 4, 2) := by decide +kernel
theorem d_X_shift_277 : decode b_X_shift 277 = .ok (.iastore, 1) := by decide +kernel
theorem d_X_shift_278 : decode b_X_shift 278 = .ok (.return_, 1) := by decide +kernel
abbrev b_X_skipBlanks : ByteArray := prog_11_method_78_code
abbrev y_X_skipBlanks : MethodName := ⟨"SignMachineModel", "skipBlanks", "()V"⟩
theorem h_X_skipBlanks : (y_X_skipBlanks).cls ≠ "java/lang/invoke/MethodHandle" ∧ (y_X_skipBlanks).cls ≠ "java/lang/invoke/VarHandle" ∧ (parseMethodDescriptor (y_X_skipBlanks).desc).map (fun d => d.parameters.length) = some 0 := by decide +kernel
theorem d_X_skipBlanks_0 : decode b_X_skipBlanks 0 = .ok (.aload_n 0, 1) := by decide +kernel
theorem d_X_skipBlanks_1 : decode b_X_skipBlanks 1 = .ok (.invokevirtual 288, 3) := by decide +kernel
theorem d_X_skipBlanks_4 : decode b_X_skipBlanks 4 = .ok (.bipush 32, 2) := by decide +kernel
theorem d_X_skipBlanks_6 : decode b_X_skipBlanks 6 = .ok (.if_icmp .ne 16, 3) := by decide +kernel
theorem d_X_skipBlanks_9 : decode b_X_skipBlanks 9 = .ok (.aload_n 0, 1) := by decide +kernel
theorem d_X_skipBlanks_10 : decode b_X_skipBlanks 10 = .ok (.dup, 1) := by decide +kernel
theorem d_X_skipBlanks_11 : decode b_X_skipBlanks 11 = .ok (.getfield 282, 3) := by decide +kernel
theorem d_X_skipBlanks_14 : decode b_X_skipBlanks 14 = .ok (.iconst 1, 1) := by decide +kernel
theorem d_X_skipBlanks_15 : decode b_X_skipBlanks 15 = .ok (.iadd, 1) := by decide +kernel
theorem d_X_skipBlanks_16 : decode b_X_skipBlanks 16 = .ok (.putfield 282, 3) := by decide +kernel
theorem d_X_skipBlanks_19 : decode b_X_skipBlanks 19 = .ok (.goto (-19), 3) := by decide +kernel
theorem d_X_skipBlanks_22 : decode b_X_skipBlanks 22 = .ok (.return_, 1) := by decide +kernel
abbrev b_X_state : ByteArray := prog_11_method_11_code
abbrev y_X_state : MethodName := ⟨"SignMachineModel", "state", "(I)I"⟩
theorem h_X_state : (y_X_state).cls ≠ "java/lang/invoke/MethodHandle" ∧ (y_X_state).cls ≠ "java/lang/invoke/VarHandle" ∧ (parseMethodDescriptor (y_X_state).desc).map (fun d => d.parameters.length) = some 1 := by decide +kernel
theorem d_X_state_0 : decode b_X_state 0 = .ok (.iload_n 1, 1) := by decide +kernel
theorem d_X_state_1 : decode b_X_state 1 = .ok (.tableswitch 82 0 6 #[43, 48, 53, 58, 63, 70, 77], 43) := by decide +kernel
theorem d_X_state_44 : decode b_X_state 44 = .ok (.aload_n 0, 1) := by decide +kernel
theorem d_X_state_45 : decode b_X_state 45 = .ok (.getfield 110, 3) := by decide +kernel
theorem d_X_state_48 : decode b_X_state 48 = .ok (.ireturn, 1) := by decide +kernel
theorem d_X_state_49 : decode b_X_state 49 = .ok (.aload_n 0, 1) := by decide +kernel
theorem d_X_state_50 : decode b_X_state 50 = .ok (.getfield 113, 3) := by decide +kernel
theorem d_X_state_53 : decode b_X_state 53 = .ok (.ireturn, 1) := by decide +kernel
theorem d_X_state_54 : decode b_X_state 54 = .ok (.aload_n 0, 1) := by decide +kernel
theorem d_X_state_55 : decode b_X_state 55 = .ok (.getfield 116, 3) := by decide +kernel
theorem d_X_state_58 : decode b_X_state 58 = .ok (.ireturn, 1) := by decide +kernel
theorem d_X_state_59 : decode b_X_state 59 = .ok (.aload_n 0, 1) := by decide +kernel
theorem d_X_state_60 : decode b_X_state 60 = .ok (.getfield 119, 3) := by decide +kernel
theorem d_X_state_63 : decode b_X_state 63 = .ok (.ireturn, 1) := by decide +kernel
theorem d_X_state_64 : decode b_X_state 64 = .ok (.aload_n 0, 1) := by decide +kernel
theorem d_X_state_65 : decode b_X_state 65 = .ok (.getfield 28, 3) := by decide +kernel
theorem d_X_state_68 : decode b_X_state 68 = .ok (.iconst 0, 1) := by decide +kernel
theorem d_X_state_69 : decode b_X_state 69 = .ok (.iaload, 1) := by decide +kernel
theorem d_X_state_70 : decode b_X_state 70 = .ok (.ireturn, 1) := by decide +kernel
theorem d_X_state_71 : decode b_X_state 71 = .ok (.aload_n 0, 1) := by decide +kernel
theorem d_X_state_72 : decode b_X_state 72 = .ok (.getfield 28, 3) := by decide +kernel
theorem d_X_state_75 : decode b_X_state 75 = .ok (.iconst 1, 1) := by decide +kernel
theorem d_X_state_76 : decode b_X_state 76 = .ok (.iaload, 1) := by decide +kernel
theorem d_X_state_77 : decode b_X_state 77 = .ok (.ireturn, 1) := by decide +kernel
theorem d_X_state_78 : decode b_X_state 78 = .ok (.aload_n 0, 1) := by decide +kernel
theorem d_X_state_79 : decode b_X_state 79 = .ok (.getfield 91, 3) := by decide +kernel
theorem d_X_state_82 : decode b_X_state 82 = .ok (.ireturn, 1) := by decide +kernel
theorem d_X_state_83 : decode b_X_state 83 = .ok (.bipush (-2), 2) := by decide +kernel
theorem d_X_state_85 : decode b_X_state 85 = .ok (.ireturn, 1) := by decide +kernel
abbrev b_X_step : ByteArray := prog_11_method_47_code
abbrev y_X_step : MethodName := ⟨"SignMachineModel", "step", "()I"⟩
theorem h_X_step : (y_X_step).cls ≠ "java/lang/invoke/MethodHandle" ∧ (y_X_step).cls ≠ "java/lang/invoke/VarHandle" ∧ (parseMethodDescriptor (y_X_step).desc).map (fun d => d.parameters.length) = some 0 := by decide +kernel
theorem d_X_step_0 : decode b_X_step 0 = .ok (.aload_n 0, 1) := by decide +kernel
theorem d_X_step_1 : decode b_X_step 1 = .ok (.aload_n 0, 1) := by decide +kernel
theorem d_X_step_2 : decode b_X_step 2 = .ok (.invokevirtual 269, 3) := by decide +kernel
theorem d_X_step_5 : decode b_X_step 5 = .ok (.putfield 91, 3) := by decide +kernel
theorem d_X_step_8 : decode b_X_step 8 = .ok (.aload_n 0, 1) := by decide +kernel
theorem d_X_step_9 : decode b_X_step 9 = .ok (.getfield 91, 3) := by decide +kernel
theorem d_X_step_12 : decode b_X_step 12 = .ok (.ireturn, 1) := by decide +kernel
abbrev b_X_store : ByteArray := prog_11_method_36_code
abbrev y_X_store : MethodName := ⟨"SignMachineModel", "store", "(II)V"⟩
theorem h_X_store : (y_X_store).cls ≠ "java/lang/invoke/MethodHandle" ∧ (y_X_store).cls ≠ "java/lang/invoke/VarHandle" ∧ (parseMethodDescriptor (y_X_store).desc).map (fun d => d.parameters.length) = some 2 := by decide +kernel
theorem d_X_store_0 : decode b_X_store 0 = .ok (.aload_n 0, 1) := by decide +kernel
theorem d_X_store_1 : decode b_X_store 1 = .ok (.getfield 7, 3) := by decide +kernel
theorem d_X_store_4 : decode b_X_store 4 = .ok (.aload_n 0, 1) := by decide +kernel
theorem d_X_store_5 : decode b_X_store 5 = .ok (.getfield 142, 3) := by decide +kernel
theorem d_X_store_8 : decode b_X_store 8 = .ok (.aload_n 0, 1) := by decide +kernel
theorem d_X_store_9 : decode b_X_store 9 = .ok (.getfield 135, 3) := by decide +kernel
theorem d_X_store_12 : decode b_X_store 12 = .ok (.bipush 8, 2) := by decide +kernel
theorem d_X_store_14 : decode b_X_store 14 = .ok (.idiv, 1) := by decide +kernel
theorem d_X_store_15 : decode b_X_store 15 = .ok (.ifCond .ne 7, 3) := by decide +kernel
theorem d_X_store_18 : decode b_X_store 18 = .ok (.iload_n 1, 1) := by decide +kernel
theorem d_X_store_19 : decode b_X_store 19 = .ok (.goto 12, 3) := by decide +kernel
theorem d_X_store_22 : decode b_X_store 22 = .ok (.aload_n 0, 1) := by decide +kernel
theorem d_X_store_23 : decode b_X_store 23 = .ok (.getfield 7, 3) := by decide +kernel
theorem d_X_store_26 : decode b_X_store 26 = .ok (.aload_n 0, 1) := by decide +kernel
theorem d_X_store_27 : decode b_X_store 27 = .ok (.getfield 142, 3) := by decide +kernel
theorem d_X_store_30 : decode b_X_store 30 = .ok (.iaload, 1) := by decide +kernel
theorem d_X_store_31 : decode b_X_store 31 = .ok (.iastore, 1) := by decide +kernel
theorem d_X_store_32 : decode b_X_store 32 = .ok (.aload_n 0, 1) := by decide +kernel
theorem d_X_store_33 : decode b_X_store 33 = .ok (.getfield 13, 3) := by decide +kernel
theorem d_X_store_36 : decode b_X_store 36 = .ok (.aload_n 0, 1) := by decide +kernel
theorem d_X_store_37 : decode b_X_store 37 = .ok (.getfield 142, 3) := by decide +kernel
theorem d_X_store_40 : decode b_X_store 40 = .ok (.aload_n 0, 1) := by decide +kernel
theorem d_X_store_41 : decode b_X_store 41 = .ok (.getfield 13, 3) := by decide +kernel
theorem d_X_store_44 : decode b_X_store 44 = .ok (.aload_n 0, 1) := by decide +kernel
theorem d_X_store_45 : decode b_X_store 45 = .ok (.getfield 142, 3) := by decide +kernel
theorem d_X_store_48 : decode b_X_store 48 = .ok (.iaload, 1) := by decide +kernel
theorem d_X_store_49 : decode b_X_store 49 = .ok (.iload_n 2, 1) := by decide +kernel
theorem d_X_store_50 : decode b_X_store 50 = .ok (.aload_n 0, 1) := by decide +kernel
theorem d_X_store_51 : decode b_X_store 51 = .ok (.getfield 135, 3) := by decide +kernel
theorem d_X_store_54 : decode b_X_store 54 = .ok (.invokestatic 204, 3) := by decide +kernel
theorem d_X_store_57 : decode b_X_store 57 = .ok (.iastore, 1) := by decide +kernel
theorem d_X_store_58 : decode b_X_store 58 = .ok (.return_, 1) := by decide +kernel
abbrev b_X_stored : ByteArray := prog_11_method_35_code
abbrev y_X_stored : MethodName := ⟨"SignMachineModel", "stored", "(III)I"⟩
theorem h_X_stored : (y_X_stored).cls ≠ "java/lang/invoke/MethodHandle" ∧ (y_X_stored).cls ≠ "java/lang/invoke/VarHandle" ∧ (parseMethodDescriptor (y_X_stored).desc).map (fun d => d.parameters.length) = some 3 := by decide +kernel
theorem d_X_stored_0 : decode b_X_stored 0 = .ok (.iload_n 2, 1) := by decide +kernel
theorem d_X_stored_1 : decode b_X_stored 1 = .ok (.bipush 8, 2) := by decide +kernel
theorem d_X_stored_3 : decode b_X_stored 3 = .ok (.idiv, 1) := by decide +kernel
theorem d_X_stored_4 : decode b_X_stored 4 = .ok (.ifCond .ne 7, 3) := by decide +kernel
theorem d_X_stored_7 : decode b_X_stored 7 = .ok (.iconst 1, 1) := by decide +kernel
theorem d_X_stored_8 : decode b_X_stored 8 = .ok (.goto 7, 3) := by decide +kernel
theorem d_X_stored_11 : decode b_X_stored 11 = .ok (.iload_n 2, 1) := by decide +kernel
theorem d_X_stored_12 : decode b_X_stored 12 = .ok (.bipush 8, 2) := by decide +kernel
theorem d_X_stored_14 : decode b_X_stored 14 = .ok (.idiv, 1) := by decide +kernel
theorem d_X_stored_15 : decode b_X_stored 15 = .ok (.istore_n 3, 1) := by decide +kernel
theorem d_X_stored_16 : decode b_X_stored 16 = .ok (.iload_n 2, 1) := by decide +kernel
theorem d_X_stored_17 : decode b_X_stored 17 = .ok (.bipush 8, 2) := by decide +kernel
theorem d_X_stored_19 : decode b_X_stored 19 = .ok (.irem, 1) := by decide +kernel
theorem d_X_stored_20 : decode b_X_stored 20 = .ok (.istore 4, 2) := by decide +kernel
theorem d_X_stored_22 : decode b_X_stored 22 = .ok (.iload 4, 2) := by decide +kernel
theorem d_X_stored_24 : decode b_X_stored 24 = .ok (.iload_n 3, 1) := by decide +kernel
theorem d_X_stored_25 : decode b_X_stored 25 = .ok (.if_icmp .ge 5, 3) := by decide +kernel
theorem d_X_stored_28 : decode b_X_stored 28 = .ok (.iload_n 0, 1) := by decide +kernel
theorem d_X_stored_29 : decode b_X_stored 29 = .ok (.ireturn, 1) := by decide +kernel
theorem d_X_stored_30 : decode b_X_stored 30 = .ok (.iconst 5, 1) := by decide +kernel
theorem d_X_stored_31 : decode b_X_stored 31 = .ok (.iload 4, 2) := by decide +kernel
theorem d_X_stored_33 : decode b_X_stored 33 = .ok (.isub, 1) := by decide +kernel
theorem d_X_stored_34 : decode b_X_stored 34 = .ok (.invokestatic 128, 3) := by decide +kernel
theorem d_X_stored_37 : decode b_X_stored 37 = .ok (.istore 5, 2) := by decide +kernel
theorem d_X_stored_39 : decode b_X_stored 39 = .ok (.iload 4, 2) := by decide +kernel
theorem d_X_stored_41 : decode b_X_stored 41 = .ok (.iload_n 3, 1) := by decide +kernel
theorem d_X_stored_42 : decode b_X_stored 42 = .ok (.isub, 1) := by decide +kernel
theorem d_X_stored_43 : decode b_X_stored 43 = .ok (.iconst 1, 1) := by decide +kernel
theorem d_X_stored_44 : decode b_X_stored 44 = .ok (.iadd, 1) := by decide +kernel
theorem d_X_stored_45 : decode b_X_stored 45 = .ok (.istore 6, 2) := by decide +kernel
theorem d_X_stored_47 : decode b_X_stored 47 = .ok (.iload 6, 2) := by decide +kernel
theorem d_X_stored_49 : decode b_X_stored 49 = .ok (.iconst 5, 1) := by decide +kernel
theorem d_X_stored_50 : decode b_X_stored 50 = .ok (.if_icmp .ne 8, 3) := by decide +kernel
theorem d_X_stored_53 : decode b_X_stored 53 = .ok (.ldc 203, 2) := by decide +kernel
theorem d_X_stored_55 : decode b_X_stored 55 = .ok (.goto 8, 3) := by decide +kernel
theorem d_X_stored_58 : decode b_X_stored 58 = .ok (.iload 6, 2) := by decide +kernel
theorem d_X_stored_60 : decode b_X_stored 60 = .ok (.invokestatic 128, 3) := by decide +kernel
theorem d_X_stored_63 : decode b_X_stored 63 = .ok (.istore 7, 2) := by decide +kernel
theorem d_X_stored_65 : decode b_X_stored 65 = .ok (.iload_n 1, 1) := by decide +kernel
theorem d_X_stored_66 : decode b_X_stored 66 = .ok (.iload 7, 2) := by decide +kernel
theorem d_X_stored_68 : decode b_X_stored 68 = .ok (.irem, 1) := by decide +kernel
theorem d_X_stored_69 : decode b_X_stored 69 = .ok (.i2l, 1) := by decide +kernel
theorem d_X_stored_70 : decode b_X_stored 70 = .ok (.iload 5, 2) := by decide +kernel
theorem d_X_stored_72 : decode b_X_stored 72 = .ok (.i2l, 1) := by decide +kernel
theorem d_X_stored_73 : decode b_X_stored 73 = .ok (.lmul, 1) := by decide +kernel
theorem d_X_stored_74 : decode b_X_stored 74 = .ok (.lstore 8, 2) := by decide +kernel
theorem d_X_stored_76 : decode b_X_stored 76 = .ok (.iload_n 0, 1) := by decide +kernel
theorem d_X_stored_77 : decode b_X_stored 77 = .ok (.iload 5, 2) := by decide +kernel
theorem d_X_stored_79 : decode b_X_stored 79 = .ok (.idiv, 1) := by decide +kernel
theorem d_X_stored_80 : decode b_X_stored 80 = .ok (.iload 7, 2) := by decide +kernel
theorem d_X_stored_82 : decode b_X_stored 82 = .ok (.irem, 1) := by decide +kernel
theorem d_X_stored_83 : decode b_X_stored 83 = .ok (.i2l, 1) := by decide +kernel
theorem d_X_stored_84 : decode b_X_stored 84 = .ok (.iload 5, 2) := by decide +kernel
theorem d_X_stored_86 : decode b_X_stored 86 = .ok (.i2l, 1) := by decide +kernel
theorem d_X_stored_87 : decode b_X_stored 87 = .ok (.lmul, 1) := by decide +kernel
theorem d_X_stored_88 : decode b_X_stored 88 = .ok (.lstore 10, 2) := by decide +kernel
theorem d_X_stored_90 : decode b_X_stored 90 = .ok (.iload_n 0, 1) := by decide +kernel
theorem d_X_stored_91 : decode b_X_stored 91 = .ok (.i2l, 1) := by decide +kernel
theorem d_X_stored_92 : decode b_X_stored 92 = .ok (.lload 10, 2) := by decide +kernel
theorem d_X_stored_94 : decode b_X_stored 94 = .ok (.lsub, 1) := by decide +kernel
theorem d_X_stored_95 : decode b_X_stored 95 = .ok (.lload 8, 2) := by decide +kernel
theorem d_X_stored_97 : decode b_X_stored 97 = .ok (.ladd, 1) := by decide +kernel
theorem d_X_stored_98 : decode b_X_stored 98 = .ok (.l2i, 1) := by decide +kernel
theorem d_X_stored_99 : decode b_X_stored 99 = .ok (.ireturn, 1) := by decide +kernel
abbrev b_X_take : ByteArray := prog_11_method_18_code
abbrev y_X_take : MethodName := ⟨"SignMachineModel", "take", "()V"⟩
theorem h_X_take : (y_X_take).cls ≠ "java/lang/invoke/MethodHandle" ∧ (y_X_take).cls ≠ "java/lang/invoke/VarHandle" ∧ (parseMethodDescriptor (y_X_take).desc).map (fun d => d.parameters.length) = some 0 := by decide +kernel
theorem d_X_take_0 : decode b_X_take 0 = .ok (.aload_n 0, 1) := by decide +kernel
theorem d_X_take_1 : decode b_X_take 1 = .ok (.getfield 13, 3) := by decide +kernel
theorem d_X_take_4 : decode b_X_take 4 = .ok (.aload_n 0, 1) := by decide +kernel
theorem d_X_take_5 : decode b_X_take 5 = .ok (.getfield 110, 3) := by decide +kernel
theorem d_X_take_8 : decode b_X_take 8 = .ok (.iaload, 1) := by decide +kernel
theorem d_X_take_9 : decode b_X_take 9 = .ok (.istore_n 1, 1) := by decide +kernel
theorem d_X_take_10 : decode b_X_take 10 = .ok (.aload_n 0, 1) := by decide +kernel
theorem d_X_take_11 : decode b_X_take 11 = .ok (.iload_n 1, 1) := by decide +kernel
theorem d_X_take_12 : decode b_X_take 12 = .ok (.bipush 64, 2) := by decide +kernel
theorem d_X_take_14 : decode b_X_take 14 = .ok (.irem, 1) := by decide +kernel
theorem d_X_take_15 : decode b_X_take 15 = .ok (.putfield 132, 3) := by decide +kernel
theorem d_X_take_18 : decode b_X_take 18 = .ok (.aload_n 0, 1) := by decide +kernel
theorem d_X_take_19 : decode b_X_take 19 = .ok (.iload_n 1, 1) := by decide +kernel
theorem d_X_take_20 : decode b_X_take 20 = .ok (.bipush 64, 2) := by decide +kernel
theorem d_X_take_22 : decode b_X_take 22 = .ok (.idiv, 1) := by decide +kernel
theorem d_X_take_23 : decode b_X_take 23 = .ok (.bipush 64, 2) := by decide +kernel
theorem d_X_take_25 : decode b_X_take 25 = .ok (.irem, 1) := by decide +kernel
theorem d_X_take_26 : decode b_X_take 26 = .ok (.putfield 135, 3) := by decide +kernel
theorem d_X_take_29 : decode b_X_take 29 = .ok (.aload_n 0, 1) := by decide +kernel
theorem d_X_take_30 : decode b_X_take 30 = .ok (.iload_n 1, 1) := by decide +kernel
theorem d_X_take_31 : decode b_X_take 31 = .ok (.sipush 4096, 3) := by decide +kernel
theorem d_X_take_34 : decode b_X_take 34 = .ok (.idiv, 1) := by decide +kernel
theorem d_X_take_35 : decode b_X_take 35 = .ok (.bipush 64, 2) := by decide +kernel
theorem d_X_take_37 : decode b_X_take 37 = .ok (.irem, 1) := by decide +kernel
theorem d_X_take_38 : decode b_X_take 38 = .ok (.putfield 138, 3) := by decide +kernel
theorem d_X_take_41 : decode b_X_take 41 = .ok (.iload_n 1, 1) := by decide +kernel
theorem d_X_take_42 : decode b_X_take 42 = .ok (.ldc 141, 2) := by decide +kernel
theorem d_X_take_44 : decode b_X_take 44 = .ok (.idiv, 1) := by decide +kernel
theorem d_X_take_45 : decode b_X_take 45 = .ok (.istore_n 2, 1) := by decide +kernel
theorem d_X_take_46 : decode b_X_take 46 = .ok (.aload_n 0, 1) := by decide +kernel
theorem d_X_take_47 : decode b_X_take 47 = .ok (.aload_n 0, 1) := by decide +kernel
theorem d_X_take_48 : decode b_X_take 48 = .ok (.getfield 7, 3) := by decide +kernel
theorem d_X_take_51 : decode b_X_take 51 = .ok (.aload_n 0, 1) := by decide +kernel
theorem d_X_take_52 : decode b_X_take 52 = .ok (.getfield 110, 3) := by decide +kernel
theorem d_X_take_55 : decode b_X_take 55 = .ok (.iaload, 1) := by decide +kernel
theorem d_X_take_56 : decode b_X_take 56 = .ok (.iconst 1, 1) := by decide +kernel
theorem d_X_take_57 : decode b_X_take 57 = .ok (.if_icmp .ne 8, 3) := by decide +kernel
theorem d_X_take_60 : decode b_X_take 60 = .ok (.iload_n 2, 1) := by decide +kernel
theorem d_X_take_61 : decode b_X_take 61 = .ok (.ineg, 1) := by decide +kernel
theorem d_X_take_62 : decode b_X_take 62 = .ok (.goto 4, 3) := by decide +kernel
theorem d_X_take_65 : decode b_X_take 65 = .ok (.iload_n 2, 1) := by decide +kernel
theorem d_X_take_66 : decode b_X_take 66 = .ok (.putfield 142, 3) := by decide +kernel
theorem d_X_take_69 : decode b_X_take 69 = .ok (.aload_n 0, 1) := by decide +kernel
theorem d_X_take_70 : decode b_X_take 70 = .ok (.getfield 138, 3) := by decide +kernel
theorem d_X_take_73 : decode b_X_take 73 = .ok (.i2l, 1) := by decide +kernel
theorem d_X_take_74 : decode b_X_take 74 = .ok (.lconst 1, 1) := by decide +kernel
theorem d_X_take_75 : decode b_X_take 75 = .ok (.ldc2_w 145, 3) := by decide +kernel
theorem d_X_take_78 : decode b_X_take 78 = .ok (.invokestatic 96, 3) := by decide +kernel
theorem d_X_take_81 : decode b_X_take 81 = .ok (.ifCond .eq 47, 3) := by decide +kernel
theorem d_X_take_84 : decode b_X_take 84 = .ok (.aload_n 0, 1) := by decide +kernel
theorem d_X_take_85 : decode b_X_take 85 = .ok (.dup, 1) := by decide +kernel
theorem d_X_take_86 : decode b_X_take 86 = .ok (.getfield 142, 3) := by decide +kernel
theorem d_X_take_89 : decode b_X_take 89 = .ok (.aload_n 0, 1) := by decide +kernel
theorem d_X_take_90 : decode b_X_take 90 = .ok (.getfield 16, 3) := by decide +kernel
theorem d_X_take_93 : decode b_X_take 93 = .ok (.aload_n 0, 1) := by decide +kernel
theorem d_X_take_94 : decode b_X_take 94 = .ok (.getfield 138, 3) := by decide +kernel
theorem d_X_take_97 : decode b_X_take 97 = .ok (.iaload, 1) := by decide +kernel
theorem d_X_take_98 : decode b_X_take 98 = .ok (.iconst 1, 1) := by decide +kernel
theorem d_X_take_99 : decode b_X_take 99 = .ok (.if_icmp .ne 16, 3) := by decide +kernel
theorem d_X_take_102 : decode b_X_take 102 = .ok (.aload_n 0, 1) := by decide +kernel
theorem d_X_take_103 : decode b_X_take 103 = .ok (.getfield 19, 3) := by decide +kernel
theorem d_X_take_106 : decode b_X_take 106 = .ok (.aload_n 0, 1) := by decide +kernel
theorem d_X_take_107 : decode b_X_take 107 = .ok (.getfield 138, 3) := by decide +kernel
theorem d_X_take_110 : decode b_X_take 110 = .ok (.iaload, 1) := by decide +kernel
theorem d_X_take_111 : decode b_X_take 111 = .ok (.ineg, 1) := by decide +kernel
theorem d_X_take_112 : decode b_X_take 112 = .ok (.goto 12, 3) := by decide +kernel
theorem d_X_take_115 : decode b_X_take 115 = .ok (.aload_n 0, 1) := by decide +kernel
theorem d_X_take_116 : decode b_X_take 116 = .ok (.getfield 19, 3) := by decide +kernel
theorem d_X_take_119 : decode b_X_take 119 = .ok (.aload_n 0, 1) := by decide +kernel
theorem d_X_take_120 : decode b_X_take 120 = .ok (.getfield 138, 3) := by decide +kernel
theorem d_X_take_123 : decode b_X_take 123 = .ok (.iaload, 1) := by decide +kernel
theorem d_X_take_124 : decode b_X_take 124 = .ok (.iadd, 1) := by decide +kernel
theorem d_X_take_125 : decode b_X_take 125 = .ok (.putfield 142, 3) := by decide +kernel
theorem d_X_take_128 : decode b_X_take 128 = .ok (.aload_n 0, 1) := by decide +kernel
theorem d_X_take_129 : decode b_X_take 129 = .ok (.aload_n 0, 1) := by decide +kernel
theorem d_X_take_130 : decode b_X_take 130 = .ok (.getfield 142, 3) := by decide +kernel
theorem d_X_take_133 : decode b_X_take 133 = .ok (.ifCond .ge 7, 3) := by decide +kernel
theorem d_X_take_136 : decode b_X_take 136 = .ok (.iconst 1, 1) := by decide +kernel
theorem d_X_take_137 : decode b_X_take 137 = .ok (.goto 23, 3) := by decide +kernel
theorem d_X_take_140 : decode b_X_take 140 = .ok (.aload_n 0, 1) := by decide +kernel
theorem d_X_take_141 : decode b_X_take 141 = .ok (.getfield 142, 3) := by decide +kernel
theorem d_X_take_144 : decode b_X_take 144 = .ok (.ifCond .le 7, 3) := by decide +kernel
theorem d_X_take_147 : decode b_X_take 147 = .ok (.iconst 0, 1) := by decide +kernel
theorem d_X_take_148 : decode b_X_take 148 = .ok (.goto 12, 3) := by decide +kernel
theorem d_X_take_151 : decode b_X_take 151 = .ok (.aload_n 0, 1) := by decide +kernel
theorem d_X_take_152 : decode b_X_take 152 = .ok (.getfield 7, 3) := by decide +kernel
theorem d_X_take_155 : decode b_X_take 155 = .ok (.aload_n 0, 1) := by decide +kernel
theorem d_X_take_156 : decode b_X_take 156 = .ok (.getfield 110, 3) := by decide +kernel
theorem d_X_take_159 : decode b_X_take 159 = .ok (.iaload, 1) := by decide +kernel
theorem d_X_take_160 : decode b_X_take 160 = .ok (.putfield 147, 3) := by decide +kernel
theorem d_X_take_163 : decode b_X_take 163 = .ok (.return_, 1) := by decide +kernel
abbrev b_X_take1 : ByteArray := prog_11_method_63_code
abbrev y_X_take1 : MethodName := ⟨"SignMachineModel", "take", "(I)V"⟩
theorem h_X_take1 : (y_X_take1).cls ≠ "java/lang/invoke/MethodHandle" ∧ (y_X_take1).cls ≠ "java/lang/invoke/VarHandle" ∧ (parseMethodDescriptor (y_X_take1).desc).map (fun d => d.parameters.length) = some 1 := by decide +kernel
theorem d_X_take1_0 : decode b_X_take1 0 = .ok (.aload_n 0, 1) := by decide +kernel
theorem d_X_take1_1 : decode b_X_take1 1 = .ok (.invokevirtual 288, 3) := by decide +kernel
theorem d_X_take1_4 : decode b_X_take1 4 = .ok (.iload_n 1, 1) := by decide +kernel
theorem d_X_take1_5 : decode b_X_take1 5 = .ok (.if_icmp .ne 16, 3) := by decide +kernel
theorem d_X_take1_8 : decode b_X_take1 8 = .ok (.aload_n 0, 1) := by decide +kernel
theorem d_X_take1_9 : decode b_X_take1 9 = .ok (.dup, 1) := by decide +kernel
theorem d_X_take1_10 : decode b_X_take1 10 = .ok (.getfield 282, 3) := by decide +kernel
theorem d_X_take1_13 : decode b_X_take1 13 = .ok (.iconst 1, 1) := by decide +kernel
theorem d_X_take1_14 : decode b_X_take1 14 = .ok (.iadd, 1) := by decide +kernel
theorem d_X_take1_15 : decode b_X_take1 15 = .ok (.putfield 282, 3) := by decide +kernel
theorem d_X_take1_18 : decode b_X_take1 18 = .ok (.goto 8, 3) := by decide +kernel
theorem d_X_take1_21 : decode b_X_take1 21 = .ok (.aload_n 0, 1) := by decide +kernel
theorem d_X_take1_22 : decode b_X_take1 22 = .ok (.iconst 1, 1) := by decide +kernel
theorem d_X_take1_23 : decode b_X_take1 23 = .ok (.invokevirtual 299, 3) := by decide +kernel
theorem d_X_take1_26 : decode b_X_take1 26 = .ok (.return_, 1) := by decide +kernel
abbrev b_X_takeValue : ByteArray := prog_11_method_23_code
abbrev y_X_takeValue : MethodName := ⟨"SignMachineModel", "takeValue", "()V"⟩
theorem h_X_takeValue : (y_X_takeValue).cls ≠ "java/lang/invoke/MethodHandle" ∧ (y_X_takeValue).cls ≠ "java/lang/invoke/VarHandle" ∧ (parseMethodDescriptor (y_X_takeValue).desc).map (fun d => d.parameters.length) = some 0 := by decide +kernel
theorem d_X_takeValue_0 : decode b_X_takeValue 0 = .ok (.aload_n 0, 1) := by decide +kernel
theorem d_X_takeValue_1 : decode b_X_takeValue 1 = .ok (.getfield 135, 3) := by decide +kernel
theorem d_X_takeValue_4 : decode b_X_takeValue 4 = .ok (.bipush 8, 2) := by decide +kernel
theorem d_X_takeValue_6 : decode b_X_takeValue 6 = .ok (.idiv, 1) := by decide +kernel
theorem d_X_takeValue_7 : decode b_X_takeValue 7 = .ok (.istore_n 1, 1) := by decide +kernel
theorem d_X_takeValue_8 : decode b_X_takeValue 8 = .ok (.aload_n 0, 1) := by decide +kernel
theorem d_X_takeValue_9 : decode b_X_takeValue 9 = .ok (.getfield 135, 3) := by decide +kernel
theorem d_X_takeValue_12 : decode b_X_takeValue 12 = .ok (.bipush 8, 2) := by decide +kernel
theorem d_X_takeValue_14 : decode b_X_takeValue 14 = .ok (.irem, 1) := by decide +kernel
theorem d_X_takeValue_15 : decode b_X_takeValue 15 = .ok (.istore_n 2, 1) := by decide +kernel
theorem d_X_takeValue_16 : decode b_X_takeValue 16 = .ok (.aload_n 0, 1) := by decide +kernel
theorem d_X_takeValue_17 : decode b_X_takeValue 17 = .ok (.iload_n 1, 1) := by decide +kernel
theorem d_X_takeValue_18 : decode b_X_takeValue 18 = .ok (.ifCond .ne 15, 3) := by decide +kernel
theorem d_X_takeValue_21 : decode b_X_takeValue 21 = .ok (.aload_n 0, 1) := by decide +kernel
theorem d_X_takeValue_22 : decode b_X_takeValue 22 = .ok (.getfield 7, 3) := by decide +kernel
theorem d_X_takeValue_25 : decode b_X_takeValue 25 = .ok (.aload_n 0, 1) := by decide +kernel
theorem d_X_takeValue_26 : decode b_X_takeValue 26 = .ok (.getfield 142, 3) := by decide +kernel
theorem d_X_takeValue_29 : decode b_X_takeValue 29 = .ok (.iaload, 1) := by decide +kernel
theorem d_X_takeValue_30 : decode b_X_takeValue 30 = .ok (.goto 4, 3) := by decide +kernel
theorem d_X_takeValue_33 : decode b_X_takeValue 33 = .ok (.iconst 0, 1) := by decide +kernel
theorem d_X_takeValue_34 : decode b_X_takeValue 34 = .ok (.putfield 165, 3) := by decide +kernel
theorem d_X_takeValue_37 : decode b_X_takeValue 37 = .ok (.aload_n 0, 1) := by decide +kernel
theorem d_X_takeValue_38 : decode b_X_takeValue 38 = .ok (.aload_n 0, 1) := by decide +kernel
theorem d_X_takeValue_39 : decode b_X_takeValue 39 = .ok (.getfield 13, 3) := by decide +kernel
theorem d_X_takeValue_42 : decode b_X_takeValue 42 = .ok (.aload_n 0, 1) := by decide +kernel
theorem d_X_takeValue_43 : decode b_X_takeValue 43 = .ok (.getfield 142, 3) := by decide +kernel
theorem d_X_takeValue_46 : decode b_X_takeValue 46 = .ok (.iaload, 1) := by decide +kernel
theorem d_X_takeValue_47 : decode b_X_takeValue 47 = .ok (.iload_n 1, 1) := by decide +kernel
theorem d_X_takeValue_48 : decode b_X_takeValue 48 = .ok (.ifCond .ne 7, 3) := by decide +kernel
theorem d_X_takeValue_51 : decode b_X_takeValue 51 = .ok (.iconst 1, 1) := by decide +kernel
theorem d_X_takeValue_52 : decode b_X_takeValue 52 = .ok (.goto 4, 3) := by decide +kernel
theorem d_X_takeValue_55 : decode b_X_takeValue 55 = .ok (.iload_n 1, 1) := by decide +kernel
theorem d_X_takeValue_56 : decode b_X_takeValue 56 = .ok (.iload_n 2, 1) := by decide +kernel
theorem d_X_takeValue_57 : decode b_X_takeValue 57 = .ok (.invokestatic 168, 3) := by decide +kernel
theorem d_X_takeValue_60 : decode b_X_takeValue 60 = .ok (.putfield 172, 3) := by decide +kernel
theorem d_X_takeValue_63 : decode b_X_takeValue 63 = .ok (.return_, 1) := by decide +kernel
abbrev b_X_takesWord : ByteArray := prog_11_method_17_code
abbrev y_X_takesWord : MethodName := ⟨"SignMachineModel", "takesWord", "(I)Z"⟩
theorem h_X_takesWord : (y_X_takesWord).cls ≠ "java/lang/invoke/MethodHandle" ∧ (y_X_takesWord).cls ≠ "java/lang/invoke/VarHandle" ∧ (parseMethodDescriptor (y_X_takesWord).desc).map (fun d => d.parameters.length) = some 1 := by decide +kernel
theorem d_X_takesWord_0 : decode b_X_takesWord 0 = .ok (.iload_n 0, 1) := by decide +kernel
theorem d_X_takesWord_1 : decode b_X_takesWord 1 = .ok (.iconst 1, 1) := by decide +kernel
theorem d_X_takesWord_2 : decode b_X_takesWord 2 = .ok (.if_icmp .lt 8, 3) := by decide +kernel
theorem d_X_takesWord_5 : decode b_X_takesWord 5 = .ok (.iload_n 0, 1) := by decide +kernel
theorem d_X_takesWord_6 : decode b_X_takesWord 6 = .ok (.iconst 4, 1) := by decide +kernel
theorem d_X_takesWord_7 : decode b_X_takesWord 7 = .ok (.if_icmp .le 21, 3) := by decide +kernel
theorem d_X_takesWord_10 : decode b_X_takesWord 10 = .ok (.iload_n 0, 1) := by decide +kernel
theorem d_X_takesWord_11 : decode b_X_takesWord 11 = .ok (.bipush 8, 2) := by decide +kernel
theorem d_X_takesWord_13 : decode b_X_takesWord 13 = .ok (.if_icmp .lt 9, 3) := by decide +kernel
theorem d_X_takesWord_16 : decode b_X_takesWord 16 = .ok (.iload_n 0, 1) := by decide +kernel
theorem d_X_takesWord_17 : decode b_X_takesWord 17 = .ok (.bipush 33, 2) := by decide +kernel
theorem d_X_takesWord_19 : decode b_X_takesWord 19 = .ok (.if_icmp .le 9, 3) := by decide +kernel
theorem d_X_takesWord_22 : decode b_X_takesWord 22 = .ok (.iload_n 0, 1) := by decide +kernel
theorem d_X_takesWord_23 : decode b_X_takesWord 23 = .ok (.bipush 56, 2) := by decide +kernel
theorem d_X_takesWord_25 : decode b_X_takesWord 25 = .ok (.if_icmp .lt 7, 3) := by decide +kernel
theorem d_X_takesWord_28 : decode b_X_takesWord 28 = .ok (.iconst 1, 1) := by decide +kernel
theorem d_X_takesWord_29 : decode b_X_takesWord 29 = .ok (.goto 4, 3) := by decide +kernel
theorem d_X_takesWord_32 : decode b_X_takesWord 32 = .ok (.iconst 0, 1) := by decide +kernel
theorem d_X_takesWord_33 : decode b_X_takesWord 33 = .ok (.ireturn, 1) := by decide +kernel
abbrev b_X_tape : ByteArray := prog_11_method_13_code
abbrev y_X_tape : MethodName := ⟨"SignMachineModel", "tape", "(III)I"⟩
theorem h_X_tape : (y_X_tape).cls ≠ "java/lang/invoke/MethodHandle" ∧ (y_X_tape).cls ≠ "java/lang/invoke/VarHandle" ∧ (parseMethodDescriptor (y_X_tape).desc).map (fun d => d.parameters.length) = some 3 := by decide +kernel
theorem d_X_tape_0 : decode b_X_tape 0 = .ok (.iload_n 1, 1) := by decide +kernel
theorem d_X_tape_1 : decode b_X_tape 1 = .ok (.i2l, 1) := by decide +kernel
theorem d_X_tape_2 : decode b_X_tape 2 = .ok (.lconst 0, 1) := by decide +kernel
theorem d_X_tape_3 : decode b_X_tape 3 = .ok (.lconst 1, 1) := by decide +kernel
theorem d_X_tape_4 : decode b_X_tape 4 = .ok (.invokestatic 96, 3) := by decide +kernel
theorem d_X_tape_7 : decode b_X_tape 7 = .ok (.ifCond .eq 27, 3) := by decide +kernel
theorem d_X_tape_10 : decode b_X_tape 10 = .ok (.iload_n 2, 1) := by decide +kernel
theorem d_X_tape_11 : decode b_X_tape 11 = .ok (.i2l, 1) := by decide +kernel
theorem d_X_tape_12 : decode b_X_tape 12 = .ok (.lconst 0, 1) := by decide +kernel
theorem d_X_tape_13 : decode b_X_tape 13 = .ok (.ldc2_w 122, 3) := by decide +kernel
theorem d_X_tape_16 : decode b_X_tape 16 = .ok (.invokestatic 96, 3) := by decide +kernel
theorem d_X_tape_19 : decode b_X_tape 19 = .ok (.ifCond .eq 15, 3) := by decide +kernel
theorem d_X_tape_22 : decode b_X_tape 22 = .ok (.iload_n 3, 1) := by decide +kernel
theorem d_X_tape_23 : decode b_X_tape 23 = .ok (.i2l, 1) := by decide +kernel
theorem d_X_tape_24 : decode b_X_tape 24 = .ok (.lconst 0, 1) := by decide +kernel
theorem d_X_tape_25 : decode b_X_tape 25 = .ok (.ldc2_w 124, 3) := by decide +kernel
theorem d_X_tape_28 : decode b_X_tape 28 = .ok (.invokestatic 96, 3) := by decide +kernel
theorem d_X_tape_31 : decode b_X_tape 31 = .ok (.ifCond .ne 6, 3) := by decide +kernel
theorem d_X_tape_34 : decode b_X_tape 34 = .ok (.ldc 126, 2) := by decide +kernel
theorem d_X_tape_36 : decode b_X_tape 36 = .ok (.ireturn, 1) := by decide +kernel
theorem d_X_tape_37 : decode b_X_tape 37 = .ok (.sipush 4000, 3) := by decide +kernel
theorem d_X_tape_40 : decode b_X_tape 40 = .ok (.iload_n 1, 1) := by decide +kernel
theorem d_X_tape_41 : decode b_X_tape 41 = .ok (.imul, 1) := by decide +kernel
theorem d_X_tape_42 : decode b_X_tape 42 = .ok (.bipush 100, 2) := by decide +kernel
theorem d_X_tape_44 : decode b_X_tape 44 = .ok (.iload_n 2, 1) := by decide +kernel
theorem d_X_tape_45 : decode b_X_tape 45 = .ok (.imul, 1) := by decide +kernel
theorem d_X_tape_46 : decode b_X_tape 46 = .ok (.iadd, 1) := by decide +kernel
theorem d_X_tape_47 : decode b_X_tape 47 = .ok (.iload_n 3, 1) := by decide +kernel
theorem d_X_tape_48 : decode b_X_tape 48 = .ok (.iadd, 1) := by decide +kernel
theorem d_X_tape_49 : decode b_X_tape 49 = .ok (.istore 4, 2) := by decide +kernel
theorem d_X_tape_51 : decode b_X_tape 51 = .ok (.aload_n 0, 1) := by decide +kernel
theorem d_X_tape_52 : decode b_X_tape 52 = .ok (.getfield 22, 3) := by decide +kernel
theorem d_X_tape_55 : decode b_X_tape 55 = .ok (.iload 4, 2) := by decide +kernel
theorem d_X_tape_57 : decode b_X_tape 57 = .ok (.iaload, 1) := by decide +kernel
theorem d_X_tape_58 : decode b_X_tape 58 = .ok (.ifCond .ne 13, 3) := by decide +kernel
theorem d_X_tape_61 : decode b_X_tape 61 = .ok (.aload_n 0, 1) := by decide +kernel
theorem d_X_tape_62 : decode b_X_tape 62 = .ok (.getfield 25, 3) := by decide +kernel
theorem d_X_tape_65 : decode b_X_tape 65 = .ok (.iload 4, 2) := by decide +kernel
theorem d_X_tape_67 : decode b_X_tape 67 = .ok (.iaload, 1) := by decide +kernel
theorem d_X_tape_68 : decode b_X_tape 68 = .ok (.goto 26, 3) := by decide +kernel
theorem d_X_tape_71 : decode b_X_tape 71 = .ok (.aload_n 0, 1) := by decide +kernel
theorem d_X_tape_72 : decode b_X_tape 72 = .ok (.getfield 25, 3) := by decide +kernel
theorem d_X_tape_75 : decode b_X_tape 75 = .ok (.iload 4, 2) := by decide +kernel
theorem d_X_tape_77 : decode b_X_tape 77 = .ok (.iaload, 1) := by decide +kernel
theorem d_X_tape_78 : decode b_X_tape 78 = .ok (.ifCond .ne 8, 3) := by decide +kernel
theorem d_X_tape_81 : decode b_X_tape 81 = .ok (.ldc 127, 2) := by decide +kernel
theorem d_X_tape_83 : decode b_X_tape 83 = .ok (.goto 11, 3) := by decide +kernel
theorem d_X_tape_86 : decode b_X_tape 86 = .ok (.aload_n 0, 1) := by decide +kernel
theorem d_X_tape_87 : decode b_X_tape 87 = .ok (.getfield 25, 3) := by decide +kernel
theorem d_X_tape_90 : decode b_X_tape 90 = .ok (.iload 4, 2) := by decide +kernel
theorem d_X_tape_92 : decode b_X_tape 92 = .ok (.iaload, 1) := by decide +kernel
theorem d_X_tape_93 : decode b_X_tape 93 = .ok (.ineg, 1) := by decide +kernel
theorem d_X_tape_94 : decode b_X_tape 94 = .ok (.ireturn, 1) := by decide +kernel
abbrev b_X_tellLabel : ByteArray := prog_11_method_77_code
abbrev y_X_tellLabel : MethodName := ⟨"SignMachineModel", "tellLabel", "(J)V"⟩
theorem h_X_tellLabel : (y_X_tellLabel).cls ≠ "java/lang/invoke/MethodHandle" ∧ (y_X_tellLabel).cls ≠ "java/lang/invoke/VarHandle" ∧ (parseMethodDescriptor (y_X_tellLabel).desc).map (fun d => d.parameters.length) = some 1 := by decide +kernel
theorem d_X_tellLabel_0 : decode b_X_tellLabel 0 = .ok (.aload_n 0, 1) := by decide +kernel
theorem d_X_tellLabel_1 : decode b_X_tellLabel 1 = .ok (.getfield 493, 3) := by decide +kernel
theorem d_X_tellLabel_4 : decode b_X_tellLabel 4 = .ok (.iconst 3, 1) := by decide +kernel
theorem d_X_tellLabel_5 : decode b_X_tellLabel 5 = .ok (.if_icmp .ne 74, 3) := by decide +kernel
theorem d_X_tellLabel_8 : decode b_X_tellLabel 8 = .ok (.aload_n 0, 1) := by decide +kernel
theorem d_X_tellLabel_9 : decode b_X_tellLabel 9 = .ok (.aload_n 0, 1) := by decide +kernel
theorem d_X_tellLabel_10 : decode b_X_tellLabel 10 = .ok (.getfield 496, 3) := by decide +kernel
theorem d_X_tellLabel_13 : decode b_X_tellLabel 13 = .ok (.l2i, 1) := by decide +kernel
theorem d_X_tellLabel_14 : decode b_X_tellLabel 14 = .ok (.putfield 499, 3) := by decide +kernel
theorem d_X_tellLabel_17 : decode b_X_tellLabel 17 = .ok (.aload_n 0, 1) := by decide +kernel
theorem d_X_tellLabel_18 : decode b_X_tellLabel 18 = .ok (.lload_n 1, 1) := by decide +kernel
theorem d_X_tellLabel_19 : decode b_X_tellLabel 19 = .ok (.putfield 502, 3) := by decide +kernel
theorem d_X_tellLabel_22 : decode b_X_tellLabel 22 = .ok (.iconst 0, 1) := by decide +kernel
theorem d_X_tellLabel_23 : decode b_X_tellLabel 23 = .ok (.istore_n 3, 1) := by decide +kernel
theorem d_X_tellLabel_24 : decode b_X_tellLabel 24 = .ok (.iload_n 3, 1) := by decide +kernel
theorem d_X_tellLabel_25 : decode b_X_tellLabel 25 = .ok (.aload_n 0, 1) := by decide +kernel
theorem d_X_tellLabel_26 : decode b_X_tellLabel 26 = .ok (.getfield 392, 3) := by decide +kernel
theorem d_X_tellLabel_29 : decode b_X_tellLabel 29 = .ok (.if_icmp .ge 47, 3) := by decide +kernel
theorem d_X_tellLabel_32 : decode b_X_tellLabel 32 = .ok (.aload_n 0, 1) := by decide +kernel
theorem d_X_tellLabel_33 : decode b_X_tellLabel 33 = .ok (.getfield 76, 3) := by decide +kernel
theorem d_X_tellLabel_36 : decode b_X_tellLabel 36 = .ok (.iload_n 3, 1) := by decide +kernel
theorem d_X_tellLabel_37 : decode b_X_tellLabel 37 = .ok (.iaload, 1) := by decide +kernel
theorem d_X_tellLabel_38 : decode b_X_tellLabel 38 = .ok (.iconst (-1), 1) := by decide +kernel
theorem d_X_tellLabel_39 : decode b_X_tellLabel 39 = .ok (.aload_n 0, 1) := by decide +kernel
theorem d_X_tellLabel_40 : decode b_X_tellLabel 40 = .ok (.getfield 499, 3) := by decide +kernel
theorem d_X_tellLabel_43 : decode b_X_tellLabel 43 = .ok (.isub, 1) := by decide +kernel
theorem d_X_tellLabel_44 : decode b_X_tellLabel 44 = .ok (.if_icmp .ne 26, 3) := by decide +kernel
theorem d_X_tellLabel_47 : decode b_X_tellLabel 47 = .ok (.aload_n 0, 1) := by decide +kernel
theorem d_X_tellLabel_48 : decode b_X_tellLabel 48 = .ok (.getfield 79, 3) := by decide +kernel
theorem d_X_tellLabel_51 : decode b_X_tellLabel 51 = .ok (.iload_n 3, 1) := by decide +kernel
theorem d_X_tellLabel_52 : decode b_X_tellLabel 52 = .ok (.baload, 1) := by decide +kernel
theorem d_X_tellLabel_53 : decode b_X_tellLabel 53 = .ok (.ifCond .ne 17, 3) := by decide +kernel
theorem d_X_tellLabel_56 : decode b_X_tellLabel 56 = .ok (.aload_n 0, 1) := by decide +kernel
theorem d_X_tellLabel_57 : decode b_X_tellLabel 57 = .ok (.getfield 79, 3) := by decide +kernel
theorem d_X_tellLabel_60 : decode b_X_tellLabel 60 = .ok (.iload_n 3, 1) := by decide +kernel
theorem d_X_tellLabel_61 : decode b_X_tellLabel 61 = .ok (.iconst 1, 1) := by decide +kernel
theorem d_X_tellLabel_62 : decode b_X_tellLabel 62 = .ok (.bastore, 1) := by decide +kernel
theorem d_X_tellLabel_63 : decode b_X_tellLabel 63 = .ok (.aload_n 0, 1) := by decide +kernel
theorem d_X_tellLabel_64 : decode b_X_tellLabel 64 = .ok (.getfield 88, 3) := by decide +kernel
theorem d_X_tellLabel_67 : decode b_X_tellLabel 67 = .ok (.iload_n 3, 1) := by decide +kernel
theorem d_X_tellLabel_68 : decode b_X_tellLabel 68 = .ok (.lload_n 1, 1) := by decide +kernel
theorem d_X_tellLabel_69 : decode b_X_tellLabel 69 = .ok (.lastore, 1) := by decide +kernel
theorem d_X_tellLabel_70 : decode b_X_tellLabel 70 = .ok (.iinc 3 1, 3) := by decide +kernel
theorem d_X_tellLabel_73 : decode b_X_tellLabel 73 = .ok (.goto (-49), 3) := by decide +kernel
theorem d_X_tellLabel_76 : decode b_X_tellLabel 76 = .ok (.goto 80, 3) := by decide +kernel
theorem d_X_tellLabel_79 : decode b_X_tellLabel 79 = .ok (.aload_n 0, 1) := by decide +kernel
theorem d_X_tellLabel_80 : decode b_X_tellLabel 80 = .ok (.getfield 493, 3) := by decide +kernel
theorem d_X_tellLabel_83 : decode b_X_tellLabel 83 = .ok (.iconst 2, 1) := by decide +kernel
theorem d_X_tellLabel_84 : decode b_X_tellLabel 84 = .ok (.if_icmp .ne 72, 3) := by decide +kernel
theorem d_X_tellLabel_87 : decode b_X_tellLabel 87 = .ok (.aload_n 0, 1) := by decide +kernel
theorem d_X_tellLabel_88 : decode b_X_tellLabel 88 = .ok (.aload_n 0, 1) := by decide +kernel
theorem d_X_tellLabel_89 : decode b_X_tellLabel 89 = .ok (.getfield 496, 3) := by decide +kernel
theorem d_X_tellLabel_92 : decode b_X_tellLabel 92 = .ok (.invokevirtual 327, 3) := by decide +kernel
theorem d_X_tellLabel_95 : decode b_X_tellLabel 95 = .ok (.istore_n 3, 1) := by decide +kernel
theorem d_X_tellLabel_96 : decode b_X_tellLabel 96 = .ok (.iload_n 3, 1) := by decide +kernel
theorem d_X_tellLabel_97 : decode b_X_tellLabel 97 = .ok (.bipush (-2), 2) := by decide +kernel
theorem d_X_tellLabel_99 : decode b_X_tellLabel 99 = .ok (.if_icmp .eq 18, 3) := by decide +kernel
theorem d_X_tellLabel_102 : decode b_X_tellLabel 102 = .ok (.aload_n 0, 1) := by decide +kernel
theorem d_X_tellLabel_103 : decode b_X_tellLabel 103 = .ok (.getfield 48, 3) := by decide +kernel
theorem d_X_tellLabel_106 : decode b_X_tellLabel 106 = .ok (.iload_n 3, 1) := by decide +kernel
theorem d_X_tellLabel_107 : decode b_X_tellLabel 107 = .ok (.baload, 1) := by decide +kernel
theorem d_X_tellLabel_108 : decode b_X_tellLabel 108 = .ok (.ifCond .eq 9, 3) := by decide +kernel
theorem d_X_tellLabel_111 : decode b_X_tellLabel 111 = .ok (.aload_n 0, 1) := by decide +kernel
theorem d_X_tellLabel_112 : decode b_X_tellLabel 112 = .ok (.iconst 3, 1) := by decide +kernel
theorem d_X_tellLabel_113 : decode b_X_tellLabel 113 = .ok (.invokevirtual 299, 3) := by decide +kernel
theorem d_X_tellLabel_116 : decode b_X_tellLabel 116 = .ok (.return_, 1) := by decide +kernel
theorem d_X_tellLabel_117 : decode b_X_tellLabel 117 = .ok (.iload_n 3, 1) := by decide +kernel
theorem d_X_tellLabel_118 : decode b_X_tellLabel 118 = .ok (.bipush (-2), 2) := by decide +kernel
theorem d_X_tellLabel_120 : decode b_X_tellLabel 120 = .ok (.if_icmp .ne 14, 3) := by decide +kernel
theorem d_X_tellLabel_123 : decode b_X_tellLabel 123 = .ok (.aload_n 0, 1) := by decide +kernel
theorem d_X_tellLabel_124 : decode b_X_tellLabel 124 = .ok (.aload_n 0, 1) := by decide +kernel
theorem d_X_tellLabel_125 : decode b_X_tellLabel 125 = .ok (.getfield 496, 3) := by decide +kernel
theorem d_X_tellLabel_128 : decode b_X_tellLabel 128 = .ok (.invokevirtual 359, 3) := by decide +kernel
theorem d_X_tellLabel_131 : decode b_X_tellLabel 131 = .ok (.goto 4, 3) := by decide +kernel
theorem d_X_tellLabel_134 : decode b_X_tellLabel 134 = .ok (.iload_n 3, 1) := by decide +kernel
theorem d_X_tellLabel_135 : decode b_X_tellLabel 135 = .ok (.istore_n 3, 1) := by decide +kernel
theorem d_X_tellLabel_136 : decode b_X_tellLabel 136 = .ok (.iload_n 3, 1) := by decide +kernel
theorem d_X_tellLabel_137 : decode b_X_tellLabel 137 = .ok (.bipush (-2), 2) := by decide +kernel
theorem d_X_tellLabel_139 : decode b_X_tellLabel 139 = .ok (.if_icmp .eq 17, 3) := by decide +kernel
theorem d_X_tellLabel_142 : decode b_X_tellLabel 142 = .ok (.aload_n 0, 1) := by decide +kernel
theorem d_X_tellLabel_143 : decode b_X_tellLabel 143 = .ok (.getfield 48, 3) := by decide +kernel
theorem d_X_tellLabel_146 : decode b_X_tellLabel 146 = .ok (.iload_n 3, 1) := by decide +kernel
theorem d_X_tellLabel_147 : decode b_X_tellLabel 147 = .ok (.iconst 1, 1) := by decide +kernel
theorem d_X_tellLabel_148 : decode b_X_tellLabel 148 = .ok (.bastore, 1) := by decide +kernel
theorem d_X_tellLabel_149 : decode b_X_tellLabel 149 = .ok (.aload_n 0, 1) := by decide +kernel
theorem d_X_tellLabel_150 : decode b_X_tellLabel 150 = .ok (.getfield 52, 3) := by decide +kernel
theorem d_X_tellLabel_153 : decode b_X_tellLabel 153 = .ok (.iload_n 3, 1) := by decide +kernel
theorem d_X_tellLabel_154 : decode b_X_tellLabel 154 = .ok (.lload_n 1, 1) := by decide +kernel
theorem d_X_tellLabel_155 : decode b_X_tellLabel 155 = .ok (.lastore, 1) := by decide +kernel
theorem d_X_tellLabel_156 : decode b_X_tellLabel 156 = .ok (.return_, 1) := by decide +kernel
abbrev b_X_wholeWord : ByteArray := prog_11_method_80_code
abbrev y_X_wholeWord : MethodName := ⟨"SignMachineModel", "wholeWord", "()V"⟩
theorem h_X_wholeWord : (y_X_wholeWord).cls ≠ "java/lang/invoke/MethodHandle" ∧ (y_X_wholeWord).cls ≠ "java/lang/invoke/VarHandle" ∧ (parseMethodDescriptor (y_X_wholeWord).desc).map (fun d => d.parameters.length) = some 0 := by decide +kernel
theorem d_X_wholeWord_0 : decode b_X_wholeWord 0 = .ok (.aload_n 0, 1) := by decide +kernel
theorem d_X_wholeWord_1 : decode b_X_wholeWord 1 = .ok (.invokevirtual 288, 3) := by decide +kernel
theorem d_X_wholeWord_4 : decode b_X_wholeWord 4 = .ok (.iconst (-1), 1) := by decide +kernel
theorem d_X_wholeWord_5 : decode b_X_wholeWord 5 = .ok (.if_icmp .ne 19, 3) := by decide +kernel
theorem d_X_wholeWord_8 : decode b_X_wholeWord 8 = .ok (.aload_n 0, 1) := by decide +kernel
theorem d_X_wholeWord_9 : decode b_X_wholeWord 9 = .ok (.iconst 1, 1) := by decide +kernel
theorem d_X_wholeWord_10 : decode b_X_wholeWord 10 = .ok (.invokevirtual 299, 3) := by decide +kernel
theorem d_X_wholeWord_13 : decode b_X_wholeWord 13 = .ok (.aload_n 0, 1) := by decide +kernel
theorem d_X_wholeWord_14 : decode b_X_wholeWord 14 = .ok (.iconst 0, 1) := by decide +kernel
theorem d_X_wholeWord_15 : decode b_X_wholeWord 15 = .ok (.putfield 341, 3) := by decide +kernel
theorem d_X_wholeWord_18 : decode b_X_wholeWord 18 = .ok (.aload_n 0, 1) := by decide +kernel
theorem d_X_wholeWord_19 : decode b_X_wholeWord 19 = .ok (.iconst 0, 1) := by decide +kernel
theorem d_X_wholeWord_20 : decode b_X_wholeWord 20 = .ok (.putfield 344, 3) := by decide +kernel
theorem d_X_wholeWord_23 : decode b_X_wholeWord 23 = .ok (.return_, 1) := by decide +kernel
theorem d_X_wholeWord_24 : decode b_X_wholeWord 24 = .ok (.aload_n 0, 1) := by decide +kernel
theorem d_X_wholeWord_25 : decode b_X_wholeWord 25 = .ok (.invokevirtual 372, 3) := by decide +kernel
theorem d_X_wholeWord_28 : decode b_X_wholeWord 28 = .ok (.aload_n 0, 1) := by decide +kernel
theorem d_X_wholeWord_29 : decode b_X_wholeWord 29 = .ok (.invokevirtual 288, 3) := by decide +kernel
theorem d_X_wholeWord_32 : decode b_X_wholeWord 32 = .ok (.iconst (-1), 1) := by decide +kernel
theorem d_X_wholeWord_33 : decode b_X_wholeWord 33 = .ok (.if_icmp .eq 17, 3) := by decide +kernel
theorem d_X_wholeWord_36 : decode b_X_wholeWord 36 = .ok (.aload_n 0, 1) := by decide +kernel
theorem d_X_wholeWord_37 : decode b_X_wholeWord 37 = .ok (.invokevirtual 288, 3) := by decide +kernel
theorem d_X_wholeWord_40 : decode b_X_wholeWord 40 = .ok (.bipush 32, 2) := by decide +kernel
theorem d_X_wholeWord_42 : decode b_X_wholeWord 42 = .ok (.if_icmp .eq 8, 3) := by decide +kernel
theorem d_X_wholeWord_45 : decode b_X_wholeWord 45 = .ok (.aload_n 0, 1) := by decide +kernel
theorem d_X_wholeWord_46 : decode b_X_wholeWord 46 = .ok (.iconst 1, 1) := by decide +kernel
theorem d_X_wholeWord_47 : decode b_X_wholeWord 47 = .ok (.invokevirtual 299, 3) := by decide +kernel
theorem d_X_wholeWord_50 : decode b_X_wholeWord 50 = .ok (.return_, 1) := by decide +kernel
abbrev b_X_wordValue : ByteArray := prog_11_method_65_code
abbrev y_X_wordValue : MethodName := ⟨"SignMachineModel", "wordValue", "()J"⟩
theorem h_X_wordValue : (y_X_wordValue).cls ≠ "java/lang/invoke/MethodHandle" ∧ (y_X_wordValue).cls ≠ "java/lang/invoke/VarHandle" ∧ (parseMethodDescriptor (y_X_wordValue).desc).map (fun d => d.parameters.length) = some 0 := by decide +kernel
theorem d_X_wordValue_0 : decode b_X_wordValue 0 = .ok (.aload_n 0, 1) := by decide +kernel
theorem d_X_wordValue_1 : decode b_X_wordValue 1 = .ok (.getfield 341, 3) := by decide +kernel
theorem d_X_wordValue_4 : decode b_X_wordValue 4 = .ok (.iconst 1, 1) := by decide +kernel
theorem d_X_wordValue_5 : decode b_X_wordValue 5 = .ok (.if_icmp .ne 12, 3) := by decide +kernel
theorem d_X_wordValue_8 : decode b_X_wordValue 8 = .ok (.aload_n 0, 1) := by decide +kernel
theorem d_X_wordValue_9 : decode b_X_wordValue 9 = .ok (.getfield 344, 3) := by decide +kernel
theorem d_X_wordValue_12 : decode b_X_wordValue 12 = .ok (.i2l, 1) := by decide +kernel
theorem d_X_wordValue_13 : decode b_X_wordValue 13 = .ok (.lneg, 1) := by decide +kernel
theorem d_X_wordValue_14 : decode b_X_wordValue 14 = .ok (.goto 8, 3) := by decide +kernel
theorem d_X_wordValue_17 : decode b_X_wordValue 17 = .ok (.aload_n 0, 1) := by decide +kernel
theorem d_X_wordValue_18 : decode b_X_wordValue 18 = .ok (.getfield 344, 3) := by decide +kernel
theorem d_X_wordValue_21 : decode b_X_wordValue 21 = .ok (.i2l, 1) := by decide +kernel
theorem d_X_wordValue_22 : decode b_X_wordValue 22 = .ok (.lreturn, 1) := by decide +kernel
