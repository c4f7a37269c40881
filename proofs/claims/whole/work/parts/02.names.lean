def R_Rec : String := "ScrubbedRecorder"
def R_Mem : String := "ScrubbedRecorder$Memory"
def R_Pk : String := "ScrubbedRecorder$Packet"
def R_Pb : String := "ScrubbedRecorder$Playback"
def R_St : String := "ScrubbedRecorder$Store"
def R_Mod : String := "ScrubbedRecorderModel"
def R_AL : String := "java/util/ArrayList"
def R_ABL : String := "java/util/AbstractList"
def R_ABC : String := "java/util/AbstractCollection"
def R_Objs : String := "java/util/Objects"
def R_Pre : String := "jdk/internal/util/Preconditions"
def R_Mth : String := "java/lang/Math"
def R_Lng : String := "java/lang/Long"
def R_Arr : String := "java/util/Arrays"
def R_ASup : String := "jdk/internal/util/ArraysSupport"
def R_Law : String := "ScrubbedRecorderLaw"
def R_Obj : String := "java/lang/Object"
def R_Sys : String := "java/lang/System"
def T_Rec : u_T := fun k => match k with
  | 0 => ("ScrubbedRecorder", "memory", "LScrubbedRecorder$Memory;", true)
  | 1 => ("ScrubbedRecorder", "stores", "[LScrubbedRecorder$Store;", true)
  | 2 => ("ScrubbedRecorder", "playbacks", "[LScrubbedRecorder$Playback;", true)
  | 3 => ("ScrubbedRecorder", "buffer", "[B", true)
  | 4 => ("ScrubbedRecorder", "framed", "LScrubbedRecorder$Packet;", false)
  | _ => ("ScrubbedRecorder", "turns", "J", false)
def ty_Rec : Nat → FieldType := fun k => match k with
  | 0 => .object "ScrubbedRecorder$Memory"
  | 1 => .array (.object "ScrubbedRecorder$Store")
  | 2 => .array (.object "ScrubbedRecorder$Playback")
  | 3 => .array .byte
  | 4 => .object "ScrubbedRecorder$Packet"
  | _ => .long
theorem nm_Rec : ∀ a, a < 6 → ∀ b, b < 6 → a ≠ b → (T_Rec a).2.1 ≠ (T_Rec b).2.1 := by decide +kernel
theorem tyok_Rec : ∀ k, k < 6 → parseFieldDescriptor (T_Rec k).2.2.1 = some (ty_Rec k) := by decide +kernel
def T_Mem : u_T := fun k => match k with
  | 0 => ("ScrubbedRecorder$Memory", "flipped", "[J", true)
  | 1 => ("ScrubbedRecorder$Memory", "inChain", "[Z", true)
  | 2 => ("ScrubbedRecorder$Memory", "lostModule", "I", false)
  | 3 => ("ScrubbedRecorder$Memory", "lostIsOff", "Z", false)
  | 4 => ("ScrubbedRecorder$Memory", "firstLostRow", "I", false)
  | 5 => ("ScrubbedRecorder$Memory", "scrubNext", "I", false)
  | 6 => ("ScrubbedRecorder$Memory", "corrected", "I", false)
  | _ => ("ScrubbedRecorder$Memory", "mended", "I", false)
def ty_Mem : Nat → FieldType := fun k => match k with
  | 0 => .array .long
  | 1 => .array .boolean
  | 2 => .int
  | 3 => .boolean
  | 4 => .int
  | 5 => .int
  | 6 => .int
  | _ => .int
theorem nm_Mem : ∀ a, a < 8 → ∀ b, b < 8 → a ≠ b → (T_Mem a).2.1 ≠ (T_Mem b).2.1 := by decide +kernel
theorem tyok_Mem : ∀ k, k < 8 → parseFieldDescriptor (T_Mem k).2.2.1 = some (ty_Mem k) := by decide +kernel
def T_St : u_T := fun k => match k with
  | 0 => ("ScrubbedRecorder$Store", "number", "I", true)
  | 1 => ("ScrubbedRecorder$Store", "circular", "Z", true)
  | 2 => ("ScrubbedRecorder$Store", "memory", "LScrubbedRecorder$Memory;", true)
  | 3 => ("ScrubbedRecorder$Store", "chain", "[I", true)
  | 4 => ("ScrubbedRecorder$Store", "nextWord", "I", false)
  | 5 => ("ScrubbedRecorder$Store", "kept", "Ljava/util/ArrayList;", true)
  | 6 => ("ScrubbedRecorder$Store", "quota", "I", true)
  | 7 => ("ScrubbedRecorder$Store", "chainLength", "I", false)
  | 8 => ("ScrubbedRecorder$Store", "next", "I", false)
  | _ => ("ScrubbedRecorder$Store", "clock", "I", false)
def ty_St : Nat → FieldType := fun k => match k with
  | 0 => .int
  | 1 => .boolean
  | 2 => .object "ScrubbedRecorder$Memory"
  | 3 => .array .int
  | 4 => .int
  | 5 => .object "java/util/ArrayList"
  | 6 => .int
  | 7 => .int
  | 8 => .int
  | _ => .int
theorem nm_St : ∀ a, a < 10 → ∀ b, b < 10 → a ≠ b → (T_St a).2.1 ≠ (T_St b).2.1 := by decide +kernel
theorem tyok_St : ∀ k, k < 10 → parseFieldDescriptor (T_St k).2.2.1 = some (ty_St k) := by decide +kernel
def T_Pk : u_T := fun k => match k with
  | 0 => ("ScrubbedRecorder$Packet", "store", "I", true)
  | 1 => ("ScrubbedRecorder$Packet", "telling", "[B", true)
  | 2 => ("ScrubbedRecorder$Packet", "position", "I", true)
  | 3 => ("ScrubbedRecorder$Packet", "time", "I", true)
  | 4 => ("ScrubbedRecorder$Packet", "firstPage", "I", false)
  | 5 => ("ScrubbedRecorder$Packet", "confirmed", "Z", false)
  | 6 => ("ScrubbedRecorder$Packet", "savedAsConfirmed", "Z", false)
  | _ => ("ScrubbedRecorder$Packet", "askedTurn", "J", false)
def ty_Pk : Nat → FieldType := fun k => match k with
  | 0 => .int
  | 1 => .array .byte
  | 2 => .int
  | 3 => .int
  | 4 => .int
  | 5 => .boolean
  | 6 => .boolean
  | _ => .long
theorem nm_Pk : ∀ a, a < 8 → ∀ b, b < 8 → a ≠ b → (T_Pk a).2.1 ≠ (T_Pk b).2.1 := by decide +kernel
theorem tyok_Pk : ∀ k, k < 8 → parseFieldDescriptor (T_Pk k).2.2.1 = some (ty_Pk k) := by decide +kernel
def T_Pb : u_T := fun k => match k with
  | 0 => ("ScrubbedRecorder$Playback", "from", "I", true)
  | 1 => ("ScrubbedRecorder$Playback", "to", "I", true)
  | 2 => ("ScrubbedRecorder$Playback", "priority", "I", true)
  | 3 => ("ScrubbedRecorder$Playback", "openedTurn", "J", true)
  | 4 => ("ScrubbedRecorder$Playback", "store", "LScrubbedRecorder$Store;", true)
  | _ => ("ScrubbedRecorder$Playback", "sent", "I", false)
def ty_Pb : Nat → FieldType := fun k => match k with
  | 0 => .int
  | 1 => .int
  | 2 => .int
  | 3 => .long
  | 4 => .object "ScrubbedRecorder$Store"
  | _ => .int
theorem nm_Pb : ∀ a, a < 6 → ∀ b, b < 6 → a ≠ b → (T_Pb a).2.1 ≠ (T_Pb b).2.1 := by decide +kernel
theorem tyok_Pb : ∀ k, k < 6 → parseFieldDescriptor (T_Pb k).2.2.1 = some (ty_Pb k) := by decide +kernel
def T_AL : u_T := fun k => match k with
  | 0 => ("java/util/ArrayList", "elementData", "[Ljava/lang/Object;", false)
  | 1 => ("java/util/ArrayList", "size", "I", false)
  | _ => ("java/util/AbstractList", "modCount", "I", false)
def ty_AL : Nat → FieldType := fun k => match k with
  | 0 => .array (.object "java/lang/Object")
  | 1 => .int
  | _ => .int
theorem nm_AL : ∀ a, a < 3 → ∀ b, b < 3 → a ≠ b → (T_AL a).2.1 ≠ (T_AL b).2.1 := by decide +kernel
theorem tyok_AL : ∀ k, k < 3 → parseFieldDescriptor (T_AL k).2.2.1 = some (ty_AL k) := by decide +kernel
def T_Mod : u_T := fun k => match k with
  | 0 => ("ScrubbedRecorderModel", "flips", "[J", true)
  | 1 => ("ScrubbedRecorderModel", "off", "I", false)
  | 2 => ("ScrubbedRecorderModel", "pale", "I", false)
  | 3 => ("ScrubbedRecorderModel", "blank", "I", false)
  | 4 => ("ScrubbedRecorderModel", "corrected", "I", false)
  | 5 => ("ScrubbedRecorderModel", "mended", "I", false)
  | 6 => ("ScrubbedRecorderModel", "next", "I", false)
  | 7 => ("ScrubbedRecorderModel", "made", "[Z", true)
  | 8 => ("ScrubbedRecorderModel", "circular", "[Z", true)
  | 9 => ("ScrubbedRecorderModel", "quota", "[I", true)
  | 10 => ("ScrubbedRecorderModel", "positions", "[I", true)
  | 11 => ("ScrubbedRecorderModel", "clock", "[I", true)
  | 12 => ("ScrubbedRecorderModel", "pages", "[I", true)
  | 13 => ("ScrubbedRecorderModel", "fill", "[I", true)
  | 14 => ("ScrubbedRecorderModel", "chain", "[I", true)
  | 15 => ("ScrubbedRecorderModel", "used", "[Z", true)
  | 16 => ("ScrubbedRecorderModel", "store", "[I", true)
  | 17 => ("ScrubbedRecorderModel", "position", "[I", true)
  | 18 => ("ScrubbedRecorderModel", "source", "[I", true)
  | 19 => ("ScrubbedRecorderModel", "time", "[I", true)
  | 20 => ("ScrubbedRecorderModel", "size", "[I", true)
  | 21 => ("ScrubbedRecorderModel", "page", "[I", true)
  | 22 => ("ScrubbedRecorderModel", "confirmed", "[Z", true)
  | 23 => ("ScrubbedRecorderModel", "saved", "[Z", true)
  | 24 => ("ScrubbedRecorderModel", "asked", "[I", true)
  | 25 => ("ScrubbedRecorderModel", "data", "[J", true)
  | 26 => ("ScrubbedRecorderModel", "askings", "I", false)
  | 27 => ("ScrubbedRecorderModel", "playStore", "[I", true)
  | 28 => ("ScrubbedRecorderModel", "playFrom", "[I", true)
  | 29 => ("ScrubbedRecorderModel", "playTo", "[I", true)
  | 30 => ("ScrubbedRecorderModel", "playPrio", "[I", true)
  | 31 => ("ScrubbedRecorderModel", "playSent", "[I", true)
  | 32 => ("ScrubbedRecorderModel", "playOpened", "[I", true)
  | 33 => ("ScrubbedRecorderModel", "openings", "I", false)
  | 34 => ("ScrubbedRecorderModel", "buffer", "[I", true)
  | 35 => ("ScrubbedRecorderModel", "frameSize", "I", false)
  | _ => ("ScrubbedRecorderModel", "frame", "[I", true)
def ty_Mod : Nat → FieldType := fun k => match k with
  | 0 => .array .long
  | 1 => .int
  | 2 => .int
  | 3 => .int
  | 4 => .int
  | 5 => .int
  | 6 => .int
  | 7 => .array .boolean
  | 8 => .array .boolean
  | 9 => .array .int
  | 10 => .array .int
  | 11 => .array .int
  | 12 => .array .int
  | 13 => .array .int
  | 14 => .array .int
  | 15 => .array .boolean
  | 16 => .array .int
  | 17 => .array .int
  | 18 => .array .int
  | 19 => .array .int
  | 20 => .array .int
  | 21 => .array .int
  | 22 => .array .boolean
  | 23 => .array .boolean
  | 24 => .array .int
  | 25 => .array .long
  | 26 => .int
  | 27 => .array .int
  | 28 => .array .int
  | 29 => .array .int
  | 30 => .array .int
  | 31 => .array .int
  | 32 => .array .int
  | 33 => .int
  | 34 => .array .int
  | 35 => .int
  | _ => .array .int
theorem nm_Mod : ∀ a, a < 37 → ∀ b, b < 37 → a ≠ b → (T_Mod a).2.1 ≠ (T_Mod b).2.1 := by decide +kernel
theorem tyok_Mod : ∀ k, k < 37 → parseFieldDescriptor (T_Mod k).2.2.1 = some (ty_Mod k) := by decide +kernel
abbrev classes : List vw_C := [(R_Rec, T_Rec, 6), (R_Mem, T_Mem, 8), (R_St, T_St, 10), (R_Pk, T_Pk, 8), (R_Pb, T_Pb, 6), (R_AL, T_AL, 3), (R_Mod, T_Mod, 37)]
def zh_lay : Nat → List Nat := fun c => match c with
  | 0 => [2, 2, 2, 2, 2, 1]
  | 1 => [2, 2, 0, 0, 0, 0, 0, 0]
  | 2 => [0, 0, 2, 2, 0, 2, 0, 0, 0, 0]
  | 3 => [0, 2, 0, 0, 0, 0, 0, 1]
  | 4 => [0, 0, 0, 1, 2, 0]
  | 5 => [2, 0, 0]
  | 6 => [2, 0, 0, 0, 0, 0, 0, 2, 2, 2, 2, 2, 2, 2, 2, 2, 2, 2, 2, 2, 2, 2, 2, 2, 2, 2, 0, 2, 2, 2, 2, 2, 2, 0, 2, 0, 2]
  | _ => []
def zh_nt : Nat := 7
def zh_aty : Nat → FieldType := fun t => match t with
  | 0 => .int
  | 1 => .long
  | 2 => .byte
  | 3 => .boolean
  | 4 => .object "java/lang/Object"
  | 5 => .object "ScrubbedRecorder$Store"
  | _ => .object "ScrubbedRecorder$Playback"
/-- the words that every method may use: those of the tables that calls keep -/
def zw : List Cond := lw_tbl.filter goodWord
theorem zw_of (i : Nat) {w : Cond} (h : tables_1[i]? = some w) (g : goodWord w = true) : w ∈ zw := List.mem_filter.mpr ⟨List.mem_append_right _ (List.mem_of_getElem? h), g⟩
theorem zw_sel (i : Nat) {w : Cond} (h : (k2_sels lw_privs)[i]? = some w) (g : goodWord w = true) : w ∈ zw := List.mem_filter.mpr ⟨List.mem_append_left _ (List.mem_of_getElem? h), g⟩
theorem zw_good {w : Cond} (h : w ∈ zw) : (w.onTables && w.keeps) = true ∨ ∃ ty, w = .arrayClass ty := good_of_word (List.mem_filter.mp h).2
theorem zg_all {c0 c : Cond} (h : c ∈ zw) : GoodIn (c0 :: zw) (c :: zw) := fun w hw => (List.mem_cons.mp hw).elim (fun e => by rw [e]; exact ⟨List.mem_cons_of_mem _ h, zw_good h⟩) (fun h1 => ⟨List.mem_cons_of_mem _ h1, zw_good h1⟩)
theorem zg_V {own C : String} {idx : Nat} {y : MethodName} {c0 c : Cond} (h1 : Cond.methodLink own idx y ∈ zw) (h2 : Cond.instanceMethod y ∈ zw) (h3 : Cond.selects C y y ∈ zw) (h4 : Cond.initialized C ∈ zw) (h5 : c ∈ zw) : GoodIn (c0 :: zw) (wsV own idx C y (c :: zw)) := by
  intro w hw
  unfold wsV at hw
  rcases List.mem_append.mp hw with hw | hw
  · simp only [List.mem_cons, List.not_mem_nil, or_false] at hw
    rcases hw with rfl | rfl | rfl | rfl
    · exact ⟨List.mem_cons_of_mem _ h1, zw_good h1⟩
    · exact ⟨List.mem_cons_of_mem _ h2, zw_good h2⟩
    · exact ⟨List.mem_cons_of_mem _ h3, zw_good h3⟩
    · exact ⟨List.mem_cons_of_mem _ h4, zw_good h4⟩
  · exact zg_all h5 w hw
theorem zg_S {own : String} {idx : Nat} {y : MethodName} {c0 c : Cond} (h1 : Cond.methodLink own idx y ∈ zw) (h2 : Cond.static y ∈ zw) (h4 : Cond.initialized own ∈ zw) (h5 : c ∈ zw) : GoodIn (c0 :: zw) (wsS own idx y (c :: zw)) := by
  intro w hw
  unfold wsS at hw
  rcases List.mem_append.mp hw with hw | hw
  · simp only [List.mem_cons, List.not_mem_nil, or_false] at hw
    rcases hw with rfl | rfl | rfl
    · exact ⟨List.mem_cons_of_mem _ h1, zw_good h1⟩
    · exact ⟨List.mem_cons_of_mem _ h2, zw_good h2⟩
    · exact ⟨List.mem_cons_of_mem _ h4, zw_good h4⟩
  · exact zg_all h5 w hw
def zh_nw : List Cond := [(Cond.methodLinkNest "ScrubbedRecorder" (11 : Nat) ({ cls := "ScrubbedRecorder$Memory", name := "<init>", desc := "()V" } : MethodName) "ScrubbedRecorder"), (Cond.methodLinkNest "ScrubbedRecorder$Packet" (32 : Nat) ({ cls := "ScrubbedRecorder", name := "byteOfFour", desc := "(II)I" } : MethodName) "ScrubbedRecorder"), (Cond.castable "ScrubbedRecorder$Packet" "ScrubbedRecorder$Packet"), (Cond.castable "ScrubbedRecorder" "java/lang/Object"), (Cond.castable "ScrubbedRecorder$Memory" "java/lang/Object"), (Cond.castable "ScrubbedRecorderModel" "java/lang/Object"), (Cond.castable "ScrubbedRecorder$Store" "java/lang/Object"), (Cond.castable "ScrubbedRecorder$Packet" "java/lang/Object"), (Cond.castable "ScrubbedRecorder$Playback" "java/lang/Object")]
def zh_ao : List String := ["java/lang/Object", "ScrubbedRecorder$Store", "ScrubbedRecorder$Playback"]
set_option maxRecDepth 20000 in
theorem zin_Rec : ∀ w ∈ u_ws R_Rec T_Rec 6, w ∈ zw := by decide +kernel
set_option maxRecDepth 20000 in
theorem zin_Mem : ∀ w ∈ u_ws R_Mem T_Mem 8, w ∈ zw := by decide +kernel
set_option maxRecDepth 20000 in
theorem zin_St : ∀ w ∈ u_ws R_St T_St 10, w ∈ zw := by decide +kernel
set_option maxRecDepth 20000 in
theorem zin_Pk : ∀ w ∈ u_ws R_Pk T_Pk 8, w ∈ zw := by decide +kernel
set_option maxRecDepth 20000 in
theorem zin_Pb : ∀ w ∈ u_ws R_Pb T_Pb 6, w ∈ zw := by decide +kernel
set_option maxRecDepth 20000 in
theorem zin_AL : ∀ w ∈ u_ws R_AL T_AL 3, w ∈ zw := by decide +kernel
set_option maxRecDepth 20000 in
theorem zin_Mod : ∀ w ∈ u_ws R_Mod T_Mod 37, w ∈ zw := by decide +kernel
abbrev b_Rec_init : ByteArray := prog_1_method_1_code
def y_Rec_init : MethodName := ⟨R_Rec, "<init>", "()V"⟩
abbrev w_Rec_init : List Cond := .code y_Rec_init b_Rec_init 1 none :: zw
theorem k_Rec_init : y_Rec_init.cls = R_Rec ∧ y_Rec_init.cls ≠ "java/lang/invoke/MethodHandle" ∧ y_Rec_init.cls ≠ "java/lang/invoke/VarHandle" ∧ (parseMethodDescriptor y_Rec_init.desc).map (fun d => d.parameters.length) = some 0 := by decide +kernel
abbrev b_Mem_init : ByteArray := prog_2_method_1_code
def y_Mem_init : MethodName := ⟨R_Mem, "<init>", "()V"⟩
abbrev w_Mem_init : List Cond := .code y_Mem_init b_Mem_init 1 none :: zw
theorem k_Mem_init : y_Mem_init.cls = R_Mem ∧ y_Mem_init.cls ≠ "java/lang/invoke/MethodHandle" ∧ y_Mem_init.cls ≠ "java/lang/invoke/VarHandle" ∧ (parseMethodDescriptor y_Mem_init.desc).map (fun d => d.parameters.length) = some 0 := by decide +kernel
abbrev b_Rec_makeStore : ByteArray := prog_1_method_2_code
def y_Rec_makeStore : MethodName := ⟨R_Rec, "makeStore", "(IZI)I"⟩
abbrev w_Rec_makeStore : List Cond := .code y_Rec_makeStore b_Rec_makeStore 4 (some (.int)) :: zw
theorem k_Rec_makeStore : y_Rec_makeStore.cls = R_Rec ∧ y_Rec_makeStore.cls ≠ "java/lang/invoke/MethodHandle" ∧ y_Rec_makeStore.cls ≠ "java/lang/invoke/VarHandle" ∧ (parseMethodDescriptor y_Rec_makeStore.desc).map (fun d => d.parameters.length) = some 3 := by decide +kernel
abbrev b_Rec_unpromisedPages : ByteArray := prog_1_method_24_code
def y_Rec_unpromisedPages : MethodName := ⟨R_Rec, "unpromisedPages", "()I"⟩
abbrev w_Rec_unpromisedPages : List Cond := .code y_Rec_unpromisedPages b_Rec_unpromisedPages 3 (some (.int)) :: zw
theorem k_Rec_unpromisedPages : y_Rec_unpromisedPages.cls = R_Rec ∧ y_Rec_unpromisedPages.cls ≠ "java/lang/invoke/MethodHandle" ∧ y_Rec_unpromisedPages.cls ≠ "java/lang/invoke/VarHandle" ∧ (parseMethodDescriptor y_Rec_unpromisedPages.desc).map (fun d => d.parameters.length) = some 0 := by decide +kernel
abbrev b_St_init : ByteArray := prog_5_method_1_code
def y_St_init : MethodName := ⟨R_St, "<init>", "(IZILScrubbedRecorder$Memory;)V"⟩
abbrev w_St_init : List Cond := .code y_St_init b_St_init 5 none :: zw
theorem k_St_init : y_St_init.cls = R_St ∧ y_St_init.cls ≠ "java/lang/invoke/MethodHandle" ∧ y_St_init.cls ≠ "java/lang/invoke/VarHandle" ∧ (parseMethodDescriptor y_St_init.desc).map (fun d => d.parameters.length) = some 4 := by decide +kernel
abbrev b_AL_init : ByteArray := prog_16_method_2_code
def y_AL_init : MethodName := ⟨R_AL, "<init>", "()V"⟩
abbrev w_AL_init : List Cond := .code y_AL_init b_AL_init 1 none :: zw
theorem k_AL_init : y_AL_init.cls = R_AL ∧ y_AL_init.cls ≠ "java/lang/invoke/MethodHandle" ∧ y_AL_init.cls ≠ "java/lang/invoke/VarHandle" ∧ (parseMethodDescriptor y_AL_init.desc).map (fun d => d.parameters.length) = some 0 := by decide +kernel
abbrev b_ABL_init : ByteArray := prog_15_method_1_code
def y_ABL_init : MethodName := ⟨R_ABL, "<init>", "()V"⟩
abbrev w_ABL_init : List Cond := .code y_ABL_init b_ABL_init 1 none :: zw
theorem k_ABL_init : y_ABL_init.cls = R_ABL ∧ y_ABL_init.cls ≠ "java/lang/invoke/MethodHandle" ∧ y_ABL_init.cls ≠ "java/lang/invoke/VarHandle" ∧ (parseMethodDescriptor y_ABL_init.desc).map (fun d => d.parameters.length) = some 0 := by decide +kernel
abbrev b_ABC_init : ByteArray := prog_14_method_1_code
def y_ABC_init : MethodName := ⟨R_ABC, "<init>", "()V"⟩
abbrev w_ABC_init : List Cond := .code y_ABC_init b_ABC_init 1 none :: zw
theorem k_ABC_init : y_ABC_init.cls = R_ABC ∧ y_ABC_init.cls ≠ "java/lang/invoke/MethodHandle" ∧ y_ABC_init.cls ≠ "java/lang/invoke/VarHandle" ∧ (parseMethodDescriptor y_ABC_init.desc).map (fun d => d.parameters.length) = some 0 := by decide +kernel
abbrev b_Rec_saveAll : ByteArray := prog_1_method_26_code
def y_Rec_saveAll : MethodName := ⟨R_Rec, "saveAll", "()V"⟩
abbrev w_Rec_saveAll : List Cond := .code y_Rec_saveAll b_Rec_saveAll 2 none :: zw
theorem k_Rec_saveAll : y_Rec_saveAll.cls = R_Rec ∧ y_Rec_saveAll.cls ≠ "java/lang/invoke/MethodHandle" ∧ y_Rec_saveAll.cls ≠ "java/lang/invoke/VarHandle" ∧ (parseMethodDescriptor y_Rec_saveAll.desc).map (fun d => d.parameters.length) = some 0 := by decide +kernel
abbrev b_St_save : ByteArray := prog_5_method_12_code
def y_St_save : MethodName := ⟨R_St, "save", "()V"⟩
abbrev w_St_save : List Cond := .code y_St_save b_St_save 3 none :: zw
theorem k_St_save : y_St_save.cls = R_St ∧ y_St_save.cls ≠ "java/lang/invoke/MethodHandle" ∧ y_St_save.cls ≠ "java/lang/invoke/VarHandle" ∧ (parseMethodDescriptor y_St_save.desc).map (fun d => d.parameters.length) = some 0 := by decide +kernel
abbrev b_AL_size : ByteArray := prog_16_method_8_code
def y_AL_size : MethodName := ⟨R_AL, "size", "()I"⟩
abbrev w_AL_size : List Cond := .code y_AL_size b_AL_size 1 (some (.int)) :: zw
theorem k_AL_size : y_AL_size.cls = R_AL ∧ y_AL_size.cls ≠ "java/lang/invoke/MethodHandle" ∧ y_AL_size.cls ≠ "java/lang/invoke/VarHandle" ∧ (parseMethodDescriptor y_AL_size.desc).map (fun d => d.parameters.length) = some 0 := by decide +kernel
abbrev b_AL_get : ByteArray := prog_16_method_20_code
def y_AL_get : MethodName := ⟨R_AL, "get", "(I)Ljava/lang/Object;"⟩
abbrev w_AL_get : List Cond := .code y_AL_get b_AL_get 2 (some ((.object "java/lang/Object"))) :: zw
theorem k_AL_get : y_AL_get.cls = R_AL ∧ y_AL_get.cls ≠ "java/lang/invoke/MethodHandle" ∧ y_AL_get.cls ≠ "java/lang/invoke/VarHandle" ∧ (parseMethodDescriptor y_AL_get.desc).map (fun d => d.parameters.length) = some 1 := by decide +kernel
abbrev b_Objs_checkIndex : ByteArray := prog_20_method_17_code
def y_Objs_checkIndex : MethodName := ⟨R_Objs, "checkIndex", "(II)I"⟩
abbrev w_Objs_checkIndex : List Cond := .code y_Objs_checkIndex b_Objs_checkIndex 2 (some (.int)) :: zw
theorem k_Objs_checkIndex : y_Objs_checkIndex.cls = R_Objs ∧ y_Objs_checkIndex.cls ≠ "java/lang/invoke/MethodHandle" ∧ y_Objs_checkIndex.cls ≠ "java/lang/invoke/VarHandle" ∧ (parseMethodDescriptor y_Objs_checkIndex.desc).map (fun d => d.parameters.length) = some 2 := by decide +kernel
abbrev b_Pre_checkIndex : ByteArray := prog_24_method_11_code
def y_Pre_checkIndex : MethodName := ⟨R_Pre, "checkIndex", "(IILjava/util/function/BiFunction;)I"⟩
abbrev w_Pre_checkIndex : List Cond := .code y_Pre_checkIndex b_Pre_checkIndex 3 (some (.int)) :: zw
theorem k_Pre_checkIndex : y_Pre_checkIndex.cls = R_Pre ∧ y_Pre_checkIndex.cls ≠ "java/lang/invoke/MethodHandle" ∧ y_Pre_checkIndex.cls ≠ "java/lang/invoke/VarHandle" ∧ (parseMethodDescriptor y_Pre_checkIndex.desc).map (fun d => d.parameters.length) = some 3 := by decide +kernel
abbrev b_AL_elementData : ByteArray := prog_16_method_18_code
def y_AL_elementData : MethodName := ⟨R_AL, "elementData", "(I)Ljava/lang/Object;"⟩
abbrev w_AL_elementData : List Cond := .code y_AL_elementData b_AL_elementData 2 (some ((.object "java/lang/Object"))) :: zw
theorem k_AL_elementData : y_AL_elementData.cls = R_AL ∧ y_AL_elementData.cls ≠ "java/lang/invoke/MethodHandle" ∧ y_AL_elementData.cls ≠ "java/lang/invoke/VarHandle" ∧ (parseMethodDescriptor y_AL_elementData.desc).map (fun d => d.parameters.length) = some 1 := by decide +kernel
abbrev b_Rec_dropStore : ByteArray := prog_1_method_3_code
def y_Rec_dropStore : MethodName := ⟨R_Rec, "dropStore", "(I)Z"⟩
abbrev w_Rec_dropStore : List Cond := .code y_Rec_dropStore b_Rec_dropStore 3 (some (.boolean)) :: zw
theorem k_Rec_dropStore : y_Rec_dropStore.cls = R_Rec ∧ y_Rec_dropStore.cls ≠ "java/lang/invoke/MethodHandle" ∧ y_Rec_dropStore.cls ≠ "java/lang/invoke/VarHandle" ∧ (parseMethodDescriptor y_Rec_dropStore.desc).map (fun d => d.parameters.length) = some 1 := by decide +kernel
abbrev b_Rec_madeStore : ByteArray := prog_1_method_22_code
def y_Rec_madeStore : MethodName := ⟨R_Rec, "madeStore", "(I)LScrubbedRecorder$Store;"⟩
abbrev w_Rec_madeStore : List Cond := .code y_Rec_madeStore b_Rec_madeStore 2 (some ((.object "ScrubbedRecorder$Store"))) :: zw
theorem k_Rec_madeStore : y_Rec_madeStore.cls = R_Rec ∧ y_Rec_madeStore.cls ≠ "java/lang/invoke/MethodHandle" ∧ y_Rec_madeStore.cls ≠ "java/lang/invoke/VarHandle" ∧ (parseMethodDescriptor y_Rec_madeStore.desc).map (fun d => d.parameters.length) = some 1 := by decide +kernel
abbrev b_St_freeAllPages : ByteArray := prog_5_method_5_code
def y_St_freeAllPages : MethodName := ⟨R_St, "freeAllPages", "()V"⟩
abbrev w_St_freeAllPages : List Cond := .code y_St_freeAllPages b_St_freeAllPages 2 none :: zw
theorem k_St_freeAllPages : y_St_freeAllPages.cls = R_St ∧ y_St_freeAllPages.cls ≠ "java/lang/invoke/MethodHandle" ∧ y_St_freeAllPages.cls ≠ "java/lang/invoke/VarHandle" ∧ (parseMethodDescriptor y_St_freeAllPages.desc).map (fun d => d.parameters.length) = some 0 := by decide +kernel
abbrev b_St_freeFirstPage : ByteArray := prog_5_method_16_code
def y_St_freeFirstPage : MethodName := ⟨R_St, "freeFirstPage", "()V"⟩
abbrev w_St_freeFirstPage : List Cond := .code y_St_freeFirstPage b_St_freeFirstPage 3 none :: zw
theorem k_St_freeFirstPage : y_St_freeFirstPage.cls = R_St ∧ y_St_freeFirstPage.cls ≠ "java/lang/invoke/MethodHandle" ∧ y_St_freeFirstPage.cls ≠ "java/lang/invoke/VarHandle" ∧ (parseMethodDescriptor y_St_freeFirstPage.desc).map (fun d => d.parameters.length) = some 0 := by decide +kernel
abbrev b_Mem_freePage : ByteArray := prog_2_method_10_code
def y_Mem_freePage : MethodName := ⟨R_Mem, "freePage", "(I)V"⟩
abbrev w_Mem_freePage : List Cond := .code y_Mem_freePage b_Mem_freePage 2 none :: zw
theorem k_Mem_freePage : y_Mem_freePage.cls = R_Mem ∧ y_Mem_freePage.cls ≠ "java/lang/invoke/MethodHandle" ∧ y_Mem_freePage.cls ≠ "java/lang/invoke/VarHandle" ∧ (parseMethodDescriptor y_Mem_freePage.desc).map (fun d => d.parameters.length) = some 1 := by decide +kernel
abbrev b_Mem_writeWord : ByteArray := prog_2_method_8_code
def y_Mem_writeWord : MethodName := ⟨R_Mem, "writeWord", "(II)V"⟩
abbrev w_Mem_writeWord : List Cond := .code y_Mem_writeWord b_Mem_writeWord 8 none :: zw
theorem k_Mem_writeWord : y_Mem_writeWord.cls = R_Mem ∧ y_Mem_writeWord.cls ≠ "java/lang/invoke/MethodHandle" ∧ y_Mem_writeWord.cls ≠ "java/lang/invoke/VarHandle" ∧ (parseMethodDescriptor y_Mem_writeWord.desc).map (fun d => d.parameters.length) = some 2 := by decide +kernel
abbrev b_AL_remove : ByteArray := prog_16_method_29_code
def y_AL_remove : MethodName := ⟨R_AL, "remove", "(I)Ljava/lang/Object;"⟩
abbrev w_AL_remove : List Cond := .code y_AL_remove b_AL_remove 4 (some ((.object "java/lang/Object"))) :: zw
theorem k_AL_remove : y_AL_remove.cls = R_AL ∧ y_AL_remove.cls ≠ "java/lang/invoke/MethodHandle" ∧ y_AL_remove.cls ≠ "java/lang/invoke/VarHandle" ∧ (parseMethodDescriptor y_AL_remove.desc).map (fun d => d.parameters.length) = some 1 := by decide +kernel
abbrev b_AL_fastRemove : ByteArray := prog_16_method_39_code
def y_AL_fastRemove : MethodName := ⟨R_AL, "fastRemove", "([Ljava/lang/Object;I)V"⟩
abbrev w_AL_fastRemove : List Cond := .code y_AL_fastRemove b_AL_fastRemove 4 none :: zw
theorem k_AL_fastRemove : y_AL_fastRemove.cls = R_AL ∧ y_AL_fastRemove.cls ≠ "java/lang/invoke/MethodHandle" ∧ y_AL_fastRemove.cls ≠ "java/lang/invoke/VarHandle" ∧ (parseMethodDescriptor y_AL_fastRemove.desc).map (fun d => d.parameters.length) = some 2 := by decide +kernel
abbrev b_Rec_closePlaybacksOf : ByteArray := prog_1_method_25_code
def y_Rec_closePlaybacksOf : MethodName := ⟨R_Rec, "closePlaybacksOf", "(LScrubbedRecorder$Store;)V"⟩
abbrev w_Rec_closePlaybacksOf : List Cond := .code y_Rec_closePlaybacksOf b_Rec_closePlaybacksOf 4 none :: zw
theorem k_Rec_closePlaybacksOf : y_Rec_closePlaybacksOf.cls = R_Rec ∧ y_Rec_closePlaybacksOf.cls ≠ "java/lang/invoke/MethodHandle" ∧ y_Rec_closePlaybacksOf.cls ≠ "java/lang/invoke/VarHandle" ∧ (parseMethodDescriptor y_Rec_closePlaybacksOf.desc).map (fun d => d.parameters.length) = some 1 := by decide +kernel
abbrev b_Rec_put : ByteArray := prog_1_method_4_code
def y_Rec_put : MethodName := ⟨R_Rec, "put", "(IJ)Z"⟩
abbrev w_Rec_put : List Cond := .code y_Rec_put b_Rec_put 6 (some (.boolean)) :: zw
theorem k_Rec_put : y_Rec_put.cls = R_Rec ∧ y_Rec_put.cls ≠ "java/lang/invoke/MethodHandle" ∧ y_Rec_put.cls ≠ "java/lang/invoke/VarHandle" ∧ (parseMethodDescriptor y_Rec_put.desc).map (fun d => d.parameters.length) = some 2 := by decide +kernel
abbrev b_Mth_min : ByteArray := prog_12_method_69_code
def y_Mth_min : MethodName := ⟨R_Mth, "min", "(II)I"⟩
abbrev w_Mth_min : List Cond := .code y_Mth_min b_Mth_min 2 (some (.int)) :: zw
theorem k_Mth_min : y_Mth_min.cls = R_Mth ∧ y_Mth_min.cls ≠ "java/lang/invoke/MethodHandle" ∧ y_Mth_min.cls ≠ "java/lang/invoke/VarHandle" ∧ (parseMethodDescriptor y_Mth_min.desc).map (fun d => d.parameters.length) = some 2 := by decide +kernel
abbrev b_Rec_record : ByteArray := prog_1_method_5_code
def y_Rec_record : MethodName := ⟨R_Rec, "record", "(IIII)I"⟩
abbrev w_Rec_record : List Cond := .code y_Rec_record b_Rec_record 7 (some (.int)) :: zw
theorem k_Rec_record : y_Rec_record.cls = R_Rec ∧ y_Rec_record.cls ≠ "java/lang/invoke/MethodHandle" ∧ y_Rec_record.cls ≠ "java/lang/invoke/VarHandle" ∧ (parseMethodDescriptor y_Rec_record.desc).map (fun d => d.parameters.length) = some 4 := by decide +kernel
abbrev b_St_hasRoomFor : ByteArray := prog_5_method_2_code
def y_St_hasRoomFor : MethodName := ⟨R_St, "hasRoomFor", "(I)Z"⟩
abbrev w_St_hasRoomFor : List Cond := .code y_St_hasRoomFor b_St_hasRoomFor 4 (some (.boolean)) :: zw
theorem k_St_hasRoomFor : y_St_hasRoomFor.cls = R_St ∧ y_St_hasRoomFor.cls ≠ "java/lang/invoke/MethodHandle" ∧ y_St_hasRoomFor.cls ≠ "java/lang/invoke/VarHandle" ∧ (parseMethodDescriptor y_St_hasRoomFor.desc).map (fun d => d.parameters.length) = some 1 := by decide +kernel
abbrev b_Pk_wordsFor : ByteArray := prog_3_method_2_code
def y_Pk_wordsFor : MethodName := ⟨R_Pk, "wordsFor", "(I)I"⟩
abbrev w_Pk_wordsFor : List Cond := .code y_Pk_wordsFor b_Pk_wordsFor 1 (some (.int)) :: zw
theorem k_Pk_wordsFor : y_Pk_wordsFor.cls = R_Pk ∧ y_Pk_wordsFor.cls ≠ "java/lang/invoke/MethodHandle" ∧ y_Pk_wordsFor.cls ≠ "java/lang/invoke/VarHandle" ∧ (parseMethodDescriptor y_Pk_wordsFor.desc).map (fun d => d.parameters.length) = some 1 := by decide +kernel
abbrev b_Mth_max : ByteArray := prog_12_method_65_code
def y_Mth_max : MethodName := ⟨R_Mth, "max", "(II)I"⟩
abbrev w_Mth_max : List Cond := .code y_Mth_max b_Mth_max 2 (some (.int)) :: zw
theorem k_Mth_max : y_Mth_max.cls = R_Mth ∧ y_Mth_max.cls ≠ "java/lang/invoke/MethodHandle" ∧ y_Mth_max.cls ≠ "java/lang/invoke/VarHandle" ∧ (parseMethodDescriptor y_Mth_max.desc).map (fun d => d.parameters.length) = some 2 := by decide +kernel
abbrev b_St_append : ByteArray := prog_5_method_3_code
def y_St_append : MethodName := ⟨R_St, "append", "(II[BI)I"⟩
abbrev w_St_append : List Cond := .code y_St_append b_St_append 9 (some (.int)) :: zw
theorem k_St_append : y_St_append.cls = R_St ∧ y_St_append.cls ≠ "java/lang/invoke/MethodHandle" ∧ y_St_append.cls ≠ "java/lang/invoke/VarHandle" ∧ (parseMethodDescriptor y_St_append.desc).map (fun d => d.parameters.length) = some 4 := by decide +kernel
abbrev b_Pk_init : ByteArray := prog_3_method_1_code
def y_Pk_init : MethodName := ⟨R_Pk, "<init>", "(IIII[BI)V"⟩
abbrev w_Pk_init : List Cond := .code y_Pk_init b_Pk_init 8 none :: zw
theorem k_Pk_init : y_Pk_init.cls = R_Pk ∧ y_Pk_init.cls ≠ "java/lang/invoke/MethodHandle" ∧ y_Pk_init.cls ≠ "java/lang/invoke/VarHandle" ∧ (parseMethodDescriptor y_Pk_init.desc).map (fun d => d.parameters.length) = some 6 := by decide +kernel
abbrev b_Rec_byteOfFour : ByteArray := prog_1_method_29_code
def y_Rec_byteOfFour : MethodName := ⟨R_Rec, "byteOfFour", "(II)I"⟩
abbrev w_Rec_byteOfFour : List Cond := .code y_Rec_byteOfFour b_Rec_byteOfFour 2 (some (.int)) :: zw
theorem k_Rec_byteOfFour : y_Rec_byteOfFour.cls = R_Rec ∧ y_Rec_byteOfFour.cls ≠ "java/lang/invoke/MethodHandle" ∧ y_Rec_byteOfFour.cls ≠ "java/lang/invoke/VarHandle" ∧ (parseMethodDescriptor y_Rec_byteOfFour.desc).map (fun d => d.parameters.length) = some 2 := by decide +kernel
abbrev b_St_openPage : ByteArray := prog_5_method_14_code
def y_St_openPage : MethodName := ⟨R_St, "openPage", "()V"⟩
abbrev w_St_openPage : List Cond := .code y_St_openPage b_St_openPage 1 none :: zw
theorem k_St_openPage : y_St_openPage.cls = R_St ∧ y_St_openPage.cls ≠ "java/lang/invoke/MethodHandle" ∧ y_St_openPage.cls ≠ "java/lang/invoke/VarHandle" ∧ (parseMethodDescriptor y_St_openPage.desc).map (fun d => d.parameters.length) = some 0 := by decide +kernel
abbrev b_Mem_openLeastPage : ByteArray := prog_2_method_9_code
def y_Mem_openLeastPage : MethodName := ⟨R_Mem, "openLeastPage", "()I"⟩
abbrev w_Mem_openLeastPage : List Cond := .code y_Mem_openLeastPage b_Mem_openLeastPage 3 (some (.int)) :: zw
theorem k_Mem_openLeastPage : y_Mem_openLeastPage.cls = R_Mem ∧ y_Mem_openLeastPage.cls ≠ "java/lang/invoke/MethodHandle" ∧ y_Mem_openLeastPage.cls ≠ "java/lang/invoke/VarHandle" ∧ (parseMethodDescriptor y_Mem_openLeastPage.desc).map (fun d => d.parameters.length) = some 0 := by decide +kernel
abbrev b_AL_add : ByteArray := prog_16_method_25_code
def y_AL_add : MethodName := ⟨R_AL, "add", "(Ljava/lang/Object;)Z"⟩
abbrev w_AL_add : List Cond := .code y_AL_add b_AL_add 2 (some (.boolean)) :: zw
theorem k_AL_add : y_AL_add.cls = R_AL ∧ y_AL_add.cls ≠ "java/lang/invoke/MethodHandle" ∧ y_AL_add.cls ≠ "java/lang/invoke/VarHandle" ∧ (parseMethodDescriptor y_AL_add.desc).map (fun d => d.parameters.length) = some 1 := by decide +kernel
abbrev b_AL_add3 : ByteArray := prog_16_method_24_code
def y_AL_add3 : MethodName := ⟨R_AL, "add", "(Ljava/lang/Object;[Ljava/lang/Object;I)V"⟩
abbrev w_AL_add3 : List Cond := .code y_AL_add3 b_AL_add3 4 none :: zw
theorem k_AL_add3 : y_AL_add3.cls = R_AL ∧ y_AL_add3.cls ≠ "java/lang/invoke/MethodHandle" ∧ y_AL_add3.cls ≠ "java/lang/invoke/VarHandle" ∧ (parseMethodDescriptor y_AL_add3.desc).map (fun d => d.parameters.length) = some 3 := by decide +kernel
abbrev b_AL_grow : ByteArray := prog_16_method_7_code
def y_AL_grow : MethodName := ⟨R_AL, "grow", "()[Ljava/lang/Object;"⟩
abbrev w_AL_grow : List Cond := .code y_AL_grow b_AL_grow 1 (some ((.array (.object "java/lang/Object")))) :: zw
theorem k_AL_grow : y_AL_grow.cls = R_AL ∧ y_AL_grow.cls ≠ "java/lang/invoke/MethodHandle" ∧ y_AL_grow.cls ≠ "java/lang/invoke/VarHandle" ∧ (parseMethodDescriptor y_AL_grow.desc).map (fun d => d.parameters.length) = some 0 := by decide +kernel
abbrev b_AL_grow1 : ByteArray := prog_16_method_6_code
def y_AL_grow1 : MethodName := ⟨R_AL, "grow", "(I)[Ljava/lang/Object;"⟩
abbrev w_AL_grow1 : List Cond := .code y_AL_grow1 b_AL_grow1 4 (some ((.array (.object "java/lang/Object")))) :: zw
theorem k_AL_grow1 : y_AL_grow1.cls = R_AL ∧ y_AL_grow1.cls ≠ "java/lang/invoke/MethodHandle" ∧ y_AL_grow1.cls ≠ "java/lang/invoke/VarHandle" ∧ (parseMethodDescriptor y_AL_grow1.desc).map (fun d => d.parameters.length) = some 1 := by decide +kernel
abbrev b_ASup_newLength : ByteArray := prog_23_method_27_code
def y_ASup_newLength : MethodName := ⟨R_ASup, "newLength", "(III)I"⟩
abbrev w_ASup_newLength : List Cond := .code y_ASup_newLength b_ASup_newLength 4 (some (.int)) :: zw
theorem k_ASup_newLength : y_ASup_newLength.cls = R_ASup ∧ y_ASup_newLength.cls ≠ "java/lang/invoke/MethodHandle" ∧ y_ASup_newLength.cls ≠ "java/lang/invoke/VarHandle" ∧ (parseMethodDescriptor y_ASup_newLength.desc).map (fun d => d.parameters.length) = some 3 := by decide +kernel
abbrev b_ASup_hugeLength : ByteArray := prog_23_method_28_code
def y_ASup_hugeLength : MethodName := ⟨R_ASup, "hugeLength", "(II)I"⟩
abbrev w_ASup_hugeLength : List Cond := .code y_ASup_hugeLength b_ASup_hugeLength 3 (some (.int)) :: zw
theorem k_ASup_hugeLength : y_ASup_hugeLength.cls = R_ASup ∧ y_ASup_hugeLength.cls ≠ "java/lang/invoke/MethodHandle" ∧ y_ASup_hugeLength.cls ≠ "java/lang/invoke/VarHandle" ∧ (parseMethodDescriptor y_ASup_hugeLength.desc).map (fun d => d.parameters.length) = some 2 := by decide +kernel
abbrev b_Arr_copyOf : ByteArray := prog_17_method_119_code
def y_Arr_copyOf : MethodName := ⟨R_Arr, "copyOf", "([Ljava/lang/Object;I)[Ljava/lang/Object;"⟩
abbrev w_Arr_copyOf : List Cond := .code y_Arr_copyOf b_Arr_copyOf 2 (some ((.array (.object "java/lang/Object")))) :: zw
theorem k_Arr_copyOf : y_Arr_copyOf.cls = R_Arr ∧ y_Arr_copyOf.cls ≠ "java/lang/invoke/MethodHandle" ∧ y_Arr_copyOf.cls ≠ "java/lang/invoke/VarHandle" ∧ (parseMethodDescriptor y_Arr_copyOf.desc).map (fun d => d.parameters.length) = some 2 := by decide +kernel
abbrev b_Arr_copyOf3 : ByteArray := prog_17_method_120_code
def y_Arr_copyOf3 : MethodName := ⟨R_Arr, "copyOf", "([Ljava/lang/Object;ILjava/lang/Class;)[Ljava/lang/Object;"⟩
abbrev w_Arr_copyOf3 : List Cond := .code y_Arr_copyOf3 b_Arr_copyOf3 4 (some ((.array (.object "java/lang/Object")))) :: zw
theorem k_Arr_copyOf3 : y_Arr_copyOf3.cls = R_Arr ∧ y_Arr_copyOf3.cls ≠ "java/lang/invoke/MethodHandle" ∧ y_Arr_copyOf3.cls ≠ "java/lang/invoke/VarHandle" ∧ (parseMethodDescriptor y_Arr_copyOf3.desc).map (fun d => d.parameters.length) = some 3 := by decide +kernel
abbrev b_St_prune : ByteArray := prog_5_method_4_code
def y_St_prune : MethodName := ⟨R_St, "prune", "()V"⟩
abbrev w_St_prune : List Cond := .code y_St_prune b_St_prune 2 none :: zw
theorem k_St_prune : y_St_prune.cls = R_St ∧ y_St_prune.cls ≠ "java/lang/invoke/MethodHandle" ∧ y_St_prune.cls ≠ "java/lang/invoke/VarHandle" ∧ (parseMethodDescriptor y_St_prune.desc).map (fun d => d.parameters.length) = some 0 := by decide +kernel
abbrev b_St_isFirstPageDone : ByteArray := prog_5_method_15_code
def y_St_isFirstPageDone : MethodName := ⟨R_St, "isFirstPageDone", "()Z"⟩
abbrev w_St_isFirstPageDone : List Cond := .code y_St_isFirstPageDone b_St_isFirstPageDone 2 (some (.boolean)) :: zw
theorem k_St_isFirstPageDone : y_St_isFirstPageDone.cls = R_St ∧ y_St_isFirstPageDone.cls ≠ "java/lang/invoke/MethodHandle" ∧ y_St_isFirstPageDone.cls ≠ "java/lang/invoke/VarHandle" ∧ (parseMethodDescriptor y_St_isFirstPageDone.desc).map (fun d => d.parameters.length) = some 0 := by decide +kernel
abbrev b_Rec_play : ByteArray := prog_1_method_6_code
def y_Rec_play : MethodName := ⟨R_Rec, "play", "(IIII)I"⟩
abbrev w_Rec_play : List Cond := .code y_Rec_play b_Rec_play 7 (some (.int)) :: zw
theorem k_Rec_play : y_Rec_play.cls = R_Rec ∧ y_Rec_play.cls ≠ "java/lang/invoke/MethodHandle" ∧ y_Rec_play.cls ≠ "java/lang/invoke/VarHandle" ∧ (parseMethodDescriptor y_Rec_play.desc).map (fun d => d.parameters.length) = some 4 := by decide +kernel
abbrev b_Rec_nextTurn : ByteArray := prog_1_method_28_code
def y_Rec_nextTurn : MethodName := ⟨R_Rec, "nextTurn", "()J"⟩
abbrev w_Rec_nextTurn : List Cond := .code y_Rec_nextTurn b_Rec_nextTurn 1 (some (.long)) :: zw
theorem k_Rec_nextTurn : y_Rec_nextTurn.cls = R_Rec ∧ y_Rec_nextTurn.cls ≠ "java/lang/invoke/MethodHandle" ∧ y_Rec_nextTurn.cls ≠ "java/lang/invoke/VarHandle" ∧ (parseMethodDescriptor y_Rec_nextTurn.desc).map (fun d => d.parameters.length) = some 0 := by decide +kernel
abbrev b_Pb_init : ByteArray := prog_4_method_1_code
def y_Pb_init : MethodName := ⟨R_Pb, "<init>", "(LScrubbedRecorder$Store;IIIJ)V"⟩
abbrev w_Pb_init : List Cond := .code y_Pb_init b_Pb_init 7 none :: zw
theorem k_Pb_init : y_Pb_init.cls = R_Pb ∧ y_Pb_init.cls ≠ "java/lang/invoke/MethodHandle" ∧ y_Pb_init.cls ≠ "java/lang/invoke/VarHandle" ∧ (parseMethodDescriptor y_Pb_init.desc).map (fun d => d.parameters.length) = some 5 := by decide +kernel
abbrev b_Rec_stop : ByteArray := prog_1_method_7_code
def y_Rec_stop : MethodName := ⟨R_Rec, "stop", "(I)Z"⟩
abbrev w_Rec_stop : List Cond := .code y_Rec_stop b_Rec_stop 2 (some (.boolean)) :: zw
theorem k_Rec_stop : y_Rec_stop.cls = R_Rec ∧ y_Rec_stop.cls ≠ "java/lang/invoke/MethodHandle" ∧ y_Rec_stop.cls ≠ "java/lang/invoke/VarHandle" ∧ (parseMethodDescriptor y_Rec_stop.desc).map (fun d => d.parameters.length) = some 1 := by decide +kernel
abbrev b_Rec_frame : ByteArray := prog_1_method_8_code
def y_Rec_frame : MethodName := ⟨R_Rec, "frame", "()I"⟩
abbrev w_Rec_frame : List Cond := .code y_Rec_frame b_Rec_frame 6 (some (.int)) :: zw
theorem k_Rec_frame : y_Rec_frame.cls = R_Rec ∧ y_Rec_frame.cls ≠ "java/lang/invoke/MethodHandle" ∧ y_Rec_frame.cls ≠ "java/lang/invoke/VarHandle" ∧ (parseMethodDescriptor y_Rec_frame.desc).map (fun d => d.parameters.length) = some 0 := by decide +kernel
abbrev b_Pb_goesBefore : ByteArray := prog_4_method_2_code
def y_Pb_goesBefore : MethodName := ⟨R_Pb, "goesBefore", "(LScrubbedRecorder$Playback;)Z"⟩
abbrev w_Pb_goesBefore : List Cond := .code y_Pb_goesBefore b_Pb_goesBefore 2 (some (.boolean)) :: zw
theorem k_Pb_goesBefore : y_Pb_goesBefore.cls = R_Pb ∧ y_Pb_goesBefore.cls ≠ "java/lang/invoke/MethodHandle" ∧ y_Pb_goesBefore.cls ≠ "java/lang/invoke/VarHandle" ∧ (parseMethodDescriptor y_Pb_goesBefore.desc).map (fun d => d.parameters.length) = some 1 := by decide +kernel
abbrev b_Pb_nextPacket : ByteArray := prog_4_method_3_code
def y_Pb_nextPacket : MethodName := ⟨R_Pb, "nextPacket", "()LScrubbedRecorder$Packet;"⟩
abbrev w_Pb_nextPacket : List Cond := .code y_Pb_nextPacket b_Pb_nextPacket 6 (some ((.object "ScrubbedRecorder$Packet"))) :: zw
theorem k_Pb_nextPacket : y_Pb_nextPacket.cls = R_Pb ∧ y_Pb_nextPacket.cls ≠ "java/lang/invoke/MethodHandle" ∧ y_Pb_nextPacket.cls ≠ "java/lang/invoke/VarHandle" ∧ (parseMethodDescriptor y_Pb_nextPacket.desc).map (fun d => d.parameters.length) = some 0 := by decide +kernel
abbrev b_Pb_hasIn : ByteArray := prog_4_method_4_code
def y_Pb_hasIn : MethodName := ⟨R_Pb, "hasIn", "(LScrubbedRecorder$Packet;)Z"⟩
abbrev w_Pb_hasIn : List Cond := .code y_Pb_hasIn b_Pb_hasIn 2 (some (.boolean)) :: zw
theorem k_Pb_hasIn : y_Pb_hasIn.cls = R_Pb ∧ y_Pb_hasIn.cls ≠ "java/lang/invoke/MethodHandle" ∧ y_Pb_hasIn.cls ≠ "java/lang/invoke/VarHandle" ∧ (parseMethodDescriptor y_Pb_hasIn.desc).map (fun d => d.parameters.length) = some 1 := by decide +kernel
abbrev b_Pk_isAskedFor : ByteArray := prog_3_method_3_code
def y_Pk_isAskedFor : MethodName := ⟨R_Pk, "isAskedFor", "()Z"⟩
abbrev w_Pk_isAskedFor : List Cond := .code y_Pk_isAskedFor b_Pk_isAskedFor 1 (some (.boolean)) :: zw
theorem k_Pk_isAskedFor : y_Pk_isAskedFor.cls = R_Pk ∧ y_Pk_isAskedFor.cls ≠ "java/lang/invoke/MethodHandle" ∧ y_Pk_isAskedFor.cls ≠ "java/lang/invoke/VarHandle" ∧ (parseMethodDescriptor y_Pk_isAskedFor.desc).map (fun d => d.parameters.length) = some 0 := by decide +kernel
abbrev b_Pk_frameLength : ByteArray := prog_3_method_4_code
def y_Pk_frameLength : MethodName := ⟨R_Pk, "frameLength", "()I"⟩
abbrev w_Pk_frameLength : List Cond := .code y_Pk_frameLength b_Pk_frameLength 1 (some (.int)) :: zw
theorem k_Pk_frameLength : y_Pk_frameLength.cls = R_Pk ∧ y_Pk_frameLength.cls ≠ "java/lang/invoke/MethodHandle" ∧ y_Pk_frameLength.cls ≠ "java/lang/invoke/VarHandle" ∧ (parseMethodDescriptor y_Pk_frameLength.desc).map (fun d => d.parameters.length) = some 0 := by decide +kernel
abbrev b_Rec_frameByte : ByteArray := prog_1_method_9_code
def y_Rec_frameByte : MethodName := ⟨R_Rec, "frameByte", "(I)I"⟩
abbrev w_Rec_frameByte : List Cond := .code y_Rec_frameByte b_Rec_frameByte 2 (some (.int)) :: zw
theorem k_Rec_frameByte : y_Rec_frameByte.cls = R_Rec ∧ y_Rec_frameByte.cls ≠ "java/lang/invoke/MethodHandle" ∧ y_Rec_frameByte.cls ≠ "java/lang/invoke/VarHandle" ∧ (parseMethodDescriptor y_Rec_frameByte.desc).map (fun d => d.parameters.length) = some 1 := by decide +kernel
abbrev b_Pk_byteOfFrame : ByteArray := prog_3_method_6_code
def y_Pk_byteOfFrame : MethodName := ⟨R_Pk, "byteOfFrame", "(I)I"⟩
abbrev w_Pk_byteOfFrame : List Cond := .code y_Pk_byteOfFrame b_Pk_byteOfFrame 2 (some (.int)) :: zw
theorem k_Pk_byteOfFrame : y_Pk_byteOfFrame.cls = R_Pk ∧ y_Pk_byteOfFrame.cls ≠ "java/lang/invoke/MethodHandle" ∧ y_Pk_byteOfFrame.cls ≠ "java/lang/invoke/VarHandle" ∧ (parseMethodDescriptor y_Pk_byteOfFrame.desc).map (fun d => d.parameters.length) = some 1 := by decide +kernel
abbrev b_Pk_byteThatTells : ByteArray := prog_3_method_5_code
def y_Pk_byteThatTells : MethodName := ⟨R_Pk, "byteThatTells", "(I)I"⟩
abbrev w_Pk_byteThatTells : List Cond := .code y_Pk_byteThatTells b_Pk_byteThatTells 2 (some (.int)) :: zw
theorem k_Pk_byteThatTells : y_Pk_byteThatTells.cls = R_Pk ∧ y_Pk_byteThatTells.cls ≠ "java/lang/invoke/MethodHandle" ∧ y_Pk_byteThatTells.cls ≠ "java/lang/invoke/VarHandle" ∧ (parseMethodDescriptor y_Pk_byteThatTells.desc).map (fun d => d.parameters.length) = some 1 := by decide +kernel
abbrev b_Rec_confirm : ByteArray := prog_1_method_10_code
def y_Rec_confirm : MethodName := ⟨R_Rec, "confirm", "(III)I"⟩
abbrev w_Rec_confirm : List Cond := .code y_Rec_confirm b_Rec_confirm 6 (some (.int)) :: zw
theorem k_Rec_confirm : y_Rec_confirm.cls = R_Rec ∧ y_Rec_confirm.cls ≠ "java/lang/invoke/MethodHandle" ∧ y_Rec_confirm.cls ≠ "java/lang/invoke/VarHandle" ∧ (parseMethodDescriptor y_Rec_confirm.desc).map (fun d => d.parameters.length) = some 3 := by decide +kernel
abbrev b_St_confirmPackets : ByteArray := prog_5_method_6_code
def y_St_confirmPackets : MethodName := ⟨R_St, "confirmPackets", "(II)I"⟩
abbrev w_St_confirmPackets : List Cond := .code y_St_confirmPackets b_St_confirmPackets 6 (some (.int)) :: zw
theorem k_St_confirmPackets : y_St_confirmPackets.cls = R_St ∧ y_St_confirmPackets.cls ≠ "java/lang/invoke/MethodHandle" ∧ y_St_confirmPackets.cls ≠ "java/lang/invoke/VarHandle" ∧ (parseMethodDescriptor y_St_confirmPackets.desc).map (fun d => d.parameters.length) = some 2 := by decide +kernel
abbrev b_Rec_gap : ByteArray := prog_1_method_11_code
def y_Rec_gap : MethodName := ⟨R_Rec, "gap", "(II)Z"⟩
abbrev w_Rec_gap : List Cond := .code y_Rec_gap b_Rec_gap 4 (some (.boolean)) :: zw
theorem k_Rec_gap : y_Rec_gap.cls = R_Rec ∧ y_Rec_gap.cls ≠ "java/lang/invoke/MethodHandle" ∧ y_Rec_gap.cls ≠ "java/lang/invoke/VarHandle" ∧ (parseMethodDescriptor y_Rec_gap.desc).map (fun d => d.parameters.length) = some 2 := by decide +kernel
abbrev b_Rec_keptPacket : ByteArray := prog_1_method_23_code
def y_Rec_keptPacket : MethodName := ⟨R_Rec, "keptPacket", "(II)LScrubbedRecorder$Packet;"⟩
abbrev w_Rec_keptPacket : List Cond := .code y_Rec_keptPacket b_Rec_keptPacket 4 (some ((.object "ScrubbedRecorder$Packet"))) :: zw
theorem k_Rec_keptPacket : y_Rec_keptPacket.cls = R_Rec ∧ y_Rec_keptPacket.cls ≠ "java/lang/invoke/MethodHandle" ∧ y_Rec_keptPacket.cls ≠ "java/lang/invoke/VarHandle" ∧ (parseMethodDescriptor y_Rec_keptPacket.desc).map (fun d => d.parameters.length) = some 2 := by decide +kernel
abbrev b_St_keptAt : ByteArray := prog_5_method_7_code
def y_St_keptAt : MethodName := ⟨R_St, "keptAt", "(I)LScrubbedRecorder$Packet;"⟩
abbrev w_St_keptAt : List Cond := .code y_St_keptAt b_St_keptAt 3 (some ((.object "ScrubbedRecorder$Packet"))) :: zw
theorem k_St_keptAt : y_St_keptAt.cls = R_St ∧ y_St_keptAt.cls ≠ "java/lang/invoke/MethodHandle" ∧ y_St_keptAt.cls ≠ "java/lang/invoke/VarHandle" ∧ (parseMethodDescriptor y_St_keptAt.desc).map (fun d => d.parameters.length) = some 1 := by decide +kernel
abbrev b_Rec_count : ByteArray := prog_1_method_12_code
def y_Rec_count : MethodName := ⟨R_Rec, "count", "(II)I"⟩
abbrev w_Rec_count : List Cond := .code y_Rec_count b_Rec_count 4 (some (.int)) :: zw
theorem k_Rec_count : y_Rec_count.cls = R_Rec ∧ y_Rec_count.cls ≠ "java/lang/invoke/MethodHandle" ∧ y_Rec_count.cls ≠ "java/lang/invoke/VarHandle" ∧ (parseMethodDescriptor y_Rec_count.desc).map (fun d => d.parameters.length) = some 2 := by decide +kernel
abbrev b_St_countConfirmed : ByteArray := prog_5_method_9_code
def y_St_countConfirmed : MethodName := ⟨R_St, "countConfirmed", "()I"⟩
abbrev w_St_countConfirmed : List Cond := .code y_St_countConfirmed b_St_countConfirmed 3 (some (.int)) :: zw
theorem k_St_countConfirmed : y_St_countConfirmed.cls = R_St ∧ y_St_countConfirmed.cls ≠ "java/lang/invoke/MethodHandle" ∧ y_St_countConfirmed.cls ≠ "java/lang/invoke/VarHandle" ∧ (parseMethodDescriptor y_St_countConfirmed.desc).map (fun d => d.parameters.length) = some 0 := by decide +kernel
abbrev b_St_countAskedFor : ByteArray := prog_5_method_11_code
def y_St_countAskedFor : MethodName := ⟨R_St, "countAskedFor", "()I"⟩
abbrev w_St_countAskedFor : List Cond := .code y_St_countAskedFor b_St_countAskedFor 3 (some (.int)) :: zw
theorem k_St_countAskedFor : y_St_countAskedFor.cls = R_St ∧ y_St_countAskedFor.cls ≠ "java/lang/invoke/MethodHandle" ∧ y_St_countAskedFor.cls ≠ "java/lang/invoke/VarHandle" ∧ (parseMethodDescriptor y_St_countAskedFor.desc).map (fun d => d.parameters.length) = some 0 := by decide +kernel
abbrev b_Rec_packetByte : ByteArray := prog_1_method_13_code
def y_Rec_packetByte : MethodName := ⟨R_Rec, "packetByte", "(III)I"⟩
abbrev w_Rec_packetByte : List Cond := .code y_Rec_packetByte b_Rec_packetByte 5 (some (.int)) :: zw
theorem k_Rec_packetByte : y_Rec_packetByte.cls = R_Rec ∧ y_Rec_packetByte.cls ≠ "java/lang/invoke/MethodHandle" ∧ y_Rec_packetByte.cls ≠ "java/lang/invoke/VarHandle" ∧ (parseMethodDescriptor y_Rec_packetByte.desc).map (fun d => d.parameters.length) = some 3 := by decide +kernel
abbrev b_Rec_seek : ByteArray := prog_1_method_14_code
def y_Rec_seek : MethodName := ⟨R_Rec, "seek", "(II)I"⟩
abbrev w_Rec_seek : List Cond := .code y_Rec_seek b_Rec_seek 4 (some (.int)) :: zw
theorem k_Rec_seek : y_Rec_seek.cls = R_Rec ∧ y_Rec_seek.cls ≠ "java/lang/invoke/MethodHandle" ∧ y_Rec_seek.cls ≠ "java/lang/invoke/VarHandle" ∧ (parseMethodDescriptor y_Rec_seek.desc).map (fun d => d.parameters.length) = some 2 := by decide +kernel
abbrev b_St_leastPositionSince : ByteArray := prog_5_method_8_code
def y_St_leastPositionSince : MethodName := ⟨R_St, "leastPositionSince", "(I)I"⟩
abbrev w_St_leastPositionSince : List Cond := .code y_St_leastPositionSince b_St_leastPositionSince 4 (some (.int)) :: zw
theorem k_St_leastPositionSince : y_St_leastPositionSince.cls = R_St ∧ y_St_leastPositionSince.cls ≠ "java/lang/invoke/MethodHandle" ∧ y_St_leastPositionSince.cls ≠ "java/lang/invoke/VarHandle" ∧ (parseMethodDescriptor y_St_leastPositionSince.desc).map (fun d => d.parameters.length) = some 1 := by decide +kernel
abbrev b_Rec_tick : ByteArray := prog_1_method_15_code
def y_Rec_tick : MethodName := ⟨R_Rec, "tick", "(I)I"⟩
abbrev w_Rec_tick : List Cond := .code y_Rec_tick b_Rec_tick 2 (some (.int)) :: zw
theorem k_Rec_tick : y_Rec_tick.cls = R_Rec ∧ y_Rec_tick.cls ≠ "java/lang/invoke/MethodHandle" ∧ y_Rec_tick.cls ≠ "java/lang/invoke/VarHandle" ∧ (parseMethodDescriptor y_Rec_tick.desc).map (fun d => d.parameters.length) = some 1 := by decide +kernel
abbrev b_Mem_rebuildRow : ByteArray := prog_2_method_5_code
def y_Mem_rebuildRow : MethodName := ⟨R_Mem, "rebuildRow", "()V"⟩
abbrev w_Mem_rebuildRow : List Cond := .code y_Mem_rebuildRow b_Mem_rebuildRow 1 none :: zw
theorem k_Mem_rebuildRow : y_Mem_rebuildRow.cls = R_Mem ∧ y_Mem_rebuildRow.cls ≠ "java/lang/invoke/MethodHandle" ∧ y_Mem_rebuildRow.cls ≠ "java/lang/invoke/VarHandle" ∧ (parseMethodDescriptor y_Mem_rebuildRow.desc).map (fun d => d.parameters.length) = some 0 := by decide +kernel
abbrev b_Mem_scrub : ByteArray := prog_2_method_6_code
def y_Mem_scrub : MethodName := ⟨R_Mem, "scrub", "(I)I"⟩
abbrev w_Mem_scrub : List Cond := .code y_Mem_scrub b_Mem_scrub 4 (some (.int)) :: zw
theorem k_Mem_scrub : y_Mem_scrub.cls = R_Mem ∧ y_Mem_scrub.cls ≠ "java/lang/invoke/MethodHandle" ∧ y_Mem_scrub.cls ≠ "java/lang/invoke/VarHandle" ∧ (parseMethodDescriptor y_Mem_scrub.desc).map (fun d => d.parameters.length) = some 1 := by decide +kernel
abbrev b_Mem_scrubWord : ByteArray := prog_2_method_14_code
def y_Mem_scrubWord : MethodName := ⟨R_Mem, "scrubWord", "(I)V"⟩
abbrev w_Mem_scrubWord : List Cond := .code y_Mem_scrubWord b_Mem_scrubWord 3 none :: zw
theorem k_Mem_scrubWord : y_Mem_scrubWord.cls = R_Mem ∧ y_Mem_scrubWord.cls ≠ "java/lang/invoke/MethodHandle" ∧ y_Mem_scrubWord.cls ≠ "java/lang/invoke/VarHandle" ∧ (parseMethodDescriptor y_Mem_scrubWord.desc).map (fun d => d.parameters.length) = some 1 := by decide +kernel
abbrev b_Lng_bitCount : ByteArray := prog_11_method_50_code
def y_Lng_bitCount : MethodName := ⟨R_Lng, "bitCount", "(J)I"⟩
abbrev w_Lng_bitCount : List Cond := .code y_Lng_bitCount b_Lng_bitCount 2 (some (.int)) :: zw
theorem k_Lng_bitCount : y_Lng_bitCount.cls = R_Lng ∧ y_Lng_bitCount.cls ≠ "java/lang/invoke/MethodHandle" ∧ y_Lng_bitCount.cls ≠ "java/lang/invoke/VarHandle" ∧ (parseMethodDescriptor y_Lng_bitCount.desc).map (fun d => d.parameters.length) = some 1 := by decide +kernel
abbrev b_Rec_flip : ByteArray := prog_1_method_16_code
def y_Rec_flip : MethodName := ⟨R_Rec, "flip", "(III)Z"⟩
abbrev w_Rec_flip : List Cond := .code y_Rec_flip b_Rec_flip 4 (some (.boolean)) :: zw
theorem k_Rec_flip : y_Rec_flip.cls = R_Rec ∧ y_Rec_flip.cls ≠ "java/lang/invoke/MethodHandle" ∧ y_Rec_flip.cls ≠ "java/lang/invoke/VarHandle" ∧ (parseMethodDescriptor y_Rec_flip.desc).map (fun d => d.parameters.length) = some 3 := by decide +kernel
abbrev b_Mem_flipBit : ByteArray := prog_2_method_2_code
def y_Mem_flipBit : MethodName := ⟨R_Mem, "flipBit", "(III)Z"⟩
abbrev w_Mem_flipBit : List Cond := .code y_Mem_flipBit b_Mem_flipBit 8 (some (.boolean)) :: zw
theorem k_Mem_flipBit : y_Mem_flipBit.cls = R_Mem ∧ y_Mem_flipBit.cls ≠ "java/lang/invoke/MethodHandle" ∧ y_Mem_flipBit.cls ≠ "java/lang/invoke/VarHandle" ∧ (parseMethodDescriptor y_Mem_flipBit.desc).map (fun d => d.parameters.length) = some 3 := by decide +kernel
abbrev b_Mem_isModule : ByteArray := prog_2_method_19_code
def y_Mem_isModule : MethodName := ⟨R_Mem, "isModule", "(I)Z"⟩
abbrev w_Mem_isModule : List Cond := .code y_Mem_isModule b_Mem_isModule 1 (some (.boolean)) :: zw
theorem k_Mem_isModule : y_Mem_isModule.cls = R_Mem ∧ y_Mem_isModule.cls ≠ "java/lang/invoke/MethodHandle" ∧ y_Mem_isModule.cls ≠ "java/lang/invoke/VarHandle" ∧ (parseMethodDescriptor y_Mem_isModule.desc).map (fun d => d.parameters.length) = some 1 := by decide +kernel
abbrev b_Mem_isMissing : ByteArray := prog_2_method_15_code
def y_Mem_isMissing : MethodName := ⟨R_Mem, "isMissing", "(II)Z"⟩
abbrev w_Mem_isMissing : List Cond := .code y_Mem_isMissing b_Mem_isMissing 3 (some (.boolean)) :: zw
theorem k_Mem_isMissing : y_Mem_isMissing.cls = R_Mem ∧ y_Mem_isMissing.cls ≠ "java/lang/invoke/MethodHandle" ∧ y_Mem_isMissing.cls ≠ "java/lang/invoke/VarHandle" ∧ (parseMethodDescriptor y_Mem_isMissing.desc).map (fun d => d.parameters.length) = some 2 := by decide +kernel
abbrev b_Mem_othersCanMend : ByteArray := prog_2_method_16_code
def y_Mem_othersCanMend : MethodName := ⟨R_Mem, "othersCanMend", "(II)Z"⟩
abbrev w_Mem_othersCanMend : List Cond := .code y_Mem_othersCanMend b_Mem_othersCanMend 4 (some (.boolean)) :: zw
theorem k_Mem_othersCanMend : y_Mem_othersCanMend.cls = R_Mem ∧ y_Mem_othersCanMend.cls ≠ "java/lang/invoke/MethodHandle" ∧ y_Mem_othersCanMend.cls ≠ "java/lang/invoke/VarHandle" ∧ (parseMethodDescriptor y_Mem_othersCanMend.desc).map (fun d => d.parameters.length) = some 2 := by decide +kernel
abbrev b_Mem_hasTwoFlips : ByteArray := prog_2_method_18_code
def y_Mem_hasTwoFlips : MethodName := ⟨R_Mem, "hasTwoFlips", "(II)Z"⟩
abbrev w_Mem_hasTwoFlips : List Cond := .code y_Mem_hasTwoFlips b_Mem_hasTwoFlips 3 (some (.boolean)) :: zw
theorem k_Mem_hasTwoFlips : y_Mem_hasTwoFlips.cls = R_Mem ∧ y_Mem_hasTwoFlips.cls ≠ "java/lang/invoke/MethodHandle" ∧ y_Mem_hasTwoFlips.cls ≠ "java/lang/invoke/VarHandle" ∧ (parseMethodDescriptor y_Mem_hasTwoFlips.desc).map (fun d => d.parameters.length) = some 2 := by decide +kernel
abbrev b_Rec_latch : ByteArray := prog_1_method_17_code
def y_Rec_latch : MethodName := ⟨R_Rec, "latch", "(I)Z"⟩
abbrev w_Rec_latch : List Cond := .code y_Rec_latch b_Rec_latch 2 (some (.boolean)) :: zw
theorem k_Rec_latch : y_Rec_latch.cls = R_Rec ∧ y_Rec_latch.cls ≠ "java/lang/invoke/MethodHandle" ∧ y_Rec_latch.cls ≠ "java/lang/invoke/VarHandle" ∧ (parseMethodDescriptor y_Rec_latch.desc).map (fun d => d.parameters.length) = some 1 := by decide +kernel
abbrev b_Mem_switchOff : ByteArray := prog_2_method_3_code
def y_Mem_switchOff : MethodName := ⟨R_Mem, "switchOff", "(I)Z"⟩
abbrev w_Mem_switchOff : List Cond := .code y_Mem_switchOff b_Mem_switchOff 4 (some (.boolean)) :: zw
theorem k_Mem_switchOff : y_Mem_switchOff.cls = R_Mem ∧ y_Mem_switchOff.cls ≠ "java/lang/invoke/MethodHandle" ∧ y_Mem_switchOff.cls ≠ "java/lang/invoke/VarHandle" ∧ (parseMethodDescriptor y_Mem_switchOff.desc).map (fun d => d.parameters.length) = some 1 := by decide +kernel
abbrev b_Mem_othersHaveTwoFlips : ByteArray := prog_2_method_17_code
def y_Mem_othersHaveTwoFlips : MethodName := ⟨R_Mem, "othersHaveTwoFlips", "(I)Z"⟩
abbrev w_Mem_othersHaveTwoFlips : List Cond := .code y_Mem_othersHaveTwoFlips b_Mem_othersHaveTwoFlips 4 (some (.boolean)) :: zw
theorem k_Mem_othersHaveTwoFlips : y_Mem_othersHaveTwoFlips.cls = R_Mem ∧ y_Mem_othersHaveTwoFlips.cls ≠ "java/lang/invoke/MethodHandle" ∧ y_Mem_othersHaveTwoFlips.cls ≠ "java/lang/invoke/VarHandle" ∧ (parseMethodDescriptor y_Mem_othersHaveTwoFlips.desc).map (fun d => d.parameters.length) = some 1 := by decide +kernel
abbrev b_Rec_power : ByteArray := prog_1_method_18_code
def y_Rec_power : MethodName := ⟨R_Rec, "power", "(I)Z"⟩
abbrev w_Rec_power : List Cond := .code y_Rec_power b_Rec_power 2 (some (.boolean)) :: zw
theorem k_Rec_power : y_Rec_power.cls = R_Rec ∧ y_Rec_power.cls ≠ "java/lang/invoke/MethodHandle" ∧ y_Rec_power.cls ≠ "java/lang/invoke/VarHandle" ∧ (parseMethodDescriptor y_Rec_power.desc).map (fun d => d.parameters.length) = some 1 := by decide +kernel
abbrev b_Mem_switchOn : ByteArray := prog_2_method_4_code
def y_Mem_switchOn : MethodName := ⟨R_Mem, "switchOn", "(I)Z"⟩
abbrev w_Mem_switchOn : List Cond := .code y_Mem_switchOn b_Mem_switchOn 2 (some (.boolean)) :: zw
theorem k_Mem_switchOn : y_Mem_switchOn.cls = R_Mem ∧ y_Mem_switchOn.cls ≠ "java/lang/invoke/MethodHandle" ∧ y_Mem_switchOn.cls ≠ "java/lang/invoke/VarHandle" ∧ (parseMethodDescriptor y_Mem_switchOn.desc).map (fun d => d.parameters.length) = some 1 := by decide +kernel
abbrev b_Rec_checkpoint : ByteArray := prog_1_method_19_code
def y_Rec_checkpoint : MethodName := ⟨R_Rec, "checkpoint", "(I)I"⟩
abbrev w_Rec_checkpoint : List Cond := .code y_Rec_checkpoint b_Rec_checkpoint 3 (some (.int)) :: zw
theorem k_Rec_checkpoint : y_Rec_checkpoint.cls = R_Rec ∧ y_Rec_checkpoint.cls ≠ "java/lang/invoke/MethodHandle" ∧ y_Rec_checkpoint.cls ≠ "java/lang/invoke/VarHandle" ∧ (parseMethodDescriptor y_Rec_checkpoint.desc).map (fun d => d.parameters.length) = some 1 := by decide +kernel
abbrev b_Rec_countRuns : ByteArray := prog_1_method_27_code
def y_Rec_countRuns : MethodName := ⟨R_Rec, "countRuns", "()I"⟩
abbrev w_Rec_countRuns : List Cond := .code y_Rec_countRuns b_Rec_countRuns 3 (some (.int)) :: zw
theorem k_Rec_countRuns : y_Rec_countRuns.cls = R_Rec ∧ y_Rec_countRuns.cls ≠ "java/lang/invoke/MethodHandle" ∧ y_Rec_countRuns.cls ≠ "java/lang/invoke/VarHandle" ∧ (parseMethodDescriptor y_Rec_countRuns.desc).map (fun d => d.parameters.length) = some 0 := by decide +kernel
abbrev b_St_countConfirmedRuns : ByteArray := prog_5_method_10_code
def y_St_countConfirmedRuns : MethodName := ⟨R_St, "countConfirmedRuns", "()I"⟩
abbrev w_St_countConfirmedRuns : List Cond := .code y_St_countConfirmedRuns b_St_countConfirmedRuns 5 (some (.int)) :: zw
theorem k_St_countConfirmedRuns : y_St_countConfirmedRuns.cls = R_St ∧ y_St_countConfirmedRuns.cls ≠ "java/lang/invoke/MethodHandle" ∧ y_St_countConfirmedRuns.cls ≠ "java/lang/invoke/VarHandle" ∧ (parseMethodDescriptor y_St_countConfirmedRuns.desc).map (fun d => d.parameters.length) = some 0 := by decide +kernel
abbrev b_Rec_reset : ByteArray := prog_1_method_20_code
def y_Rec_reset : MethodName := ⟨R_Rec, "reset", "()V"⟩
abbrev w_Rec_reset : List Cond := .code y_Rec_reset b_Rec_reset 2 none :: zw
theorem k_Rec_reset : y_Rec_reset.cls = R_Rec ∧ y_Rec_reset.cls ≠ "java/lang/invoke/MethodHandle" ∧ y_Rec_reset.cls ≠ "java/lang/invoke/VarHandle" ∧ (parseMethodDescriptor y_Rec_reset.desc).map (fun d => d.parameters.length) = some 0 := by decide +kernel
abbrev b_St_restore : ByteArray := prog_5_method_13_code
def y_St_restore : MethodName := ⟨R_St, "restore", "()V"⟩
abbrev w_St_restore : List Cond := .code y_St_restore b_St_restore 3 none :: zw
theorem k_St_restore : y_St_restore.cls = R_St ∧ y_St_restore.cls ≠ "java/lang/invoke/MethodHandle" ∧ y_St_restore.cls ≠ "java/lang/invoke/VarHandle" ∧ (parseMethodDescriptor y_St_restore.desc).map (fun d => d.parameters.length) = some 0 := by decide +kernel
abbrev b_Mem_scrubFromStart : ByteArray := prog_2_method_7_code
def y_Mem_scrubFromStart : MethodName := ⟨R_Mem, "scrubFromStart", "()V"⟩
abbrev w_Mem_scrubFromStart : List Cond := .code y_Mem_scrubFromStart b_Mem_scrubFromStart 1 none :: zw
theorem k_Mem_scrubFromStart : y_Mem_scrubFromStart.cls = R_Mem ∧ y_Mem_scrubFromStart.cls ≠ "java/lang/invoke/MethodHandle" ∧ y_Mem_scrubFromStart.cls ≠ "java/lang/invoke/VarHandle" ∧ (parseMethodDescriptor y_Mem_scrubFromStart.desc).map (fun d => d.parameters.length) = some 0 := by decide +kernel
abbrev b_Rec_told : ByteArray := prog_1_method_21_code
def y_Rec_told : MethodName := ⟨R_Rec, "told", "(I)I"⟩
abbrev w_Rec_told : List Cond := .code y_Rec_told b_Rec_told 2 (some (.int)) :: zw
theorem k_Rec_told : y_Rec_told.cls = R_Rec ∧ y_Rec_told.cls ≠ "java/lang/invoke/MethodHandle" ∧ y_Rec_told.cls ≠ "java/lang/invoke/VarHandle" ∧ (parseMethodDescriptor y_Rec_told.desc).map (fun d => d.parameters.length) = some 1 := by decide +kernel
abbrev b_Mem_countFreePages : ByteArray := prog_2_method_11_code
def y_Mem_countFreePages : MethodName := ⟨R_Mem, "countFreePages", "()I"⟩
abbrev w_Mem_countFreePages : List Cond := .code y_Mem_countFreePages b_Mem_countFreePages 3 (some (.int)) :: zw
theorem k_Mem_countFreePages : y_Mem_countFreePages.cls = R_Mem ∧ y_Mem_countFreePages.cls ≠ "java/lang/invoke/MethodHandle" ∧ y_Mem_countFreePages.cls ≠ "java/lang/invoke/VarHandle" ∧ (parseMethodDescriptor y_Mem_countFreePages.desc).map (fun d => d.parameters.length) = some 0 := by decide +kernel
abbrev b_Mem_countLostRows : ByteArray := prog_2_method_12_code
def y_Mem_countLostRows : MethodName := ⟨R_Mem, "countLostRows", "()I"⟩
abbrev w_Mem_countLostRows : List Cond := .code y_Mem_countLostRows b_Mem_countLostRows 1 (some (.int)) :: zw
theorem k_Mem_countLostRows : y_Mem_countLostRows.cls = R_Mem ∧ y_Mem_countLostRows.cls ≠ "java/lang/invoke/MethodHandle" ∧ y_Mem_countLostRows.cls ≠ "java/lang/invoke/VarHandle" ∧ (parseMethodDescriptor y_Mem_countLostRows.desc).map (fun d => d.parameters.length) = some 0 := by decide +kernel
abbrev b_Mem_countFlippedWords : ByteArray := prog_2_method_13_code
def y_Mem_countFlippedWords : MethodName := ⟨R_Mem, "countFlippedWords", "()I"⟩
abbrev w_Mem_countFlippedWords : List Cond := .code y_Mem_countFlippedWords b_Mem_countFlippedWords 3 (some (.int)) :: zw
theorem k_Mem_countFlippedWords : y_Mem_countFlippedWords.cls = R_Mem ∧ y_Mem_countFlippedWords.cls ≠ "java/lang/invoke/MethodHandle" ∧ y_Mem_countFlippedWords.cls ≠ "java/lang/invoke/VarHandle" ∧ (parseMethodDescriptor y_Mem_countFlippedWords.desc).map (fun d => d.parameters.length) = some 0 := by decide +kernel
abbrev b_Mod_init : ByteArray := prog_7_method_1_code
def y_Mod_init : MethodName := ⟨R_Mod, "<init>", "()V"⟩
abbrev w_Mod_init : List Cond := .code y_Mod_init b_Mod_init 2 none :: zw
theorem k_Mod_init : y_Mod_init.cls = R_Mod ∧ y_Mod_init.cls ≠ "java/lang/invoke/MethodHandle" ∧ y_Mod_init.cls ≠ "java/lang/invoke/VarHandle" ∧ (parseMethodDescriptor y_Mod_init.desc).map (fun d => d.parameters.length) = some 0 := by decide +kernel
abbrev b_Mod_flip : ByteArray := prog_7_method_6_code
def y_Mod_flip : MethodName := ⟨R_Mod, "flip", "(III)Z"⟩
abbrev w_Mod_flip : List Cond := .code y_Mod_flip b_Mod_flip 9 (some (.boolean)) :: zw
theorem k_Mod_flip : y_Mod_flip.cls = R_Mod ∧ y_Mod_flip.cls ≠ "java/lang/invoke/MethodHandle" ∧ y_Mod_flip.cls ≠ "java/lang/invoke/VarHandle" ∧ (parseMethodDescriptor y_Mod_flip.desc).map (fun d => d.parameters.length) = some 3 := by decide +kernel
abbrev b_Mod_isMissing : ByteArray := prog_7_method_4_code
def y_Mod_isMissing : MethodName := ⟨R_Mod, "isMissing", "(II)Z"⟩
abbrev w_Mod_isMissing : List Cond := .code y_Mod_isMissing b_Mod_isMissing 3 (some (.boolean)) :: zw
theorem k_Mod_isMissing : y_Mod_isMissing.cls = R_Mod ∧ y_Mod_isMissing.cls ≠ "java/lang/invoke/MethodHandle" ∧ y_Mod_isMissing.cls ≠ "java/lang/invoke/VarHandle" ∧ (parseMethodDescriptor y_Mod_isMissing.desc).map (fun d => d.parameters.length) = some 2 := by decide +kernel
abbrev b_Mod_bitsIn : ByteArray := prog_7_method_5_code
def y_Mod_bitsIn : MethodName := ⟨R_Mod, "bitsIn", "(J)I"⟩
abbrev w_Mod_bitsIn : List Cond := .code y_Mod_bitsIn b_Mod_bitsIn 4 (some (.int)) :: zw
theorem k_Mod_bitsIn : y_Mod_bitsIn.cls = R_Mod ∧ y_Mod_bitsIn.cls ≠ "java/lang/invoke/MethodHandle" ∧ y_Mod_bitsIn.cls ≠ "java/lang/invoke/VarHandle" ∧ (parseMethodDescriptor y_Mod_bitsIn.desc).map (fun d => d.parameters.length) = some 1 := by decide +kernel
abbrev b_Mod_latch : ByteArray := prog_7_method_7_code
def y_Mod_latch : MethodName := ⟨R_Mod, "latch", "(I)Z"⟩
abbrev w_Mod_latch : List Cond := .code y_Mod_latch b_Mod_latch 4 (some (.boolean)) :: zw
theorem k_Mod_latch : y_Mod_latch.cls = R_Mod ∧ y_Mod_latch.cls ≠ "java/lang/invoke/MethodHandle" ∧ y_Mod_latch.cls ≠ "java/lang/invoke/VarHandle" ∧ (parseMethodDescriptor y_Mod_latch.desc).map (fun d => d.parameters.length) = some 1 := by decide +kernel
abbrev b_Mod_power : ByteArray := prog_7_method_8_code
def y_Mod_power : MethodName := ⟨R_Mod, "power", "(I)Z"⟩
abbrev w_Mod_power : List Cond := .code y_Mod_power b_Mod_power 2 (some (.boolean)) :: zw
theorem k_Mod_power : y_Mod_power.cls = R_Mod ∧ y_Mod_power.cls ≠ "java/lang/invoke/MethodHandle" ∧ y_Mod_power.cls ≠ "java/lang/invoke/VarHandle" ∧ (parseMethodDescriptor y_Mod_power.desc).map (fun d => d.parameters.length) = some 1 := by decide +kernel
abbrev b_Mod_tick : ByteArray := prog_7_method_10_code
def y_Mod_tick : MethodName := ⟨R_Mod, "tick", "(I)I"⟩
abbrev w_Mod_tick : List Cond := .code y_Mod_tick b_Mod_tick 4 (some (.int)) :: zw
theorem k_Mod_tick : y_Mod_tick.cls = R_Mod ∧ y_Mod_tick.cls ≠ "java/lang/invoke/MethodHandle" ∧ y_Mod_tick.cls ≠ "java/lang/invoke/VarHandle" ∧ (parseMethodDescriptor y_Mod_tick.desc).map (fun d => d.parameters.length) = some 1 := by decide +kernel
abbrev b_Mod_scrub : ByteArray := prog_7_method_9_code
def y_Mod_scrub : MethodName := ⟨R_Mod, "scrub", "()I"⟩
abbrev w_Mod_scrub : List Cond := .code y_Mod_scrub b_Mod_scrub 2 (some (.int)) :: zw
theorem k_Mod_scrub : y_Mod_scrub.cls = R_Mod ∧ y_Mod_scrub.cls ≠ "java/lang/invoke/MethodHandle" ∧ y_Mod_scrub.cls ≠ "java/lang/invoke/VarHandle" ∧ (parseMethodDescriptor y_Mod_scrub.desc).map (fun d => d.parameters.length) = some 0 := by decide +kernel
abbrev b_Mod_makeStore : ByteArray := prog_7_method_14_code
def y_Mod_makeStore : MethodName := ⟨R_Mod, "makeStore", "(IZI)I"⟩
abbrev w_Mod_makeStore : List Cond := .code y_Mod_makeStore b_Mod_makeStore 4 (some (.int)) :: zw
theorem k_Mod_makeStore : y_Mod_makeStore.cls = R_Mod ∧ y_Mod_makeStore.cls ≠ "java/lang/invoke/MethodHandle" ∧ y_Mod_makeStore.cls ≠ "java/lang/invoke/VarHandle" ∧ (parseMethodDescriptor y_Mod_makeStore.desc).map (fun d => d.parameters.length) = some 3 := by decide +kernel
abbrev b_Mod_unpromised : ByteArray := prog_7_method_12_code
def y_Mod_unpromised : MethodName := ⟨R_Mod, "unpromised", "()I"⟩
abbrev w_Mod_unpromised : List Cond := .code y_Mod_unpromised b_Mod_unpromised 3 (some (.int)) :: zw
theorem k_Mod_unpromised : y_Mod_unpromised.cls = R_Mod ∧ y_Mod_unpromised.cls ≠ "java/lang/invoke/MethodHandle" ∧ y_Mod_unpromised.cls ≠ "java/lang/invoke/VarHandle" ∧ (parseMethodDescriptor y_Mod_unpromised.desc).map (fun d => d.parameters.length) = some 0 := by decide +kernel
abbrev b_Mod_save : ByteArray := prog_7_method_13_code
def y_Mod_save : MethodName := ⟨R_Mod, "save", "()V"⟩
abbrev w_Mod_save : List Cond := .code y_Mod_save b_Mod_save 2 none :: zw
theorem k_Mod_save : y_Mod_save.cls = R_Mod ∧ y_Mod_save.cls ≠ "java/lang/invoke/MethodHandle" ∧ y_Mod_save.cls ≠ "java/lang/invoke/VarHandle" ∧ (parseMethodDescriptor y_Mod_save.desc).map (fun d => d.parameters.length) = some 0 := by decide +kernel
abbrev b_Mod_dropStore : ByteArray := prog_7_method_16_code
def y_Mod_dropStore : MethodName := ⟨R_Mod, "dropStore", "(I)Z"⟩
abbrev w_Mod_dropStore : List Cond := .code y_Mod_dropStore b_Mod_dropStore 3 (some (.boolean)) :: zw
theorem k_Mod_dropStore : y_Mod_dropStore.cls = R_Mod ∧ y_Mod_dropStore.cls ≠ "java/lang/invoke/MethodHandle" ∧ y_Mod_dropStore.cls ≠ "java/lang/invoke/VarHandle" ∧ (parseMethodDescriptor y_Mod_dropStore.desc).map (fun d => d.parameters.length) = some 1 := by decide +kernel
abbrev b_Mod_isMade : ByteArray := prog_7_method_11_code
def y_Mod_isMade : MethodName := ⟨R_Mod, "isMade", "(I)Z"⟩
abbrev w_Mod_isMade : List Cond := .code y_Mod_isMade b_Mod_isMade 2 (some (.boolean)) :: zw
theorem k_Mod_isMade : y_Mod_isMade.cls = R_Mod ∧ y_Mod_isMade.cls ≠ "java/lang/invoke/MethodHandle" ∧ y_Mod_isMade.cls ≠ "java/lang/invoke/VarHandle" ∧ (parseMethodDescriptor y_Mod_isMade.desc).map (fun d => d.parameters.length) = some 1 := by decide +kernel
abbrev b_Mod_free : ByteArray := prog_7_method_15_code
def y_Mod_free : MethodName := ⟨R_Mod, "free", "(I)V"⟩
abbrev w_Mod_free : List Cond := .code y_Mod_free b_Mod_free 4 none :: zw
theorem k_Mod_free : y_Mod_free.cls = R_Mod ∧ y_Mod_free.cls ≠ "java/lang/invoke/MethodHandle" ∧ y_Mod_free.cls ≠ "java/lang/invoke/VarHandle" ∧ (parseMethodDescriptor y_Mod_free.desc).map (fun d => d.parameters.length) = some 1 := by decide +kernel
abbrev b_Mod_write : ByteArray := prog_7_method_3_code
def y_Mod_write : MethodName := ⟨R_Mod, "write", "(II)V"⟩
abbrev w_Mod_write : List Cond := .code y_Mod_write b_Mod_write 4 none :: zw
theorem k_Mod_write : y_Mod_write.cls = R_Mod ∧ y_Mod_write.cls ≠ "java/lang/invoke/MethodHandle" ∧ y_Mod_write.cls ≠ "java/lang/invoke/VarHandle" ∧ (parseMethodDescriptor y_Mod_write.desc).map (fun d => d.parameters.length) = some 2 := by decide +kernel
abbrev b_Mod_moduleOf : ByteArray := prog_7_method_2_code
def y_Mod_moduleOf : MethodName := ⟨R_Mod, "moduleOf", "(I)I"⟩
abbrev w_Mod_moduleOf : List Cond := .code y_Mod_moduleOf b_Mod_moduleOf 2 (some (.int)) :: zw
theorem k_Mod_moduleOf : y_Mod_moduleOf.cls = R_Mod ∧ y_Mod_moduleOf.cls ≠ "java/lang/invoke/MethodHandle" ∧ y_Mod_moduleOf.cls ≠ "java/lang/invoke/VarHandle" ∧ (parseMethodDescriptor y_Mod_moduleOf.desc).map (fun d => d.parameters.length) = some 1 := by decide +kernel
abbrev b_Mod_put : ByteArray := prog_7_method_18_code
def y_Mod_put : MethodName := ⟨R_Mod, "put", "(IJ)Z"⟩
abbrev w_Mod_put : List Cond := .code y_Mod_put b_Mod_put 5 (some (.boolean)) :: zw
theorem k_Mod_put : y_Mod_put.cls = R_Mod ∧ y_Mod_put.cls ≠ "java/lang/invoke/MethodHandle" ∧ y_Mod_put.cls ≠ "java/lang/invoke/VarHandle" ∧ (parseMethodDescriptor y_Mod_put.desc).map (fun d => d.parameters.length) = some 2 := by decide +kernel
abbrev b_Mod_record : ByteArray := prog_7_method_20_code
def y_Mod_record : MethodName := ⟨R_Mod, "record", "(IIII)I"⟩
abbrev w_Mod_record : List Cond := .code y_Mod_record b_Mod_record 10 (some (.int)) :: zw
theorem k_Mod_record : y_Mod_record.cls = R_Mod ∧ y_Mod_record.cls ≠ "java/lang/invoke/MethodHandle" ∧ y_Mod_record.cls ≠ "java/lang/invoke/VarHandle" ∧ (parseMethodDescriptor y_Mod_record.desc).map (fun d => d.parameters.length) = some 4 := by decide +kernel
abbrev b_Mod_open : ByteArray := prog_7_method_19_code
def y_Mod_open : MethodName := ⟨R_Mod, "open", "(I)V"⟩
abbrev w_Mod_open : List Cond := .code y_Mod_open b_Mod_open 4 none :: zw
theorem k_Mod_open : y_Mod_open.cls = R_Mod ∧ y_Mod_open.cls ≠ "java/lang/invoke/MethodHandle" ∧ y_Mod_open.cls ≠ "java/lang/invoke/VarHandle" ∧ (parseMethodDescriptor y_Mod_open.desc).map (fun d => d.parameters.length) = some 1 := by decide +kernel
abbrev b_Mod_prune : ByteArray := prog_7_method_17_code
def y_Mod_prune : MethodName := ⟨R_Mod, "prune", "(I)V"⟩
abbrev w_Mod_prune : List Cond := .code y_Mod_prune b_Mod_prune 4 none :: zw
theorem k_Mod_prune : y_Mod_prune.cls = R_Mod ∧ y_Mod_prune.cls ≠ "java/lang/invoke/MethodHandle" ∧ y_Mod_prune.cls ≠ "java/lang/invoke/VarHandle" ∧ (parseMethodDescriptor y_Mod_prune.desc).map (fun d => d.parameters.length) = some 1 := by decide +kernel
abbrev b_Mod_packetByte : ByteArray := prog_7_method_23_code
def y_Mod_packetByte : MethodName := ⟨R_Mod, "packetByte", "(III)I"⟩
abbrev w_Mod_packetByte : List Cond := .code y_Mod_packetByte b_Mod_packetByte 5 (some (.int)) :: zw
theorem k_Mod_packetByte : y_Mod_packetByte.cls = R_Mod ∧ y_Mod_packetByte.cls ≠ "java/lang/invoke/MethodHandle" ∧ y_Mod_packetByte.cls ≠ "java/lang/invoke/VarHandle" ∧ (parseMethodDescriptor y_Mod_packetByte.desc).map (fun d => d.parameters.length) = some 3 := by decide +kernel
abbrev b_Mod_find : ByteArray := prog_7_method_21_code
def y_Mod_find : MethodName := ⟨R_Mod, "find", "(II)I"⟩
abbrev w_Mod_find : List Cond := .code y_Mod_find b_Mod_find 5 (some (.int)) :: zw
theorem k_Mod_find : y_Mod_find.cls = R_Mod ∧ y_Mod_find.cls ≠ "java/lang/invoke/MethodHandle" ∧ y_Mod_find.cls ≠ "java/lang/invoke/VarHandle" ∧ (parseMethodDescriptor y_Mod_find.desc).map (fun d => d.parameters.length) = some 2 := by decide +kernel
abbrev b_Mod_tells : ByteArray := prog_7_method_22_code
def y_Mod_tells : MethodName := ⟨R_Mod, "tells", "(II)I"⟩
abbrev w_Mod_tells : List Cond := .code y_Mod_tells b_Mod_tells 3 (some (.int)) :: zw
theorem k_Mod_tells : y_Mod_tells.cls = R_Mod ∧ y_Mod_tells.cls ≠ "java/lang/invoke/MethodHandle" ∧ y_Mod_tells.cls ≠ "java/lang/invoke/VarHandle" ∧ (parseMethodDescriptor y_Mod_tells.desc).map (fun d => d.parameters.length) = some 2 := by decide +kernel
abbrev b_Mod_seek : ByteArray := prog_7_method_24_code
def y_Mod_seek : MethodName := ⟨R_Mod, "seek", "(II)I"⟩
abbrev w_Mod_seek : List Cond := .code y_Mod_seek b_Mod_seek 6 (some (.int)) :: zw
theorem k_Mod_seek : y_Mod_seek.cls = R_Mod ∧ y_Mod_seek.cls ≠ "java/lang/invoke/MethodHandle" ∧ y_Mod_seek.cls ≠ "java/lang/invoke/VarHandle" ∧ (parseMethodDescriptor y_Mod_seek.desc).map (fun d => d.parameters.length) = some 2 := by decide +kernel
abbrev b_Mod_confirm : ByteArray := prog_7_method_25_code
def y_Mod_confirm : MethodName := ⟨R_Mod, "confirm", "(III)I"⟩
abbrev w_Mod_confirm : List Cond := .code y_Mod_confirm b_Mod_confirm 6 (some (.int)) :: zw
theorem k_Mod_confirm : y_Mod_confirm.cls = R_Mod ∧ y_Mod_confirm.cls ≠ "java/lang/invoke/MethodHandle" ∧ y_Mod_confirm.cls ≠ "java/lang/invoke/VarHandle" ∧ (parseMethodDescriptor y_Mod_confirm.desc).map (fun d => d.parameters.length) = some 3 := by decide +kernel
abbrev b_Mod_gap : ByteArray := prog_7_method_26_code
def y_Mod_gap : MethodName := ⟨R_Mod, "gap", "(II)Z"⟩
abbrev w_Mod_gap : List Cond := .code y_Mod_gap b_Mod_gap 4 (some (.boolean)) :: zw
theorem k_Mod_gap : y_Mod_gap.cls = R_Mod ∧ y_Mod_gap.cls ≠ "java/lang/invoke/MethodHandle" ∧ y_Mod_gap.cls ≠ "java/lang/invoke/VarHandle" ∧ (parseMethodDescriptor y_Mod_gap.desc).map (fun d => d.parameters.length) = some 2 := by decide +kernel
abbrev b_Mod_count : ByteArray := prog_7_method_27_code
def y_Mod_count : MethodName := ⟨R_Mod, "count", "(II)I"⟩
abbrev w_Mod_count : List Cond := .code y_Mod_count b_Mod_count 6 (some (.int)) :: zw
theorem k_Mod_count : y_Mod_count.cls = R_Mod ∧ y_Mod_count.cls ≠ "java/lang/invoke/MethodHandle" ∧ y_Mod_count.cls ≠ "java/lang/invoke/VarHandle" ∧ (parseMethodDescriptor y_Mod_count.desc).map (fun d => d.parameters.length) = some 2 := by decide +kernel
abbrev b_Mod_play : ByteArray := prog_7_method_28_code
def y_Mod_play : MethodName := ⟨R_Mod, "play", "(IIII)I"⟩
abbrev w_Mod_play : List Cond := .code y_Mod_play b_Mod_play 6 (some (.int)) :: zw
theorem k_Mod_play : y_Mod_play.cls = R_Mod ∧ y_Mod_play.cls ≠ "java/lang/invoke/MethodHandle" ∧ y_Mod_play.cls ≠ "java/lang/invoke/VarHandle" ∧ (parseMethodDescriptor y_Mod_play.desc).map (fun d => d.parameters.length) = some 4 := by decide +kernel
abbrev b_Mod_stop : ByteArray := prog_7_method_29_code
def y_Mod_stop : MethodName := ⟨R_Mod, "stop", "(I)Z"⟩
abbrev w_Mod_stop : List Cond := .code y_Mod_stop b_Mod_stop 2 (some (.boolean)) :: zw
theorem k_Mod_stop : y_Mod_stop.cls = R_Mod ∧ y_Mod_stop.cls ≠ "java/lang/invoke/MethodHandle" ∧ y_Mod_stop.cls ≠ "java/lang/invoke/VarHandle" ∧ (parseMethodDescriptor y_Mod_stop.desc).map (fun d => d.parameters.length) = some 1 := by decide +kernel
abbrev b_Mod_frame : ByteArray := prog_7_method_32_code
def y_Mod_frame : MethodName := ⟨R_Mod, "frame", "()I"⟩
abbrev w_Mod_frame : List Cond := .code y_Mod_frame b_Mod_frame 5 (some (.int)) :: zw
theorem k_Mod_frame : y_Mod_frame.cls = R_Mod ∧ y_Mod_frame.cls ≠ "java/lang/invoke/MethodHandle" ∧ y_Mod_frame.cls ≠ "java/lang/invoke/VarHandle" ∧ (parseMethodDescriptor y_Mod_frame.desc).map (fun d => d.parameters.length) = some 0 := by decide +kernel
abbrev b_Mod_chosen : ByteArray := prog_7_method_31_code
def y_Mod_chosen : MethodName := ⟨R_Mod, "chosen", "(I)I"⟩
abbrev w_Mod_chosen : List Cond := .code y_Mod_chosen b_Mod_chosen 7 (some (.int)) :: zw
theorem k_Mod_chosen : y_Mod_chosen.cls = R_Mod ∧ y_Mod_chosen.cls ≠ "java/lang/invoke/MethodHandle" ∧ y_Mod_chosen.cls ≠ "java/lang/invoke/VarHandle" ∧ (parseMethodDescriptor y_Mod_chosen.desc).map (fun d => d.parameters.length) = some 1 := by decide +kernel
abbrev b_Mod_isIn : ByteArray := prog_7_method_30_code
def y_Mod_isIn : MethodName := ⟨R_Mod, "isIn", "(II)Z"⟩
abbrev w_Mod_isIn : List Cond := .code y_Mod_isIn b_Mod_isIn 3 (some (.boolean)) :: zw
theorem k_Mod_isIn : y_Mod_isIn.cls = R_Mod ∧ y_Mod_isIn.cls ≠ "java/lang/invoke/MethodHandle" ∧ y_Mod_isIn.cls ≠ "java/lang/invoke/VarHandle" ∧ (parseMethodDescriptor y_Mod_isIn.desc).map (fun d => d.parameters.length) = some 2 := by decide +kernel
abbrev b_Mod_frameByte : ByteArray := prog_7_method_33_code
def y_Mod_frameByte : MethodName := ⟨R_Mod, "frameByte", "(I)I"⟩
abbrev w_Mod_frameByte : List Cond := .code y_Mod_frameByte b_Mod_frameByte 2 (some (.int)) :: zw
theorem k_Mod_frameByte : y_Mod_frameByte.cls = R_Mod ∧ y_Mod_frameByte.cls ≠ "java/lang/invoke/MethodHandle" ∧ y_Mod_frameByte.cls ≠ "java/lang/invoke/VarHandle" ∧ (parseMethodDescriptor y_Mod_frameByte.desc).map (fun d => d.parameters.length) = some 1 := by decide +kernel
abbrev b_Mod_checkpoint : ByteArray := prog_7_method_35_code
def y_Mod_checkpoint : MethodName := ⟨R_Mod, "checkpoint", "(I)I"⟩
abbrev w_Mod_checkpoint : List Cond := .code y_Mod_checkpoint b_Mod_checkpoint 4 (some (.int)) :: zw
theorem k_Mod_checkpoint : y_Mod_checkpoint.cls = R_Mod ∧ y_Mod_checkpoint.cls ≠ "java/lang/invoke/MethodHandle" ∧ y_Mod_checkpoint.cls ≠ "java/lang/invoke/VarHandle" ∧ (parseMethodDescriptor y_Mod_checkpoint.desc).map (fun d => d.parameters.length) = some 1 := by decide +kernel
abbrev b_Mod_beginsRun : ByteArray := prog_7_method_34_code
def y_Mod_beginsRun : MethodName := ⟨R_Mod, "beginsRun", "(I)Z"⟩
abbrev w_Mod_beginsRun : List Cond := .code y_Mod_beginsRun b_Mod_beginsRun 3 (some (.boolean)) :: zw
theorem k_Mod_beginsRun : y_Mod_beginsRun.cls = R_Mod ∧ y_Mod_beginsRun.cls ≠ "java/lang/invoke/MethodHandle" ∧ y_Mod_beginsRun.cls ≠ "java/lang/invoke/VarHandle" ∧ (parseMethodDescriptor y_Mod_beginsRun.desc).map (fun d => d.parameters.length) = some 1 := by decide +kernel
abbrev b_Mod_reset : ByteArray := prog_7_method_36_code
def y_Mod_reset : MethodName := ⟨R_Mod, "reset", "()V"⟩
abbrev w_Mod_reset : List Cond := .code y_Mod_reset b_Mod_reset 3 none :: zw
theorem k_Mod_reset : y_Mod_reset.cls = R_Mod ∧ y_Mod_reset.cls ≠ "java/lang/invoke/MethodHandle" ∧ y_Mod_reset.cls ≠ "java/lang/invoke/VarHandle" ∧ (parseMethodDescriptor y_Mod_reset.desc).map (fun d => d.parameters.length) = some 0 := by decide +kernel
abbrev b_Mod_latest : ByteArray := prog_7_method_37_code
def y_Mod_latest : MethodName := ⟨R_Mod, "latest", "(I)I"⟩
abbrev w_Mod_latest : List Cond := .code y_Mod_latest b_Mod_latest 4 (some (.int)) :: zw
theorem k_Mod_latest : y_Mod_latest.cls = R_Mod ∧ y_Mod_latest.cls ≠ "java/lang/invoke/MethodHandle" ∧ y_Mod_latest.cls ≠ "java/lang/invoke/VarHandle" ∧ (parseMethodDescriptor y_Mod_latest.desc).map (fun d => d.parameters.length) = some 1 := by decide +kernel
abbrev b_Mod_told : ByteArray := prog_7_method_38_code
def y_Mod_told : MethodName := ⟨R_Mod, "told", "(I)I"⟩
abbrev w_Mod_told : List Cond := .code y_Mod_told b_Mod_told 4 (some (.int)) :: zw
theorem k_Mod_told : y_Mod_told.cls = R_Mod ∧ y_Mod_told.cls ≠ "java/lang/invoke/MethodHandle" ∧ y_Mod_told.cls ≠ "java/lang/invoke/VarHandle" ∧ (parseMethodDescriptor y_Mod_told.desc).map (fun d => d.parameters.length) = some 1 := by decide +kernel
