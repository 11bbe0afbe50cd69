def RX0 : String := "FsckDesk$Connector"
def TX0 : u_T := fun k => match k with
  | 0 => ("FsckDesk$Connector", "image", "LFsckDesk$Image;", true)
  | 1 => ("FsckDesk$Connector", "inodes", "LFsckDesk$Inodes;", true)
  | 2 => ("FsckDesk$Connector", "directories", "LFsckDesk$Directories;", true)
  | 3 => ("FsckDesk$Connector", "name", "LFsckDesk$Name;", true)
  | 4 => ("FsckDesk$Connector", "queue", "[I", true)
  | 5 => ("FsckDesk$Connector", "head", "I", false)
  | 6 => ("FsckDesk$Connector", "tail", "I", false)
  | _ => ("FsckDesk$Connector", "reached", "I", false)
def tyX0 : Nat → FieldType := fun k => match k with
  | 0 => .object "FsckDesk$Image"
  | 1 => .object "FsckDesk$Inodes"
  | 2 => .object "FsckDesk$Directories"
  | 3 => .object "FsckDesk$Name"
  | 4 => .array .int
  | 5 => .int
  | 6 => .int
  | _ => .int
theorem nmX0 : ∀ a, a < 8 → ∀ b, b < 8 → a ≠ b → (TX0 a).2.1 ≠ (TX0 b).2.1 := by decide +kernel
theorem tyX0_ok : ∀ k, k < 8 → parseFieldDescriptor (TX0 k).2.2.1 = some (tyX0 k) := by decide +kernel
abbrev cX0_init : ByteArray := prog_2_method_1_code
def yX0_init : MethodName := ⟨RX0, "<init>", "(LFsckDesk$Image;LFsckDesk$Inodes;LFsckDesk$Directories;)V"⟩
abbrev cX0_connect : ByteArray := prog_2_method_2_code
def yX0_connect : MethodName := ⟨RX0, "connect", "()V"⟩
abbrev cX0_isReached : ByteArray := prog_2_method_3_code
def yX0_isReached : MethodName := ⟨RX0, "isReached", "(I)Z"⟩
abbrev cX0_reach : ByteArray := prog_2_method_4_code
def yX0_reach : MethodName := ⟨RX0, "reach", "(I)V"⟩
abbrev cX0_goThrough : ByteArray := prog_2_method_5_code
def yX0_goThrough : MethodName := ⟨RX0, "goThrough", "()V"⟩
abbrev cX0_follow : ByteArray := prog_2_method_6_code
def yX0_follow : MethodName := ⟨RX0, "follow", "(II)V"⟩
abbrev cX0_findName : ByteArray := prog_2_method_7_code
def yX0_findName : MethodName := ⟨RX0, "findName", "(I)Z"⟩
abbrev cX0_putAway : ByteArray := prog_2_method_8_code
def yX0_putAway : MethodName := ⟨RX0, "putAway", "(II)V"⟩
def RX1 : String := "FsckDesk$Directories"
def TX1 : u_T := fun k => match k with
  | 0 => ("FsckDesk$Directories", "image", "LFsckDesk$Image;", true)
  | 1 => ("FsckDesk$Directories", "inodes", "LFsckDesk$Inodes;", true)
  | _ => ("FsckDesk$Directories", "name", "LFsckDesk$Name;", true)
def tyX1 : Nat → FieldType := fun k => match k with
  | 0 => .object "FsckDesk$Image"
  | 1 => .object "FsckDesk$Inodes"
  | _ => .object "FsckDesk$Name"
theorem nmX1 : ∀ a, a < 3 → ∀ b, b < 3 → a ≠ b → (TX1 a).2.1 ≠ (TX1 b).2.1 := by decide +kernel
theorem tyX1_ok : ∀ k, k < 3 → parseFieldDescriptor (TX1 k).2.2.1 = some (tyX1 k) := by decide +kernel
abbrev cX1_init : ByteArray := prog_3_method_1_code
def yX1_init : MethodName := ⟨RX1, "<init>", "(LFsckDesk$Image;LFsckDesk$Inodes;)V"⟩
abbrev cX1_entryCount : ByteArray := prog_3_method_2_code
def yX1_entryCount : MethodName := ⟨RX1, "entryCount", "(I)I"⟩
abbrev cX1_entryPlace : ByteArray := prog_3_method_3_code
def yX1_entryPlace : MethodName := ⟨RX1, "entryPlace", "(II)I"⟩
abbrev cX1_seek : ByteArray := prog_3_method_4_code
def yX1_seek : MethodName := ⟨RX1, "seek", "(ILFsckDesk$Name;)I"⟩
abbrev cX1_isNamed : ByteArray := prog_3_method_5_code
def yX1_isNamed : MethodName := ⟨RX1, "isNamed", "(ILFsckDesk$Name;)Z"⟩
abbrev cX1_writeEntry : ByteArray := prog_3_method_6_code
def yX1_writeEntry : MethodName := ⟨RX1, "writeEntry", "(IILFsckDesk$Name;)V"⟩
abbrev cX1_wipeEntry : ByteArray := prog_3_method_7_code
def yX1_wipeEntry : MethodName := ⟨RX1, "wipeEntry", "(I)V"⟩
abbrev cX1_writeDots : ByteArray := prog_3_method_8_code
def yX1_writeDots : MethodName := ⟨RX1, "writeDots", "(II)V"⟩
abbrev cX1_setParent : ByteArray := prog_3_method_9_code
def yX1_setParent : MethodName := ⟨RX1, "setParent", "(II)V"⟩
abbrev cX1_begin : ByteArray := prog_3_method_10_code
def yX1_begin : MethodName := ⟨RX1, "begin", "(II)Z"⟩
abbrev cX1_roomIn : ByteArray := prog_3_method_11_code
def yX1_roomIn : MethodName := ⟨RX1, "roomIn", "(I)I"⟩
abbrev cX1_isEmpty : ByteArray := prog_3_method_12_code
def yX1_isEmpty : MethodName := ⟨RX1, "isEmpty", "(I)Z"⟩
abbrev cX1_tidy : ByteArray := prog_3_method_13_code
def yX1_tidy : MethodName := ⟨RX1, "tidy", "(I)V"⟩
abbrev cX1_isValid : ByteArray := prog_3_method_14_code
def yX1_isValid : MethodName := ⟨RX1, "isValid", "(II)Z"⟩
abbrev cX1_wipeEntriesOf : ByteArray := prog_3_method_15_code
def yX1_wipeEntriesOf : MethodName := ⟨RX1, "wipeEntriesOf", "(I)V"⟩
abbrev cX1_countLinks : ByteArray := prog_3_method_16_code
def yX1_countLinks : MethodName := ⟨RX1, "countLinks", "()V"⟩
abbrev cX1_countLink : ByteArray := prog_3_method_17_code
def yX1_countLink : MethodName := ⟨RX1, "countLink", "(II)V"⟩
def RX2 : String := "FsckDesk$Image"
def TX2 : u_T := fun k => match k with
  | _ => ("FsckDesk$Image", "bytes", "[I", true)
def tyX2 : Nat → FieldType := fun k => match k with
  | _ => .array .int
theorem nmX2 : ∀ a, a < 1 → ∀ b, b < 1 → a ≠ b → (TX2 a).2.1 ≠ (TX2 b).2.1 := by decide +kernel
theorem tyX2_ok : ∀ k, k < 1 → parseFieldDescriptor (TX2 k).2.2.1 = some (tyX2 k) := by decide +kernel
abbrev cX2_init : ByteArray := prog_4_method_1_code
def yX2_init : MethodName := ⟨RX2, "<init>", "()V"⟩
abbrev cX2_at : ByteArray := prog_4_method_2_code
def yX2_at : MethodName := ⟨RX2, "at", "(I)I"⟩
abbrev cX2_set : ByteArray := prog_4_method_3_code
def yX2_set : MethodName := ⟨RX2, "set", "(II)V"⟩
abbrev cX2_pairAt : ByteArray := prog_4_method_4_code
def yX2_pairAt : MethodName := ⟨RX2, "pairAt", "(I)I"⟩
abbrev cX2_setPair : ByteArray := prog_4_method_5_code
def yX2_setPair : MethodName := ⟨RX2, "setPair", "(II)V"⟩
abbrev cX2_hasText : ByteArray := prog_4_method_6_code
def yX2_hasText : MethodName := ⟨RX2, "hasText", "(ILjava/lang/String;)Z"⟩
abbrev cX2_setText : ByteArray := prog_4_method_7_code
def yX2_setText : MethodName := ⟨RX2, "setText", "(ILjava/lang/String;)V"⟩
abbrev cX2_wipe : ByteArray := prog_4_method_8_code
def yX2_wipe : MethodName := ⟨RX2, "wipe", "(II)V"⟩
abbrev cX2_isBlank : ByteArray := prog_4_method_9_code
def yX2_isBlank : MethodName := ⟨RX2, "isBlank", "(II)Z"⟩
abbrev cX2_sum : ByteArray := prog_4_method_10_code
def yX2_sum : MethodName := ⟨RX2, "sum", "(II)I"⟩
abbrev cX2_isRange : ByteArray := prog_4_method_11_code
def yX2_isRange : MethodName := ⟨RX2, "isRange", "(II)Z"⟩
abbrev cX2_copyBlock : ByteArray := prog_4_method_12_code
def yX2_copyBlock : MethodName := ⟨RX2, "copyBlock", "(ILFsckDesk$Image;I)V"⟩
abbrev cX2_copyAll : ByteArray := prog_4_method_13_code
def yX2_copyAll : MethodName := ⟨RX2, "copyAll", "(LFsckDesk$Image;)V"⟩
abbrev cX2_sameBlock : ByteArray := prog_4_method_14_code
def yX2_sameBlock : MethodName := ⟨RX2, "sameBlock", "(ILFsckDesk$Image;)Z"⟩
def RX3 : String := "FsckDesk$InodePass"
def TX3 : u_T := fun k => match k with
  | 0 => ("FsckDesk$InodePass", "image", "LFsckDesk$Image;", true)
  | 1 => ("FsckDesk$InodePass", "inodes", "LFsckDesk$Inodes;", true)
  | _ => ("FsckDesk$InodePass", "directories", "LFsckDesk$Directories;", true)
def tyX3 : Nat → FieldType := fun k => match k with
  | 0 => .object "FsckDesk$Image"
  | 1 => .object "FsckDesk$Inodes"
  | _ => .object "FsckDesk$Directories"
theorem nmX3 : ∀ a, a < 3 → ∀ b, b < 3 → a ≠ b → (TX3 a).2.1 ≠ (TX3 b).2.1 := by decide +kernel
theorem tyX3_ok : ∀ k, k < 3 → parseFieldDescriptor (TX3 k).2.2.1 = some (tyX3 k) := by decide +kernel
abbrev cX3_init : ByteArray := prog_5_method_1_code
def yX3_init : MethodName := ⟨RX3, "<init>", "(LFsckDesk$Image;LFsckDesk$Inodes;LFsckDesk$Directories;)V"⟩
abbrev cX3_keepSound : ByteArray := prog_5_method_2_code
def yX3_keepSound : MethodName := ⟨RX3, "keepSound", "()V"⟩
abbrev cX3_hasSoundHead : ByteArray := prog_5_method_3_code
def yX3_hasSoundHead : MethodName := ⟨RX3, "hasSoundHead", "(I)Z"⟩
abbrev cX3_hasSoundSize : ByteArray := prog_5_method_4_code
def yX3_hasSoundSize : MethodName := ⟨RX3, "hasSoundSize", "(I)Z"⟩
abbrev cX3_hasBlankRest : ByteArray := prog_5_method_5_code
def yX3_hasBlankRest : MethodName := ⟨RX3, "hasBlankRest", "(I)Z"⟩
abbrev cX3_provide : ByteArray := prog_5_method_6_code
def yX3_provide : MethodName := ⟨RX3, "provide", "(I)V"⟩
def RX4 : String := "FsckDesk$Inodes"
def TX4 : u_T := fun k => match k with
  | 0 => ("FsckDesk$Inodes", "image", "LFsckDesk$Image;", true)
  | _ => ("FsckDesk$Inodes", "taken", "J", false)
def tyX4 : Nat → FieldType := fun k => match k with
  | 0 => .object "FsckDesk$Image"
  | _ => .long
theorem nmX4 : ∀ a, a < 2 → ∀ b, b < 2 → a ≠ b → (TX4 a).2.1 ≠ (TX4 b).2.1 := by decide +kernel
theorem tyX4_ok : ∀ k, k < 2 → parseFieldDescriptor (TX4 k).2.2.1 = some (tyX4 k) := by decide +kernel
abbrev cX4_init : ByteArray := prog_6_method_1_code
def yX4_init : MethodName := ⟨RX4, "<init>", "(LFsckDesk$Image;)V"⟩
abbrev cX4_isNumber : ByteArray := prog_6_method_2_code
def yX4_isNumber : MethodName := ⟨RX4, "isNumber", "(I)Z"⟩
abbrev cX4_placeOf : ByteArray := prog_6_method_3_code
def yX4_placeOf : MethodName := ⟨RX4, "placeOf", "(I)I"⟩
abbrev cX4_kind : ByteArray := prog_6_method_4_code
def yX4_kind : MethodName := ⟨RX4, "kind", "(I)I"⟩
abbrev cX4_links : ByteArray := prog_6_method_5_code
def yX4_links : MethodName := ⟨RX4, "links", "(I)I"⟩
abbrev cX4_size : ByteArray := prog_6_method_6_code
def yX4_size : MethodName := ⟨RX4, "size", "(I)I"⟩
abbrev cX4_setLinks : ByteArray := prog_6_method_7_code
def yX4_setLinks : MethodName := ⟨RX4, "setLinks", "(II)V"⟩
abbrev cX4_setSize : ByteArray := prog_6_method_8_code
def yX4_setSize : MethodName := ⟨RX4, "setSize", "(II)V"⟩
abbrev cX4_rightSum : ByteArray := prog_6_method_9_code
def yX4_rightSum : MethodName := ⟨RX4, "rightSum", "(I)I"⟩
abbrev cX4_writeSum : ByteArray := prog_6_method_10_code
def yX4_writeSum : MethodName := ⟨RX4, "writeSum", "(I)V"⟩
abbrev cX4_blockCount : ByteArray := prog_6_method_11_code
def yX4_blockCount : MethodName := ⟨RX4, "blockCount", "(I)I"⟩
abbrev cX4_contentPlace : ByteArray := prog_6_method_12_code
def yX4_contentPlace : MethodName := ⟨RX4, "contentPlace", "(II)I"⟩
abbrev cX4_blocksOf : ByteArray := prog_6_method_13_code
def yX4_blocksOf : MethodName := ⟨RX4, "blocksOf", "(I)J"⟩
abbrev cX4_withBlock : ByteArray := prog_6_method_14_code
def yX4_withBlock : MethodName := ⟨RX4, "withBlock", "(JI)J"⟩
abbrev cX4_taken : ByteArray := prog_6_method_15_code
def yX4_taken : MethodName := ⟨RX4, "taken", "()J"⟩
abbrev cX4_forgetTaken : ByteArray := prog_6_method_16_code
def yX4_forgetTaken : MethodName := ⟨RX4, "forgetTaken", "()V"⟩
abbrev cX4_takeBlocks : ByteArray := prog_6_method_17_code
def yX4_takeBlocks : MethodName := ⟨RX4, "takeBlocks", "(I)Z"⟩
abbrev cX4_firstFree : ByteArray := prog_6_method_18_code
def yX4_firstFree : MethodName := ⟨RX4, "firstFree", "()I"⟩
abbrev cX4_hasFreeBlock : ByteArray := prog_6_method_19_code
def yX4_hasFreeBlock : MethodName := ⟨RX4, "hasFreeBlock", "()Z"⟩
abbrev cX4_takeFreeBlock : ByteArray := prog_6_method_20_code
def yX4_takeFreeBlock : MethodName := ⟨RX4, "takeFreeBlock", "()I"⟩
abbrev cX4_begin : ByteArray := prog_6_method_21_code
def yX4_begin : MethodName := ⟨RX4, "begin", "(II)V"⟩
abbrev cX4_addBlock : ByteArray := prog_6_method_22_code
def yX4_addBlock : MethodName := ⟨RX4, "addBlock", "(I)I"⟩
abbrev cX4_erase : ByteArray := prog_6_method_23_code
def yX4_erase : MethodName := ⟨RX4, "erase", "(I)V"⟩
abbrev cX4_wipe : ByteArray := prog_6_method_24_code
def yX4_wipe : MethodName := ⟨RX4, "wipe", "(I)V"⟩
def RX5 : String := "FsckDesk$Journal"
def TX5 : u_T := fun k => match k with
  | _ => ("", "", "", false)
def tyX5 : Nat → FieldType := fun k => match k with
  | _ => .int
theorem nmX5 : ∀ a, a < 0 → ∀ b, b < 0 → a ≠ b → (TX5 a).2.1 ≠ (TX5 b).2.1 := by decide +kernel
theorem tyX5_ok : ∀ k, k < 0 → parseFieldDescriptor (TX5 k).2.2.1 = some (tyX5 k) := by decide +kernel
abbrev cX5_write : ByteArray := prog_7_method_2_code
def yX5_write : MethodName := ⟨RX5, "write", "(LFsckDesk$Image;JI)V"⟩
abbrev cX5_writeSum : ByteArray := prog_7_method_3_code
def yX5_writeSum : MethodName := ⟨RX5, "writeSum", "(LFsckDesk$Image;)V"⟩
abbrev cX5_replay : ByteArray := prog_7_method_4_code
def yX5_replay : MethodName := ⟨RX5, "replay", "(LFsckDesk$Image;)V"⟩
abbrev cX5_isGood : ByteArray := prog_7_method_5_code
def yX5_isGood : MethodName := ⟨RX5, "isGood", "(LFsckDesk$Image;)Z"⟩
abbrev cX5_hasGoodTargets : ByteArray := prog_7_method_6_code
def yX5_hasGoodTargets : MethodName := ⟨RX5, "hasGoodTargets", "(LFsckDesk$Image;I)Z"⟩
abbrev cX5_rightSum : ByteArray := prog_7_method_7_code
def yX5_rightSum : MethodName := ⟨RX5, "rightSum", "(LFsckDesk$Image;)I"⟩
def RX6 : String := "FsckDesk$Name"
def TX6 : u_T := fun k => match k with
  | 0 => ("FsckDesk$Name", "bytes", "[I", true)
  | _ => ("FsckDesk$Name", "length", "I", false)
def tyX6 : Nat → FieldType := fun k => match k with
  | 0 => .array .int
  | _ => .int
theorem nmX6 : ∀ a, a < 2 → ∀ b, b < 2 → a ≠ b → (TX6 a).2.1 ≠ (TX6 b).2.1 := by decide +kernel
theorem tyX6_ok : ∀ k, k < 2 → parseFieldDescriptor (TX6 k).2.2.1 = some (tyX6 k) := by decide +kernel
abbrev cX6_init : ByteArray := prog_8_method_1_code
def yX6_init : MethodName := ⟨RX6, "<init>", "()V"⟩
abbrev cX6_length : ByteArray := prog_8_method_2_code
def yX6_length : MethodName := ⟨RX6, "length", "()I"⟩
abbrev cX6_at : ByteArray := prog_8_method_3_code
def yX6_at : MethodName := ⟨RX6, "at", "(I)I"⟩
abbrev cX6_add : ByteArray := prog_8_method_4_code
def yX6_add : MethodName := ⟨RX6, "add", "(I)V"⟩
abbrev cX6_spell : ByteArray := prog_8_method_5_code
def yX6_spell : MethodName := ⟨RX6, "spell", "(Ljava/lang/String;)V"⟩
abbrev cX6_unpack : ByteArray := prog_8_method_6_code
def yX6_unpack : MethodName := ⟨RX6, "unpack", "(J)V"⟩
abbrev cX6_load : ByteArray := prog_8_method_7_code
def yX6_load : MethodName := ⟨RX6, "load", "(LFsckDesk$Image;II)V"⟩
abbrev cX6_number : ByteArray := prog_8_method_8_code
def yX6_number : MethodName := ⟨RX6, "number", "(II)V"⟩
abbrev cX6_isAllowed : ByteArray := prog_8_method_9_code
def yX6_isAllowed : MethodName := ⟨RX6, "isAllowed", "()Z"⟩
def RX7 : String := "FsckDesk$Repairer"
def TX7 : u_T := fun k => match k with
  | 0 => ("FsckDesk$Repairer", "disk", "LFsckDesk$Image;", true)
  | 1 => ("FsckDesk$Repairer", "planned", "LFsckDesk$Image;", true)
  | 2 => ("FsckDesk$Repairer", "inodes", "LFsckDesk$Inodes;", true)
  | 3 => ("FsckDesk$Repairer", "directories", "LFsckDesk$Directories;", true)
  | 4 => ("FsckDesk$Repairer", "inodePass", "LFsckDesk$InodePass;", true)
  | _ => ("FsckDesk$Repairer", "connector", "LFsckDesk$Connector;", true)
def tyX7 : Nat → FieldType := fun k => match k with
  | 0 => .object "FsckDesk$Image"
  | 1 => .object "FsckDesk$Image"
  | 2 => .object "FsckDesk$Inodes"
  | 3 => .object "FsckDesk$Directories"
  | 4 => .object "FsckDesk$InodePass"
  | _ => .object "FsckDesk$Connector"
theorem nmX7 : ∀ a, a < 6 → ∀ b, b < 6 → a ≠ b → (TX7 a).2.1 ≠ (TX7 b).2.1 := by decide +kernel
theorem tyX7_ok : ∀ k, k < 6 → parseFieldDescriptor (TX7 k).2.2.1 = some (tyX7 k) := by decide +kernel
abbrev cX7_init : ByteArray := prog_9_method_1_code
def yX7_init : MethodName := ⟨RX7, "<init>", "(LFsckDesk$Image;LFsckDesk$Image;LFsckDesk$Inodes;LFsckDesk$Directories;)V"⟩
abbrev cX7_plan : ByteArray := prog_9_method_2_code
def yX7_plan : MethodName := ⟨RX7, "plan", "()I"⟩
abbrev cX7_settle : ByteArray := prog_9_method_3_code
def yX7_settle : MethodName := ⟨RX7, "settle", "()V"⟩
abbrev cX7_writeMaps : ByteArray := prog_9_method_4_code
def yX7_writeMaps : MethodName := ⟨RX7, "writeMaps", "()V"⟩
abbrev cX7_markUsed : ByteArray := prog_9_method_5_code
def yX7_markUsed : MethodName := ⟨RX7, "markUsed", "(II)V"⟩
abbrev cX7_countDiffering : ByteArray := prog_9_method_6_code
def yX7_countDiffering : MethodName := ⟨RX7, "countDiffering", "()I"⟩
abbrev cX7_writeBlocks : ByteArray := prog_9_method_7_code
def yX7_writeBlocks : MethodName := ⟨RX7, "writeBlocks", "(I)I"⟩
abbrev cX7_keepPlan : ByteArray := prog_9_method_8_code
def yX7_keepPlan : MethodName := ⟨RX7, "keepPlan", "()V"⟩
def RX8 : String := "FsckDesk$Super"
def TX8 : u_T := fun k => match k with
  | _ => ("", "", "", false)
def tyX8 : Nat → FieldType := fun k => match k with
  | _ => .int
theorem nmX8 : ∀ a, a < 0 → ∀ b, b < 0 → a ≠ b → (TX8 a).2.1 ≠ (TX8 b).2.1 := by decide +kernel
theorem tyX8_ok : ∀ k, k < 0 → parseFieldDescriptor (TX8 k).2.2.1 = some (tyX8 k) := by decide +kernel
abbrev cX8_isGood : ByteArray := prog_10_method_2_code
def yX8_isGood : MethodName := ⟨RX8, "isGood", "(LFsckDesk$Image;I)Z"⟩
abbrev cX8_write : ByteArray := prog_10_method_3_code
def yX8_write : MethodName := ⟨RX8, "write", "(LFsckDesk$Image;III)V"⟩
abbrev cX8_writeSum : ByteArray := prog_10_method_4_code
def yX8_writeSum : MethodName := ⟨RX8, "writeSum", "(LFsckDesk$Image;I)V"⟩
def RX9 : String := "FsckDesk$Writer"
def TX9 : u_T := fun k => match k with
  | 0 => ("FsckDesk$Writer", "image", "LFsckDesk$Image;", true)
  | 1 => ("FsckDesk$Writer", "inodes", "LFsckDesk$Inodes;", true)
  | _ => ("FsckDesk$Writer", "directories", "LFsckDesk$Directories;", true)
def tyX9 : Nat → FieldType := fun k => match k with
  | 0 => .object "FsckDesk$Image"
  | 1 => .object "FsckDesk$Inodes"
  | _ => .object "FsckDesk$Directories"
theorem nmX9 : ∀ a, a < 3 → ∀ b, b < 3 → a ≠ b → (TX9 a).2.1 ≠ (TX9 b).2.1 := by decide +kernel
theorem tyX9_ok : ∀ k, k < 3 → parseFieldDescriptor (TX9 k).2.2.1 = some (tyX9 k) := by decide +kernel
abbrev cX9_init : ByteArray := prog_11_method_1_code
def yX9_init : MethodName := ⟨RX9, "<init>", "(LFsckDesk$Image;LFsckDesk$Inodes;LFsckDesk$Directories;)V"⟩
abbrev cX9_create : ByteArray := prog_11_method_2_code
def yX9_create : MethodName := ⟨RX9, "create", "(ILFsckDesk$Name;I)I"⟩
abbrev cX9_addEntry : ByteArray := prog_11_method_3_code
def yX9_addEntry : MethodName := ⟨RX9, "addEntry", "(ILFsckDesk$Name;I)Z"⟩
abbrev cX9_mayEnter : ByteArray := prog_11_method_4_code
def yX9_mayEnter : MethodName := ⟨RX9, "mayEnter", "(ILFsckDesk$Name;)Z"⟩
abbrev cX9_enter : ByteArray := prog_11_method_5_code
def yX9_enter : MethodName := ⟨RX9, "enter", "(ILFsckDesk$Name;I)Z"⟩
abbrev cX9_lengthen : ByteArray := prog_11_method_6_code
def yX9_lengthen : MethodName := ⟨RX9, "lengthen", "(II)Z"⟩
abbrev cX9_removeEntry : ByteArray := prog_11_method_7_code
def yX9_removeEntry : MethodName := ⟨RX9, "removeEntry", "(ILFsckDesk$Name;)Z"⟩
def RX10 : String := "FsckDesk"
def TX10 : u_T := fun k => match k with
  | 0 => ("FsckDesk", "disk", "LFsckDesk$Image;", true)
  | 1 => ("FsckDesk", "diskInodes", "LFsckDesk$Inodes;", true)
  | 2 => ("FsckDesk", "diskDirectories", "LFsckDesk$Directories;", true)
  | 3 => ("FsckDesk", "repairer", "LFsckDesk$Repairer;", true)
  | 4 => ("FsckDesk", "writer", "LFsckDesk$Writer;", true)
  | _ => ("FsckDesk", "wanted", "LFsckDesk$Name;", true)
def tyX10 : Nat → FieldType := fun k => match k with
  | 0 => .object "FsckDesk$Image"
  | 1 => .object "FsckDesk$Inodes"
  | 2 => .object "FsckDesk$Directories"
  | 3 => .object "FsckDesk$Repairer"
  | 4 => .object "FsckDesk$Writer"
  | _ => .object "FsckDesk$Name"
theorem nmX10 : ∀ a, a < 6 → ∀ b, b < 6 → a ≠ b → (TX10 a).2.1 ≠ (TX10 b).2.1 := by decide +kernel
theorem tyX10_ok : ∀ k, k < 6 → parseFieldDescriptor (TX10 k).2.2.1 = some (tyX10 k) := by decide +kernel
abbrev cX10_init : ByteArray := prog_1_method_1_code
def yX10_init : MethodName := ⟨RX10, "<init>", "()V"⟩
abbrev cX10_format : ByteArray := prog_1_method_2_code
def yX10_format : MethodName := ⟨RX10, "format", "()I"⟩
abbrev cX10_poke : ByteArray := prog_1_method_3_code
def yX10_poke : MethodName := ⟨RX10, "poke", "(II)Z"⟩
abbrev cX10_peek : ByteArray := prog_1_method_4_code
def yX10_peek : MethodName := ⟨RX10, "peek", "(I)I"⟩
abbrev cX10_seal : ByteArray := prog_1_method_5_code
def yX10_seal : MethodName := ⟨RX10, "seal", "(I)Z"⟩
abbrev cX10_commit : ByteArray := prog_1_method_6_code
def yX10_commit : MethodName := ⟨RX10, "commit", "(JI)Z"⟩
abbrev cX10_check : ByteArray := prog_1_method_7_code
def yX10_check : MethodName := ⟨RX10, "check", "()I"⟩
abbrev cX10_repair : ByteArray := prog_1_method_8_code
def yX10_repair : MethodName := ⟨RX10, "repair", "(I)I"⟩
abbrev cX10_inode : ByteArray := prog_1_method_9_code
def yX10_inode : MethodName := ⟨RX10, "inode", "(II)I"⟩
abbrev cX10_read : ByteArray := prog_1_method_10_code
def yX10_read : MethodName := ⟨RX10, "read", "(II)I"⟩
abbrev cX10_find : ByteArray := prog_1_method_11_code
def yX10_find : MethodName := ⟨RX10, "find", "(IJ)I"⟩
abbrev cX10_make : ByteArray := prog_1_method_12_code
def yX10_make : MethodName := ⟨RX10, "make", "(IJI)I"⟩
abbrev cX10_append : ByteArray := prog_1_method_13_code
def yX10_append : MethodName := ⟨RX10, "append", "(II)Z"⟩
abbrev cX10_link : ByteArray := prog_1_method_14_code
def yX10_link : MethodName := ⟨RX10, "link", "(IJI)Z"⟩
abbrev cX10_unlink : ByteArray := prog_1_method_15_code
def yX10_unlink : MethodName := ⟨RX10, "unlink", "(IJ)Z"⟩
abbrev cX10_isPlace : ByteArray := prog_1_method_16_code
def yX10_isPlace : MethodName := ⟨RX10, "isPlace", "(I)Z"⟩
abbrev cX10_isByte : ByteArray := prog_1_method_17_code
def yX10_isByte : MethodName := ⟨RX10, "isByte", "(I)Z"⟩
abbrev cX10_isDataBlock : ByteArray := prog_1_method_18_code
def yX10_isDataBlock : MethodName := ⟨RX10, "isDataBlock", "(I)Z"⟩
def RX11 : String := "FsckDeskModel"
def TX11 : u_T := fun k => match k with
  | 0 => ("FsckDeskModel", "disk", "[I", true)
  | 1 => ("FsckDeskModel", "w", "[I", true)
  | 2 => ("FsckDeskModel", "taken", "[Z", true)
  | 3 => ("FsckDeskModel", "reached", "[Z", true)
  | 4 => ("FsckDeskModel", "queue", "[I", true)
  | 5 => ("FsckDeskModel", "head", "I", false)
  | 6 => ("FsckDeskModel", "tail", "I", false)
  | 7 => ("FsckDeskModel", "name", "[I", true)
  | _ => ("FsckDeskModel", "nameLength", "I", false)
def tyX11 : Nat → FieldType := fun k => match k with
  | 0 => .array .int
  | 1 => .array .int
  | 2 => .array .boolean
  | 3 => .array .boolean
  | 4 => .array .int
  | 5 => .int
  | 6 => .int
  | 7 => .array .int
  | _ => .int
theorem nmX11 : ∀ a, a < 9 → ∀ b, b < 9 → a ≠ b → (TX11 a).2.1 ≠ (TX11 b).2.1 := by decide +kernel
theorem tyX11_ok : ∀ k, k < 9 → parseFieldDescriptor (TX11 k).2.2.1 = some (tyX11 k) := by decide +kernel
abbrev cX11_init : ByteArray := prog_13_method_1_code
def yX11_init : MethodName := ⟨RX11, "<init>", "()V"⟩
abbrev cX11_two : ByteArray := prog_13_method_2_code
def yX11_two : MethodName := ⟨RX11, "two", "(I)I"⟩
abbrev cX11_put : ByteArray := prog_13_method_3_code
def yX11_put : MethodName := ⟨RX11, "put", "(II)V"⟩
abbrev cX11_sum : ByteArray := prog_13_method_4_code
def yX11_sum : MethodName := ⟨RX11, "sum", "(II)I"⟩
abbrev cX11_clear : ByteArray := prog_13_method_5_code
def yX11_clear : MethodName := ⟨RX11, "clear", "(II)V"⟩
abbrev cX11_isClear : ByteArray := prog_13_method_6_code
def yX11_isClear : MethodName := ⟨RX11, "isClear", "(II)Z"⟩
abbrev cX11_has : ByteArray := prog_13_method_7_code
def yX11_has : MethodName := ⟨RX11, "has", "(IIIII)Z"⟩
abbrev cX11_load : ByteArray := prog_13_method_8_code
def yX11_load : MethodName := ⟨RX11, "load", "()V"⟩
abbrev cX11_store : ByteArray := prog_13_method_9_code
def yX11_store : MethodName := ⟨RX11, "store", "()V"⟩
abbrev cX11_isSuper : ByteArray := prog_13_method_10_code
def yX11_isSuper : MethodName := ⟨RX11, "isSuper", "(I)Z"⟩
abbrev cX11_base : ByteArray := prog_13_method_11_code
def yX11_base : MethodName := ⟨RX11, "base", "(I)I"⟩
abbrev cX11_kind : ByteArray := prog_13_method_12_code
def yX11_kind : MethodName := ⟨RX11, "kind", "(I)I"⟩
abbrev cX11_size : ByteArray := prog_13_method_13_code
def yX11_size : MethodName := ⟨RX11, "size", "(I)I"⟩
abbrev cX11_blocks : ByteArray := prog_13_method_14_code
def yX11_blocks : MethodName := ⟨RX11, "blocks", "(I)I"⟩
abbrev cX11_block : ByteArray := prog_13_method_15_code
def yX11_block : MethodName := ⟨RX11, "block", "(II)I"⟩
abbrev cX11_mark : ByteArray := prog_13_method_16_code
def yX11_mark : MethodName := ⟨RX11, "mark", "(I)Z"⟩
abbrev cX11_isSound : ByteArray := prog_13_method_17_code
def yX11_isSound : MethodName := ⟨RX11, "isSound", "(I)Z"⟩
abbrev cX11_free : ByteArray := prog_13_method_18_code
def yX11_free : MethodName := ⟨RX11, "free", "(I)I"⟩
abbrev cX11_places : ByteArray := prog_13_method_19_code
def yX11_places : MethodName := ⟨RX11, "places", "(I)I"⟩
abbrev cX11_entry : ByteArray := prog_13_method_20_code
def yX11_entry : MethodName := ⟨RX11, "entry", "(II)I"⟩
abbrev cX11_write : ByteArray := prog_13_method_21_code
def yX11_write : MethodName := ⟨RX11, "write", "(II)V"⟩
abbrev cX11_dots : ByteArray := prog_13_method_22_code
def yX11_dots : MethodName := ⟨RX11, "dots", "(I)V"⟩
abbrev cX11_isName : ByteArray := prog_13_method_23_code
def yX11_isName : MethodName := ⟨RX11, "isName", "(I)Z"⟩
abbrev cX11_find : ByteArray := prog_13_method_24_code
def yX11_find : MethodName := ⟨RX11, "find", "(II)I"⟩
abbrev cX11_isValid : ByteArray := prog_13_method_25_code
def yX11_isValid : MethodName := ⟨RX11, "isValid", "(II)Z"⟩
abbrev cX11_lostName : ByteArray := prog_13_method_26_code
def yX11_lostName : MethodName := ⟨RX11, "lostName", "()V"⟩
abbrev cX11_replay : ByteArray := prog_13_method_27_code
def yX11_replay : MethodName := ⟨RX11, "replay", "()V"⟩
abbrev cX11_inodes : ByteArray := prog_13_method_28_code
def yX11_inodes : MethodName := ⟨RX11, "inodes", "()V"⟩
abbrev cX11_make : ByteArray := prog_13_method_29_code
def yX11_make : MethodName := ⟨RX11, "make", "(I)V"⟩
abbrev cX11_directory : ByteArray := prog_13_method_30_code
def yX11_directory : MethodName := ⟨RX11, "directory", "(II)V"⟩
abbrev cX11_entries : ByteArray := prog_13_method_31_code
def yX11_entries : MethodName := ⟨RX11, "entries", "()V"⟩
abbrev cX11_reach : ByteArray := prog_13_method_32_code
def yX11_reach : MethodName := ⟨RX11, "reach", "(I)V"⟩
abbrev cX11_go : ByteArray := prog_13_method_33_code
def yX11_go : MethodName := ⟨RX11, "go", "()V"⟩
abbrev cX11_connect : ByteArray := prog_13_method_34_code
def yX11_connect : MethodName := ⟨RX11, "connect", "()V"⟩
abbrev cX11_lostNameOf : ByteArray := prog_13_method_35_code
def yX11_lostNameOf : MethodName := ⟨RX11, "lostNameOf", "(I)Z"⟩
abbrev cX11_grow : ByteArray := prog_13_method_36_code
def yX11_grow : MethodName := ⟨RX11, "grow", "(II)Z"⟩
abbrev cX11_putEntry : ByteArray := prog_13_method_37_code
def yX11_putEntry : MethodName := ⟨RX11, "putEntry", "(II)Z"⟩
abbrev cX11_drop : ByteArray := prog_13_method_38_code
def yX11_drop : MethodName := ⟨RX11, "drop", "(I)V"⟩
abbrev cX11_count : ByteArray := prog_13_method_39_code
def yX11_count : MethodName := ⟨RX11, "count", "(I)I"⟩
abbrev cX11_finish : ByteArray := prog_13_method_40_code
def yX11_finish : MethodName := ⟨RX11, "finish", "()V"⟩
abbrev cX11_superAt : ByteArray := prog_13_method_41_code
def yX11_superAt : MethodName := ⟨RX11, "superAt", "(III)V"⟩
abbrev cX11_passes : ByteArray := prog_13_method_42_code
def yX11_passes : MethodName := ⟨RX11, "passes", "()Z"⟩
abbrev cX11_differs : ByteArray := prog_13_method_43_code
def yX11_differs : MethodName := ⟨RX11, "differs", "(I)Z"⟩
abbrev cX11_written : ByteArray := prog_13_method_44_code
def yX11_written : MethodName := ⟨RX11, "written", "(IZ)I"⟩
abbrev cX11_format : ByteArray := prog_13_method_45_code
def yX11_format : MethodName := ⟨RX11, "format", "()I"⟩
abbrev cX11_poke : ByteArray := prog_13_method_46_code
def yX11_poke : MethodName := ⟨RX11, "poke", "(II)Z"⟩
abbrev cX11_peek : ByteArray := prog_13_method_47_code
def yX11_peek : MethodName := ⟨RX11, "peek", "(I)I"⟩
abbrev cX11_seal : ByteArray := prog_13_method_48_code
def yX11_seal : MethodName := ⟨RX11, "seal", "(I)Z"⟩
abbrev cX11_commit : ByteArray := prog_13_method_49_code
def yX11_commit : MethodName := ⟨RX11, "commit", "(JI)Z"⟩
abbrev cX11_check : ByteArray := prog_13_method_50_code
def yX11_check : MethodName := ⟨RX11, "check", "()I"⟩
abbrev cX11_repair : ByteArray := prog_13_method_51_code
def yX11_repair : MethodName := ⟨RX11, "repair", "(I)I"⟩
abbrev cX11_inode : ByteArray := prog_13_method_52_code
def yX11_inode : MethodName := ⟨RX11, "inode", "(II)I"⟩
abbrev cX11_read : ByteArray := prog_13_method_53_code
def yX11_read : MethodName := ⟨RX11, "read", "(II)I"⟩
abbrev cX11_nameOf : ByteArray := prog_13_method_54_code
def yX11_nameOf : MethodName := ⟨RX11, "nameOf", "(J)V"⟩
abbrev cX11_find_ : ByteArray := prog_13_method_55_code
def yX11_find_ : MethodName := ⟨RX11, "find", "(IJ)I"⟩
abbrev cX11_mayPut : ByteArray := prog_13_method_56_code
def yX11_mayPut : MethodName := ⟨RX11, "mayPut", "(IJ)Z"⟩
abbrev cX11_make_ : ByteArray := prog_13_method_57_code
def yX11_make_ : MethodName := ⟨RX11, "make", "(IJI)I"⟩
abbrev cX11_append : ByteArray := prog_13_method_58_code
def yX11_append : MethodName := ⟨RX11, "append", "(II)Z"⟩
abbrev cX11_link : ByteArray := prog_13_method_59_code
def yX11_link : MethodName := ⟨RX11, "link", "(IJI)Z"⟩
abbrev cX11_unlink : ByteArray := prog_13_method_60_code
def yX11_unlink : MethodName := ⟨RX11, "unlink", "(IJ)Z"⟩
def RJ13 : String := "java/lang/Long"
def TJ13 : u_T := fun k => match k with
  | _ => ("", "", "", false)
def tyJ13 : Nat → FieldType := fun k => match k with
  | _ => .int
theorem nmJ13 : ∀ a, a < 0 → ∀ b, b < 0 → a ≠ b → (TJ13 a).2.1 ≠ (TJ13 b).2.1 := by decide +kernel
theorem tyJ13_ok : ∀ k, k < 0 → parseFieldDescriptor (TJ13 k).2.2.1 = some (tyJ13 k) := by decide +kernel
abbrev cJ13_bitCount_95d88 : ByteArray := prog_14_method_50_code
def yJ13_bitCount_95d88 : MethodName := ⟨RJ13, "bitCount", "(J)I"⟩
def RJ9 : String := "java/lang/Math"
def TJ9 : u_T := fun k => match k with
  | _ => ("", "", "", false)
def tyJ9 : Nat → FieldType := fun k => match k with
  | _ => .int
theorem nmJ9 : ∀ a, a < 0 → ∀ b, b < 0 → a ≠ b → (TJ9 a).2.1 ≠ (TJ9 b).2.1 := by decide +kernel
theorem tyJ9_ok : ∀ k, k < 0 → parseFieldDescriptor (TJ9 k).2.2.1 = some (tyJ9 k) := by decide +kernel
abbrev cJ9_min_7cf53 : ByteArray := prog_15_method_69_code
def yJ9_min_7cf53 : MethodName := ⟨RJ9, "min", "(II)I"⟩
def RJ0 : String := "java/lang/String"
def TJ0 : u_T := fun k => match k with
  | _ => ("", "", "", false)
def tyJ0 : Nat → FieldType := fun k => match k with
  | _ => .int
theorem nmJ0 : ∀ a, a < 0 → ∀ b, b < 0 → a ≠ b → (TJ0 a).2.1 ≠ (TJ0 b).2.1 := by decide +kernel
theorem tyJ0_ok : ∀ k, k < 0 → parseFieldDescriptor (TJ0 k).2.2.1 = some (tyJ0 k) := by decide +kernel
abbrev cJ0_length_8abf5 : ByteArray := prog_16_method_54_code
def yJ0_length_8abf5 : MethodName := ⟨RJ0, "length", "()I"⟩
abbrev cJ0_charAt_5068e : ByteArray := prog_16_method_56_code
def yJ0_charAt_5068e : MethodName := ⟨RJ0, "charAt", "(I)C"⟩
abbrev cJ0_coder_7d493 : ByteArray := prog_16_method_152_code
def yJ0_coder_7d493 : MethodName := ⟨RJ0, "coder", "()B"⟩
abbrev cJ0_isLatin1_aae02 : ByteArray := prog_16_method_154_code
def yJ0_isLatin1_aae02 : MethodName := ⟨RJ0, "isLatin1", "()Z"⟩
abbrev cJ0_checkIndex_df160 : ByteArray := prog_16_method_155_code
def yJ0_checkIndex_df160 : MethodName := ⟨RJ0, "checkIndex", "(II)V"⟩
def RJ1 : String := "java/lang/StringLatin1"
def TJ1 : u_T := fun k => match k with
  | _ => ("", "", "", false)
def tyJ1 : Nat → FieldType := fun k => match k with
  | _ => .int
theorem nmJ1 : ∀ a, a < 0 → ∀ b, b < 0 → a ≠ b → (TJ1 a).2.1 ≠ (TJ1 b).2.1 := by decide +kernel
theorem tyJ1_ok : ∀ k, k < 0 → parseFieldDescriptor (TJ1 k).2.2.1 = some (tyJ1 k) := by decide +kernel
abbrev cJ1_charAt_3b067 : ByteArray := prog_17_method_2_code
def yJ1_charAt_3b067 : MethodName := ⟨RJ1, "charAt", "([BI)C"⟩
def RJ2 : String := "java/lang/StringUTF16"
def TJ2 : u_T := fun k => match k with
  | _ => ("", "", "", false)
def tyJ2 : Nat → FieldType := fun k => match k with
  | _ => .int
theorem nmJ2 : ∀ a, a < 0 → ∀ b, b < 0 → a ≠ b → (TJ2 a).2.1 ≠ (TJ2 b).2.1 := by decide +kernel
theorem tyJ2_ok : ∀ k, k < 0 → parseFieldDescriptor (TJ2 k).2.2.1 = some (tyJ2 k) := by decide +kernel
abbrev cJ2_getChar_3b067 : ByteArray := prog_18_method_5_code
def yJ2_getChar_3b067 : MethodName := ⟨RJ2, "getChar", "([BI)C"⟩
abbrev cJ2_length_9d52b : ByteArray := prog_18_method_6_code
def yJ2_length_9d52b : MethodName := ⟨RJ2, "length", "([B)I"⟩
abbrev cJ2_charAt_3b067 : ByteArray := prog_18_method_83_code
def yJ2_charAt_3b067 : MethodName := ⟨RJ2, "charAt", "([BI)C"⟩
abbrev cJ2_checkIndex_2214a : ByteArray := prog_18_method_91_code
def yJ2_checkIndex_2214a : MethodName := ⟨RJ2, "checkIndex", "(I[B)V"⟩
def RJ10 : String := "java/lang/System"
def TJ10 : u_T := fun k => match k with
  | _ => ("", "", "", false)
def tyJ10 : Nat → FieldType := fun k => match k with
  | _ => .int
theorem nmJ10 : ∀ a, a < 0 → ∀ b, b < 0 → a ≠ b → (TJ10 a).2.1 ≠ (TJ10 b).2.1 := by decide +kernel
theorem tyJ10_ok : ∀ k, k < 0 → parseFieldDescriptor (TJ10 k).2.2.1 = some (tyJ10 k) := by decide +kernel
def RJ7 : String := "java/util/Arrays"
def TJ7 : u_T := fun k => match k with
  | _ => ("", "", "", false)
def tyJ7 : Nat → FieldType := fun k => match k with
  | _ => .int
theorem nmJ7 : ∀ a, a < 0 → ∀ b, b < 0 → a ≠ b → (TJ7 a).2.1 ≠ (TJ7 b).2.1 := by decide +kernel
theorem tyJ7_ok : ∀ k, k < 0 → parseFieldDescriptor (TJ7 k).2.2.1 = some (tyJ7 k) := by decide +kernel
abbrev cJ7_rangeCheck_23922 : ByteArray := prog_20_method_30_code
def yJ7_rangeCheck_23922 : MethodName := ⟨RJ7, "rangeCheck", "(III)V"⟩
abbrev cJ7_fill_fda19 : ByteArray := prog_20_method_104_code
def yJ7_fill_fda19 : MethodName := ⟨RJ7, "fill", "([IIII)V"⟩
def RJ3 : String := "jdk/internal/util/Preconditions"
def TJ3 : u_T := fun k => match k with
  | _ => ("", "", "", false)
def tyJ3 : Nat → FieldType := fun k => match k with
  | _ => .int
theorem nmJ3 : ∀ a, a < 0 → ∀ b, b < 0 → a ≠ b → (TJ3 a).2.1 ≠ (TJ3 b).2.1 := by decide +kernel
theorem tyJ3_ok : ∀ k, k < 0 → parseFieldDescriptor (TJ3 k).2.2.1 = some (tyJ3 k) := by decide +kernel
abbrev cJ3_checkIndex_8e157 : ByteArray := prog_21_method_11_code
def yJ3_checkIndex_8e157 : MethodName := ⟨RJ3, "checkIndex", "(IILjava/util/function/BiFunction;)I"⟩
def RL : String := "FsckDeskLaw"
abbrev cL_law : ByteArray := code
def yL_law : MethodName := ⟨RL, "law", "([I)Z"⟩
abbrev vwCl : List vw_C := [(RX0, TX0, 8), (RX1, TX1, 3), (RX2, TX2, 1), (RX3, TX3, 3), (RX4, TX4, 2), (RX6, TX6, 2), (RX7, TX7, 6), (RX9, TX9, 3), (RX10, TX10, 6), (RX11, TX11, 9)]
/-- the instruction at a place, and the place behind it -/
abbrev Dc (cc : ByteArray) (pc : Nat) (i : Instr) (n pc2 : Nat) : Prop := decode cc pc = .ok (i, n) ∧ pc + n = pc2
