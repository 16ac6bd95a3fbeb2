def RX0 : String := "CreditLink$Channel"
def TX0 : u_T := fun k => match k with
  | 0 => ("CreditLink$Channel", "number", "I", true)
  | 1 => ("CreditLink$Channel", "state", "I", false)
  | 2 => ("CreditLink$Channel", "id", "I", false)
  | 3 => ("CreditLink$Channel", "mtu", "I", false)
  | 4 => ("CreditLink$Channel", "mps", "I", false)
  | 5 => ("CreditLink$Channel", "given", "I", false)
  | 6 => ("CreditLink$Channel", "far", "I", false)
  | 7 => ("CreditLink$Channel", "farMtu", "I", false)
  | 8 => ("CreditLink$Channel", "farMps", "I", false)
  | 9 => ("CreditLink$Channel", "credits", "I", false)
  | 10 => ("CreditLink$Channel", "toSend", "LCreditLink$Texts;", true)
  | 11 => ("CreditLink$Channel", "gone", "I", false)
  | 12 => ("CreditLink$Channel", "received", "LCreditLink$Texts;", true)
  | 13 => ("CreditLink$Channel", "gathered", "LCreditLink$Row;", true)
  | _ => ("CreditLink$Channel", "due", "I", false)
def tyX0 : Nat → FieldType := fun k => match k with
  | 0 => .int
  | 1 => .int
  | 2 => .int
  | 3 => .int
  | 4 => .int
  | 5 => .int
  | 6 => .int
  | 7 => .int
  | 8 => .int
  | 9 => .int
  | 10 => .object "CreditLink$Texts"
  | 11 => .int
  | 12 => .object "CreditLink$Texts"
  | 13 => .object "CreditLink$Row"
  | _ => .int
abbrev wsX00 : List Cond := u_ws RX0 TX0 15
theorem nmX0 : ∀ a, a < 15 → ∀ b, b < 15 → a ≠ b → (TX0 a).2.1 ≠ (TX0 b).2.1 := by decide +kernel
theorem tyX0_ok : ∀ k, k < 15 → parseFieldDescriptor (TX0 k).2.2.1 = some (tyX0 k) := by decide +kernel
abbrev cX0_init : ByteArray := prog_2_method_1_code
def yX0_init : MethodName := ⟨RX0, "<init>", "(I)V"⟩
abbrev cX0_setOwn : ByteArray := prog_2_method_2_code
def yX0_setOwn : MethodName := ⟨RX0, "setOwn", "(III)V"⟩
abbrev cX0_open : ByteArray := prog_2_method_3_code
def yX0_open : MethodName := ⟨RX0, "open", "(IIII)V"⟩
abbrev cX0_close : ByteArray := prog_2_method_4_code
def yX0_close : MethodName := ⟨RX0, "close", "()V"⟩
abbrev cX0_forgetTexts : ByteArray := prog_2_method_5_code
def yX0_forgetTexts : MethodName := ⟨RX0, "forgetTexts", "()V"⟩
abbrev cX0_hasFar : ByteArray := prog_2_method_6_code
def yX0_hasFar : MethodName := ⟨RX0, "hasFar", "(I)Z"⟩
abbrev cX0_putText : ByteArray := prog_2_method_7_code
def yX0_putText : MethodName := ⟨RX0, "putText", "(LCreditLink$Row;)Z"⟩
abbrev cX0_hasSegment : ByteArray := prog_2_method_8_code
def yX0_hasSegment : MethodName := ⟨RX0, "hasSegment", "()Z"⟩
abbrev cX0_writeSegment : ByteArray := prog_2_method_9_code
def yX0_writeSegment : MethodName := ⟨RX0, "writeSegment", "(LCreditLink$Row;)V"⟩
abbrev cX0_readSegment : ByteArray := prog_2_method_10_code
def yX0_readSegment : MethodName := ⟨RX0, "readSegment", "(LCreditLink$Row;)Z"⟩
abbrev cX0_keepWholeText : ByteArray := prog_2_method_11_code
def yX0_keepWholeText : MethodName := ⟨RX0, "keepWholeText", "()Z"⟩
def RX1 : String := "CreditLink$Host"
def TX1 : u_T := fun k => match k with
  | 0 => ("CreditLink$Host", "channels", "[LCreditLink$Channel;", true)
  | 1 => ("CreditLink$Host", "serviceMtu", "[I", true)
  | 2 => ("CreditLink$Host", "serviceMps", "[I", true)
  | 3 => ("CreditLink$Host", "serviceCredits", "[I", true)
  | 4 => ("CreditLink$Host", "way", "LCreditLink$Way;", true)
  | 5 => ("CreditLink$Host", "waiting", "Ljava/util/ArrayList;", true)
  | 6 => ("CreditLink$Host", "begun", "LCreditLink$Row;", true)
  | 7 => ("CreditLink$Host", "begunGone", "I", false)
  | 8 => ("CreditLink$Host", "gathered", "LCreditLink$Row;", true)
  | 9 => ("CreditLink$Host", "lastId", "I", false)
  | 10 => ("CreditLink$Host", "nextSender", "I", false)
  | 11 => ("CreditLink$Host", "units", "I", false)
  | 12 => ("CreditLink$Host", "dropped", "I", false)
  | _ => ("CreditLink$Host", "rejected", "I", false)
def tyX1 : Nat → FieldType := fun k => match k with
  | 0 => .array (.object "CreditLink$Channel")
  | 1 => .array .int
  | 2 => .array .int
  | 3 => .array .int
  | 4 => .object "CreditLink$Way"
  | 5 => .object "java/util/ArrayList"
  | 6 => .object "CreditLink$Row"
  | 7 => .int
  | 8 => .object "CreditLink$Row"
  | 9 => .int
  | 10 => .int
  | 11 => .int
  | 12 => .int
  | _ => .int
abbrev wsX10 : List Cond := u_ws RX1 TX1 14
theorem nmX1 : ∀ a, a < 14 → ∀ b, b < 14 → a ≠ b → (TX1 a).2.1 ≠ (TX1 b).2.1 := by decide +kernel
theorem tyX1_ok : ∀ k, k < 14 → parseFieldDescriptor (TX1 k).2.2.1 = some (tyX1 k) := by decide +kernel
abbrev cX1_init : ByteArray := prog_3_method_1_code
def yX1_init : MethodName := ⟨RX1, "<init>", "()V"⟩
abbrev cX1_tellService : ByteArray := prog_3_method_2_code
def yX1_tellService : MethodName := ⟨RX1, "tellService", "(IIII)V"⟩
abbrev cX1_hasService : ByteArray := prog_3_method_3_code
def yX1_hasService : MethodName := ⟨RX1, "hasService", "(I)Z"⟩
abbrev cX1_ask : ByteArray := prog_3_method_4_code
def yX1_ask : MethodName := ⟨RX1, "ask", "(IIII)I"⟩
abbrev cX1_giveCredits : ByteArray := prog_3_method_5_code
def yX1_giveCredits : MethodName := ⟨RX1, "giveCredits", "(LCreditLink$Channel;I)V"⟩
abbrev cX1_beginLeaving : ByteArray := prog_3_method_6_code
def yX1_beginLeaving : MethodName := ⟨RX1, "beginLeaving", "(LCreditLink$Channel;)V"⟩
abbrev cX1_nextId : ByteArray := prog_3_method_7_code
def yX1_nextId : MethodName := ⟨RX1, "nextId", "()I"⟩
abbrev cX1_addSignal : ByteArray := prog_3_method_8_code
def yX1_addSignal : MethodName := ⟨RX1, "addSignal", "(III)LCreditLink$Row;"⟩
abbrev cX1_sendOn : ByteArray := prog_3_method_9_code
def yX1_sendOn : MethodName := ⟨RX1, "sendOn", "(LCreditLink$Way;)V"⟩
abbrev cX1_hasUnit : ByteArray := prog_3_method_10_code
def yX1_hasUnit : MethodName := ⟨RX1, "hasUnit", "()Z"⟩
abbrev cX1_beginSignal : ByteArray := prog_3_method_11_code
def yX1_beginSignal : MethodName := ⟨RX1, "beginSignal", "()Z"⟩
abbrev cX1_beginSegment : ByteArray := prog_3_method_12_code
def yX1_beginSegment : MethodName := ⟨RX1, "beginSegment", "()Z"⟩
abbrev cX1_gather : ByteArray := prog_3_method_13_code
def yX1_gather : MethodName := ⟨RX1, "gather", "(LCreditLink$Packet;)Z"⟩
abbrev cX1_dropGathered : ByteArray := prog_3_method_14_code
def yX1_dropGathered : MethodName := ⟨RX1, "dropGathered", "()V"⟩
abbrev cX1_handleUnit : ByteArray := prog_3_method_15_code
def yX1_handleUnit : MethodName := ⟨RX1, "handleUnit", "()V"⟩
abbrev cX1_handleSegment : ByteArray := prog_3_method_16_code
def yX1_handleSegment : MethodName := ⟨RX1, "handleSegment", "(I)V"⟩
abbrev cX1_handleSignal : ByteArray := prog_3_method_17_code
def yX1_handleSignal : MethodName := ⟨RX1, "handleSignal", "()V"⟩
abbrev cX1_isSignal : ByteArray := prog_3_method_18_code
def yX1_isSignal : MethodName := ⟨RX1, "isSignal", "(II)Z"⟩
abbrev cX1_told : ByteArray := prog_3_method_19_code
def yX1_told : MethodName := ⟨RX1, "told", "(I)I"⟩
abbrev cX1_onRequest : ByteArray := prog_3_method_20_code
def yX1_onRequest : MethodName := ⟨RX1, "onRequest", "(I)V"⟩
abbrev cX1_judgeRequest : ByteArray := prog_3_method_21_code
def yX1_judgeRequest : MethodName := ⟨RX1, "judgeRequest", "(IIII)I"⟩
abbrev cX1_onAnswer : ByteArray := prog_3_method_22_code
def yX1_onAnswer : MethodName := ⟨RX1, "onAnswer", "(I)V"⟩
abbrev cX1_onCredit : ByteArray := prog_3_method_23_code
def yX1_onCredit : MethodName := ⟨RX1, "onCredit", "()V"⟩
abbrev cX1_onLeave : ByteArray := prog_3_method_24_code
def yX1_onLeave : MethodName := ⟨RX1, "onLeave", "(I)V"⟩
abbrev cX1_onLeft : ByteArray := prog_3_method_25_code
def yX1_onLeft : MethodName := ⟨RX1, "onLeft", "()V"⟩
abbrev cX1_onReject : ByteArray := prog_3_method_26_code
def yX1_onReject : MethodName := ⟨RX1, "onReject", "(I)V"⟩
abbrev cX1_firstClosed : ByteArray := prog_3_method_27_code
def yX1_firstClosed : MethodName := ⟨RX1, "firstClosed", "()LCreditLink$Channel;"⟩
abbrev cX1_firstBySignal : ByteArray := prog_3_method_28_code
def yX1_firstBySignal : MethodName := ⟨RX1, "firstBySignal", "(IZ)LCreditLink$Channel;"⟩
def RX2 : String := "CreditLink$Packet"
def TX2 : u_T := fun k => match k with
  | 0 => ("CreditLink$Packet", "bytes", "LCreditLink$Row;", true)
  | 1 => ("CreditLink$Packet", "marked", "Z", false)
  | _ => ("CreditLink$Packet", "sent", "Z", false)
def tyX2 : Nat → FieldType := fun k => match k with
  | 0 => .object "CreditLink$Row"
  | 1 => .boolean
  | _ => .boolean
abbrev wsX20 : List Cond := u_ws RX2 TX2 3
theorem nmX2 : ∀ a, a < 3 → ∀ b, b < 3 → a ≠ b → (TX2 a).2.1 ≠ (TX2 b).2.1 := by decide +kernel
theorem tyX2_ok : ∀ k, k < 3 → parseFieldDescriptor (TX2 k).2.2.1 = some (tyX2 k) := by decide +kernel
abbrev cX2_init : ByteArray := prog_4_method_1_code
def yX2_init : MethodName := ⟨RX2, "<init>", "()V"⟩
def RX3 : String := "CreditLink$Row"
def TX3 : u_T := fun k => match k with
  | 0 => ("CreditLink$Row", "bytes", "[B", true)
  | _ => ("CreditLink$Row", "size", "I", false)
def tyX3 : Nat → FieldType := fun k => match k with
  | 0 => .array .byte
  | _ => .int
abbrev wsX30 : List Cond := u_ws RX3 TX3 2
theorem nmX3 : ∀ a, a < 2 → ∀ b, b < 2 → a ≠ b → (TX3 a).2.1 ≠ (TX3 b).2.1 := by decide +kernel
theorem tyX3_ok : ∀ k, k < 2 → parseFieldDescriptor (TX3 k).2.2.1 = some (tyX3 k) := by decide +kernel
abbrev cX3_init : ByteArray := prog_5_method_1_code
def yX3_init : MethodName := ⟨RX3, "<init>", "(I)V"⟩
abbrev cX3_clear : ByteArray := prog_5_method_2_code
def yX3_clear : MethodName := ⟨RX3, "clear", "()V"⟩
abbrev cX3_add : ByteArray := prog_5_method_3_code
def yX3_add : MethodName := ⟨RX3, "add", "(I)V"⟩
abbrev cX3_addNumber : ByteArray := prog_5_method_4_code
def yX3_addNumber : MethodName := ⟨RX3, "addNumber", "(I)V"⟩
abbrev cX3_addPart : ByteArray := prog_5_method_5_code
def yX3_addPart : MethodName := ⟨RX3, "addPart", "(LCreditLink$Row;II)V"⟩
abbrev cX3_at : ByteArray := prog_5_method_6_code
def yX3_at : MethodName := ⟨RX3, "at", "(I)I"⟩
abbrev cX3_numberAt : ByteArray := prog_5_method_7_code
def yX3_numberAt : MethodName := ⟨RX3, "numberAt", "(I)I"⟩
def RX4 : String := "CreditLink$Texts"
def TX4 : u_T := fun k => match k with
  | 0 => ("CreditLink$Texts", "rows", "[LCreditLink$Row;", true)
  | 1 => ("CreditLink$Texts", "head", "I", false)
  | _ => ("CreditLink$Texts", "many", "I", false)
def tyX4 : Nat → FieldType := fun k => match k with
  | 0 => .array (.object "CreditLink$Row")
  | 1 => .int
  | _ => .int
abbrev wsX40 : List Cond := u_ws RX4 TX4 3
theorem nmX4 : ∀ a, a < 3 → ∀ b, b < 3 → a ≠ b → (TX4 a).2.1 ≠ (TX4 b).2.1 := by decide +kernel
theorem tyX4_ok : ∀ k, k < 3 → parseFieldDescriptor (TX4 k).2.2.1 = some (tyX4 k) := by decide +kernel
abbrev cX4_init : ByteArray := prog_6_method_1_code
def yX4_init : MethodName := ⟨RX4, "<init>", "(II)V"⟩
abbrev cX4_clear : ByteArray := prog_6_method_2_code
def yX4_clear : MethodName := ⟨RX4, "clear", "()V"⟩
abbrev cX4_first : ByteArray := prog_6_method_3_code
def yX4_first : MethodName := ⟨RX4, "first", "()LCreditLink$Row;"⟩
abbrev cX4_addEmpty : ByteArray := prog_6_method_4_code
def yX4_addEmpty : MethodName := ⟨RX4, "addEmpty", "()LCreditLink$Row;"⟩
abbrev cX4_dropFirst : ByteArray := prog_6_method_5_code
def yX4_dropFirst : MethodName := ⟨RX4, "dropFirst", "()V"⟩
def RX5 : String := "CreditLink$Way"
def TX5 : u_T := fun k => match k with
  | 0 => ("CreditLink$Way", "packets", "[LCreditLink$Packet;", true)
  | 1 => ("CreditLink$Way", "head", "I", false)
  | 2 => ("CreditLink$Way", "many", "I", false)
  | _ => ("CreditLink$Way", "sentOnes", "I", false)
def tyX5 : Nat → FieldType := fun k => match k with
  | 0 => .array (.object "CreditLink$Packet")
  | 1 => .int
  | 2 => .int
  | _ => .int
abbrev wsX50 : List Cond := u_ws RX5 TX5 4
theorem nmX5 : ∀ a, a < 4 → ∀ b, b < 4 → a ≠ b → (TX5 a).2.1 ≠ (TX5 b).2.1 := by decide +kernel
theorem tyX5_ok : ∀ k, k < 4 → parseFieldDescriptor (TX5 k).2.2.1 = some (tyX5 k) := by decide +kernel
abbrev cX5_init : ByteArray := prog_7_method_1_code
def yX5_init : MethodName := ⟨RX5, "<init>", "()V"⟩
abbrev cX5_hasRoomFor : ByteArray := prog_7_method_2_code
def yX5_hasRoomFor : MethodName := ⟨RX5, "hasRoomFor", "(I)Z"⟩
abbrev cX5_freeBuffers : ByteArray := prog_7_method_3_code
def yX5_freeBuffers : MethodName := ⟨RX5, "freeBuffers", "()I"⟩
abbrev cX5_firstPacket : ByteArray := prog_7_method_4_code
def yX5_firstPacket : MethodName := ⟨RX5, "firstPacket", "()LCreditLink$Packet;"⟩
abbrev cX5_put : ByteArray := prog_7_method_5_code
def yX5_put : MethodName := ⟨RX5, "put", "(LCreditLink$Row;IZ)V"⟩
abbrev cX5_dropFirst : ByteArray := prog_7_method_6_code
def yX5_dropFirst : MethodName := ⟨RX5, "dropFirst", "()Z"⟩
def RX6 : String := "CreditLink"
def TX6 : u_T := fun k => match k with
  | 0 => ("CreditLink", "hosts", "[LCreditLink$Host;", true)
  | 1 => ("CreditLink", "store", "LCreditLink$Row;", true)
  | _ => ("CreditLink", "injected", "LCreditLink$Row;", true)
def tyX6 : Nat → FieldType := fun k => match k with
  | 0 => .array (.object "CreditLink$Host")
  | 1 => .object "CreditLink$Row"
  | _ => .object "CreditLink$Row"
abbrev wsX60 : List Cond := u_ws RX6 TX6 3
theorem nmX6 : ∀ a, a < 3 → ∀ b, b < 3 → a ≠ b → (TX6 a).2.1 ≠ (TX6 b).2.1 := by decide +kernel
theorem tyX6_ok : ∀ k, k < 3 → parseFieldDescriptor (TX6 k).2.2.1 = some (tyX6 k) := by decide +kernel
abbrev cX6_init : ByteArray := prog_1_method_1_code
def yX6_init : MethodName := ⟨RX6, "<init>", "()V"⟩
abbrev cX6_service : ByteArray := prog_1_method_2_code
def yX6_service : MethodName := ⟨RX6, "service", "(IIIII)V"⟩
abbrev cX6_connect : ByteArray := prog_1_method_3_code
def yX6_connect : MethodName := ⟨RX6, "connect", "(IIIII)I"⟩
abbrev cX6_feed : ByteArray := prog_1_method_4_code
def yX6_feed : MethodName := ⟨RX6, "feed", "(IIIII)I"⟩
abbrev cX6_erase : ByteArray := prog_1_method_5_code
def yX6_erase : MethodName := ⟨RX6, "erase", "()I"⟩
abbrev cX6_send : ByteArray := prog_1_method_6_code
def yX6_send : MethodName := ⟨RX6, "send", "(II)I"⟩
abbrev cX6_grant : ByteArray := prog_1_method_7_code
def yX6_grant : MethodName := ⟨RX6, "grant", "(III)I"⟩
abbrev cX6_leave : ByteArray := prog_1_method_8_code
def yX6_leave : MethodName := ⟨RX6, "leave", "(II)V"⟩
abbrev cX6_take : ByteArray := prog_1_method_9_code
def yX6_take : MethodName := ⟨RX6, "take", "(I)I"⟩
abbrev cX6_lose : ByteArray := prog_1_method_10_code
def yX6_lose : MethodName := ⟨RX6, "lose", "(I)Z"⟩
abbrev cX6_inject : ByteArray := prog_1_method_11_code
def yX6_inject : MethodName := ⟨RX6, "inject", "(III)I"⟩
abbrev cX6_receive : ByteArray := prog_1_method_12_code
def yX6_receive : MethodName := ⟨RX6, "receive", "(II)I"⟩
abbrev cX6_octet : ByteArray := prog_1_method_13_code
def yX6_octet : MethodName := ⟨RX6, "octet", "(I)I"⟩
abbrev cX6_channel : ByteArray := prog_1_method_14_code
def yX6_channel : MethodName := ⟨RX6, "channel", "(III)I"⟩
abbrev cX6_count : ByteArray := prog_1_method_15_code
def yX6_count : MethodName := ⟨RX6, "count", "(II)I"⟩
abbrev cX6_isHost : ByteArray := prog_1_method_16_code
def yX6_isHost : MethodName := ⟨RX6, "isHost", "(I)Z"⟩
abbrev cX6_isChannel : ByteArray := prog_1_method_17_code
def yX6_isChannel : MethodName := ⟨RX6, "isChannel", "(I)Z"⟩
abbrev cX6_isOffer : ByteArray := prog_1_method_18_code
def yX6_isOffer : MethodName := ⟨RX6, "isOffer", "(IIII)Z"⟩
abbrev cX6_isFar : ByteArray := prog_1_method_19_code
def yX6_isFar : MethodName := ⟨RX6, "isFar", "(I)Z"⟩
abbrev cX6_sendWhatCanGo : ByteArray := prog_1_method_20_code
def yX6_sendWhatCanGo : MethodName := ⟨RX6, "sendWhatCanGo", "()V"⟩
def RX7 : String := "CreditLinkModel"
def TX7 : u_T := fun k => match k with
  | 0 => ("CreditLinkModel", "fault", "I", false)
  | 1 => ("CreditLinkModel", "store", "[I", true)
  | 2 => ("CreditLinkModel", "storeSize", "I", false)
  | 3 => ("CreditLinkModel", "isService", "[Z", true)
  | 4 => ("CreditLinkModel", "serviceMtu", "[I", true)
  | 5 => ("CreditLinkModel", "serviceMps", "[I", true)
  | 6 => ("CreditLinkModel", "serviceCredits", "[I", true)
  | 7 => ("CreditLinkModel", "state", "[I", true)
  | 8 => ("CreditLinkModel", "mtu", "[I", true)
  | 9 => ("CreditLinkModel", "mps", "[I", true)
  | 10 => ("CreditLinkModel", "given", "[I", true)
  | 11 => ("CreditLinkModel", "far", "[I", true)
  | 12 => ("CreditLinkModel", "farMtu", "[I", true)
  | 13 => ("CreditLinkModel", "farMps", "[I", true)
  | 14 => ("CreditLinkModel", "credits", "[I", true)
  | 15 => ("CreditLinkModel", "idOf", "[I", true)
  | 16 => ("CreditLinkModel", "texts", "[I", true)
  | 17 => ("CreditLinkModel", "textSize", "[I", true)
  | 18 => ("CreditLinkModel", "textBytes", "[I", true)
  | 19 => ("CreditLinkModel", "come", "[I", true)
  | 20 => ("CreditLinkModel", "due", "[I", true)
  | 21 => ("CreditLinkModel", "got", "[I", true)
  | 22 => ("CreditLinkModel", "gotBytes", "[I", true)
  | 23 => ("CreditLinkModel", "kept", "[I", true)
  | 24 => ("CreditLinkModel", "keptSize", "[I", true)
  | 25 => ("CreditLinkModel", "keptBytes", "[I", true)
  | 26 => ("CreditLinkModel", "firstSignal", "[I", true)
  | 27 => ("CreditLinkModel", "signals", "[I", true)
  | 28 => ("CreditLinkModel", "signalSize", "[I", true)
  | 29 => ("CreditLinkModel", "signalBytes", "[I", true)
  | 30 => ("CreditLinkModel", "nextId", "[I", true)
  | 31 => ("CreditLinkModel", "lastChannel", "[I", true)
  | 32 => ("CreditLinkModel", "unitSize", "[I", true)
  | 33 => ("CreditLinkModel", "unitAt", "[I", true)
  | 34 => ("CreditLinkModel", "unitBytes", "[I", true)
  | 35 => ("CreditLinkModel", "packets", "[I", true)
  | 36 => ("CreditLinkModel", "packetSize", "[I", true)
  | 37 => ("CreditLinkModel", "isMarked", "[Z", true)
  | 38 => ("CreditLinkModel", "isOwn", "[Z", true)
  | 39 => ("CreditLinkModel", "packetBytes", "[I", true)
  | 40 => ("CreditLinkModel", "gathered", "[I", true)
  | 41 => ("CreditLinkModel", "gatherBytes", "[I", true)
  | 42 => ("CreditLinkModel", "units", "[I", true)
  | 43 => ("CreditLinkModel", "dropped", "[I", true)
  | 44 => ("CreditLinkModel", "rejected", "[I", true)
  | 45 => ("CreditLinkModel", "hand", "[I", true)
  | 46 => ("CreditLinkModel", "made", "[I", true)
  | _ => ("CreditLinkModel", "madeSize", "I", false)
def tyX7 : Nat → FieldType := fun k => match k with
  | 0 => .int
  | 1 => .array .int
  | 2 => .int
  | 3 => .array .boolean
  | 4 => .array .int
  | 5 => .array .int
  | 6 => .array .int
  | 7 => .array .int
  | 8 => .array .int
  | 9 => .array .int
  | 10 => .array .int
  | 11 => .array .int
  | 12 => .array .int
  | 13 => .array .int
  | 14 => .array .int
  | 15 => .array .int
  | 16 => .array .int
  | 17 => .array .int
  | 18 => .array .int
  | 19 => .array .int
  | 20 => .array .int
  | 21 => .array .int
  | 22 => .array .int
  | 23 => .array .int
  | 24 => .array .int
  | 25 => .array .int
  | 26 => .array .int
  | 27 => .array .int
  | 28 => .array .int
  | 29 => .array .int
  | 30 => .array .int
  | 31 => .array .int
  | 32 => .array .int
  | 33 => .array .int
  | 34 => .array .int
  | 35 => .array .int
  | 36 => .array .int
  | 37 => .array .boolean
  | 38 => .array .boolean
  | 39 => .array .int
  | 40 => .array .int
  | 41 => .array .int
  | 42 => .array .int
  | 43 => .array .int
  | 44 => .array .int
  | 45 => .array .int
  | 46 => .array .int
  | _ => .int
abbrev wsX70 : List Cond := u_ws RX7 TX7 48
theorem nmX7 : ∀ a, a < 48 → ∀ b, b < 48 → a ≠ b → (TX7 a).2.1 ≠ (TX7 b).2.1 := by decide +kernel
theorem tyX7_ok : ∀ k, k < 48 → parseFieldDescriptor (TX7 k).2.2.1 = some (tyX7 k) := by decide +kernel
abbrev cX7_init : ByteArray := prog_9_method_1_code
def yX7_init : MethodName := ⟨RX7, "<init>", "()V"⟩
abbrev cX7_thrown : ByteArray := prog_9_method_2_code
def yX7_thrown : MethodName := ⟨RX7, "thrown", "()I"⟩
abbrev cX7_refused : ByteArray := prog_9_method_3_code
def yX7_refused : MethodName := ⟨RX7, "refused", "(I)Z"⟩
abbrev cX7_isIn : ByteArray := prog_9_method_4_code
def yX7_isIn : MethodName := ⟨RX7, "isIn", "(III)Z"⟩
abbrev cX7_isHost : ByteArray := prog_9_method_5_code
def yX7_isHost : MethodName := ⟨RX7, "isHost", "(I)Z"⟩
abbrev cX7_isChannel : ByteArray := prog_9_method_6_code
def yX7_isChannel : MethodName := ⟨RX7, "isChannel", "(II)Z"⟩
abbrev cX7_buffersOf : ByteArray := prog_9_method_7_code
def yX7_buffersOf : MethodName := ⟨RX7, "buffersOf", "(I)I"⟩
abbrev cX7_post : ByteArray := prog_9_method_8_code
def yX7_post : MethodName := ⟨RX7, "post", "(IIIZZI)V"⟩
abbrev cX7_unitHead : ByteArray := prog_9_method_9_code
def yX7_unitHead : MethodName := ⟨RX7, "unitHead", "(III)V"⟩
abbrev cX7_unitByte : ByteArray := prog_9_method_10_code
def yX7_unitByte : MethodName := ⟨RX7, "unitByte", "(II)V"⟩
abbrev cX7_beginSignal : ByteArray := prog_9_method_11_code
def yX7_beginSignal : MethodName := ⟨RX7, "beginSignal", "(I)V"⟩
abbrev cX7_textByte : ByteArray := prog_9_method_12_code
def yX7_textByte : MethodName := ⟨RX7, "textByte", "(II)I"⟩
abbrev cX7_beginSegment : ByteArray := prog_9_method_13_code
def yX7_beginSegment : MethodName := ⟨RX7, "beginSegment", "(II)V"⟩
abbrev cX7_nextChannel : ByteArray := prog_9_method_14_code
def yX7_nextChannel : MethodName := ⟨RX7, "nextChannel", "(I)I"⟩
abbrev cX7_sendAll : ByteArray := prog_9_method_15_code
def yX7_sendAll : MethodName := ⟨RX7, "sendAll", "(I)V"⟩
abbrev cX7_sendBoth : ByteArray := prog_9_method_16_code
def yX7_sendBoth : MethodName := ⟨RX7, "sendBoth", "()V"⟩
abbrev cX7_begin : ByteArray := prog_9_method_17_code
def yX7_begin : MethodName := ⟨RX7, "begin", "(III)V"⟩
abbrev cX7_two : ByteArray := prog_9_method_18_code
def yX7_two : MethodName := ⟨RX7, "two", "(I)V"⟩
abbrev cX7_wait : ByteArray := prog_9_method_19_code
def yX7_wait : MethodName := ⟨RX7, "wait", "(I)V"⟩
abbrev cX7_takeId : ByteArray := prog_9_method_20_code
def yX7_takeId : MethodName := ⟨RX7, "takeId", "(I)I"⟩
abbrev cX7_dropTexts : ByteArray := prog_9_method_21_code
def yX7_dropTexts : MethodName := ⟨RX7, "dropTexts", "(I)V"⟩
abbrev cX7_leaveNow : ByteArray := prog_9_method_22_code
def yX7_leaveNow : MethodName := ⟨RX7, "leaveNow", "(II)V"⟩
abbrev cX7_close : ByteArray := prog_9_method_23_code
def yX7_close : MethodName := ⟨RX7, "close", "(I)V"⟩
abbrev cX7_firstClosed : ByteArray := prog_9_method_24_code
def yX7_firstClosed : MethodName := ⟨RX7, "firstClosed", "(I)I"⟩
abbrev cX7_reject : ByteArray := prog_9_method_25_code
def yX7_reject : MethodName := ⟨RX7, "reject", "(IIII)V"⟩
abbrev cX7_handTwo : ByteArray := prog_9_method_26_code
def yX7_handTwo : MethodName := ⟨RX7, "handTwo", "(I)I"⟩
abbrev cX7_isSound : ByteArray := prog_9_method_27_code
def yX7_isSound : MethodName := ⟨RX7, "isSound", "(II)Z"⟩
abbrev cX7_resultOf : ByteArray := prog_9_method_28_code
def yX7_resultOf : MethodName := ⟨RX7, "resultOf", "(IIIII)I"⟩
abbrev cX7_request : ByteArray := prog_9_method_29_code
def yX7_request : MethodName := ⟨RX7, "request", "(II)V"⟩
abbrev cX7_response : ByteArray := prog_9_method_30_code
def yX7_response : MethodName := ⟨RX7, "response", "(I)V"⟩
abbrev cX7_credit : ByteArray := prog_9_method_31_code
def yX7_credit : MethodName := ⟨RX7, "credit", "(I)V"⟩
abbrev cX7_signal : ByteArray := prog_9_method_32_code
def yX7_signal : MethodName := ⟨RX7, "signal", "(II)V"⟩
abbrev cX7_byId : ByteArray := prog_9_method_33_code
def yX7_byId : MethodName := ⟨RX7, "byId", "(III)V"⟩
abbrev cX7_segment : ByteArray := prog_9_method_34_code
def yX7_segment : MethodName := ⟨RX7, "segment", "(IIII)V"⟩
abbrev cX7_unit : ByteArray := prog_9_method_35_code
def yX7_unit : MethodName := ⟨RX7, "unit", "(I)V"⟩
abbrev cX7_shift : ByteArray := prog_9_method_36_code
def yX7_shift : MethodName := ⟨RX7, "shift", "(I)I"⟩
abbrev cX7_gather : ByteArray := prog_9_method_37_code
def yX7_gather : MethodName := ⟨RX7, "gather", "(IIZ)V"⟩
abbrev cX7_take : ByteArray := prog_9_method_38_code
def yX7_take : MethodName := ⟨RX7, "take", "(I)I"⟩
abbrev cX7_lose : ByteArray := prog_9_method_39_code
def yX7_lose : MethodName := ⟨RX7, "lose", "(I)Z"⟩
abbrev cX7_inject : ByteArray := prog_9_method_40_code
def yX7_inject : MethodName := ⟨RX7, "inject", "(III)I"⟩
abbrev cX7_isTold : ByteArray := prog_9_method_41_code
def yX7_isTold : MethodName := ⟨RX7, "isTold", "(IIIII)Z"⟩
abbrev cX7_service : ByteArray := prog_9_method_42_code
def yX7_service : MethodName := ⟨RX7, "service", "(IIIII)V"⟩
abbrev cX7_connect : ByteArray := prog_9_method_43_code
def yX7_connect : MethodName := ⟨RX7, "connect", "(IIIII)I"⟩
abbrev cX7_feed : ByteArray := prog_9_method_44_code
def yX7_feed : MethodName := ⟨RX7, "feed", "(IIIII)I"⟩
abbrev cX7_erase : ByteArray := prog_9_method_45_code
def yX7_erase : MethodName := ⟨RX7, "erase", "()I"⟩
abbrev cX7_wrong : ByteArray := prog_9_method_46_code
def yX7_wrong : MethodName := ⟨RX7, "wrong", "(IIZ)I"⟩
abbrev cX7_send : ByteArray := prog_9_method_47_code
def yX7_send : MethodName := ⟨RX7, "send", "(II)I"⟩
abbrev cX7_grant : ByteArray := prog_9_method_48_code
def yX7_grant : MethodName := ⟨RX7, "grant", "(III)I"⟩
abbrev cX7_leave : ByteArray := prog_9_method_49_code
def yX7_leave : MethodName := ⟨RX7, "leave", "(II)V"⟩
abbrev cX7_receive : ByteArray := prog_9_method_50_code
def yX7_receive : MethodName := ⟨RX7, "receive", "(II)I"⟩
abbrev cX7_octet : ByteArray := prog_9_method_51_code
def yX7_octet : MethodName := ⟨RX7, "octet", "(I)I"⟩
abbrev cX7_channel : ByteArray := prog_9_method_52_code
def yX7_channel : MethodName := ⟨RX7, "channel", "(III)I"⟩
abbrev cX7_count : ByteArray := prog_9_method_53_code
def yX7_count : MethodName := ⟨RX7, "count", "(II)I"⟩
def RJx145de : String := "java/io/Serializable"
def TJx145de : u_T := fun k => match k with
  | _ => ("", "", "", false)
def tyJx145de : Nat → FieldType := fun k => match k with
  | _ => .int
abbrev wsJx145de0 : List Cond := u_ws RJx145de TJx145de 0
theorem nmJx145de : ∀ a, a < 0 → ∀ b, b < 0 → a ≠ b → (TJx145de a).2.1 ≠ (TJx145de b).2.1 := by decide +kernel
theorem tyJx145de_ok : ∀ k, k < 0 → parseFieldDescriptor (TJx145de k).2.2.1 = some (tyJx145de k) := by decide +kernel
def RJx8e188 : String := "java/lang/Cloneable"
def TJx8e188 : u_T := fun k => match k with
  | _ => ("", "", "", false)
def tyJx8e188 : Nat → FieldType := fun k => match k with
  | _ => .int
abbrev wsJx8e1880 : List Cond := u_ws RJx8e188 TJx8e188 0
theorem nmJx8e188 : ∀ a, a < 0 → ∀ b, b < 0 → a ≠ b → (TJx8e188 a).2.1 ≠ (TJx8e188 b).2.1 := by decide +kernel
theorem tyJx8e188_ok : ∀ k, k < 0 → parseFieldDescriptor (TJx8e188 k).2.2.1 = some (tyJx8e188 k) := by decide +kernel
def RJxab1ab : String := "java/lang/Iterable"
def TJxab1ab : u_T := fun k => match k with
  | _ => ("", "", "", false)
def tyJxab1ab : Nat → FieldType := fun k => match k with
  | _ => .int
abbrev wsJxab1ab0 : List Cond := u_ws RJxab1ab TJxab1ab 0
theorem nmJxab1ab : ∀ a, a < 0 → ∀ b, b < 0 → a ≠ b → (TJxab1ab a).2.1 ≠ (TJxab1ab b).2.1 := by decide +kernel
theorem tyJxab1ab_ok : ∀ k, k < 0 → parseFieldDescriptor (TJxab1ab k).2.2.1 = some (tyJxab1ab k) := by decide +kernel
def RJ9 : String := "java/lang/Math"
def TJ9 : u_T := fun k => match k with
  | _ => ("", "", "", false)
def tyJ9 : Nat → FieldType := fun k => match k with
  | _ => .int
abbrev wsJ90 : List Cond := u_ws RJ9 TJ9 0
theorem nmJ9 : ∀ a, a < 0 → ∀ b, b < 0 → a ≠ b → (TJ9 a).2.1 ≠ (TJ9 b).2.1 := by decide +kernel
theorem tyJ9_ok : ∀ k, k < 0 → parseFieldDescriptor (TJ9 k).2.2.1 = some (tyJ9 k) := by decide +kernel
abbrev cJ9_max_7cf53 : ByteArray := prog_16_method_65_code
def yJ9_max_7cf53 : MethodName := ⟨RJ9, "max", "(II)I"⟩
abbrev cJ9_min_7cf53 : ByteArray := prog_16_method_69_code
def yJ9_min_7cf53 : MethodName := ⟨RJ9, "min", "(II)I"⟩
def RJ10 : String := "java/lang/System"
def TJ10 : u_T := fun k => match k with
  | _ => ("", "", "", false)
def tyJ10 : Nat → FieldType := fun k => match k with
  | _ => .int
abbrev wsJ100 : List Cond := u_ws RJ10 TJ10 0
theorem nmJ10 : ∀ a, a < 0 → ∀ b, b < 0 → a ≠ b → (TJ10 a).2.1 ≠ (TJ10 b).2.1 := by decide +kernel
theorem tyJ10_ok : ∀ k, k < 0 → parseFieldDescriptor (TJ10 k).2.2.1 = some (tyJ10 k) := by decide +kernel
def RJxa1e45 : String := "java/util/AbstractCollection"
def TJxa1e45 : u_T := fun k => match k with
  | _ => ("", "", "", false)
def tyJxa1e45 : Nat → FieldType := fun k => match k with
  | _ => .int
abbrev wsJxa1e450 : List Cond := u_ws RJxa1e45 TJxa1e45 0
theorem nmJxa1e45 : ∀ a, a < 0 → ∀ b, b < 0 → a ≠ b → (TJxa1e45 a).2.1 ≠ (TJxa1e45 b).2.1 := by decide +kernel
theorem tyJxa1e45_ok : ∀ k, k < 0 → parseFieldDescriptor (TJxa1e45 k).2.2.1 = some (tyJxa1e45 k) := by decide +kernel
abbrev cJxa1e45_init_da8c8 : ByteArray := prog_20_method_1_code
def yJxa1e45_init_da8c8 : MethodName := ⟨RJxa1e45, "<init>", "()V"⟩
def RJxc12de : String := "java/util/AbstractList"
def TJxc12de : u_T := fun k => match k with
  | _ => ("", "", "", false)
def tyJxc12de : Nat → FieldType := fun k => match k with
  | _ => .int
abbrev wsJxc12de0 : List Cond := u_ws RJxc12de TJxc12de 0
theorem nmJxc12de : ∀ a, a < 0 → ∀ b, b < 0 → a ≠ b → (TJxc12de a).2.1 ≠ (TJxc12de b).2.1 := by decide +kernel
theorem tyJxc12de_ok : ∀ k, k < 0 → parseFieldDescriptor (TJxc12de k).2.2.1 = some (tyJxc12de k) := by decide +kernel
abbrev cJxc12de_init_da8c8 : ByteArray := prog_21_method_1_code
def yJxc12de_init_da8c8 : MethodName := ⟨RJxc12de, "<init>", "()V"⟩
def RJx4a65c : String := "java/util/ArrayList"
def TJx4a65c : u_T := fun k => match k with
  | 0 => ("java/util/AbstractList", "modCount", "I", false)
  | 1 => ("java/util/ArrayList", "elementData", "[Ljava/lang/Object;", false)
  | _ => ("java/util/ArrayList", "size", "I", false)
def tyJx4a65c : Nat → FieldType := fun k => match k with
  | 0 => .int
  | 1 => .array (.object "java/lang/Object")
  | _ => .int
abbrev wsJx4a65c0 : List Cond := u_ws RJx4a65c TJx4a65c 3
theorem nmJx4a65c : ∀ a, a < 3 → ∀ b, b < 3 → a ≠ b → (TJx4a65c a).2.1 ≠ (TJx4a65c b).2.1 := by decide +kernel
theorem tyJx4a65c_ok : ∀ k, k < 3 → parseFieldDescriptor (TJx4a65c k).2.2.1 = some (tyJx4a65c k) := by decide +kernel
abbrev cJx4a65c_init_da8c8 : ByteArray := prog_22_method_2_code
def yJx4a65c_init_da8c8 : MethodName := ⟨RJx4a65c, "<init>", "()V"⟩
abbrev cJx4a65c_grow_92f84 : ByteArray := prog_22_method_6_code
def yJx4a65c_grow_92f84 : MethodName := ⟨RJx4a65c, "grow", "(I)[Ljava/lang/Object;"⟩
abbrev cJx4a65c_grow_d5877 : ByteArray := prog_22_method_7_code
def yJx4a65c_grow_d5877 : MethodName := ⟨RJx4a65c, "grow", "()[Ljava/lang/Object;"⟩
abbrev cJx4a65c_size_8abf5 : ByteArray := prog_22_method_8_code
def yJx4a65c_size_8abf5 : MethodName := ⟨RJx4a65c, "size", "()I"⟩
abbrev cJx4a65c_isEmpty_aae02 : ByteArray := prog_22_method_9_code
def yJx4a65c_isEmpty_aae02 : MethodName := ⟨RJx4a65c, "isEmpty", "()Z"⟩
abbrev cJx4a65c_add_72be8 : ByteArray := prog_22_method_24_code
def yJx4a65c_add_72be8 : MethodName := ⟨RJx4a65c, "add", "(Ljava/lang/Object;[Ljava/lang/Object;I)V"⟩
abbrev cJx4a65c_add_9ea2d : ByteArray := prog_22_method_25_code
def yJx4a65c_add_9ea2d : MethodName := ⟨RJx4a65c, "add", "(Ljava/lang/Object;)Z"⟩
abbrev cJx4a65c_remove_915e3 : ByteArray := prog_22_method_29_code
def yJx4a65c_remove_915e3 : MethodName := ⟨RJx4a65c, "remove", "(I)Ljava/lang/Object;"⟩
abbrev cJx4a65c_fastRemove_b59b0 : ByteArray := prog_22_method_39_code
def yJx4a65c_fastRemove_b59b0 : MethodName := ⟨RJx4a65c, "fastRemove", "([Ljava/lang/Object;I)V"⟩
def RJ7 : String := "java/util/Arrays"
def TJ7 : u_T := fun k => match k with
  | _ => ("", "", "", false)
def tyJ7 : Nat → FieldType := fun k => match k with
  | _ => .int
abbrev wsJ70 : List Cond := u_ws RJ7 TJ7 0
theorem nmJ7 : ∀ a, a < 0 → ∀ b, b < 0 → a ≠ b → (TJ7 a).2.1 ≠ (TJ7 b).2.1 := by decide +kernel
theorem tyJ7_ok : ∀ k, k < 0 → parseFieldDescriptor (TJ7 k).2.2.1 = some (tyJ7 k) := by decide +kernel
abbrev cJ7_copyOf_1904c : ByteArray := prog_23_method_119_code
def yJ7_copyOf_1904c : MethodName := ⟨RJ7, "copyOf", "([Ljava/lang/Object;I)[Ljava/lang/Object;"⟩
abbrev cJ7_copyOf_6403c : ByteArray := prog_23_method_120_code
def yJ7_copyOf_6403c : MethodName := ⟨RJ7, "copyOf", "([Ljava/lang/Object;ILjava/lang/Class;)[Ljava/lang/Object;"⟩
def RJx5ef63 : String := "java/util/Collection"
def TJx5ef63 : u_T := fun k => match k with
  | _ => ("", "", "", false)
def tyJx5ef63 : Nat → FieldType := fun k => match k with
  | _ => .int
abbrev wsJx5ef630 : List Cond := u_ws RJx5ef63 TJx5ef63 0
theorem nmJx5ef63 : ∀ a, a < 0 → ∀ b, b < 0 → a ≠ b → (TJx5ef63 a).2.1 ≠ (TJx5ef63 b).2.1 := by decide +kernel
theorem tyJx5ef63_ok : ∀ k, k < 0 → parseFieldDescriptor (TJx5ef63 k).2.2.1 = some (tyJx5ef63 k) := by decide +kernel
def RJxbd725 : String := "java/util/List"
def TJxbd725 : u_T := fun k => match k with
  | _ => ("", "", "", false)
def tyJxbd725 : Nat → FieldType := fun k => match k with
  | _ => .int
abbrev wsJxbd7250 : List Cond := u_ws RJxbd725 TJxbd725 0
theorem nmJxbd725 : ∀ a, a < 0 → ∀ b, b < 0 → a ≠ b → (TJxbd725 a).2.1 ≠ (TJxbd725 b).2.1 := by decide +kernel
theorem tyJxbd725_ok : ∀ k, k < 0 → parseFieldDescriptor (TJxbd725 k).2.2.1 = some (tyJxbd725 k) := by decide +kernel
def RJ15 : String := "java/util/Objects"
def TJ15 : u_T := fun k => match k with
  | _ => ("", "", "", false)
def tyJ15 : Nat → FieldType := fun k => match k with
  | _ => .int
abbrev wsJ150 : List Cond := u_ws RJ15 TJ15 0
theorem nmJ15 : ∀ a, a < 0 → ∀ b, b < 0 → a ≠ b → (TJ15 a).2.1 ≠ (TJ15 b).2.1 := by decide +kernel
theorem tyJ15_ok : ∀ k, k < 0 → parseFieldDescriptor (TJ15 k).2.2.1 = some (tyJ15 k) := by decide +kernel
abbrev cJ15_checkIndex_7cf53 : ByteArray := prog_26_method_17_code
def yJ15_checkIndex_7cf53 : MethodName := ⟨RJ15, "checkIndex", "(II)I"⟩
def RJxf0a74 : String := "java/util/RandomAccess"
def TJxf0a74 : u_T := fun k => match k with
  | _ => ("", "", "", false)
def tyJxf0a74 : Nat → FieldType := fun k => match k with
  | _ => .int
abbrev wsJxf0a740 : List Cond := u_ws RJxf0a74 TJxf0a74 0
theorem nmJxf0a74 : ∀ a, a < 0 → ∀ b, b < 0 → a ≠ b → (TJxf0a74 a).2.1 ≠ (TJxf0a74 b).2.1 := by decide +kernel
theorem tyJxf0a74_ok : ∀ k, k < 0 → parseFieldDescriptor (TJxf0a74 k).2.2.1 = some (tyJxf0a74 k) := by decide +kernel
def RJxa66e6 : String := "java/util/SequencedCollection"
def TJxa66e6 : u_T := fun k => match k with
  | _ => ("", "", "", false)
def tyJxa66e6 : Nat → FieldType := fun k => match k with
  | _ => .int
abbrev wsJxa66e60 : List Cond := u_ws RJxa66e6 TJxa66e6 0
theorem nmJxa66e6 : ∀ a, a < 0 → ∀ b, b < 0 → a ≠ b → (TJxa66e6 a).2.1 ≠ (TJxa66e6 b).2.1 := by decide +kernel
theorem tyJxa66e6_ok : ∀ k, k < 0 → parseFieldDescriptor (TJxa66e6 k).2.2.1 = some (tyJxa66e6 k) := by decide +kernel
def RJ8 : String := "jdk/internal/util/ArraysSupport"
def TJ8 : u_T := fun k => match k with
  | _ => ("", "", "", false)
def tyJ8 : Nat → FieldType := fun k => match k with
  | _ => .int
abbrev wsJ80 : List Cond := u_ws RJ8 TJ8 0
theorem nmJ8 : ∀ a, a < 0 → ∀ b, b < 0 → a ≠ b → (TJ8 a).2.1 ≠ (TJ8 b).2.1 := by decide +kernel
theorem tyJ8_ok : ∀ k, k < 0 → parseFieldDescriptor (TJ8 k).2.2.1 = some (tyJ8 k) := by decide +kernel
abbrev cJ8_newLength_cabcc : ByteArray := prog_29_method_27_code
def yJ8_newLength_cabcc : MethodName := ⟨RJ8, "newLength", "(III)I"⟩
abbrev cJ8_hugeLength_7cf53 : ByteArray := prog_29_method_28_code
def yJ8_hugeLength_7cf53 : MethodName := ⟨RJ8, "hugeLength", "(II)I"⟩
def RJ3 : String := "jdk/internal/util/Preconditions"
def TJ3 : u_T := fun k => match k with
  | _ => ("", "", "", false)
def tyJ3 : Nat → FieldType := fun k => match k with
  | _ => .int
abbrev wsJ30 : List Cond := u_ws RJ3 TJ3 0
theorem nmJ3 : ∀ a, a < 0 → ∀ b, b < 0 → a ≠ b → (TJ3 a).2.1 ≠ (TJ3 b).2.1 := by decide +kernel
theorem tyJ3_ok : ∀ k, k < 0 → parseFieldDescriptor (TJ3 k).2.2.1 = some (tyJ3 k) := by decide +kernel
abbrev cJ3_checkIndex_8e157 : ByteArray := prog_30_method_11_code
def yJ3_checkIndex_8e157 : MethodName := ⟨RJ3, "checkIndex", "(IILjava/util/function/BiFunction;)I"⟩
def RL : String := "CreditLinkLaw"
abbrev cL_service : ByteArray := method_3_code
def yL_service : MethodName := ⟨RL, "service", "(LCreditLink;IIIII)I"⟩
abbrev cL_connect : ByteArray := method_4_code
def yL_connect : MethodName := ⟨RL, "connect", "(LCreditLink;IIIII[J)I"⟩
abbrev cL_feed : ByteArray := method_5_code
def yL_feed : MethodName := ⟨RL, "feed", "(LCreditLink;IIIII[J)I"⟩
abbrev cL_send : ByteArray := method_6_code
def yL_send : MethodName := ⟨RL, "send", "(LCreditLink;II[J)I"⟩
abbrev cL_grant : ByteArray := method_7_code
def yL_grant : MethodName := ⟨RL, "grant", "(LCreditLink;III[J)I"⟩
abbrev cL_leave : ByteArray := method_8_code
def yL_leave : MethodName := ⟨RL, "leave", "(LCreditLink;II)I"⟩
abbrev cL_take : ByteArray := method_9_code
def yL_take : MethodName := ⟨RL, "take", "(LCreditLink;I[J)I"⟩
abbrev cL_lose : ByteArray := method_10_code
def yL_lose : MethodName := ⟨RL, "lose", "(LCreditLink;I[J)I"⟩
abbrev cL_inject : ByteArray := method_11_code
def yL_inject : MethodName := ⟨RL, "inject", "(LCreditLink;III[J)I"⟩
abbrev cL_receive : ByteArray := method_12_code
def yL_receive : MethodName := ⟨RL, "receive", "(LCreditLink;II[J)I"⟩
abbrev cL_channel : ByteArray := method_13_code
def yL_channel : MethodName := ⟨RL, "channel", "(LCreditLink;III[J)I"⟩
abbrev cL_count : ByteArray := method_14_code
def yL_count : MethodName := ⟨RL, "count", "(LCreditLink;II[J)I"⟩
abbrev cL_law : ByteArray := code
def yL_law : MethodName := ⟨RL, "law", "([I)Z"⟩
abbrev vwCl : List vw_C := [(RJx4a65c, TJx4a65c, 3), (RX0, TX0, 15), (RX1, TX1, 14), (RX2, TX2, 3), (RX3, TX3, 2), (RX4, TX4, 3), (RX5, TX5, 4), (RX6, TX6, 3), (RX7, TX7, 48)]
