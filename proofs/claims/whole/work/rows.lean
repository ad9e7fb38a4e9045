section
-- ===== PART A: goes FIRST, ahead of the names: the tables' words, and 'selects' of the private methods out of them =====
/-- a private method of a class that the tables say can be made, by its rows of tables_1 -/
def lw_okq (q : MethodName × Nat) : Prop := (q.1.cls ≠ "java/lang/invoke/MethodHandle" ∧ q.1.cls ≠ "java/lang/invoke/VarHandle") ∧ Cond.instantiable q.1.cls q.2 ∈ tables_1 ∧ Cond.privateMethod q.1 ∈ tables_1 ∧ Cond.instanceMethod q.1 ∈ tables_1
theorem lw_p0 : lw_okq (⟨"StrikingWork", "refuse", "(I)I"⟩, 5) := ⟨⟨by decide +kernel, by decide +kernel⟩, List.mem_of_getElem? (i := 8) (by decide +kernel), List.mem_of_getElem? (i := 132) (by decide +kernel), List.mem_of_getElem? (i := 133) (by decide +kernel)⟩
theorem lw_p1 : lw_okq (⟨"StrikingWork", "save", "()V"⟩, 5) := ⟨⟨by decide +kernel, by decide +kernel⟩, List.mem_of_getElem? (i := 8) (by decide +kernel), List.mem_of_getElem? (i := 139) (by decide +kernel), List.mem_of_getElem? (i := 140) (by decide +kernel)⟩
theorem lw_p2 : lw_okq (⟨"StrikingWork", "dropOldestSaved", "()V"⟩, 5) := ⟨⟨by decide +kernel, by decide +kernel⟩, List.mem_of_getElem? (i := 8) (by decide +kernel), List.mem_of_getElem? (i := 143) (by decide +kernel), List.mem_of_getElem? (i := 144) (by decide +kernel)⟩
theorem lw_p3 : lw_okq (⟨"StrikingWork", "strikeQuarter", "()I"⟩, 5) := ⟨⟨by decide +kernel, by decide +kernel⟩, List.mem_of_getElem? (i := 8) (by decide +kernel), List.mem_of_getElem? (i := 189) (by decide +kernel), List.mem_of_getElem? (i := 190) (by decide +kernel)⟩
theorem lw_p4 : lw_okq (⟨"StrikingWork", "release", "(LStrikingWork$Train;IZ)I"⟩, 5) := ⟨⟨by decide +kernel, by decide +kernel⟩, List.mem_of_getElem? (i := 8) (by decide +kernel), List.mem_of_getElem? (i := 207) (by decide +kernel), List.mem_of_getElem? (i := 208) (by decide +kernel)⟩
theorem lw_p5 : lw_okq (⟨"StrikingWorkModel", "error", "(I)I"⟩, 6) := ⟨⟨by decide +kernel, by decide +kernel⟩, List.mem_of_getElem? (i := 353) (by decide +kernel), List.mem_of_getElem? (i := 391) (by decide +kernel), List.mem_of_getElem? (i := 392) (by decide +kernel)⟩
theorem lw_p6 : lw_okq (⟨"StrikingWorkModel", "save", "()V"⟩, 6) := ⟨⟨by decide +kernel, by decide +kernel⟩, List.mem_of_getElem? (i := 353) (by decide +kernel), List.mem_of_getElem? (i := 395) (by decide +kernel), List.mem_of_getElem? (i := 396) (by decide +kernel)⟩
theorem lw_p7 : lw_okq (⟨"StrikingWorkModel", "tick", "()I"⟩, 6) := ⟨⟨by decide +kernel, by decide +kernel⟩, List.mem_of_getElem? (i := 353) (by decide +kernel), List.mem_of_getElem? (i := 421) (by decide +kernel), List.mem_of_getElem? (i := 422) (by decide +kernel)⟩
theorem lw_p8 : lw_okq (⟨"StrikingWorkModel", "silentAt", "(I)Z"⟩, 6) := ⟨⟨by decide +kernel, by decide +kernel⟩, List.mem_of_getElem? (i := 353) (by decide +kernel), List.mem_of_getElem? (i := 425) (by decide +kernel), List.mem_of_getElem? (i := 426) (by decide +kernel)⟩
theorem lw_p9 : lw_okq (⟨"StrikingWorkModel", "release", "(IIZ)I"⟩, 6) := ⟨⟨by decide +kernel, by decide +kernel⟩, List.mem_of_getElem? (i := 353) (by decide +kernel), List.mem_of_getElem? (i := 432) (by decide +kernel), List.mem_of_getElem? (i := 433) (by decide +kernel)⟩
theorem lw_p10 : lw_okq (⟨"StrikingWorkModel", "blowsOf", "(II)I"⟩, 6) := ⟨⟨by decide +kernel, by decide +kernel⟩, List.mem_of_getElem? (i := 353) (by decide +kernel), List.mem_of_getElem? (i := 436) (by decide +kernel), List.mem_of_getElem? (i := 437) (by decide +kernel)⟩
theorem lw_p11 : lw_okq (⟨"StrikingWorkModel", "strike", "(IIZ)I"⟩, 6) := ⟨⟨by decide +kernel, by decide +kernel⟩, List.mem_of_getElem? (i := 353) (by decide +kernel), List.mem_of_getElem? (i := 440) (by decide +kernel), List.mem_of_getElem? (i := 441) (by decide +kernel)⟩
theorem lw_p12 : lw_okq (⟨"StrikingWorkModel", "record", "(II)V"⟩, 6) := ⟨⟨by decide +kernel, by decide +kernel⟩, List.mem_of_getElem? (i := 353) (by decide +kernel), List.mem_of_getElem? (i := 444) (by decide +kernel), List.mem_of_getElem? (i := 445) (by decide +kernel)⟩
theorem lw_p13 : lw_okq (⟨"StrikingWorkModel", "lagAt", "(II)I"⟩, 6) := ⟨⟨by decide +kernel, by decide +kernel⟩, List.mem_of_getElem? (i := 353) (by decide +kernel), List.mem_of_getElem? (i := 464) (by decide +kernel), List.mem_of_getElem? (i := 465) (by decide +kernel)⟩
theorem lw_p14 : lw_okq (⟨"StrikingWorkModel", "valueOf", "(II)I"⟩, 6) := ⟨⟨by decide +kernel, by decide +kernel⟩, List.mem_of_getElem? (i := 353) (by decide +kernel), List.mem_of_getElem? (i := 488) (by decide +kernel), List.mem_of_getElem? (i := 489) (by decide +kernel)⟩
theorem lw_p15 : lw_okq (⟨"StrikingWorkModel", "entry", "(III)I"⟩, 6) := ⟨⟨by decide +kernel, by decide +kernel⟩, List.mem_of_getElem? (i := 353) (by decide +kernel), List.mem_of_getElem? (i := 512) (by decide +kernel), List.mem_of_getElem? (i := 513) (by decide +kernel)⟩
def lw_privs_1 : List (MethodName × Nat) := [(⟨"StrikingWork", "refuse", "(I)I"⟩, 5), (⟨"StrikingWork", "save", "()V"⟩, 5), (⟨"StrikingWork", "dropOldestSaved", "()V"⟩, 5), (⟨"StrikingWork", "strikeQuarter", "()I"⟩, 5), (⟨"StrikingWork", "release", "(LStrikingWork$Train;IZ)I"⟩, 5), (⟨"StrikingWorkModel", "error", "(I)I"⟩, 6), (⟨"StrikingWorkModel", "save", "()V"⟩, 6), (⟨"StrikingWorkModel", "tick", "()I"⟩, 6), (⟨"StrikingWorkModel", "silentAt", "(I)Z"⟩, 6), (⟨"StrikingWorkModel", "release", "(IIZ)I"⟩, 6), (⟨"StrikingWorkModel", "blowsOf", "(II)I"⟩, 6), (⟨"StrikingWorkModel", "strike", "(IIZ)I"⟩, 6), (⟨"StrikingWorkModel", "record", "(II)V"⟩, 6), (⟨"StrikingWorkModel", "lagAt", "(II)I"⟩, 6), (⟨"StrikingWorkModel", "valueOf", "(II)I"⟩, 6), (⟨"StrikingWorkModel", "entry", "(III)I"⟩, 6)]
theorem lw_r1 : ∀ q ∈ lw_privs_1, lw_okq q := List.forall_mem_cons.mpr ⟨lw_p0, List.forall_mem_cons.mpr ⟨lw_p1, List.forall_mem_cons.mpr ⟨lw_p2, List.forall_mem_cons.mpr ⟨lw_p3, List.forall_mem_cons.mpr ⟨lw_p4, List.forall_mem_cons.mpr ⟨lw_p5, List.forall_mem_cons.mpr ⟨lw_p6, List.forall_mem_cons.mpr ⟨lw_p7, List.forall_mem_cons.mpr ⟨lw_p8, List.forall_mem_cons.mpr ⟨lw_p9, List.forall_mem_cons.mpr ⟨lw_p10, List.forall_mem_cons.mpr ⟨lw_p11, List.forall_mem_cons.mpr ⟨lw_p12, List.forall_mem_cons.mpr ⟨lw_p13, List.forall_mem_cons.mpr ⟨lw_p14, List.forall_mem_cons.mpr ⟨lw_p15, fun _ h => absurd h List.not_mem_nil⟩⟩⟩⟩⟩⟩⟩⟩⟩⟩⟩⟩⟩⟩⟩⟩
theorem lw_p16 : lw_okq (⟨"StrikingWorkModel", "mix", "(J)V"⟩, 6) := ⟨⟨by decide +kernel, by decide +kernel⟩, List.mem_of_getElem? (i := 353) (by decide +kernel), List.mem_of_getElem? (i := 537) (by decide +kernel), List.mem_of_getElem? (i := 538) (by decide +kernel)⟩
def lw_privs_2 : List (MethodName × Nat) := [(⟨"StrikingWorkModel", "mix", "(J)V"⟩, 6)]
theorem lw_r2 : ∀ q ∈ lw_privs_2, lw_okq q := List.forall_mem_cons.mpr ⟨lw_p16, fun _ h => absurd h List.not_mem_nil⟩
def lw_privs : List (MethodName × Nat) := lw_privs_1 ++ (lw_privs_2)
def lw_tbl : List Cond := k2_sels lw_privs ++ tables_1
theorem lw_privs_ok : ∀ q ∈ lw_privs, lw_okq q := by
  show ∀ q ∈ lw_privs_1 ++ (lw_privs_2), lw_okq q
  exact List.forall_mem_append.mpr ⟨lw_r1, lw_r2⟩
end
section
/-! ===== BEGIN words of one list among another's, by their places ===== -/
theorem goodIn_r {big : List Cond} (ws : List Cond) (ps : List Nat) (hp : ws = ps.filterMap (fun i => big[i]?)) (h : ws.all goodWord = true) : GoodIn big ws := by
  intro w hw
  have h1 := List.all_eq_true.mp h w hw
  rw [hp] at hw
  obtain ⟨i, -, hi⟩ := List.mem_filterMap.mp hw
  have hm : w ∈ big := by first | exact List.mem_of_getElem? hi | exact List.getElem?_mem hi
  exact ⟨hm, good_of_word h1⟩
theorem goodIn_app {big a b : List Cond} (ha : GoodIn big a) (hb : GoodIn big b) : GoodIn big (a ++ b) := fun w h => (List.mem_append.mp h).elim (ha w) (hb w)
theorem goodIn_ca {big a b : List Cond} {c : Cond} (ha : GoodIn big (c :: a)) (hb : GoodIn big b) : GoodIn big (c :: (a ++ b)) := fun w h => (List.mem_cons.mp h).elim (fun e => ha w (List.mem_cons.mpr (Or.inl e))) (fun h => (List.mem_append.mp h).elim (fun h => ha w (List.mem_cons.mpr (Or.inr h))) (hb w))
theorem goodIn_sub {big ws : List Cond} (hm : ∀ w ∈ ws, w ∈ big) (h : ws.all goodWord = true) : GoodIn big ws := fun w hw => ⟨hm w hw, good_of_word (List.all_eq_true.mp h w hw)⟩
/-! ===== END ===== -/

/-! ===== BEGIN printed: names, fields, word lists, decode rows ===== -/
def RX0 : String := "StrikingWork$State"
def TX0 : u_T := fun k => match k with
  | 0 => ("StrikingWork$State", "hours", "LStrikingWork$Train;", true)
  | 1 => ("StrikingWork$State", "quarters", "LStrikingWork$Train;", true)
  | 2 => ("StrikingWork$State", "strikes", "LStrikingWork$Strikes;", true)
  | 3 => ("StrikingWork$State", "minute", "I", false)
  | 4 => ("StrikingWork$State", "silenceMode", "I", false)
  | 5 => ("StrikingWork$State", "silenceBegin", "I", false)
  | _ => ("StrikingWork$State", "silenceEnd", "I", false)
def tyX0 : Nat → FieldType := fun k => match k with
  | 0 => .object "StrikingWork$Train"
  | 1 => .object "StrikingWork$Train"
  | 2 => .object "StrikingWork$Strikes"
  | 3 => .int
  | 4 => .int
  | 5 => .int
  | _ => .int
abbrev wsX00 : List Cond := u_ws RX0 TX0 7
theorem nmX0 : ∀ a, a < 7 → ∀ b, b < 7 → a ≠ b → (TX0 a).2.1 ≠ (TX0 b).2.1 := by decide +kernel
theorem tyX0_ok : ∀ k, k < 7 → parseFieldDescriptor (TX0 k).2.2.1 = some (tyX0 k) := by decide +kernel
abbrev cX0_init : ByteArray := prog_2_method_1_code
def yX0_init : MethodName := ⟨RX0, "<init>", "()V"⟩
abbrev cX0_trainOf : ByteArray := prog_2_method_2_code
def yX0_trainOf : MethodName := ⟨RX0, "trainOf", "(I)LStrikingWork$Train;"⟩
abbrev cX0_hushesAt : ByteArray := prog_2_method_3_code
def yX0_hushesAt : MethodName := ⟨RX0, "hushesAt", "(I)Z"⟩
abbrev cX0_blocksAt : ByteArray := prog_2_method_4_code
def yX0_blocksAt : MethodName := ⟨RX0, "blocksAt", "(I)Z"⟩
abbrev cX0_copyFrom : ByteArray := prog_2_method_5_code
def yX0_copyFrom : MethodName := ⟨RX0, "copyFrom", "(LStrikingWork$State;)V"⟩
abbrev cX0_addToHash : ByteArray := prog_2_method_6_code
def yX0_addToHash : MethodName := ⟨RX0, "addToHash", "(J)J"⟩
def RX1 : String := "StrikingWork$Strikes"
def TX1 : u_T := fun k => match k with
  | 0 => ("StrikingWork$Strikes", "minutes", "[I", true)
  | 1 => ("StrikingWork$Strikes", "trains", "[I", true)
  | 2 => ("StrikingWork$Strikes", "blows", "[I", true)
  | _ => ("StrikingWork$Strikes", "count", "I", false)
def tyX1 : Nat → FieldType := fun k => match k with
  | 0 => .array .int
  | 1 => .array .int
  | 2 => .array .int
  | _ => .int
abbrev wsX10 : List Cond := u_ws RX1 TX1 4
theorem nmX1 : ∀ a, a < 4 → ∀ b, b < 4 → a ≠ b → (TX1 a).2.1 ≠ (TX1 b).2.1 := by decide +kernel
theorem tyX1_ok : ∀ k, k < 4 → parseFieldDescriptor (TX1 k).2.2.1 = some (tyX1 k) := by decide +kernel
abbrev cX1_init : ByteArray := prog_3_method_1_code
def yX1_init : MethodName := ⟨RX1, "<init>", "()V"⟩
abbrev cX1_put : ByteArray := prog_3_method_2_code
def yX1_put : MethodName := ⟨RX1, "put", "(III)V"⟩
abbrev cX1_copyFrom : ByteArray := prog_3_method_3_code
def yX1_copyFrom : MethodName := ⟨RX1, "copyFrom", "(LStrikingWork$Strikes;)V"⟩
abbrev cX1_addToHash : ByteArray := prog_3_method_4_code
def yX1_addToHash : MethodName := ⟨RX1, "addToHash", "(J)J"⟩
def RX2 : String := "StrikingWork$Train"
def TX2 : u_T := fun k => match k with
  | 0 => ("StrikingWork$Train", "number", "I", false)
  | 1 => ("StrikingWork$Train", "mechanism", "I", false)
  | 2 => ("StrikingWork$Train", "position", "I", false)
  | 3 => ("StrikingWork$Train", "weight", "I", false)
  | 4 => ("StrikingWork$Train", "sounded", "I", false)
  | _ => ("StrikingWork$Train", "missed", "I", false)
def tyX2 : Nat → FieldType := fun k => match k with
  | 0 => .int
  | 1 => .int
  | 2 => .int
  | 3 => .int
  | 4 => .int
  | _ => .int
abbrev wsX20 : List Cond := u_ws RX2 TX2 6
theorem nmX2 : ∀ a, a < 6 → ∀ b, b < 6 → a ≠ b → (TX2 a).2.1 ≠ (TX2 b).2.1 := by decide +kernel
theorem tyX2_ok : ∀ k, k < 6 → parseFieldDescriptor (TX2 k).2.2.1 = some (tyX2 k) := by decide +kernel
abbrev cX2_init : ByteArray := prog_4_method_1_code
def yX2_init : MethodName := ⟨RX2, "<init>", "(I)V"⟩
abbrev cX2_lastPosition : ByteArray := prog_4_method_2_code
def yX2_lastPosition : MethodName := ⟨RX2, "lastPosition", "()I"⟩
abbrev cX2_period : ByteArray := prog_4_method_3_code
def yX2_period : MethodName := ⟨RX2, "period", "()I"⟩
abbrev cX2_lastReleaseUpTo : ByteArray := prog_4_method_4_code
def yX2_lastReleaseUpTo : MethodName := ⟨RX2, "lastReleaseUpTo", "(I)I"⟩
abbrev cX2_isReleasedAt : ByteArray := prog_4_method_5_code
def yX2_isReleasedAt : MethodName := ⟨RX2, "isReleasedAt", "(I)Z"⟩
abbrev cX2_dueAt : ByteArray := prog_4_method_6_code
def yX2_dueAt : MethodName := ⟨RX2, "dueAt", "(I)I"⟩
abbrev cX2_dueAfter : ByteArray := prog_4_method_7_code
def yX2_dueAfter : MethodName := ⟨RX2, "dueAfter", "(I)I"⟩
abbrev cX2_positionAfter : ByteArray := prog_4_method_8_code
def yX2_positionAfter : MethodName := ⟨RX2, "positionAfter", "(I)I"⟩
abbrev cX2_lagAt : ByteArray := prog_4_method_9_code
def yX2_lagAt : MethodName := ⟨RX2, "lagAt", "(I)I"⟩
abbrev cX2_blowsFor : ByteArray := prog_4_method_10_code
def yX2_blowsFor : MethodName := ⟨RX2, "blowsFor", "(I)I"⟩
abbrev cX2_canStrike : ByteArray := prog_4_method_11_code
def yX2_canStrike : MethodName := ⟨RX2, "canStrike", "(I)Z"⟩
abbrev cX2_releaseWith : ByteArray := prog_4_method_12_code
def yX2_releaseWith : MethodName := ⟨RX2, "releaseWith", "(I)I"⟩
abbrev cX2_copyFrom : ByteArray := prog_4_method_13_code
def yX2_copyFrom : MethodName := ⟨RX2, "copyFrom", "(LStrikingWork$Train;)V"⟩
abbrev cX2_addToHash : ByteArray := prog_4_method_14_code
def yX2_addToHash : MethodName := ⟨RX2, "addToHash", "(JI)J"⟩
def RX3 : String := "StrikingWork"
def TX3 : u_T := fun k => match k with
  | 0 => ("StrikingWork", "now", "LStrikingWork$State;", true)
  | 1 => ("StrikingWork", "saved", "[LStrikingWork$State;", true)
  | 2 => ("StrikingWork", "trial", "LStrikingWork$Train;", true)
  | 3 => ("StrikingWork", "errors", "[I", true)
  | _ => ("StrikingWork", "savedCount", "I", false)
def tyX3 : Nat → FieldType := fun k => match k with
  | 0 => .object "StrikingWork$State"
  | 1 => .array (.object "StrikingWork$State")
  | 2 => .object "StrikingWork$Train"
  | 3 => .array .int
  | _ => .int
abbrev wsX30 : List Cond := u_ws RX3 TX3 5
theorem nmX3 : ∀ a, a < 5 → ∀ b, b < 5 → a ≠ b → (TX3 a).2.1 ≠ (TX3 b).2.1 := by decide +kernel
theorem tyX3_ok : ∀ k, k < 5 → parseFieldDescriptor (TX3 k).2.2.1 = some (tyX3 k) := by decide +kernel
abbrev cX3_init : ByteArray := prog_1_method_1_code
def yX3_init : MethodName := ⟨RX3, "<init>", "()V"⟩
abbrev cX3_setMechanism : ByteArray := prog_1_method_2_code
def yX3_setMechanism : MethodName := ⟨RX3, "setMechanism", "(II)I"⟩
abbrev cX3_setPosition : ByteArray := prog_1_method_3_code
def yX3_setPosition : MethodName := ⟨RX3, "setPosition", "(II)I"⟩
abbrev cX3_setSilence : ByteArray := prog_1_method_4_code
def yX3_setSilence : MethodName := ⟨RX3, "setSilence", "(III)I"⟩
abbrev cX3_wind : ByteArray := prog_1_method_5_code
def yX3_wind : MethodName := ⟨RX3, "wind", "(II)I"⟩
abbrev cX3_run : ByteArray := prog_1_method_6_code
def yX3_run : MethodName := ⟨RX3, "run", "(I)I"⟩
abbrev cX3_setHands : ByteArray := prog_1_method_7_code
def yX3_setHands : MethodName := ⟨RX3, "setHands", "(I)I"⟩
abbrev cX3_trip : ByteArray := prog_1_method_8_code
def yX3_trip : MethodName := ⟨RX3, "trip", "(I)I"⟩
abbrev cX3_nextDue : ByteArray := prog_1_method_9_code
def yX3_nextDue : MethodName := ⟨RX3, "nextDue", "(I)I"⟩
abbrev cX3_lag : ByteArray := prog_1_method_10_code
def yX3_lag : MethodName := ⟨RX3, "lag", "(I)I"⟩
abbrev cX3_blowsToCorrect : ByteArray := prog_1_method_11_code
def yX3_blowsToCorrect : MethodName := ⟨RX3, "blowsToCorrect", "(I)I"⟩
abbrev cX3_handsToCorrect : ByteArray := prog_1_method_12_code
def yX3_handsToCorrect : MethodName := ⟨RX3, "handsToCorrect", "(I)I"⟩
abbrev cX3_minutesToMiss : ByteArray := prog_1_method_13_code
def yX3_minutesToMiss : MethodName := ⟨RX3, "minutesToMiss", "(I)I"⟩
abbrev cX3_minute : ByteArray := prog_1_method_14_code
def yX3_minute : MethodName := ⟨RX3, "minute", "()I"⟩
abbrev cX3_position : ByteArray := prog_1_method_15_code
def yX3_position : MethodName := ⟨RX3, "position", "(I)I"⟩
abbrev cX3_weight : ByteArray := prog_1_method_16_code
def yX3_weight : MethodName := ⟨RX3, "weight", "(I)I"⟩
abbrev cX3_sounded : ByteArray := prog_1_method_17_code
def yX3_sounded : MethodName := ⟨RX3, "sounded", "(I)I"⟩
abbrev cX3_missed : ByteArray := prog_1_method_18_code
def yX3_missed : MethodName := ⟨RX3, "missed", "(I)I"⟩
abbrev cX3_isSilent : ByteArray := prog_1_method_19_code
def yX3_isSilent : MethodName := ⟨RX3, "isSilent", "(I)I"⟩
abbrev cX3_strikeMinute : ByteArray := prog_1_method_20_code
def yX3_strikeMinute : MethodName := ⟨RX3, "strikeMinute", "(I)I"⟩
abbrev cX3_strikeTrain : ByteArray := prog_1_method_21_code
def yX3_strikeTrain : MethodName := ⟨RX3, "strikeTrain", "(I)I"⟩
abbrev cX3_strikeBlows : ByteArray := prog_1_method_22_code
def yX3_strikeBlows : MethodName := ⟨RX3, "strikeBlows", "(I)I"⟩
abbrev cX3_undo : ByteArray := prog_1_method_23_code
def yX3_undo : MethodName := ⟨RX3, "undo", "()I"⟩
abbrev cX3_errorCount : ByteArray := prog_1_method_24_code
def yX3_errorCount : MethodName := ⟨RX3, "errorCount", "(I)I"⟩
abbrev cX3_digest : ByteArray := prog_1_method_25_code
def yX3_digest : MethodName := ⟨RX3, "digest", "()J"⟩
abbrev cX3_isTrain : ByteArray := prog_1_method_26_code
def yX3_isTrain : MethodName := ⟨RX3, "isTrain", "(I)Z"⟩
abbrev cX3_isMinute : ByteArray := prog_1_method_27_code
def yX3_isMinute : MethodName := ⟨RX3, "isMinute", "(I)Z"⟩
abbrev cX3_errorIndex : ByteArray := prog_1_method_28_code
def yX3_errorIndex : MethodName := ⟨RX3, "errorIndex", "(I)I"⟩
abbrev cX3_refuse : ByteArray := prog_1_method_29_code
def yX3_refuse : MethodName := ⟨RX3, "refuse", "(I)I"⟩
abbrev cX3_save : ByteArray := prog_1_method_30_code
def yX3_save : MethodName := ⟨RX3, "save", "()V"⟩
abbrev cX3_dropOldestSaved : ByteArray := prog_1_method_31_code
def yX3_dropOldestSaved : MethodName := ⟨RX3, "dropOldestSaved", "()V"⟩
abbrev cX3_strikeQuarter : ByteArray := prog_1_method_32_code
def yX3_strikeQuarter : MethodName := ⟨RX3, "strikeQuarter", "()I"⟩
abbrev cX3_release : ByteArray := prog_1_method_33_code
def yX3_release : MethodName := ⟨RX3, "release", "(LStrikingWork$Train;IZ)I"⟩
def RX4 : String := "StrikingWorkModel"
def TX4 : u_T := fun k => match k with
  | 0 => ("StrikingWorkModel", "now", "[I", true)
  | 1 => ("StrikingWorkModel", "aside", "[I", true)
  | 2 => ("StrikingWorkModel", "past", "[I", true)
  | 3 => ("StrikingWorkModel", "states", "I", false)
  | 4 => ("StrikingWorkModel", "errors", "[I", true)
  | _ => ("StrikingWorkModel", "hash", "J", false)
def tyX4 : Nat → FieldType := fun k => match k with
  | 0 => .array .int
  | 1 => .array .int
  | 2 => .array .int
  | 3 => .int
  | 4 => .array .int
  | _ => .long
abbrev wsX40 : List Cond := u_ws RX4 TX4 6
theorem nmX4 : ∀ a, a < 6 → ∀ b, b < 6 → a ≠ b → (TX4 a).2.1 ≠ (TX4 b).2.1 := by decide +kernel
theorem tyX4_ok : ∀ k, k < 6 → parseFieldDescriptor (TX4 k).2.2.1 = some (tyX4 k) := by decide +kernel
abbrev cX4_init : ByteArray := prog_6_method_1_code
def yX4_init : MethodName := ⟨RX4, "<init>", "()V"⟩
abbrev cX4_in : ByteArray := prog_6_method_3_code
def yX4_in : MethodName := ⟨RX4, "in", "(III)Z"⟩
abbrev cX4_at : ByteArray := prog_6_method_4_code
def yX4_at : MethodName := ⟨RX4, "at", "(II)I"⟩
abbrev cX4_error : ByteArray := prog_6_method_5_code
def yX4_error : MethodName := ⟨RX4, "error", "(I)I"⟩
abbrev cX4_copy : ByteArray := prog_6_method_6_code
def yX4_copy : MethodName := ⟨RX4, "copy", "([II[II)V"⟩
abbrev cX4_save : ByteArray := prog_6_method_7_code
def yX4_save : MethodName := ⟨RX4, "save", "()V"⟩
abbrev cX4_isTrain : ByteArray := prog_6_method_8_code
def yX4_isTrain : MethodName := ⟨RX4, "isTrain", "(I)Z"⟩
abbrev cX4_positions : ByteArray := prog_6_method_9_code
def yX4_positions : MethodName := ⟨RX4, "positions", "(I)I"⟩
abbrev cX4_setMechanism : ByteArray := prog_6_method_10_code
def yX4_setMechanism : MethodName := ⟨RX4, "setMechanism", "(II)I"⟩
abbrev cX4_setPosition : ByteArray := prog_6_method_11_code
def yX4_setPosition : MethodName := ⟨RX4, "setPosition", "(II)I"⟩
abbrev cX4_setSilence : ByteArray := prog_6_method_12_code
def yX4_setSilence : MethodName := ⟨RX4, "setSilence", "(III)I"⟩
abbrev cX4_wind : ByteArray := prog_6_method_13_code
def yX4_wind : MethodName := ⟨RX4, "wind", "(II)I"⟩
abbrev cX4_silentAt : ByteArray := prog_6_method_14_code
def yX4_silentAt : MethodName := ⟨RX4, "silentAt", "(I)Z"⟩
abbrev cX4_dueAfter : ByteArray := prog_6_method_15_code
def yX4_dueAfter : MethodName := ⟨RX4, "dueAfter", "(II)I"⟩
abbrev cX4_record : ByteArray := prog_6_method_16_code
def yX4_record : MethodName := ⟨RX4, "record", "(II)V"⟩
abbrev cX4_blowsOf : ByteArray := prog_6_method_17_code
def yX4_blowsOf : MethodName := ⟨RX4, "blowsOf", "(II)I"⟩
abbrev cX4_strike : ByteArray := prog_6_method_18_code
def yX4_strike : MethodName := ⟨RX4, "strike", "(IIZ)I"⟩
abbrev cX4_release : ByteArray := prog_6_method_19_code
def yX4_release : MethodName := ⟨RX4, "release", "(IIZ)I"⟩
abbrev cX4_tick : ByteArray := prog_6_method_20_code
def yX4_tick : MethodName := ⟨RX4, "tick", "()I"⟩
abbrev cX4_run : ByteArray := prog_6_method_21_code
def yX4_run : MethodName := ⟨RX4, "run", "(I)I"⟩
abbrev cX4_setHands : ByteArray := prog_6_method_22_code
def yX4_setHands : MethodName := ⟨RX4, "setHands", "(I)I"⟩
abbrev cX4_trip : ByteArray := prog_6_method_23_code
def yX4_trip : MethodName := ⟨RX4, "trip", "(I)I"⟩
abbrev cX4_lagAt : ByteArray := prog_6_method_24_code
def yX4_lagAt : MethodName := ⟨RX4, "lagAt", "(II)I"⟩
abbrev cX4_nextDue : ByteArray := prog_6_method_25_code
def yX4_nextDue : MethodName := ⟨RX4, "nextDue", "(I)I"⟩
abbrev cX4_lag : ByteArray := prog_6_method_26_code
def yX4_lag : MethodName := ⟨RX4, "lag", "(I)I"⟩
abbrev cX4_blowsToCorrect : ByteArray := prog_6_method_27_code
def yX4_blowsToCorrect : MethodName := ⟨RX4, "blowsToCorrect", "(I)I"⟩
abbrev cX4_handsToCorrect : ByteArray := prog_6_method_28_code
def yX4_handsToCorrect : MethodName := ⟨RX4, "handsToCorrect", "(I)I"⟩
abbrev cX4_minutesToMiss : ByteArray := prog_6_method_29_code
def yX4_minutesToMiss : MethodName := ⟨RX4, "minutesToMiss", "(I)I"⟩
abbrev cX4_minute : ByteArray := prog_6_method_30_code
def yX4_minute : MethodName := ⟨RX4, "minute", "()I"⟩
abbrev cX4_valueOf : ByteArray := prog_6_method_31_code
def yX4_valueOf : MethodName := ⟨RX4, "valueOf", "(II)I"⟩
abbrev cX4_position : ByteArray := prog_6_method_32_code
def yX4_position : MethodName := ⟨RX4, "position", "(I)I"⟩
abbrev cX4_weight : ByteArray := prog_6_method_33_code
def yX4_weight : MethodName := ⟨RX4, "weight", "(I)I"⟩
abbrev cX4_sounded : ByteArray := prog_6_method_34_code
def yX4_sounded : MethodName := ⟨RX4, "sounded", "(I)I"⟩
abbrev cX4_missed : ByteArray := prog_6_method_35_code
def yX4_missed : MethodName := ⟨RX4, "missed", "(I)I"⟩
abbrev cX4_isSilent : ByteArray := prog_6_method_36_code
def yX4_isSilent : MethodName := ⟨RX4, "isSilent", "(I)I"⟩
abbrev cX4_entry : ByteArray := prog_6_method_37_code
def yX4_entry : MethodName := ⟨RX4, "entry", "(III)I"⟩
abbrev cX4_strikeMinute : ByteArray := prog_6_method_38_code
def yX4_strikeMinute : MethodName := ⟨RX4, "strikeMinute", "(I)I"⟩
abbrev cX4_strikeTrain : ByteArray := prog_6_method_39_code
def yX4_strikeTrain : MethodName := ⟨RX4, "strikeTrain", "(I)I"⟩
abbrev cX4_strikeBlows : ByteArray := prog_6_method_40_code
def yX4_strikeBlows : MethodName := ⟨RX4, "strikeBlows", "(I)I"⟩
abbrev cX4_undo : ByteArray := prog_6_method_41_code
def yX4_undo : MethodName := ⟨RX4, "undo", "()I"⟩
abbrev cX4_errorCount : ByteArray := prog_6_method_42_code
def yX4_errorCount : MethodName := ⟨RX4, "errorCount", "(I)I"⟩
abbrev cX4_mix : ByteArray := prog_6_method_43_code
def yX4_mix : MethodName := ⟨RX4, "mix", "(J)V"⟩
abbrev cX4_digest : ByteArray := prog_6_method_44_code
def yX4_digest : MethodName := ⟨RX4, "digest", "()J"⟩
def RJ9 : String := "java/lang/Math"
def TJ9 : u_T := fun k => match k with
  | _ => ("", "", "", false)
def tyJ9 : Nat → FieldType := fun k => match k with
  | _ => .int
abbrev wsJ90 : List Cond := u_ws RJ9 TJ9 0
theorem nmJ9 : ∀ a, a < 0 → ∀ b, b < 0 → a ≠ b → (TJ9 a).2.1 ≠ (TJ9 b).2.1 := by decide +kernel
theorem tyJ9_ok : ∀ k, k < 0 → parseFieldDescriptor (TJ9 k).2.2.1 = some (tyJ9 k) := by decide +kernel
abbrev cJ9_min_7cf53 : ByteArray := prog_7_method_69_code
def yJ9_min_7cf53 : MethodName := ⟨RJ9, "min", "(II)I"⟩
def RL : String := "StrikingWorkLaw"
abbrev cL_law : ByteArray := code
def yL_law : MethodName := ⟨RL, "law", "([I)Z"⟩
def wsX2_init : List Cond := .code yX2_init cX2_init 2 none :: ([.methodLink RX2 3 objectInit, .instanceMethod objectInit, .code objectInit ⟨#[0xb1]⟩ 1 none, .fieldLink RX2 9 "StrikingWork$Train" "mechanism" "I", .fieldLink RX2 15 "StrikingWork$Train" "position" "I", .fieldLink RX2 18 "StrikingWork$Train" "weight" "I", .fieldLink RX2 21 "StrikingWork$Train" "sounded" "I", .fieldLink RX2 24 "StrikingWork$Train" "missed" "I", .fieldLink RX2 27 "StrikingWork$Train" "number" "I"] ++ wsX20)
def wsX1_init : List Cond := .code yX1_init cX1_init 1 none :: ([.methodLink RX1 3 objectInit, .instanceMethod objectInit, .code objectInit ⟨#[0xb1]⟩ 1 none, .arrayClass .int, .fieldLink RX1 9 "StrikingWork$Strikes" "minutes" "[I", .fieldLink RX1 15 "StrikingWork$Strikes" "trains" "[I", .fieldLink RX1 18 "StrikingWork$Strikes" "blows" "[I", .fieldLink RX1 21 "StrikingWork$Strikes" "count" "I"] ++ wsX10)
def wsX0_init_r1 : List Cond := [Cond.methodLink RX0 3 objectInit, Cond.instanceMethod objectInit, Cond.code objectInit ⟨#[0xb1]⟩ 1 none, Cond.classLink RX0 9 RX2, Cond.instantiable RX2 6, Cond.initialized RX2, Cond.fieldLink RX0 14 "StrikingWork$State" "hours" "LStrikingWork$Train;", Cond.fieldLink RX0 20 "StrikingWork$State" "quarters" "LStrikingWork$Train;", Cond.classLink RX0 23 RX1, Cond.instantiable RX1 4, Cond.initialized RX1, Cond.fieldLink RX0 26 "StrikingWork$State" "strikes" "LStrikingWork$Strikes;", Cond.fieldLink RX0 30 "StrikingWork$State" "minute" "I", Cond.fieldLink RX0 34 "StrikingWork$State" "silenceMode" "I", Cond.fieldLink RX0 37 "StrikingWork$State" "silenceBegin" "I", Cond.fieldLink RX0 40 "StrikingWork$State" "silenceEnd" "I", Cond.methodLink RX0 11 yX2_init, Cond.instanceMethod yX2_init, Cond.code yX2_init cX2_init 2 none, Cond.methodLink RX2 3 objectInit, Cond.fieldLink RX2 9 "StrikingWork$Train" "mechanism" "I", Cond.fieldLink RX2 15 "StrikingWork$Train" "position" "I", Cond.fieldLink RX2 18 "StrikingWork$Train" "weight" "I", Cond.fieldLink RX2 21 "StrikingWork$Train" "sounded" "I"]
def wsX0_init_r2 : List Cond := [Cond.fieldLink RX2 24 "StrikingWork$Train" "missed" "I", Cond.fieldLink RX2 27 "StrikingWork$Train" "number" "I", Cond.instanceMethod yX1_init, Cond.code yX1_init cX1_init 1 none, Cond.methodLink RX1 3 objectInit, Cond.arrayClass .int, Cond.fieldLink RX1 9 "StrikingWork$Strikes" "minutes" "[I", Cond.fieldLink RX1 15 "StrikingWork$Strikes" "trains" "[I", Cond.fieldLink RX1 18 "StrikingWork$Strikes" "blows" "[I", Cond.fieldLink RX1 21 "StrikingWork$Strikes" "count" "I"]
def wsX0_init : List Cond := .code yX0_init cX0_init 1 none :: ((wsX0_init_r1 ++ wsX0_init_r2) ++ wsX20 ++ wsX00 ++ wsX10)
def wsX0_trainOf : List Cond := .code yX0_trainOf cX0_trainOf 2 (some (.object "StrikingWork$Train")) :: ([.fieldLink RX0 14 "StrikingWork$State" "hours" "LStrikingWork$Train;", .fieldLink RX0 20 "StrikingWork$State" "quarters" "LStrikingWork$Train;"] ++ wsX00)
def wsX0_hushesAt : List Cond := .code yX0_hushesAt cX0_hushesAt 2 (some .boolean) :: ([.fieldLink RX0 34 "StrikingWork$State" "silenceMode" "I", .fieldLink RX0 37 "StrikingWork$State" "silenceBegin" "I", .fieldLink RX0 40 "StrikingWork$State" "silenceEnd" "I"] ++ wsX00)
def wsX0_blocksAt : List Cond := .code yX0_blocksAt cX0_blocksAt 2 (some .boolean) :: ([.fieldLink RX0 34 "StrikingWork$State" "silenceMode" "I", .methodLink RX0 43 yX0_hushesAt, .instanceMethod yX0_hushesAt, .selects RX0 yX0_hushesAt yX0_hushesAt, .initialized RX0, .code yX0_hushesAt cX0_hushesAt 2 (some .boolean), .fieldLink RX0 37 "StrikingWork$State" "silenceBegin" "I", .fieldLink RX0 40 "StrikingWork$State" "silenceEnd" "I"] ++ wsX00)
def wsX2_copyFrom : List Cond := .code yX2_copyFrom cX2_copyFrom 2 none :: ([.fieldLink RX2 27 "StrikingWork$Train" "number" "I", .fieldLink RX2 9 "StrikingWork$Train" "mechanism" "I", .fieldLink RX2 15 "StrikingWork$Train" "position" "I", .fieldLink RX2 18 "StrikingWork$Train" "weight" "I", .fieldLink RX2 21 "StrikingWork$Train" "sounded" "I", .fieldLink RX2 24 "StrikingWork$Train" "missed" "I"] ++ wsX20)
def wsX1_copyFrom : List Cond := .code yX1_copyFrom cX1_copyFrom 3 none :: ([.fieldLink RX1 9 "StrikingWork$Strikes" "minutes" "[I", .fieldLink RX1 15 "StrikingWork$Strikes" "trains" "[I", .fieldLink RX1 18 "StrikingWork$Strikes" "blows" "[I", .fieldLink RX1 21 "StrikingWork$Strikes" "count" "I"] ++ wsX10)
def wsX0_copyFrom_r1 : List Cond := [Cond.fieldLink RX0 14 "StrikingWork$State" "hours" "LStrikingWork$Train;", Cond.fieldLink RX0 20 "StrikingWork$State" "quarters" "LStrikingWork$Train;", Cond.fieldLink RX0 26 "StrikingWork$State" "strikes" "LStrikingWork$Strikes;", Cond.fieldLink RX0 30 "StrikingWork$State" "minute" "I", Cond.fieldLink RX0 34 "StrikingWork$State" "silenceMode" "I", Cond.fieldLink RX0 37 "StrikingWork$State" "silenceBegin" "I", Cond.fieldLink RX0 40 "StrikingWork$State" "silenceEnd" "I", Cond.methodLink RX0 47 yX2_copyFrom, Cond.instanceMethod yX2_copyFrom, Cond.selects RX2 yX2_copyFrom yX2_copyFrom, Cond.initialized RX2, Cond.code yX2_copyFrom cX2_copyFrom 2 none, Cond.fieldLink RX2 27 "StrikingWork$Train" "number" "I", Cond.fieldLink RX2 9 "StrikingWork$Train" "mechanism" "I", Cond.fieldLink RX2 15 "StrikingWork$Train" "position" "I", Cond.fieldLink RX2 18 "StrikingWork$Train" "weight" "I", Cond.fieldLink RX2 21 "StrikingWork$Train" "sounded" "I", Cond.fieldLink RX2 24 "StrikingWork$Train" "missed" "I", Cond.methodLink RX0 51 yX1_copyFrom, Cond.instanceMethod yX1_copyFrom, Cond.selects RX1 yX1_copyFrom yX1_copyFrom, Cond.initialized RX1, Cond.code yX1_copyFrom cX1_copyFrom 3 none, Cond.fieldLink RX1 9 "StrikingWork$Strikes" "minutes" "[I"]
def wsX0_copyFrom_r2 : List Cond := [Cond.fieldLink RX1 15 "StrikingWork$Strikes" "trains" "[I", Cond.fieldLink RX1 18 "StrikingWork$Strikes" "blows" "[I", Cond.fieldLink RX1 21 "StrikingWork$Strikes" "count" "I"]
def wsX0_copyFrom : List Cond := .code yX0_copyFrom cX0_copyFrom 2 none :: ((wsX0_copyFrom_r1 ++ wsX0_copyFrom_r2) ++ wsX00 ++ wsX20 ++ wsX10)
def wsX2_period : List Cond := .code yX2_period cX2_period 1 (some .int) :: ([.fieldLink RX2 27 "StrikingWork$Train" "number" "I"] ++ wsX20)
def wsX2_lastPosition : List Cond := .code yX2_lastPosition cX2_lastPosition 1 (some .int) :: ([.fieldLink RX2 27 "StrikingWork$Train" "number" "I"] ++ wsX20)
def wsX2_dueAt : List Cond := .code yX2_dueAt cX2_dueAt 3 (some .int) :: ([.fieldLink RX2 27 "StrikingWork$Train" "number" "I", .methodLink RX2 34 yX2_lastPosition, .instanceMethod yX2_lastPosition, .selects RX2 yX2_lastPosition yX2_lastPosition, .initialized RX2, .code yX2_lastPosition cX2_lastPosition 1 (some .int)] ++ wsX20)
def wsX2_dueAfter : List Cond := .code yX2_dueAfter cX2_dueAfter 2 (some .int) :: ([.methodLink RX2 38 yX2_period, .instanceMethod yX2_period, .selects RX2 yX2_period yX2_period, .initialized RX2, .code yX2_period cX2_period 1 (some .int), .fieldLink RX2 27 "StrikingWork$Train" "number" "I", .methodLink RX2 41 yX2_dueAt, .instanceMethod yX2_dueAt, .selects RX2 yX2_dueAt yX2_dueAt, .code yX2_dueAt cX2_dueAt 3 (some .int), .methodLink RX2 34 yX2_lastPosition, .instanceMethod yX2_lastPosition, .selects RX2 yX2_lastPosition yX2_lastPosition, .code yX2_lastPosition cX2_lastPosition 1 (some .int)] ++ wsX20)
def wsX2_lagAt : List Cond := .code yX2_lagAt cX2_lagAt 3 (some .int) :: ([.fieldLink RX2 9 "StrikingWork$Train" "mechanism" "I", .fieldLink RX2 15 "StrikingWork$Train" "position" "I", .methodLink RX2 44 yX2_dueAfter, .instanceMethod yX2_dueAfter, .selects RX2 yX2_dueAfter yX2_dueAfter, .initialized RX2, .code yX2_dueAfter cX2_dueAfter 2 (some .int), .methodLink RX2 38 yX2_period, .instanceMethod yX2_period, .selects RX2 yX2_period yX2_period, .code yX2_period cX2_period 1 (some .int), .fieldLink RX2 27 "StrikingWork$Train" "number" "I", .methodLink RX2 41 yX2_dueAt, .instanceMethod yX2_dueAt, .selects RX2 yX2_dueAt yX2_dueAt, .code yX2_dueAt cX2_dueAt 3 (some .int), .methodLink RX2 34 yX2_lastPosition, .instanceMethod yX2_lastPosition, .selects RX2 yX2_lastPosition yX2_lastPosition, .code yX2_lastPosition cX2_lastPosition 1 (some .int)] ++ wsX20)
def wsX2_addToHash_r1 : List Cond := [Cond.constantLong RX2 57 (31), Cond.fieldLink RX2 9 "StrikingWork$Train" "mechanism" "I", Cond.fieldLink RX2 15 "StrikingWork$Train" "position" "I", Cond.fieldLink RX2 18 "StrikingWork$Train" "weight" "I", Cond.fieldLink RX2 21 "StrikingWork$Train" "sounded" "I", Cond.fieldLink RX2 24 "StrikingWork$Train" "missed" "I", Cond.methodLink RX2 44 yX2_dueAfter, Cond.instanceMethod yX2_dueAfter, Cond.selects RX2 yX2_dueAfter yX2_dueAfter, Cond.initialized RX2, Cond.code yX2_dueAfter cX2_dueAfter 2 (some .int), Cond.methodLink RX2 38 yX2_period, Cond.instanceMethod yX2_period, Cond.selects RX2 yX2_period yX2_period, Cond.code yX2_period cX2_period 1 (some .int), Cond.fieldLink RX2 27 "StrikingWork$Train" "number" "I", Cond.methodLink RX2 41 yX2_dueAt, Cond.instanceMethod yX2_dueAt, Cond.selects RX2 yX2_dueAt yX2_dueAt, Cond.code yX2_dueAt cX2_dueAt 3 (some .int), Cond.methodLink RX2 34 yX2_lastPosition, Cond.instanceMethod yX2_lastPosition, Cond.selects RX2 yX2_lastPosition yX2_lastPosition, Cond.code yX2_lastPosition cX2_lastPosition 1 (some .int)]
def wsX2_addToHash_r2 : List Cond := [Cond.methodLink RX2 59 yX2_lagAt, Cond.instanceMethod yX2_lagAt, Cond.selects RX2 yX2_lagAt yX2_lagAt, Cond.code yX2_lagAt cX2_lagAt 3 (some .int)]
def wsX2_addToHash : List Cond := .code yX2_addToHash cX2_addToHash 6 (some .long) :: ((wsX2_addToHash_r1 ++ wsX2_addToHash_r2) ++ wsX20)
def wsX1_addToHash : List Cond := .code yX1_addToHash cX1_addToHash 6 (some .long) :: ([.constantLong RX1 31 (31), .fieldLink RX1 21 "StrikingWork$Strikes" "count" "I", .fieldLink RX1 9 "StrikingWork$Strikes" "minutes" "[I", .fieldLink RX1 15 "StrikingWork$Strikes" "trains" "[I", .fieldLink RX1 18 "StrikingWork$Strikes" "blows" "[I"] ++ wsX10)
def wsX0_addToHash_r1 : List Cond := [Cond.constantLong RX0 54 (31), Cond.fieldLink RX0 30 "StrikingWork$State" "minute" "I", Cond.fieldLink RX0 14 "StrikingWork$State" "hours" "LStrikingWork$Train;", Cond.fieldLink RX0 20 "StrikingWork$State" "quarters" "LStrikingWork$Train;", Cond.fieldLink RX0 34 "StrikingWork$State" "silenceMode" "I", Cond.fieldLink RX0 37 "StrikingWork$State" "silenceBegin" "I", Cond.fieldLink RX0 40 "StrikingWork$State" "silenceEnd" "I", Cond.fieldLink RX0 26 "StrikingWork$State" "strikes" "LStrikingWork$Strikes;", Cond.methodLink RX0 56 yX2_addToHash, Cond.instanceMethod yX2_addToHash, Cond.selects RX2 yX2_addToHash yX2_addToHash, Cond.initialized RX2, Cond.code yX2_addToHash cX2_addToHash 6 (some .long), Cond.constantLong RX2 57 (31), Cond.fieldLink RX2 9 "StrikingWork$Train" "mechanism" "I", Cond.fieldLink RX2 15 "StrikingWork$Train" "position" "I", Cond.fieldLink RX2 18 "StrikingWork$Train" "weight" "I", Cond.fieldLink RX2 21 "StrikingWork$Train" "sounded" "I", Cond.fieldLink RX2 24 "StrikingWork$Train" "missed" "I", Cond.methodLink RX2 44 yX2_dueAfter, Cond.instanceMethod yX2_dueAfter, Cond.selects RX2 yX2_dueAfter yX2_dueAfter, Cond.code yX2_dueAfter cX2_dueAfter 2 (some .int), Cond.methodLink RX2 38 yX2_period]
def wsX0_addToHash_r2 : List Cond := [Cond.instanceMethod yX2_period, Cond.selects RX2 yX2_period yX2_period, Cond.code yX2_period cX2_period 1 (some .int), Cond.fieldLink RX2 27 "StrikingWork$Train" "number" "I", Cond.methodLink RX2 41 yX2_dueAt, Cond.instanceMethod yX2_dueAt, Cond.selects RX2 yX2_dueAt yX2_dueAt, Cond.code yX2_dueAt cX2_dueAt 3 (some .int), Cond.methodLink RX2 34 yX2_lastPosition, Cond.instanceMethod yX2_lastPosition, Cond.selects RX2 yX2_lastPosition yX2_lastPosition, Cond.code yX2_lastPosition cX2_lastPosition 1 (some .int), Cond.methodLink RX2 59 yX2_lagAt, Cond.instanceMethod yX2_lagAt, Cond.selects RX2 yX2_lagAt yX2_lagAt, Cond.code yX2_lagAt cX2_lagAt 3 (some .int), Cond.methodLink RX0 60 yX1_addToHash, Cond.instanceMethod yX1_addToHash, Cond.selects RX1 yX1_addToHash yX1_addToHash, Cond.initialized RX1, Cond.code yX1_addToHash cX1_addToHash 6 (some .long), Cond.constantLong RX1 31 (31), Cond.fieldLink RX1 21 "StrikingWork$Strikes" "count" "I", Cond.fieldLink RX1 9 "StrikingWork$Strikes" "minutes" "[I"]
def wsX0_addToHash_r3 : List Cond := [Cond.fieldLink RX1 15 "StrikingWork$Strikes" "trains" "[I", Cond.fieldLink RX1 18 "StrikingWork$Strikes" "blows" "[I"]
def wsX0_addToHash : List Cond := .code yX0_addToHash cX0_addToHash 5 (some .long) :: ((wsX0_addToHash_r1 ++ (wsX0_addToHash_r2 ++ wsX0_addToHash_r3)) ++ wsX00 ++ wsX20 ++ wsX10)
def wsX1_put : List Cond := .code yX1_put cX1_put 5 none :: ([.fieldLink RX1 9 "StrikingWork$Strikes" "minutes" "[I", .fieldLink RX1 15 "StrikingWork$Strikes" "trains" "[I", .fieldLink RX1 18 "StrikingWork$Strikes" "blows" "[I", .fieldLink RX1 21 "StrikingWork$Strikes" "count" "I", .methodLink RX1 25 Lib.Math.min.name, .static Lib.Math.min.name, .initialized "java/lang/Math", .code Lib.Math.min.name Lib.Math.min.code 2 (some .int)] ++ wsX10)
def wsX2_lastReleaseUpTo : List Cond := .code yX2_lastReleaseUpTo cX2_lastReleaseUpTo 2 (some .int) :: ([.fieldLink RX2 27 "StrikingWork$Train" "number" "I"] ++ wsX20)
def wsX2_isReleasedAt : List Cond := .code yX2_isReleasedAt cX2_isReleasedAt 2 (some .boolean) :: ([.methodLink RX2 30 yX2_lastReleaseUpTo, .instanceMethod yX2_lastReleaseUpTo, .selects RX2 yX2_lastReleaseUpTo yX2_lastReleaseUpTo, .initialized RX2, .code yX2_lastReleaseUpTo cX2_lastReleaseUpTo 2 (some .int), .fieldLink RX2 27 "StrikingWork$Train" "number" "I"] ++ wsX20)
def wsX2_positionAfter : List Cond := .code yX2_positionAfter cX2_positionAfter 2 (some .int) :: ([.methodLink RX2 34 yX2_lastPosition, .instanceMethod yX2_lastPosition, .selects RX2 yX2_lastPosition yX2_lastPosition, .initialized RX2, .code yX2_lastPosition cX2_lastPosition 1 (some .int), .fieldLink RX2 27 "StrikingWork$Train" "number" "I"] ++ wsX20)
def wsX2_blowsFor : List Cond := .code yX2_blowsFor cX2_blowsFor 2 (some .int) :: ([.fieldLink RX2 9 "StrikingWork$Train" "mechanism" "I", .fieldLink RX2 15 "StrikingWork$Train" "position" "I"] ++ wsX20)
def wsX2_canStrike : List Cond := .code yX2_canStrike cX2_canStrike 2 (some .boolean) :: ([.fieldLink RX2 9 "StrikingWork$Train" "mechanism" "I", .fieldLink RX2 18 "StrikingWork$Train" "weight" "I", .methodLink RX2 47 yX2_blowsFor, .instanceMethod yX2_blowsFor, .selects RX2 yX2_blowsFor yX2_blowsFor, .initialized RX2, .code yX2_blowsFor cX2_blowsFor 2 (some .int), .fieldLink RX2 15 "StrikingWork$Train" "position" "I"] ++ wsX20)
def wsX2_releaseWith : List Cond := .code yX2_releaseWith cX2_releaseWith 3 (some .int) :: ([.fieldLink RX2 9 "StrikingWork$Train" "mechanism" "I", .fieldLink RX2 24 "StrikingWork$Train" "missed" "I", .fieldLink RX2 18 "StrikingWork$Train" "weight" "I", .fieldLink RX2 15 "StrikingWork$Train" "position" "I", .methodLink RX2 50 yX2_canStrike, .instanceMethod yX2_canStrike, .selects RX2 yX2_canStrike yX2_canStrike, .initialized RX2, .code yX2_canStrike cX2_canStrike 2 (some .boolean), .methodLink RX2 47 yX2_blowsFor, .instanceMethod yX2_blowsFor, .selects RX2 yX2_blowsFor yX2_blowsFor, .code yX2_blowsFor cX2_blowsFor 2 (some .int), .methodLink RX2 54 yX2_positionAfter, .instanceMethod yX2_positionAfter, .selects RX2 yX2_positionAfter yX2_positionAfter, .code yX2_positionAfter cX2_positionAfter 2 (some .int), .methodLink RX2 34 yX2_lastPosition, .instanceMethod yX2_lastPosition, .selects RX2 yX2_lastPosition yX2_lastPosition, .code yX2_lastPosition cX2_lastPosition 1 (some .int), .fieldLink RX2 27 "StrikingWork$Train" "number" "I"] ++ wsX20)
def wsX3_init_r1 : List Cond := [Cond.methodLink RX3 1 objectInit, Cond.instanceMethod objectInit, Cond.code objectInit ⟨#[0xb1]⟩ 1 none, Cond.classLink RX3 7 RX0, Cond.instantiable RX0 7, Cond.initialized RX0, Cond.fieldLink RX3 10 "StrikingWork" "now" "LStrikingWork$State;", Cond.fieldLink RX3 16 "StrikingWork" "saved" "[LStrikingWork$State;", Cond.classLink RX3 20 RX2, Cond.instantiable RX2 6, Cond.initialized RX2, Cond.fieldLink RX3 25 "StrikingWork" "trial" "LStrikingWork$Train;", Cond.arrayClass .int, Cond.fieldLink RX3 29 "StrikingWork" "errors" "[I", Cond.fieldLink RX3 33 "StrikingWork" "savedCount" "I", Cond.instanceMethod yX0_init, Cond.code yX0_init cX0_init 1 none, Cond.methodLink RX0 3 objectInit, Cond.classLink RX0 9 RX2, Cond.fieldLink RX0 14 "StrikingWork$State" "hours" "LStrikingWork$Train;", Cond.fieldLink RX0 20 "StrikingWork$State" "quarters" "LStrikingWork$Train;", Cond.classLink RX0 23 RX1, Cond.instantiable RX1 4, Cond.initialized RX1]
def wsX3_init_r2 : List Cond := [Cond.fieldLink RX0 26 "StrikingWork$State" "strikes" "LStrikingWork$Strikes;", Cond.fieldLink RX0 30 "StrikingWork$State" "minute" "I", Cond.fieldLink RX0 34 "StrikingWork$State" "silenceMode" "I", Cond.fieldLink RX0 37 "StrikingWork$State" "silenceBegin" "I", Cond.fieldLink RX0 40 "StrikingWork$State" "silenceEnd" "I", Cond.methodLink RX0 11 yX2_init, Cond.instanceMethod yX2_init, Cond.code yX2_init cX2_init 2 none, Cond.methodLink RX2 3 objectInit, Cond.fieldLink RX2 9 "StrikingWork$Train" "mechanism" "I", Cond.fieldLink RX2 15 "StrikingWork$Train" "position" "I", Cond.fieldLink RX2 18 "StrikingWork$Train" "weight" "I", Cond.fieldLink RX2 21 "StrikingWork$Train" "sounded" "I", Cond.fieldLink RX2 24 "StrikingWork$Train" "missed" "I", Cond.fieldLink RX2 27 "StrikingWork$Train" "number" "I", Cond.instanceMethod yX1_init, Cond.code yX1_init cX1_init 1 none, Cond.methodLink RX1 3 objectInit, Cond.fieldLink RX1 9 "StrikingWork$Strikes" "minutes" "[I", Cond.fieldLink RX1 15 "StrikingWork$Strikes" "trains" "[I", Cond.fieldLink RX1 18 "StrikingWork$Strikes" "blows" "[I", Cond.fieldLink RX1 21 "StrikingWork$Strikes" "count" "I", Cond.methodLink RX3 22 yX2_init]
def wsX3_init : List Cond := .code yX3_init cX3_init 2 none :: ((wsX3_init_r1 ++ wsX3_init_r2) ++ wsX00 ++ wsX30 ++ wsX20 ++ wsX10)
def wsX3_isTrain : List Cond := .code yX3_isTrain cX3_isTrain 1 (some .boolean) :: ([])
def wsX3_errorIndex : List Cond := .code yX3_errorIndex cX3_errorIndex 1 (some .int) :: ([])
def wsX3_refuse : List Cond := .code yX3_refuse cX3_refuse 2 (some .int) :: ([.fieldLink RX3 29 "StrikingWork" "errors" "[I", .methodLink RX3 157 yX3_errorIndex, .static yX3_errorIndex, .initialized RX3, .code yX3_errorIndex cX3_errorIndex 1 (some .int)] ++ wsX30)
def wsX3_dropOldestSaved : List Cond := .code yX3_dropOldestSaved cX3_dropOldestSaved 3 none :: ([.fieldLink RX3 16 "StrikingWork" "saved" "[LStrikingWork$State;", .fieldLink RX3 33 "StrikingWork" "savedCount" "I"] ++ wsX30)
def wsX3_save_r1 : List Cond := [Cond.fieldLink RX3 33 "StrikingWork" "savedCount" "I", Cond.fieldLink RX3 16 "StrikingWork" "saved" "[LStrikingWork$State;", Cond.fieldLink RX3 10 "StrikingWork" "now" "LStrikingWork$State;", Cond.methodLink RX3 168 yX3_dropOldestSaved, Cond.instanceMethod yX3_dropOldestSaved, Cond.selects RX3 yX3_dropOldestSaved yX3_dropOldestSaved, Cond.initialized RX3, Cond.code yX3_dropOldestSaved cX3_dropOldestSaved 3 none, Cond.methodLink RX3 154 yX0_copyFrom, Cond.instanceMethod yX0_copyFrom, Cond.selects RX0 yX0_copyFrom yX0_copyFrom, Cond.initialized RX0, Cond.code yX0_copyFrom cX0_copyFrom 2 none, Cond.fieldLink RX0 14 "StrikingWork$State" "hours" "LStrikingWork$Train;", Cond.fieldLink RX0 20 "StrikingWork$State" "quarters" "LStrikingWork$Train;", Cond.fieldLink RX0 26 "StrikingWork$State" "strikes" "LStrikingWork$Strikes;", Cond.fieldLink RX0 30 "StrikingWork$State" "minute" "I", Cond.fieldLink RX0 34 "StrikingWork$State" "silenceMode" "I", Cond.fieldLink RX0 37 "StrikingWork$State" "silenceBegin" "I", Cond.fieldLink RX0 40 "StrikingWork$State" "silenceEnd" "I", Cond.methodLink RX0 47 yX2_copyFrom, Cond.instanceMethod yX2_copyFrom, Cond.selects RX2 yX2_copyFrom yX2_copyFrom, Cond.initialized RX2]
def wsX3_save_r2 : List Cond := [Cond.code yX2_copyFrom cX2_copyFrom 2 none, Cond.fieldLink RX2 27 "StrikingWork$Train" "number" "I", Cond.fieldLink RX2 9 "StrikingWork$Train" "mechanism" "I", Cond.fieldLink RX2 15 "StrikingWork$Train" "position" "I", Cond.fieldLink RX2 18 "StrikingWork$Train" "weight" "I", Cond.fieldLink RX2 21 "StrikingWork$Train" "sounded" "I", Cond.fieldLink RX2 24 "StrikingWork$Train" "missed" "I", Cond.methodLink RX0 51 yX1_copyFrom, Cond.instanceMethod yX1_copyFrom, Cond.selects RX1 yX1_copyFrom yX1_copyFrom, Cond.initialized RX1, Cond.code yX1_copyFrom cX1_copyFrom 3 none, Cond.fieldLink RX1 9 "StrikingWork$Strikes" "minutes" "[I", Cond.fieldLink RX1 15 "StrikingWork$Strikes" "trains" "[I", Cond.fieldLink RX1 18 "StrikingWork$Strikes" "blows" "[I", Cond.fieldLink RX1 21 "StrikingWork$Strikes" "count" "I"]
def wsX3_save : List Cond := .code yX3_save cX3_save 1 none :: ((wsX3_save_r1 ++ wsX3_save_r2) ++ wsX30 ++ wsX00 ++ wsX20 ++ wsX10)
def wsX3_setMechanism_r1 : List Cond := [Cond.fieldLink RX3 10 "StrikingWork" "now" "LStrikingWork$State;", Cond.fieldLink RX3 52 "StrikingWork$Train" "mechanism" "I", Cond.methodLink RX3 37 yX3_isTrain, Cond.static yX3_isTrain, Cond.initialized RX3, Cond.code yX3_isTrain cX3_isTrain 1 (some .boolean), Cond.methodLink RX3 41 yX3_refuse, Cond.instanceMethod yX3_refuse, Cond.selects RX3 yX3_refuse yX3_refuse, Cond.code yX3_refuse cX3_refuse 2 (some .int), Cond.fieldLink RX3 29 "StrikingWork" "errors" "[I", Cond.methodLink RX3 157 yX3_errorIndex, Cond.static yX3_errorIndex, Cond.code yX3_errorIndex cX3_errorIndex 1 (some .int), Cond.methodLink RX3 45 yX3_save, Cond.instanceMethod yX3_save, Cond.selects RX3 yX3_save yX3_save, Cond.code yX3_save cX3_save 1 none, Cond.fieldLink RX3 33 "StrikingWork" "savedCount" "I", Cond.fieldLink RX3 16 "StrikingWork" "saved" "[LStrikingWork$State;", Cond.methodLink RX3 168 yX3_dropOldestSaved, Cond.instanceMethod yX3_dropOldestSaved, Cond.selects RX3 yX3_dropOldestSaved yX3_dropOldestSaved, Cond.code yX3_dropOldestSaved cX3_dropOldestSaved 3 none]
def wsX3_setMechanism_r2 : List Cond := [Cond.methodLink RX3 154 yX0_copyFrom, Cond.instanceMethod yX0_copyFrom, Cond.selects RX0 yX0_copyFrom yX0_copyFrom, Cond.initialized RX0, Cond.code yX0_copyFrom cX0_copyFrom 2 none, Cond.fieldLink RX0 14 "StrikingWork$State" "hours" "LStrikingWork$Train;", Cond.fieldLink RX0 20 "StrikingWork$State" "quarters" "LStrikingWork$Train;", Cond.fieldLink RX0 26 "StrikingWork$State" "strikes" "LStrikingWork$Strikes;", Cond.fieldLink RX0 30 "StrikingWork$State" "minute" "I", Cond.fieldLink RX0 34 "StrikingWork$State" "silenceMode" "I", Cond.fieldLink RX0 37 "StrikingWork$State" "silenceBegin" "I", Cond.fieldLink RX0 40 "StrikingWork$State" "silenceEnd" "I", Cond.methodLink RX0 47 yX2_copyFrom, Cond.instanceMethod yX2_copyFrom, Cond.selects RX2 yX2_copyFrom yX2_copyFrom, Cond.initialized RX2, Cond.code yX2_copyFrom cX2_copyFrom 2 none, Cond.fieldLink RX2 27 "StrikingWork$Train" "number" "I", Cond.fieldLink RX2 9 "StrikingWork$Train" "mechanism" "I", Cond.fieldLink RX2 15 "StrikingWork$Train" "position" "I", Cond.fieldLink RX2 18 "StrikingWork$Train" "weight" "I", Cond.fieldLink RX2 21 "StrikingWork$Train" "sounded" "I", Cond.fieldLink RX2 24 "StrikingWork$Train" "missed" "I", Cond.methodLink RX0 51 yX1_copyFrom]
def wsX3_setMechanism_r3 : List Cond := [Cond.instanceMethod yX1_copyFrom, Cond.selects RX1 yX1_copyFrom yX1_copyFrom, Cond.initialized RX1, Cond.code yX1_copyFrom cX1_copyFrom 3 none, Cond.fieldLink RX1 9 "StrikingWork$Strikes" "minutes" "[I", Cond.fieldLink RX1 15 "StrikingWork$Strikes" "trains" "[I", Cond.fieldLink RX1 18 "StrikingWork$Strikes" "blows" "[I", Cond.fieldLink RX1 21 "StrikingWork$Strikes" "count" "I", Cond.methodLink RX3 48 yX0_trainOf, Cond.instanceMethod yX0_trainOf, Cond.selects RX0 yX0_trainOf yX0_trainOf, Cond.code yX0_trainOf cX0_trainOf 2 (some (.object "StrikingWork$Train"))]
def wsX3_setMechanism : List Cond := .code yX3_setMechanism cX3_setMechanism 5 (some .int) :: ((wsX3_setMechanism_r1 ++ (wsX3_setMechanism_r2 ++ wsX3_setMechanism_r3)) ++ wsX30 ++ wsX20 ++ wsX00 ++ wsX10)
def wsX3_setPosition_r1 : List Cond := [Cond.fieldLink RX3 10 "StrikingWork" "now" "LStrikingWork$State;", Cond.fieldLink RX3 59 "StrikingWork$Train" "position" "I", Cond.methodLink RX3 37 yX3_isTrain, Cond.static yX3_isTrain, Cond.initialized RX3, Cond.code yX3_isTrain cX3_isTrain 1 (some .boolean), Cond.methodLink RX3 48 yX0_trainOf, Cond.instanceMethod yX0_trainOf, Cond.selects RX0 yX0_trainOf yX0_trainOf, Cond.initialized RX0, Cond.code yX0_trainOf cX0_trainOf 2 (some (.object "StrikingWork$Train")), Cond.fieldLink RX0 14 "StrikingWork$State" "hours" "LStrikingWork$Train;", Cond.fieldLink RX0 20 "StrikingWork$State" "quarters" "LStrikingWork$Train;", Cond.methodLink RX3 55 yX2_lastPosition, Cond.instanceMethod yX2_lastPosition, Cond.selects RX2 yX2_lastPosition yX2_lastPosition, Cond.initialized RX2, Cond.code yX2_lastPosition cX2_lastPosition 1 (some .int), Cond.fieldLink RX2 27 "StrikingWork$Train" "number" "I", Cond.methodLink RX3 41 yX3_refuse, Cond.instanceMethod yX3_refuse, Cond.selects RX3 yX3_refuse yX3_refuse, Cond.code yX3_refuse cX3_refuse 2 (some .int), Cond.fieldLink RX3 29 "StrikingWork" "errors" "[I"]
def wsX3_setPosition_r2 : List Cond := [Cond.methodLink RX3 157 yX3_errorIndex, Cond.static yX3_errorIndex, Cond.code yX3_errorIndex cX3_errorIndex 1 (some .int), Cond.methodLink RX3 45 yX3_save, Cond.instanceMethod yX3_save, Cond.selects RX3 yX3_save yX3_save, Cond.code yX3_save cX3_save 1 none, Cond.fieldLink RX3 33 "StrikingWork" "savedCount" "I", Cond.fieldLink RX3 16 "StrikingWork" "saved" "[LStrikingWork$State;", Cond.methodLink RX3 168 yX3_dropOldestSaved, Cond.instanceMethod yX3_dropOldestSaved, Cond.selects RX3 yX3_dropOldestSaved yX3_dropOldestSaved, Cond.code yX3_dropOldestSaved cX3_dropOldestSaved 3 none, Cond.methodLink RX3 154 yX0_copyFrom, Cond.instanceMethod yX0_copyFrom, Cond.selects RX0 yX0_copyFrom yX0_copyFrom, Cond.code yX0_copyFrom cX0_copyFrom 2 none, Cond.fieldLink RX0 26 "StrikingWork$State" "strikes" "LStrikingWork$Strikes;", Cond.fieldLink RX0 30 "StrikingWork$State" "minute" "I", Cond.fieldLink RX0 34 "StrikingWork$State" "silenceMode" "I", Cond.fieldLink RX0 37 "StrikingWork$State" "silenceBegin" "I", Cond.fieldLink RX0 40 "StrikingWork$State" "silenceEnd" "I", Cond.methodLink RX0 47 yX2_copyFrom, Cond.instanceMethod yX2_copyFrom]
def wsX3_setPosition_r3 : List Cond := [Cond.selects RX2 yX2_copyFrom yX2_copyFrom, Cond.code yX2_copyFrom cX2_copyFrom 2 none, Cond.fieldLink RX2 9 "StrikingWork$Train" "mechanism" "I", Cond.fieldLink RX2 15 "StrikingWork$Train" "position" "I", Cond.fieldLink RX2 18 "StrikingWork$Train" "weight" "I", Cond.fieldLink RX2 21 "StrikingWork$Train" "sounded" "I", Cond.fieldLink RX2 24 "StrikingWork$Train" "missed" "I", Cond.methodLink RX0 51 yX1_copyFrom, Cond.instanceMethod yX1_copyFrom, Cond.selects RX1 yX1_copyFrom yX1_copyFrom, Cond.initialized RX1, Cond.code yX1_copyFrom cX1_copyFrom 3 none, Cond.fieldLink RX1 9 "StrikingWork$Strikes" "minutes" "[I", Cond.fieldLink RX1 15 "StrikingWork$Strikes" "trains" "[I", Cond.fieldLink RX1 18 "StrikingWork$Strikes" "blows" "[I", Cond.fieldLink RX1 21 "StrikingWork$Strikes" "count" "I"]
def wsX3_setPosition : List Cond := .code yX3_setPosition cX3_setPosition 5 (some .int) :: ((wsX3_setPosition_r1 ++ (wsX3_setPosition_r2 ++ wsX3_setPosition_r3)) ++ wsX30 ++ wsX20 ++ wsX00 ++ wsX10)
def wsX3_isMinute : List Cond := .code yX3_isMinute cX3_isMinute 1 (some .boolean) :: ([])
def wsX3_setSilence_r1 : List Cond := [Cond.fieldLink RX3 10 "StrikingWork" "now" "LStrikingWork$State;", Cond.fieldLink RX3 65 "StrikingWork$State" "silenceMode" "I", Cond.fieldLink RX3 68 "StrikingWork$State" "silenceBegin" "I", Cond.fieldLink RX3 71 "StrikingWork$State" "silenceEnd" "I", Cond.methodLink RX3 62 yX3_isMinute, Cond.static yX3_isMinute, Cond.initialized RX3, Cond.code yX3_isMinute cX3_isMinute 1 (some .boolean), Cond.methodLink RX3 41 yX3_refuse, Cond.instanceMethod yX3_refuse, Cond.selects RX3 yX3_refuse yX3_refuse, Cond.code yX3_refuse cX3_refuse 2 (some .int), Cond.fieldLink RX3 29 "StrikingWork" "errors" "[I", Cond.methodLink RX3 157 yX3_errorIndex, Cond.static yX3_errorIndex, Cond.code yX3_errorIndex cX3_errorIndex 1 (some .int), Cond.methodLink RX3 45 yX3_save, Cond.instanceMethod yX3_save, Cond.selects RX3 yX3_save yX3_save, Cond.code yX3_save cX3_save 1 none, Cond.fieldLink RX3 33 "StrikingWork" "savedCount" "I", Cond.fieldLink RX3 16 "StrikingWork" "saved" "[LStrikingWork$State;", Cond.methodLink RX3 168 yX3_dropOldestSaved, Cond.instanceMethod yX3_dropOldestSaved]
def wsX3_setSilence_r2 : List Cond := [Cond.selects RX3 yX3_dropOldestSaved yX3_dropOldestSaved, Cond.code yX3_dropOldestSaved cX3_dropOldestSaved 3 none, Cond.methodLink RX3 154 yX0_copyFrom, Cond.instanceMethod yX0_copyFrom, Cond.selects RX0 yX0_copyFrom yX0_copyFrom, Cond.initialized RX0, Cond.code yX0_copyFrom cX0_copyFrom 2 none, Cond.fieldLink RX0 14 "StrikingWork$State" "hours" "LStrikingWork$Train;", Cond.fieldLink RX0 20 "StrikingWork$State" "quarters" "LStrikingWork$Train;", Cond.fieldLink RX0 26 "StrikingWork$State" "strikes" "LStrikingWork$Strikes;", Cond.fieldLink RX0 30 "StrikingWork$State" "minute" "I", Cond.fieldLink RX0 34 "StrikingWork$State" "silenceMode" "I", Cond.fieldLink RX0 37 "StrikingWork$State" "silenceBegin" "I", Cond.fieldLink RX0 40 "StrikingWork$State" "silenceEnd" "I", Cond.methodLink RX0 47 yX2_copyFrom, Cond.instanceMethod yX2_copyFrom, Cond.selects RX2 yX2_copyFrom yX2_copyFrom, Cond.initialized RX2, Cond.code yX2_copyFrom cX2_copyFrom 2 none, Cond.fieldLink RX2 27 "StrikingWork$Train" "number" "I", Cond.fieldLink RX2 9 "StrikingWork$Train" "mechanism" "I", Cond.fieldLink RX2 15 "StrikingWork$Train" "position" "I", Cond.fieldLink RX2 18 "StrikingWork$Train" "weight" "I", Cond.fieldLink RX2 21 "StrikingWork$Train" "sounded" "I"]
def wsX3_setSilence_r3 : List Cond := [Cond.fieldLink RX2 24 "StrikingWork$Train" "missed" "I", Cond.methodLink RX0 51 yX1_copyFrom, Cond.instanceMethod yX1_copyFrom, Cond.selects RX1 yX1_copyFrom yX1_copyFrom, Cond.initialized RX1, Cond.code yX1_copyFrom cX1_copyFrom 3 none, Cond.fieldLink RX1 9 "StrikingWork$Strikes" "minutes" "[I", Cond.fieldLink RX1 15 "StrikingWork$Strikes" "trains" "[I", Cond.fieldLink RX1 18 "StrikingWork$Strikes" "blows" "[I", Cond.fieldLink RX1 21 "StrikingWork$Strikes" "count" "I"]
def wsX3_setSilence : List Cond := .code yX3_setSilence cX3_setSilence 6 (some .int) :: ((wsX3_setSilence_r1 ++ (wsX3_setSilence_r2 ++ wsX3_setSilence_r3)) ++ wsX30 ++ wsX00 ++ wsX20 ++ wsX10)
def wsX3_wind_r1 : List Cond := [Cond.fieldLink RX3 10 "StrikingWork" "now" "LStrikingWork$State;", Cond.fieldLink RX3 74 "StrikingWork$Train" "weight" "I", Cond.methodLink RX3 77 Lib.Math.min.name, Cond.static Lib.Math.min.name, Cond.initialized "java/lang/Math", Cond.code Lib.Math.min.name Lib.Math.min.code 2 (some .int), Cond.methodLink RX3 37 yX3_isTrain, Cond.static yX3_isTrain, Cond.initialized RX3, Cond.code yX3_isTrain cX3_isTrain 1 (some .boolean), Cond.methodLink RX3 41 yX3_refuse, Cond.instanceMethod yX3_refuse, Cond.selects RX3 yX3_refuse yX3_refuse, Cond.code yX3_refuse cX3_refuse 2 (some .int), Cond.fieldLink RX3 29 "StrikingWork" "errors" "[I", Cond.methodLink RX3 157 yX3_errorIndex, Cond.static yX3_errorIndex, Cond.code yX3_errorIndex cX3_errorIndex 1 (some .int), Cond.methodLink RX3 45 yX3_save, Cond.instanceMethod yX3_save, Cond.selects RX3 yX3_save yX3_save, Cond.code yX3_save cX3_save 1 none, Cond.fieldLink RX3 33 "StrikingWork" "savedCount" "I", Cond.fieldLink RX3 16 "StrikingWork" "saved" "[LStrikingWork$State;"]
def wsX3_wind_r2 : List Cond := [Cond.methodLink RX3 168 yX3_dropOldestSaved, Cond.instanceMethod yX3_dropOldestSaved, Cond.selects RX3 yX3_dropOldestSaved yX3_dropOldestSaved, Cond.code yX3_dropOldestSaved cX3_dropOldestSaved 3 none, Cond.methodLink RX3 154 yX0_copyFrom, Cond.instanceMethod yX0_copyFrom, Cond.selects RX0 yX0_copyFrom yX0_copyFrom, Cond.initialized RX0, Cond.code yX0_copyFrom cX0_copyFrom 2 none, Cond.fieldLink RX0 14 "StrikingWork$State" "hours" "LStrikingWork$Train;", Cond.fieldLink RX0 20 "StrikingWork$State" "quarters" "LStrikingWork$Train;", Cond.fieldLink RX0 26 "StrikingWork$State" "strikes" "LStrikingWork$Strikes;", Cond.fieldLink RX0 30 "StrikingWork$State" "minute" "I", Cond.fieldLink RX0 34 "StrikingWork$State" "silenceMode" "I", Cond.fieldLink RX0 37 "StrikingWork$State" "silenceBegin" "I", Cond.fieldLink RX0 40 "StrikingWork$State" "silenceEnd" "I", Cond.methodLink RX0 47 yX2_copyFrom, Cond.instanceMethod yX2_copyFrom, Cond.selects RX2 yX2_copyFrom yX2_copyFrom, Cond.initialized RX2, Cond.code yX2_copyFrom cX2_copyFrom 2 none, Cond.fieldLink RX2 27 "StrikingWork$Train" "number" "I", Cond.fieldLink RX2 9 "StrikingWork$Train" "mechanism" "I", Cond.fieldLink RX2 15 "StrikingWork$Train" "position" "I"]
def wsX3_wind_r3 : List Cond := [Cond.fieldLink RX2 18 "StrikingWork$Train" "weight" "I", Cond.fieldLink RX2 21 "StrikingWork$Train" "sounded" "I", Cond.fieldLink RX2 24 "StrikingWork$Train" "missed" "I", Cond.methodLink RX0 51 yX1_copyFrom, Cond.instanceMethod yX1_copyFrom, Cond.selects RX1 yX1_copyFrom yX1_copyFrom, Cond.initialized RX1, Cond.code yX1_copyFrom cX1_copyFrom 3 none, Cond.fieldLink RX1 9 "StrikingWork$Strikes" "minutes" "[I", Cond.fieldLink RX1 15 "StrikingWork$Strikes" "trains" "[I", Cond.fieldLink RX1 18 "StrikingWork$Strikes" "blows" "[I", Cond.fieldLink RX1 21 "StrikingWork$Strikes" "count" "I", Cond.methodLink RX3 48 yX0_trainOf, Cond.instanceMethod yX0_trainOf, Cond.selects RX0 yX0_trainOf yX0_trainOf, Cond.code yX0_trainOf cX0_trainOf 2 (some (.object "StrikingWork$Train"))]
def wsX3_wind : List Cond := .code yX3_wind cX3_wind 5 (some .int) :: ((wsX3_wind_r1 ++ (wsX3_wind_r2 ++ wsX3_wind_r3)) ++ wsX30 ++ wsX20 ++ wsX00 ++ wsX10)
def wsX3_release_r1 : List Cond := [Cond.fieldLink RX3 10 "StrikingWork" "now" "LStrikingWork$State;", Cond.fieldLink RX3 136 "StrikingWork$State" "strikes" "LStrikingWork$Strikes;", Cond.fieldLink RX3 83 "StrikingWork$State" "minute" "I", Cond.fieldLink RX3 177 "StrikingWork$Train" "number" "I", Cond.fieldLink RX3 130 "StrikingWork$Train" "sounded" "I", Cond.methodLink RX3 127 yX2_releaseWith, Cond.instanceMethod yX2_releaseWith, Cond.selects RX2 yX2_releaseWith yX2_releaseWith, Cond.initialized RX2, Cond.code yX2_releaseWith cX2_releaseWith 3 (some .int), Cond.fieldLink RX2 9 "StrikingWork$Train" "mechanism" "I", Cond.fieldLink RX2 24 "StrikingWork$Train" "missed" "I", Cond.fieldLink RX2 18 "StrikingWork$Train" "weight" "I", Cond.fieldLink RX2 15 "StrikingWork$Train" "position" "I", Cond.methodLink RX2 50 yX2_canStrike, Cond.instanceMethod yX2_canStrike, Cond.selects RX2 yX2_canStrike yX2_canStrike, Cond.code yX2_canStrike cX2_canStrike 2 (some .boolean), Cond.methodLink RX2 47 yX2_blowsFor, Cond.instanceMethod yX2_blowsFor, Cond.selects RX2 yX2_blowsFor yX2_blowsFor, Cond.code yX2_blowsFor cX2_blowsFor 2 (some .int), Cond.methodLink RX2 54 yX2_positionAfter, Cond.instanceMethod yX2_positionAfter]
def wsX3_release_r2 : List Cond := [Cond.selects RX2 yX2_positionAfter yX2_positionAfter, Cond.code yX2_positionAfter cX2_positionAfter 2 (some .int), Cond.methodLink RX2 34 yX2_lastPosition, Cond.instanceMethod yX2_lastPosition, Cond.selects RX2 yX2_lastPosition yX2_lastPosition, Cond.code yX2_lastPosition cX2_lastPosition 1 (some .int), Cond.fieldLink RX2 27 "StrikingWork$Train" "number" "I", Cond.methodLink RX3 180 yX1_put, Cond.instanceMethod yX1_put, Cond.selects RX1 yX1_put yX1_put, Cond.initialized RX1, Cond.code yX1_put cX1_put 5 none, Cond.fieldLink RX1 9 "StrikingWork$Strikes" "minutes" "[I", Cond.fieldLink RX1 15 "StrikingWork$Strikes" "trains" "[I", Cond.fieldLink RX1 18 "StrikingWork$Strikes" "blows" "[I", Cond.fieldLink RX1 21 "StrikingWork$Strikes" "count" "I", Cond.methodLink RX1 25 Lib.Math.min.name, Cond.static Lib.Math.min.name, Cond.initialized "java/lang/Math", Cond.code Lib.Math.min.name Lib.Math.min.code 2 (some .int)]
def wsX3_release : List Cond := .code yX3_release cX3_release 5 (some .int) :: ((wsX3_release_r1 ++ wsX3_release_r2) ++ wsX30 ++ wsX00 ++ wsX20 ++ wsX10)
def wsX3_strikeQuarter_r1 : List Cond := [Cond.fieldLink RX3 10 "StrikingWork" "now" "LStrikingWork$State;", Cond.fieldLink RX3 83 "StrikingWork$State" "minute" "I", Cond.fieldLink RX3 171 "StrikingWork$State" "quarters" "LStrikingWork$Train;", Cond.fieldLink RX3 174 "StrikingWork$State" "hours" "LStrikingWork$Train;", Cond.methodLink RX3 121 yX0_blocksAt, Cond.instanceMethod yX0_blocksAt, Cond.selects RX0 yX0_blocksAt yX0_blocksAt, Cond.initialized RX0, Cond.code yX0_blocksAt cX0_blocksAt 2 (some .boolean), Cond.fieldLink RX0 34 "StrikingWork$State" "silenceMode" "I", Cond.methodLink RX0 43 yX0_hushesAt, Cond.instanceMethod yX0_hushesAt, Cond.selects RX0 yX0_hushesAt yX0_hushesAt, Cond.code yX0_hushesAt cX0_hushesAt 2 (some .boolean), Cond.fieldLink RX0 37 "StrikingWork$State" "silenceBegin" "I", Cond.fieldLink RX0 40 "StrikingWork$State" "silenceEnd" "I", Cond.methodLink RX3 133 yX0_hushesAt, Cond.methodLink RX3 124 yX2_dueAt, Cond.instanceMethod yX2_dueAt, Cond.selects RX2 yX2_dueAt yX2_dueAt, Cond.initialized RX2, Cond.code yX2_dueAt cX2_dueAt 3 (some .int), Cond.fieldLink RX2 27 "StrikingWork$Train" "number" "I", Cond.methodLink RX2 34 yX2_lastPosition]
def wsX3_strikeQuarter_r2 : List Cond := [Cond.instanceMethod yX2_lastPosition, Cond.selects RX2 yX2_lastPosition yX2_lastPosition, Cond.code yX2_lastPosition cX2_lastPosition 1 (some .int), Cond.methodLink RX3 95 yX3_release, Cond.instanceMethod yX3_release, Cond.selects RX3 yX3_release yX3_release, Cond.initialized RX3, Cond.code yX3_release cX3_release 5 (some .int), Cond.fieldLink RX3 136 "StrikingWork$State" "strikes" "LStrikingWork$Strikes;", Cond.fieldLink RX3 177 "StrikingWork$Train" "number" "I", Cond.fieldLink RX3 130 "StrikingWork$Train" "sounded" "I", Cond.methodLink RX3 127 yX2_releaseWith, Cond.instanceMethod yX2_releaseWith, Cond.selects RX2 yX2_releaseWith yX2_releaseWith, Cond.code yX2_releaseWith cX2_releaseWith 3 (some .int), Cond.fieldLink RX2 9 "StrikingWork$Train" "mechanism" "I", Cond.fieldLink RX2 24 "StrikingWork$Train" "missed" "I", Cond.fieldLink RX2 18 "StrikingWork$Train" "weight" "I", Cond.fieldLink RX2 15 "StrikingWork$Train" "position" "I", Cond.methodLink RX2 50 yX2_canStrike, Cond.instanceMethod yX2_canStrike, Cond.selects RX2 yX2_canStrike yX2_canStrike, Cond.code yX2_canStrike cX2_canStrike 2 (some .boolean), Cond.methodLink RX2 47 yX2_blowsFor]
def wsX3_strikeQuarter_r3 : List Cond := [Cond.instanceMethod yX2_blowsFor, Cond.selects RX2 yX2_blowsFor yX2_blowsFor, Cond.code yX2_blowsFor cX2_blowsFor 2 (some .int), Cond.methodLink RX2 54 yX2_positionAfter, Cond.instanceMethod yX2_positionAfter, Cond.selects RX2 yX2_positionAfter yX2_positionAfter, Cond.code yX2_positionAfter cX2_positionAfter 2 (some .int), Cond.methodLink RX3 180 yX1_put, Cond.instanceMethod yX1_put, Cond.selects RX1 yX1_put yX1_put, Cond.initialized RX1, Cond.code yX1_put cX1_put 5 none, Cond.fieldLink RX1 9 "StrikingWork$Strikes" "minutes" "[I", Cond.fieldLink RX1 15 "StrikingWork$Strikes" "trains" "[I", Cond.fieldLink RX1 18 "StrikingWork$Strikes" "blows" "[I", Cond.fieldLink RX1 21 "StrikingWork$Strikes" "count" "I", Cond.methodLink RX1 25 Lib.Math.min.name, Cond.static Lib.Math.min.name, Cond.initialized "java/lang/Math", Cond.code Lib.Math.min.name Lib.Math.min.code 2 (some .int), Cond.methodLink RX3 118 yX2_isReleasedAt, Cond.instanceMethod yX2_isReleasedAt, Cond.selects RX2 yX2_isReleasedAt yX2_isReleasedAt, Cond.code yX2_isReleasedAt cX2_isReleasedAt 2 (some .boolean)]
def wsX3_strikeQuarter_r4 : List Cond := [Cond.methodLink RX2 30 yX2_lastReleaseUpTo, Cond.instanceMethod yX2_lastReleaseUpTo, Cond.selects RX2 yX2_lastReleaseUpTo yX2_lastReleaseUpTo, Cond.code yX2_lastReleaseUpTo cX2_lastReleaseUpTo 2 (some .int)]
def wsX3_strikeQuarter : List Cond := .code yX3_strikeQuarter cX3_strikeQuarter 3 (some .int) :: ((wsX3_strikeQuarter_r1 ++ (wsX3_strikeQuarter_r2 ++ (wsX3_strikeQuarter_r3 ++ wsX3_strikeQuarter_r4))) ++ wsX30 ++ wsX00 ++ wsX20 ++ wsX10)
def wsX3_run_r1 : List Cond := [Cond.fieldLink RX3 10 "StrikingWork" "now" "LStrikingWork$State;", Cond.fieldLink RX3 83 "StrikingWork$State" "minute" "I", Cond.methodLink RX3 41 yX3_refuse, Cond.instanceMethod yX3_refuse, Cond.selects RX3 yX3_refuse yX3_refuse, Cond.initialized RX3, Cond.code yX3_refuse cX3_refuse 2 (some .int), Cond.fieldLink RX3 29 "StrikingWork" "errors" "[I", Cond.methodLink RX3 157 yX3_errorIndex, Cond.static yX3_errorIndex, Cond.code yX3_errorIndex cX3_errorIndex 1 (some .int), Cond.methodLink RX3 45 yX3_save, Cond.instanceMethod yX3_save, Cond.selects RX3 yX3_save yX3_save, Cond.code yX3_save cX3_save 1 none, Cond.fieldLink RX3 33 "StrikingWork" "savedCount" "I", Cond.fieldLink RX3 16 "StrikingWork" "saved" "[LStrikingWork$State;", Cond.methodLink RX3 168 yX3_dropOldestSaved, Cond.instanceMethod yX3_dropOldestSaved, Cond.selects RX3 yX3_dropOldestSaved yX3_dropOldestSaved, Cond.code yX3_dropOldestSaved cX3_dropOldestSaved 3 none, Cond.methodLink RX3 154 yX0_copyFrom, Cond.instanceMethod yX0_copyFrom, Cond.selects RX0 yX0_copyFrom yX0_copyFrom]
def wsX3_run_r2 : List Cond := [Cond.initialized RX0, Cond.code yX0_copyFrom cX0_copyFrom 2 none, Cond.fieldLink RX0 14 "StrikingWork$State" "hours" "LStrikingWork$Train;", Cond.fieldLink RX0 20 "StrikingWork$State" "quarters" "LStrikingWork$Train;", Cond.fieldLink RX0 26 "StrikingWork$State" "strikes" "LStrikingWork$Strikes;", Cond.fieldLink RX0 30 "StrikingWork$State" "minute" "I", Cond.fieldLink RX0 34 "StrikingWork$State" "silenceMode" "I", Cond.fieldLink RX0 37 "StrikingWork$State" "silenceBegin" "I", Cond.fieldLink RX0 40 "StrikingWork$State" "silenceEnd" "I", Cond.methodLink RX0 47 yX2_copyFrom, Cond.instanceMethod yX2_copyFrom, Cond.selects RX2 yX2_copyFrom yX2_copyFrom, Cond.initialized RX2, Cond.code yX2_copyFrom cX2_copyFrom 2 none, Cond.fieldLink RX2 27 "StrikingWork$Train" "number" "I", Cond.fieldLink RX2 9 "StrikingWork$Train" "mechanism" "I", Cond.fieldLink RX2 15 "StrikingWork$Train" "position" "I", Cond.fieldLink RX2 18 "StrikingWork$Train" "weight" "I", Cond.fieldLink RX2 21 "StrikingWork$Train" "sounded" "I", Cond.fieldLink RX2 24 "StrikingWork$Train" "missed" "I", Cond.methodLink RX0 51 yX1_copyFrom, Cond.instanceMethod yX1_copyFrom, Cond.selects RX1 yX1_copyFrom yX1_copyFrom, Cond.initialized RX1]
def wsX3_run_r3 : List Cond := [Cond.code yX1_copyFrom cX1_copyFrom 3 none, Cond.fieldLink RX1 9 "StrikingWork$Strikes" "minutes" "[I", Cond.fieldLink RX1 15 "StrikingWork$Strikes" "trains" "[I", Cond.fieldLink RX1 18 "StrikingWork$Strikes" "blows" "[I", Cond.fieldLink RX1 21 "StrikingWork$Strikes" "count" "I", Cond.methodLink RX3 86 yX3_strikeQuarter, Cond.instanceMethod yX3_strikeQuarter, Cond.selects RX3 yX3_strikeQuarter yX3_strikeQuarter, Cond.code yX3_strikeQuarter cX3_strikeQuarter 3 (some .int), Cond.fieldLink RX3 171 "StrikingWork$State" "quarters" "LStrikingWork$Train;", Cond.fieldLink RX3 174 "StrikingWork$State" "hours" "LStrikingWork$Train;", Cond.methodLink RX3 121 yX0_blocksAt, Cond.instanceMethod yX0_blocksAt, Cond.selects RX0 yX0_blocksAt yX0_blocksAt, Cond.code yX0_blocksAt cX0_blocksAt 2 (some .boolean), Cond.methodLink RX0 43 yX0_hushesAt, Cond.instanceMethod yX0_hushesAt, Cond.selects RX0 yX0_hushesAt yX0_hushesAt, Cond.code yX0_hushesAt cX0_hushesAt 2 (some .boolean), Cond.methodLink RX3 133 yX0_hushesAt, Cond.methodLink RX3 124 yX2_dueAt, Cond.instanceMethod yX2_dueAt, Cond.selects RX2 yX2_dueAt yX2_dueAt, Cond.code yX2_dueAt cX2_dueAt 3 (some .int)]
def wsX3_run_r4 : List Cond := [Cond.methodLink RX2 34 yX2_lastPosition, Cond.instanceMethod yX2_lastPosition, Cond.selects RX2 yX2_lastPosition yX2_lastPosition, Cond.code yX2_lastPosition cX2_lastPosition 1 (some .int), Cond.methodLink RX3 95 yX3_release, Cond.instanceMethod yX3_release, Cond.selects RX3 yX3_release yX3_release, Cond.code yX3_release cX3_release 5 (some .int), Cond.fieldLink RX3 136 "StrikingWork$State" "strikes" "LStrikingWork$Strikes;", Cond.fieldLink RX3 177 "StrikingWork$Train" "number" "I", Cond.fieldLink RX3 130 "StrikingWork$Train" "sounded" "I", Cond.methodLink RX3 127 yX2_releaseWith, Cond.instanceMethod yX2_releaseWith, Cond.selects RX2 yX2_releaseWith yX2_releaseWith, Cond.code yX2_releaseWith cX2_releaseWith 3 (some .int), Cond.methodLink RX2 50 yX2_canStrike, Cond.instanceMethod yX2_canStrike, Cond.selects RX2 yX2_canStrike yX2_canStrike, Cond.code yX2_canStrike cX2_canStrike 2 (some .boolean), Cond.methodLink RX2 47 yX2_blowsFor, Cond.instanceMethod yX2_blowsFor, Cond.selects RX2 yX2_blowsFor yX2_blowsFor, Cond.code yX2_blowsFor cX2_blowsFor 2 (some .int), Cond.methodLink RX2 54 yX2_positionAfter]
def wsX3_run_r5 : List Cond := [Cond.instanceMethod yX2_positionAfter, Cond.selects RX2 yX2_positionAfter yX2_positionAfter, Cond.code yX2_positionAfter cX2_positionAfter 2 (some .int), Cond.methodLink RX3 180 yX1_put, Cond.instanceMethod yX1_put, Cond.selects RX1 yX1_put yX1_put, Cond.code yX1_put cX1_put 5 none, Cond.methodLink RX1 25 Lib.Math.min.name, Cond.static Lib.Math.min.name, Cond.initialized "java/lang/Math", Cond.code Lib.Math.min.name Lib.Math.min.code 2 (some .int), Cond.methodLink RX3 118 yX2_isReleasedAt, Cond.instanceMethod yX2_isReleasedAt, Cond.selects RX2 yX2_isReleasedAt yX2_isReleasedAt, Cond.code yX2_isReleasedAt cX2_isReleasedAt 2 (some .boolean), Cond.methodLink RX2 30 yX2_lastReleaseUpTo, Cond.instanceMethod yX2_lastReleaseUpTo, Cond.selects RX2 yX2_lastReleaseUpTo yX2_lastReleaseUpTo, Cond.code yX2_lastReleaseUpTo cX2_lastReleaseUpTo 2 (some .int)]
def wsX3_run : List Cond := .code yX3_run cX3_run 5 (some .int) :: ((wsX3_run_r1 ++ (wsX3_run_r2 ++ (wsX3_run_r3 ++ (wsX3_run_r4 ++ wsX3_run_r5)))) ++ wsX30 ++ wsX00 ++ wsX20 ++ wsX10)
def wsX3_setHands_r1 : List Cond := [Cond.fieldLink RX3 10 "StrikingWork" "now" "LStrikingWork$State;", Cond.fieldLink RX3 83 "StrikingWork$State" "minute" "I", Cond.methodLink RX3 62 yX3_isMinute, Cond.static yX3_isMinute, Cond.initialized RX3, Cond.code yX3_isMinute cX3_isMinute 1 (some .boolean), Cond.methodLink RX3 41 yX3_refuse, Cond.instanceMethod yX3_refuse, Cond.selects RX3 yX3_refuse yX3_refuse, Cond.code yX3_refuse cX3_refuse 2 (some .int), Cond.fieldLink RX3 29 "StrikingWork" "errors" "[I", Cond.methodLink RX3 157 yX3_errorIndex, Cond.static yX3_errorIndex, Cond.code yX3_errorIndex cX3_errorIndex 1 (some .int), Cond.methodLink RX3 45 yX3_save, Cond.instanceMethod yX3_save, Cond.selects RX3 yX3_save yX3_save, Cond.code yX3_save cX3_save 1 none, Cond.fieldLink RX3 33 "StrikingWork" "savedCount" "I", Cond.fieldLink RX3 16 "StrikingWork" "saved" "[LStrikingWork$State;", Cond.methodLink RX3 168 yX3_dropOldestSaved, Cond.instanceMethod yX3_dropOldestSaved, Cond.selects RX3 yX3_dropOldestSaved yX3_dropOldestSaved, Cond.code yX3_dropOldestSaved cX3_dropOldestSaved 3 none]
def wsX3_setHands_r2 : List Cond := [Cond.methodLink RX3 154 yX0_copyFrom, Cond.instanceMethod yX0_copyFrom, Cond.selects RX0 yX0_copyFrom yX0_copyFrom, Cond.initialized RX0, Cond.code yX0_copyFrom cX0_copyFrom 2 none, Cond.fieldLink RX0 14 "StrikingWork$State" "hours" "LStrikingWork$Train;", Cond.fieldLink RX0 20 "StrikingWork$State" "quarters" "LStrikingWork$Train;", Cond.fieldLink RX0 26 "StrikingWork$State" "strikes" "LStrikingWork$Strikes;", Cond.fieldLink RX0 30 "StrikingWork$State" "minute" "I", Cond.fieldLink RX0 34 "StrikingWork$State" "silenceMode" "I", Cond.fieldLink RX0 37 "StrikingWork$State" "silenceBegin" "I", Cond.fieldLink RX0 40 "StrikingWork$State" "silenceEnd" "I", Cond.methodLink RX0 47 yX2_copyFrom, Cond.instanceMethod yX2_copyFrom, Cond.selects RX2 yX2_copyFrom yX2_copyFrom, Cond.initialized RX2, Cond.code yX2_copyFrom cX2_copyFrom 2 none, Cond.fieldLink RX2 27 "StrikingWork$Train" "number" "I", Cond.fieldLink RX2 9 "StrikingWork$Train" "mechanism" "I", Cond.fieldLink RX2 15 "StrikingWork$Train" "position" "I", Cond.fieldLink RX2 18 "StrikingWork$Train" "weight" "I", Cond.fieldLink RX2 21 "StrikingWork$Train" "sounded" "I", Cond.fieldLink RX2 24 "StrikingWork$Train" "missed" "I", Cond.methodLink RX0 51 yX1_copyFrom]
def wsX3_setHands_r3 : List Cond := [Cond.instanceMethod yX1_copyFrom, Cond.selects RX1 yX1_copyFrom yX1_copyFrom, Cond.initialized RX1, Cond.code yX1_copyFrom cX1_copyFrom 3 none, Cond.fieldLink RX1 9 "StrikingWork$Strikes" "minutes" "[I", Cond.fieldLink RX1 15 "StrikingWork$Strikes" "trains" "[I", Cond.fieldLink RX1 18 "StrikingWork$Strikes" "blows" "[I", Cond.fieldLink RX1 21 "StrikingWork$Strikes" "count" "I"]
def wsX3_setHands : List Cond := .code yX3_setHands cX3_setHands 3 (some .int) :: ((wsX3_setHands_r1 ++ (wsX3_setHands_r2 ++ wsX3_setHands_r3)) ++ wsX30 ++ wsX00 ++ wsX20 ++ wsX10)
def wsX3_trip_r1 : List Cond := [Cond.fieldLink RX3 10 "StrikingWork" "now" "LStrikingWork$State;", Cond.fieldLink RX3 83 "StrikingWork$State" "minute" "I", Cond.methodLink RX3 37 yX3_isTrain, Cond.static yX3_isTrain, Cond.initialized RX3, Cond.code yX3_isTrain cX3_isTrain 1 (some .boolean), Cond.methodLink RX3 41 yX3_refuse, Cond.instanceMethod yX3_refuse, Cond.selects RX3 yX3_refuse yX3_refuse, Cond.code yX3_refuse cX3_refuse 2 (some .int), Cond.fieldLink RX3 29 "StrikingWork" "errors" "[I", Cond.methodLink RX3 157 yX3_errorIndex, Cond.static yX3_errorIndex, Cond.code yX3_errorIndex cX3_errorIndex 1 (some .int), Cond.methodLink RX3 48 yX0_trainOf, Cond.instanceMethod yX0_trainOf, Cond.selects RX0 yX0_trainOf yX0_trainOf, Cond.initialized RX0, Cond.code yX0_trainOf cX0_trainOf 2 (some (.object "StrikingWork$Train")), Cond.fieldLink RX0 14 "StrikingWork$State" "hours" "LStrikingWork$Train;", Cond.fieldLink RX0 20 "StrikingWork$State" "quarters" "LStrikingWork$Train;", Cond.methodLink RX3 89 yX2_dueAfter, Cond.instanceMethod yX2_dueAfter, Cond.selects RX2 yX2_dueAfter yX2_dueAfter]
def wsX3_trip_r2 : List Cond := [Cond.initialized RX2, Cond.code yX2_dueAfter cX2_dueAfter 2 (some .int), Cond.methodLink RX2 38 yX2_period, Cond.instanceMethod yX2_period, Cond.selects RX2 yX2_period yX2_period, Cond.code yX2_period cX2_period 1 (some .int), Cond.fieldLink RX2 27 "StrikingWork$Train" "number" "I", Cond.methodLink RX2 41 yX2_dueAt, Cond.instanceMethod yX2_dueAt, Cond.selects RX2 yX2_dueAt yX2_dueAt, Cond.code yX2_dueAt cX2_dueAt 3 (some .int), Cond.methodLink RX2 34 yX2_lastPosition, Cond.instanceMethod yX2_lastPosition, Cond.selects RX2 yX2_lastPosition yX2_lastPosition, Cond.code yX2_lastPosition cX2_lastPosition 1 (some .int), Cond.methodLink RX3 92 yX2_canStrike, Cond.instanceMethod yX2_canStrike, Cond.selects RX2 yX2_canStrike yX2_canStrike, Cond.code yX2_canStrike cX2_canStrike 2 (some .boolean), Cond.fieldLink RX2 9 "StrikingWork$Train" "mechanism" "I", Cond.fieldLink RX2 18 "StrikingWork$Train" "weight" "I", Cond.methodLink RX2 47 yX2_blowsFor, Cond.instanceMethod yX2_blowsFor, Cond.selects RX2 yX2_blowsFor yX2_blowsFor]
def wsX3_trip_r3 : List Cond := [Cond.code yX2_blowsFor cX2_blowsFor 2 (some .int), Cond.fieldLink RX2 15 "StrikingWork$Train" "position" "I", Cond.methodLink RX3 45 yX3_save, Cond.instanceMethod yX3_save, Cond.selects RX3 yX3_save yX3_save, Cond.code yX3_save cX3_save 1 none, Cond.fieldLink RX3 33 "StrikingWork" "savedCount" "I", Cond.fieldLink RX3 16 "StrikingWork" "saved" "[LStrikingWork$State;", Cond.methodLink RX3 168 yX3_dropOldestSaved, Cond.instanceMethod yX3_dropOldestSaved, Cond.selects RX3 yX3_dropOldestSaved yX3_dropOldestSaved, Cond.code yX3_dropOldestSaved cX3_dropOldestSaved 3 none, Cond.methodLink RX3 154 yX0_copyFrom, Cond.instanceMethod yX0_copyFrom, Cond.selects RX0 yX0_copyFrom yX0_copyFrom, Cond.code yX0_copyFrom cX0_copyFrom 2 none, Cond.fieldLink RX0 26 "StrikingWork$State" "strikes" "LStrikingWork$Strikes;", Cond.fieldLink RX0 30 "StrikingWork$State" "minute" "I", Cond.fieldLink RX0 34 "StrikingWork$State" "silenceMode" "I", Cond.fieldLink RX0 37 "StrikingWork$State" "silenceBegin" "I", Cond.fieldLink RX0 40 "StrikingWork$State" "silenceEnd" "I", Cond.methodLink RX0 47 yX2_copyFrom, Cond.instanceMethod yX2_copyFrom, Cond.selects RX2 yX2_copyFrom yX2_copyFrom]
def wsX3_trip_r4 : List Cond := [Cond.code yX2_copyFrom cX2_copyFrom 2 none, Cond.fieldLink RX2 21 "StrikingWork$Train" "sounded" "I", Cond.fieldLink RX2 24 "StrikingWork$Train" "missed" "I", Cond.methodLink RX0 51 yX1_copyFrom, Cond.instanceMethod yX1_copyFrom, Cond.selects RX1 yX1_copyFrom yX1_copyFrom, Cond.initialized RX1, Cond.code yX1_copyFrom cX1_copyFrom 3 none, Cond.fieldLink RX1 9 "StrikingWork$Strikes" "minutes" "[I", Cond.fieldLink RX1 15 "StrikingWork$Strikes" "trains" "[I", Cond.fieldLink RX1 18 "StrikingWork$Strikes" "blows" "[I", Cond.fieldLink RX1 21 "StrikingWork$Strikes" "count" "I", Cond.methodLink RX3 95 yX3_release, Cond.instanceMethod yX3_release, Cond.selects RX3 yX3_release yX3_release, Cond.code yX3_release cX3_release 5 (some .int), Cond.fieldLink RX3 136 "StrikingWork$State" "strikes" "LStrikingWork$Strikes;", Cond.fieldLink RX3 177 "StrikingWork$Train" "number" "I", Cond.fieldLink RX3 130 "StrikingWork$Train" "sounded" "I", Cond.methodLink RX3 127 yX2_releaseWith, Cond.instanceMethod yX2_releaseWith, Cond.selects RX2 yX2_releaseWith yX2_releaseWith, Cond.code yX2_releaseWith cX2_releaseWith 3 (some .int), Cond.methodLink RX2 50 yX2_canStrike]
def wsX3_trip_r5 : List Cond := [Cond.methodLink RX2 54 yX2_positionAfter, Cond.instanceMethod yX2_positionAfter, Cond.selects RX2 yX2_positionAfter yX2_positionAfter, Cond.code yX2_positionAfter cX2_positionAfter 2 (some .int), Cond.methodLink RX3 180 yX1_put, Cond.instanceMethod yX1_put, Cond.selects RX1 yX1_put yX1_put, Cond.code yX1_put cX1_put 5 none, Cond.methodLink RX1 25 Lib.Math.min.name, Cond.static Lib.Math.min.name, Cond.initialized "java/lang/Math", Cond.code Lib.Math.min.name Lib.Math.min.code 2 (some .int)]
def wsX3_trip : List Cond := .code yX3_trip cX3_trip 4 (some .int) :: ((wsX3_trip_r1 ++ (wsX3_trip_r2 ++ (wsX3_trip_r3 ++ (wsX3_trip_r4 ++ wsX3_trip_r5)))) ++ wsX30 ++ wsX00 ++ wsX20 ++ wsX10)
def wsX3_nextDue_r1 : List Cond := [Cond.fieldLink RX3 10 "StrikingWork" "now" "LStrikingWork$State;", Cond.fieldLink RX3 83 "StrikingWork$State" "minute" "I", Cond.methodLink RX3 37 yX3_isTrain, Cond.static yX3_isTrain, Cond.initialized RX3, Cond.code yX3_isTrain cX3_isTrain 1 (some .boolean), Cond.methodLink RX3 48 yX0_trainOf, Cond.instanceMethod yX0_trainOf, Cond.selects RX0 yX0_trainOf yX0_trainOf, Cond.initialized RX0, Cond.code yX0_trainOf cX0_trainOf 2 (some (.object "StrikingWork$Train")), Cond.fieldLink RX0 14 "StrikingWork$State" "hours" "LStrikingWork$Train;", Cond.fieldLink RX0 20 "StrikingWork$State" "quarters" "LStrikingWork$Train;", Cond.methodLink RX3 89 yX2_dueAfter, Cond.instanceMethod yX2_dueAfter, Cond.selects RX2 yX2_dueAfter yX2_dueAfter, Cond.initialized RX2, Cond.code yX2_dueAfter cX2_dueAfter 2 (some .int), Cond.methodLink RX2 38 yX2_period, Cond.instanceMethod yX2_period, Cond.selects RX2 yX2_period yX2_period, Cond.code yX2_period cX2_period 1 (some .int), Cond.fieldLink RX2 27 "StrikingWork$Train" "number" "I", Cond.methodLink RX2 41 yX2_dueAt]
def wsX3_nextDue_r2 : List Cond := [Cond.instanceMethod yX2_dueAt, Cond.selects RX2 yX2_dueAt yX2_dueAt, Cond.code yX2_dueAt cX2_dueAt 3 (some .int), Cond.methodLink RX2 34 yX2_lastPosition, Cond.instanceMethod yX2_lastPosition, Cond.selects RX2 yX2_lastPosition yX2_lastPosition, Cond.code yX2_lastPosition cX2_lastPosition 1 (some .int), Cond.methodLink RX3 41 yX3_refuse, Cond.instanceMethod yX3_refuse, Cond.selects RX3 yX3_refuse yX3_refuse, Cond.code yX3_refuse cX3_refuse 2 (some .int), Cond.fieldLink RX3 29 "StrikingWork" "errors" "[I", Cond.methodLink RX3 157 yX3_errorIndex, Cond.static yX3_errorIndex, Cond.code yX3_errorIndex cX3_errorIndex 1 (some .int)]
def wsX3_nextDue : List Cond := .code yX3_nextDue cX3_nextDue 2 (some .int) :: ((wsX3_nextDue_r1 ++ wsX3_nextDue_r2) ++ wsX30 ++ wsX00 ++ wsX20)
def wsX3_lag_r1 : List Cond := [Cond.fieldLink RX3 10 "StrikingWork" "now" "LStrikingWork$State;", Cond.fieldLink RX3 83 "StrikingWork$State" "minute" "I", Cond.methodLink RX3 37 yX3_isTrain, Cond.static yX3_isTrain, Cond.initialized RX3, Cond.code yX3_isTrain cX3_isTrain 1 (some .boolean), Cond.methodLink RX3 48 yX0_trainOf, Cond.instanceMethod yX0_trainOf, Cond.selects RX0 yX0_trainOf yX0_trainOf, Cond.initialized RX0, Cond.code yX0_trainOf cX0_trainOf 2 (some (.object "StrikingWork$Train")), Cond.fieldLink RX0 14 "StrikingWork$State" "hours" "LStrikingWork$Train;", Cond.fieldLink RX0 20 "StrikingWork$State" "quarters" "LStrikingWork$Train;", Cond.methodLink RX3 99 yX2_lagAt, Cond.instanceMethod yX2_lagAt, Cond.selects RX2 yX2_lagAt yX2_lagAt, Cond.initialized RX2, Cond.code yX2_lagAt cX2_lagAt 3 (some .int), Cond.fieldLink RX2 9 "StrikingWork$Train" "mechanism" "I", Cond.fieldLink RX2 15 "StrikingWork$Train" "position" "I", Cond.methodLink RX2 44 yX2_dueAfter, Cond.instanceMethod yX2_dueAfter, Cond.selects RX2 yX2_dueAfter yX2_dueAfter, Cond.code yX2_dueAfter cX2_dueAfter 2 (some .int)]
def wsX3_lag_r2 : List Cond := [Cond.methodLink RX2 38 yX2_period, Cond.instanceMethod yX2_period, Cond.selects RX2 yX2_period yX2_period, Cond.code yX2_period cX2_period 1 (some .int), Cond.fieldLink RX2 27 "StrikingWork$Train" "number" "I", Cond.methodLink RX2 41 yX2_dueAt, Cond.instanceMethod yX2_dueAt, Cond.selects RX2 yX2_dueAt yX2_dueAt, Cond.code yX2_dueAt cX2_dueAt 3 (some .int), Cond.methodLink RX2 34 yX2_lastPosition, Cond.instanceMethod yX2_lastPosition, Cond.selects RX2 yX2_lastPosition yX2_lastPosition, Cond.code yX2_lastPosition cX2_lastPosition 1 (some .int), Cond.methodLink RX3 41 yX3_refuse, Cond.instanceMethod yX3_refuse, Cond.selects RX3 yX3_refuse yX3_refuse, Cond.code yX3_refuse cX3_refuse 2 (some .int), Cond.fieldLink RX3 29 "StrikingWork" "errors" "[I", Cond.methodLink RX3 157 yX3_errorIndex, Cond.static yX3_errorIndex, Cond.code yX3_errorIndex cX3_errorIndex 1 (some .int)]
def wsX3_lag : List Cond := .code yX3_lag cX3_lag 2 (some .int) :: ((wsX3_lag_r1 ++ wsX3_lag_r2) ++ wsX30 ++ wsX00 ++ wsX20)
def wsX3_blowsToCorrect_r1 : List Cond := [Cond.fieldLink RX3 10 "StrikingWork" "now" "LStrikingWork$State;", Cond.fieldLink RX3 83 "StrikingWork$State" "minute" "I", Cond.fieldLink RX3 59 "StrikingWork$Train" "position" "I", Cond.methodLink RX3 37 yX3_isTrain, Cond.static yX3_isTrain, Cond.initialized RX3, Cond.code yX3_isTrain cX3_isTrain 1 (some .boolean), Cond.methodLink RX3 41 yX3_refuse, Cond.instanceMethod yX3_refuse, Cond.selects RX3 yX3_refuse yX3_refuse, Cond.code yX3_refuse cX3_refuse 2 (some .int), Cond.fieldLink RX3 29 "StrikingWork" "errors" "[I", Cond.methodLink RX3 157 yX3_errorIndex, Cond.static yX3_errorIndex, Cond.code yX3_errorIndex cX3_errorIndex 1 (some .int), Cond.methodLink RX3 48 yX0_trainOf, Cond.instanceMethod yX0_trainOf, Cond.selects RX0 yX0_trainOf yX0_trainOf, Cond.initialized RX0, Cond.code yX0_trainOf cX0_trainOf 2 (some (.object "StrikingWork$Train")), Cond.fieldLink RX0 14 "StrikingWork$State" "hours" "LStrikingWork$Train;", Cond.fieldLink RX0 20 "StrikingWork$State" "quarters" "LStrikingWork$Train;", Cond.methodLink RX3 99 yX2_lagAt, Cond.instanceMethod yX2_lagAt]
def wsX3_blowsToCorrect_r2 : List Cond := [Cond.selects RX2 yX2_lagAt yX2_lagAt, Cond.initialized RX2, Cond.code yX2_lagAt cX2_lagAt 3 (some .int), Cond.fieldLink RX2 9 "StrikingWork$Train" "mechanism" "I", Cond.fieldLink RX2 15 "StrikingWork$Train" "position" "I", Cond.methodLink RX2 44 yX2_dueAfter, Cond.instanceMethod yX2_dueAfter, Cond.selects RX2 yX2_dueAfter yX2_dueAfter, Cond.code yX2_dueAfter cX2_dueAfter 2 (some .int), Cond.methodLink RX2 38 yX2_period, Cond.instanceMethod yX2_period, Cond.selects RX2 yX2_period yX2_period, Cond.code yX2_period cX2_period 1 (some .int), Cond.fieldLink RX2 27 "StrikingWork$Train" "number" "I", Cond.methodLink RX2 41 yX2_dueAt, Cond.instanceMethod yX2_dueAt, Cond.selects RX2 yX2_dueAt yX2_dueAt, Cond.code yX2_dueAt cX2_dueAt 3 (some .int), Cond.methodLink RX2 34 yX2_lastPosition, Cond.instanceMethod yX2_lastPosition, Cond.selects RX2 yX2_lastPosition yX2_lastPosition, Cond.code yX2_lastPosition cX2_lastPosition 1 (some .int), Cond.methodLink RX3 102 yX2_positionAfter, Cond.instanceMethod yX2_positionAfter]
def wsX3_blowsToCorrect_r3 : List Cond := [Cond.selects RX2 yX2_positionAfter yX2_positionAfter, Cond.code yX2_positionAfter cX2_positionAfter 2 (some .int)]
def wsX3_blowsToCorrect : List Cond := .code yX3_blowsToCorrect cX3_blowsToCorrect 7 (some .int) :: ((wsX3_blowsToCorrect_r1 ++ (wsX3_blowsToCorrect_r2 ++ wsX3_blowsToCorrect_r3)) ++ wsX30 ++ wsX00 ++ wsX20)
def wsX3_handsToCorrect_r1 : List Cond := [Cond.fieldLink RX3 10 "StrikingWork" "now" "LStrikingWork$State;", Cond.fieldLink RX3 83 "StrikingWork$State" "minute" "I", Cond.methodLink RX3 37 yX3_isTrain, Cond.static yX3_isTrain, Cond.initialized RX3, Cond.code yX3_isTrain cX3_isTrain 1 (some .boolean), Cond.methodLink RX3 41 yX3_refuse, Cond.instanceMethod yX3_refuse, Cond.selects RX3 yX3_refuse yX3_refuse, Cond.code yX3_refuse cX3_refuse 2 (some .int), Cond.fieldLink RX3 29 "StrikingWork" "errors" "[I", Cond.methodLink RX3 157 yX3_errorIndex, Cond.static yX3_errorIndex, Cond.code yX3_errorIndex cX3_errorIndex 1 (some .int), Cond.methodLink RX3 48 yX0_trainOf, Cond.instanceMethod yX0_trainOf, Cond.selects RX0 yX0_trainOf yX0_trainOf, Cond.initialized RX0, Cond.code yX0_trainOf cX0_trainOf 2 (some (.object "StrikingWork$Train")), Cond.fieldLink RX0 14 "StrikingWork$State" "hours" "LStrikingWork$Train;", Cond.fieldLink RX0 20 "StrikingWork$State" "quarters" "LStrikingWork$Train;", Cond.methodLink RX3 99 yX2_lagAt, Cond.instanceMethod yX2_lagAt, Cond.selects RX2 yX2_lagAt yX2_lagAt]
def wsX3_handsToCorrect_r2 : List Cond := [Cond.initialized RX2, Cond.code yX2_lagAt cX2_lagAt 3 (some .int), Cond.fieldLink RX2 9 "StrikingWork$Train" "mechanism" "I", Cond.fieldLink RX2 15 "StrikingWork$Train" "position" "I", Cond.methodLink RX2 44 yX2_dueAfter, Cond.instanceMethod yX2_dueAfter, Cond.selects RX2 yX2_dueAfter yX2_dueAfter, Cond.code yX2_dueAfter cX2_dueAfter 2 (some .int), Cond.methodLink RX2 38 yX2_period, Cond.instanceMethod yX2_period, Cond.selects RX2 yX2_period yX2_period, Cond.code yX2_period cX2_period 1 (some .int), Cond.fieldLink RX2 27 "StrikingWork$Train" "number" "I", Cond.methodLink RX2 41 yX2_dueAt, Cond.instanceMethod yX2_dueAt, Cond.selects RX2 yX2_dueAt yX2_dueAt, Cond.code yX2_dueAt cX2_dueAt 3 (some .int), Cond.methodLink RX2 34 yX2_lastPosition, Cond.instanceMethod yX2_lastPosition, Cond.selects RX2 yX2_lastPosition yX2_lastPosition, Cond.code yX2_lastPosition cX2_lastPosition 1 (some .int), Cond.methodLink RX3 55 yX2_lastPosition, Cond.methodLink RX3 105 yX2_lastReleaseUpTo, Cond.instanceMethod yX2_lastReleaseUpTo]
def wsX3_handsToCorrect_r3 : List Cond := [Cond.selects RX2 yX2_lastReleaseUpTo yX2_lastReleaseUpTo, Cond.code yX2_lastReleaseUpTo cX2_lastReleaseUpTo 2 (some .int), Cond.methodLink RX3 108 yX2_period]
def wsX3_handsToCorrect : List Cond := .code yX3_handsToCorrect cX3_handsToCorrect 5 (some .int) :: ((wsX3_handsToCorrect_r1 ++ (wsX3_handsToCorrect_r2 ++ wsX3_handsToCorrect_r3)) ++ wsX30 ++ wsX00 ++ wsX20)
def wsX3_minutesToMiss_r1 : List Cond := [Cond.fieldLink RX3 25 "StrikingWork" "trial" "LStrikingWork$Train;", Cond.fieldLink RX3 10 "StrikingWork" "now" "LStrikingWork$State;", Cond.fieldLink RX3 115 "StrikingWork$Train" "missed" "I", Cond.fieldLink RX3 83 "StrikingWork$State" "minute" "I", Cond.methodLink RX3 37 yX3_isTrain, Cond.static yX3_isTrain, Cond.initialized RX3, Cond.code yX3_isTrain cX3_isTrain 1 (some .boolean), Cond.methodLink RX3 41 yX3_refuse, Cond.instanceMethod yX3_refuse, Cond.selects RX3 yX3_refuse yX3_refuse, Cond.code yX3_refuse cX3_refuse 2 (some .int), Cond.fieldLink RX3 29 "StrikingWork" "errors" "[I", Cond.methodLink RX3 157 yX3_errorIndex, Cond.static yX3_errorIndex, Cond.code yX3_errorIndex cX3_errorIndex 1 (some .int), Cond.methodLink RX3 48 yX0_trainOf, Cond.instanceMethod yX0_trainOf, Cond.selects RX0 yX0_trainOf yX0_trainOf, Cond.initialized RX0, Cond.code yX0_trainOf cX0_trainOf 2 (some (.object "StrikingWork$Train")), Cond.fieldLink RX0 14 "StrikingWork$State" "hours" "LStrikingWork$Train;", Cond.fieldLink RX0 20 "StrikingWork$State" "quarters" "LStrikingWork$Train;", Cond.methodLink RX3 111 yX2_copyFrom]
def wsX3_minutesToMiss_r2 : List Cond := [Cond.instanceMethod yX2_copyFrom, Cond.selects RX2 yX2_copyFrom yX2_copyFrom, Cond.initialized RX2, Cond.code yX2_copyFrom cX2_copyFrom 2 none, Cond.fieldLink RX2 27 "StrikingWork$Train" "number" "I", Cond.fieldLink RX2 9 "StrikingWork$Train" "mechanism" "I", Cond.fieldLink RX2 15 "StrikingWork$Train" "position" "I", Cond.fieldLink RX2 18 "StrikingWork$Train" "weight" "I", Cond.fieldLink RX2 21 "StrikingWork$Train" "sounded" "I", Cond.fieldLink RX2 24 "StrikingWork$Train" "missed" "I", Cond.methodLink RX3 118 yX2_isReleasedAt, Cond.instanceMethod yX2_isReleasedAt, Cond.selects RX2 yX2_isReleasedAt yX2_isReleasedAt, Cond.code yX2_isReleasedAt cX2_isReleasedAt 2 (some .boolean), Cond.methodLink RX2 30 yX2_lastReleaseUpTo, Cond.instanceMethod yX2_lastReleaseUpTo, Cond.selects RX2 yX2_lastReleaseUpTo yX2_lastReleaseUpTo, Cond.code yX2_lastReleaseUpTo cX2_lastReleaseUpTo 2 (some .int), Cond.methodLink RX3 121 yX0_blocksAt, Cond.instanceMethod yX0_blocksAt, Cond.selects RX0 yX0_blocksAt yX0_blocksAt, Cond.code yX0_blocksAt cX0_blocksAt 2 (some .boolean), Cond.fieldLink RX0 34 "StrikingWork$State" "silenceMode" "I", Cond.methodLink RX0 43 yX0_hushesAt]
def wsX3_minutesToMiss_r3 : List Cond := [Cond.instanceMethod yX0_hushesAt, Cond.selects RX0 yX0_hushesAt yX0_hushesAt, Cond.code yX0_hushesAt cX0_hushesAt 2 (some .boolean), Cond.fieldLink RX0 37 "StrikingWork$State" "silenceBegin" "I", Cond.fieldLink RX0 40 "StrikingWork$State" "silenceEnd" "I", Cond.methodLink RX3 124 yX2_dueAt, Cond.instanceMethod yX2_dueAt, Cond.selects RX2 yX2_dueAt yX2_dueAt, Cond.code yX2_dueAt cX2_dueAt 3 (some .int), Cond.methodLink RX2 34 yX2_lastPosition, Cond.instanceMethod yX2_lastPosition, Cond.selects RX2 yX2_lastPosition yX2_lastPosition, Cond.code yX2_lastPosition cX2_lastPosition 1 (some .int), Cond.methodLink RX3 127 yX2_releaseWith, Cond.instanceMethod yX2_releaseWith, Cond.selects RX2 yX2_releaseWith yX2_releaseWith, Cond.code yX2_releaseWith cX2_releaseWith 3 (some .int), Cond.methodLink RX2 50 yX2_canStrike, Cond.instanceMethod yX2_canStrike, Cond.selects RX2 yX2_canStrike yX2_canStrike, Cond.code yX2_canStrike cX2_canStrike 2 (some .boolean), Cond.methodLink RX2 47 yX2_blowsFor, Cond.instanceMethod yX2_blowsFor, Cond.selects RX2 yX2_blowsFor yX2_blowsFor]
def wsX3_minutesToMiss_r4 : List Cond := [Cond.code yX2_blowsFor cX2_blowsFor 2 (some .int), Cond.methodLink RX2 54 yX2_positionAfter, Cond.instanceMethod yX2_positionAfter, Cond.selects RX2 yX2_positionAfter yX2_positionAfter, Cond.code yX2_positionAfter cX2_positionAfter 2 (some .int)]
def wsX3_minutesToMiss : List Cond := .code yX3_minutesToMiss cX3_minutesToMiss 5 (some .int) :: ((wsX3_minutesToMiss_r1 ++ (wsX3_minutesToMiss_r2 ++ (wsX3_minutesToMiss_r3 ++ wsX3_minutesToMiss_r4))) ++ wsX30 ++ wsX20 ++ wsX00)
def wsX3_minute : List Cond := .code yX3_minute cX3_minute 1 (some .int) :: ([.fieldLink RX3 10 "StrikingWork" "now" "LStrikingWork$State;", .fieldLink RX3 83 "StrikingWork$State" "minute" "I"] ++ wsX30 ++ wsX00)
def wsX3_position : List Cond := .code yX3_position cX3_position 2 (some .int) :: ([.fieldLink RX3 10 "StrikingWork" "now" "LStrikingWork$State;", .fieldLink RX3 59 "StrikingWork$Train" "position" "I", .methodLink RX3 37 yX3_isTrain, .static yX3_isTrain, .initialized RX3, .code yX3_isTrain cX3_isTrain 1 (some .boolean), .methodLink RX3 48 yX0_trainOf, .instanceMethod yX0_trainOf, .selects RX0 yX0_trainOf yX0_trainOf, .initialized RX0, .code yX0_trainOf cX0_trainOf 2 (some (.object "StrikingWork$Train")), .fieldLink RX0 14 "StrikingWork$State" "hours" "LStrikingWork$Train;", .fieldLink RX0 20 "StrikingWork$State" "quarters" "LStrikingWork$Train;", .methodLink RX3 41 yX3_refuse, .instanceMethod yX3_refuse, .selects RX3 yX3_refuse yX3_refuse, .code yX3_refuse cX3_refuse 2 (some .int), .fieldLink RX3 29 "StrikingWork" "errors" "[I", .methodLink RX3 157 yX3_errorIndex, .static yX3_errorIndex, .code yX3_errorIndex cX3_errorIndex 1 (some .int)] ++ wsX30 ++ wsX20 ++ wsX00)
def wsX3_weight : List Cond := .code yX3_weight cX3_weight 2 (some .int) :: ([.fieldLink RX3 10 "StrikingWork" "now" "LStrikingWork$State;", .fieldLink RX3 74 "StrikingWork$Train" "weight" "I", .methodLink RX3 37 yX3_isTrain, .static yX3_isTrain, .initialized RX3, .code yX3_isTrain cX3_isTrain 1 (some .boolean), .methodLink RX3 48 yX0_trainOf, .instanceMethod yX0_trainOf, .selects RX0 yX0_trainOf yX0_trainOf, .initialized RX0, .code yX0_trainOf cX0_trainOf 2 (some (.object "StrikingWork$Train")), .fieldLink RX0 14 "StrikingWork$State" "hours" "LStrikingWork$Train;", .fieldLink RX0 20 "StrikingWork$State" "quarters" "LStrikingWork$Train;", .methodLink RX3 41 yX3_refuse, .instanceMethod yX3_refuse, .selects RX3 yX3_refuse yX3_refuse, .code yX3_refuse cX3_refuse 2 (some .int), .fieldLink RX3 29 "StrikingWork" "errors" "[I", .methodLink RX3 157 yX3_errorIndex, .static yX3_errorIndex, .code yX3_errorIndex cX3_errorIndex 1 (some .int)] ++ wsX30 ++ wsX20 ++ wsX00)
def wsX3_sounded : List Cond := .code yX3_sounded cX3_sounded 2 (some .int) :: ([.fieldLink RX3 10 "StrikingWork" "now" "LStrikingWork$State;", .fieldLink RX3 130 "StrikingWork$Train" "sounded" "I", .methodLink RX3 37 yX3_isTrain, .static yX3_isTrain, .initialized RX3, .code yX3_isTrain cX3_isTrain 1 (some .boolean), .methodLink RX3 48 yX0_trainOf, .instanceMethod yX0_trainOf, .selects RX0 yX0_trainOf yX0_trainOf, .initialized RX0, .code yX0_trainOf cX0_trainOf 2 (some (.object "StrikingWork$Train")), .fieldLink RX0 14 "StrikingWork$State" "hours" "LStrikingWork$Train;", .fieldLink RX0 20 "StrikingWork$State" "quarters" "LStrikingWork$Train;", .methodLink RX3 41 yX3_refuse, .instanceMethod yX3_refuse, .selects RX3 yX3_refuse yX3_refuse, .code yX3_refuse cX3_refuse 2 (some .int), .fieldLink RX3 29 "StrikingWork" "errors" "[I", .methodLink RX3 157 yX3_errorIndex, .static yX3_errorIndex, .code yX3_errorIndex cX3_errorIndex 1 (some .int)] ++ wsX30 ++ wsX20 ++ wsX00)
def wsX3_missed : List Cond := .code yX3_missed cX3_missed 2 (some .int) :: ([.fieldLink RX3 10 "StrikingWork" "now" "LStrikingWork$State;", .fieldLink RX3 115 "StrikingWork$Train" "missed" "I", .methodLink RX3 37 yX3_isTrain, .static yX3_isTrain, .initialized RX3, .code yX3_isTrain cX3_isTrain 1 (some .boolean), .methodLink RX3 48 yX0_trainOf, .instanceMethod yX0_trainOf, .selects RX0 yX0_trainOf yX0_trainOf, .initialized RX0, .code yX0_trainOf cX0_trainOf 2 (some (.object "StrikingWork$Train")), .fieldLink RX0 14 "StrikingWork$State" "hours" "LStrikingWork$Train;", .fieldLink RX0 20 "StrikingWork$State" "quarters" "LStrikingWork$Train;", .methodLink RX3 41 yX3_refuse, .instanceMethod yX3_refuse, .selects RX3 yX3_refuse yX3_refuse, .code yX3_refuse cX3_refuse 2 (some .int), .fieldLink RX3 29 "StrikingWork" "errors" "[I", .methodLink RX3 157 yX3_errorIndex, .static yX3_errorIndex, .code yX3_errorIndex cX3_errorIndex 1 (some .int)] ++ wsX30 ++ wsX20 ++ wsX00)
def wsX3_isSilent : List Cond := .code yX3_isSilent cX3_isSilent 2 (some .int) :: ([.fieldLink RX3 10 "StrikingWork" "now" "LStrikingWork$State;", .methodLink RX3 62 yX3_isMinute, .static yX3_isMinute, .initialized RX3, .code yX3_isMinute cX3_isMinute 1 (some .boolean), .methodLink RX3 41 yX3_refuse, .instanceMethod yX3_refuse, .selects RX3 yX3_refuse yX3_refuse, .code yX3_refuse cX3_refuse 2 (some .int), .fieldLink RX3 29 "StrikingWork" "errors" "[I", .methodLink RX3 157 yX3_errorIndex, .static yX3_errorIndex, .code yX3_errorIndex cX3_errorIndex 1 (some .int), .methodLink RX3 133 yX0_hushesAt, .instanceMethod yX0_hushesAt, .selects RX0 yX0_hushesAt yX0_hushesAt, .initialized RX0, .code yX0_hushesAt cX0_hushesAt 2 (some .boolean), .fieldLink RX0 34 "StrikingWork$State" "silenceMode" "I", .fieldLink RX0 37 "StrikingWork$State" "silenceBegin" "I", .fieldLink RX0 40 "StrikingWork$State" "silenceEnd" "I"] ++ wsX30 ++ wsX00)
def wsX3_strikeMinute : List Cond := .code yX3_strikeMinute cX3_strikeMinute 2 (some .int) :: ([.fieldLink RX3 10 "StrikingWork" "now" "LStrikingWork$State;", .fieldLink RX3 136 "StrikingWork$State" "strikes" "LStrikingWork$Strikes;", .fieldLink RX3 140 "StrikingWork$Strikes" "count" "I", .fieldLink RX3 145 "StrikingWork$Strikes" "minutes" "[I", .methodLink RX3 41 yX3_refuse, .instanceMethod yX3_refuse, .selects RX3 yX3_refuse yX3_refuse, .initialized RX3, .code yX3_refuse cX3_refuse 2 (some .int), .fieldLink RX3 29 "StrikingWork" "errors" "[I", .methodLink RX3 157 yX3_errorIndex, .static yX3_errorIndex, .code yX3_errorIndex cX3_errorIndex 1 (some .int)] ++ wsX30 ++ wsX00 ++ wsX10)
def wsX3_strikeTrain : List Cond := .code yX3_strikeTrain cX3_strikeTrain 2 (some .int) :: ([.fieldLink RX3 10 "StrikingWork" "now" "LStrikingWork$State;", .fieldLink RX3 136 "StrikingWork$State" "strikes" "LStrikingWork$Strikes;", .fieldLink RX3 140 "StrikingWork$Strikes" "count" "I", .fieldLink RX3 148 "StrikingWork$Strikes" "trains" "[I", .methodLink RX3 41 yX3_refuse, .instanceMethod yX3_refuse, .selects RX3 yX3_refuse yX3_refuse, .initialized RX3, .code yX3_refuse cX3_refuse 2 (some .int), .fieldLink RX3 29 "StrikingWork" "errors" "[I", .methodLink RX3 157 yX3_errorIndex, .static yX3_errorIndex, .code yX3_errorIndex cX3_errorIndex 1 (some .int)] ++ wsX30 ++ wsX00 ++ wsX10)
def wsX3_strikeBlows : List Cond := .code yX3_strikeBlows cX3_strikeBlows 2 (some .int) :: ([.fieldLink RX3 10 "StrikingWork" "now" "LStrikingWork$State;", .fieldLink RX3 136 "StrikingWork$State" "strikes" "LStrikingWork$Strikes;", .fieldLink RX3 140 "StrikingWork$Strikes" "count" "I", .fieldLink RX3 151 "StrikingWork$Strikes" "blows" "[I", .methodLink RX3 41 yX3_refuse, .instanceMethod yX3_refuse, .selects RX3 yX3_refuse yX3_refuse, .initialized RX3, .code yX3_refuse cX3_refuse 2 (some .int), .fieldLink RX3 29 "StrikingWork" "errors" "[I", .methodLink RX3 157 yX3_errorIndex, .static yX3_errorIndex, .code yX3_errorIndex cX3_errorIndex 1 (some .int)] ++ wsX30 ++ wsX00 ++ wsX10)
def wsX3_undo_r1 : List Cond := [Cond.fieldLink RX3 33 "StrikingWork" "savedCount" "I", Cond.fieldLink RX3 10 "StrikingWork" "now" "LStrikingWork$State;", Cond.fieldLink RX3 16 "StrikingWork" "saved" "[LStrikingWork$State;", Cond.methodLink RX3 41 yX3_refuse, Cond.instanceMethod yX3_refuse, Cond.selects RX3 yX3_refuse yX3_refuse, Cond.initialized RX3, Cond.code yX3_refuse cX3_refuse 2 (some .int), Cond.fieldLink RX3 29 "StrikingWork" "errors" "[I", Cond.methodLink RX3 157 yX3_errorIndex, Cond.static yX3_errorIndex, Cond.code yX3_errorIndex cX3_errorIndex 1 (some .int), Cond.methodLink RX3 154 yX0_copyFrom, Cond.instanceMethod yX0_copyFrom, Cond.selects RX0 yX0_copyFrom yX0_copyFrom, Cond.initialized RX0, Cond.code yX0_copyFrom cX0_copyFrom 2 none, Cond.fieldLink RX0 14 "StrikingWork$State" "hours" "LStrikingWork$Train;", Cond.fieldLink RX0 20 "StrikingWork$State" "quarters" "LStrikingWork$Train;", Cond.fieldLink RX0 26 "StrikingWork$State" "strikes" "LStrikingWork$Strikes;", Cond.fieldLink RX0 30 "StrikingWork$State" "minute" "I", Cond.fieldLink RX0 34 "StrikingWork$State" "silenceMode" "I", Cond.fieldLink RX0 37 "StrikingWork$State" "silenceBegin" "I", Cond.fieldLink RX0 40 "StrikingWork$State" "silenceEnd" "I"]
def wsX3_undo_r2 : List Cond := [Cond.methodLink RX0 47 yX2_copyFrom, Cond.instanceMethod yX2_copyFrom, Cond.selects RX2 yX2_copyFrom yX2_copyFrom, Cond.initialized RX2, Cond.code yX2_copyFrom cX2_copyFrom 2 none, Cond.fieldLink RX2 27 "StrikingWork$Train" "number" "I", Cond.fieldLink RX2 9 "StrikingWork$Train" "mechanism" "I", Cond.fieldLink RX2 15 "StrikingWork$Train" "position" "I", Cond.fieldLink RX2 18 "StrikingWork$Train" "weight" "I", Cond.fieldLink RX2 21 "StrikingWork$Train" "sounded" "I", Cond.fieldLink RX2 24 "StrikingWork$Train" "missed" "I", Cond.methodLink RX0 51 yX1_copyFrom, Cond.instanceMethod yX1_copyFrom, Cond.selects RX1 yX1_copyFrom yX1_copyFrom, Cond.initialized RX1, Cond.code yX1_copyFrom cX1_copyFrom 3 none, Cond.fieldLink RX1 9 "StrikingWork$Strikes" "minutes" "[I", Cond.fieldLink RX1 15 "StrikingWork$Strikes" "trains" "[I", Cond.fieldLink RX1 18 "StrikingWork$Strikes" "blows" "[I", Cond.fieldLink RX1 21 "StrikingWork$Strikes" "count" "I"]
def wsX3_undo : List Cond := .code yX3_undo cX3_undo 1 (some .int) :: ((wsX3_undo_r1 ++ wsX3_undo_r2) ++ wsX30 ++ wsX00 ++ wsX20 ++ wsX10)
def wsX3_errorCount : List Cond := .code yX3_errorCount cX3_errorCount 2 (some .int) :: ([.fieldLink RX3 29 "StrikingWork" "errors" "[I", .methodLink RX3 41 yX3_refuse, .instanceMethod yX3_refuse, .selects RX3 yX3_refuse yX3_refuse, .initialized RX3, .code yX3_refuse cX3_refuse 2 (some .int), .methodLink RX3 157 yX3_errorIndex, .static yX3_errorIndex, .code yX3_errorIndex cX3_errorIndex 1 (some .int)] ++ wsX30)
def wsX3_digest_r1 : List Cond := [Cond.constantLong RX3 160 (2657), Cond.constantLong RX3 162 (31), Cond.fieldLink RX3 29 "StrikingWork" "errors" "[I", Cond.fieldLink RX3 10 "StrikingWork" "now" "LStrikingWork$State;", Cond.fieldLink RX3 33 "StrikingWork" "savedCount" "I", Cond.methodLink RX3 164 yX0_addToHash, Cond.instanceMethod yX0_addToHash, Cond.selects RX0 yX0_addToHash yX0_addToHash, Cond.initialized RX0, Cond.code yX0_addToHash cX0_addToHash 5 (some .long), Cond.constantLong RX0 54 (31), Cond.fieldLink RX0 30 "StrikingWork$State" "minute" "I", Cond.fieldLink RX0 14 "StrikingWork$State" "hours" "LStrikingWork$Train;", Cond.fieldLink RX0 20 "StrikingWork$State" "quarters" "LStrikingWork$Train;", Cond.fieldLink RX0 34 "StrikingWork$State" "silenceMode" "I", Cond.fieldLink RX0 37 "StrikingWork$State" "silenceBegin" "I", Cond.fieldLink RX0 40 "StrikingWork$State" "silenceEnd" "I", Cond.fieldLink RX0 26 "StrikingWork$State" "strikes" "LStrikingWork$Strikes;", Cond.methodLink RX0 56 yX2_addToHash, Cond.instanceMethod yX2_addToHash, Cond.selects RX2 yX2_addToHash yX2_addToHash, Cond.initialized RX2, Cond.code yX2_addToHash cX2_addToHash 6 (some .long), Cond.constantLong RX2 57 (31)]
def wsX3_digest_r2 : List Cond := [Cond.fieldLink RX2 9 "StrikingWork$Train" "mechanism" "I", Cond.fieldLink RX2 15 "StrikingWork$Train" "position" "I", Cond.fieldLink RX2 18 "StrikingWork$Train" "weight" "I", Cond.fieldLink RX2 21 "StrikingWork$Train" "sounded" "I", Cond.fieldLink RX2 24 "StrikingWork$Train" "missed" "I", Cond.methodLink RX2 44 yX2_dueAfter, Cond.instanceMethod yX2_dueAfter, Cond.selects RX2 yX2_dueAfter yX2_dueAfter, Cond.code yX2_dueAfter cX2_dueAfter 2 (some .int), Cond.methodLink RX2 38 yX2_period, Cond.instanceMethod yX2_period, Cond.selects RX2 yX2_period yX2_period, Cond.code yX2_period cX2_period 1 (some .int), Cond.fieldLink RX2 27 "StrikingWork$Train" "number" "I", Cond.methodLink RX2 41 yX2_dueAt, Cond.instanceMethod yX2_dueAt, Cond.selects RX2 yX2_dueAt yX2_dueAt, Cond.code yX2_dueAt cX2_dueAt 3 (some .int), Cond.methodLink RX2 34 yX2_lastPosition, Cond.instanceMethod yX2_lastPosition, Cond.selects RX2 yX2_lastPosition yX2_lastPosition, Cond.code yX2_lastPosition cX2_lastPosition 1 (some .int), Cond.methodLink RX2 59 yX2_lagAt, Cond.instanceMethod yX2_lagAt]
def wsX3_digest_r3 : List Cond := [Cond.selects RX2 yX2_lagAt yX2_lagAt, Cond.code yX2_lagAt cX2_lagAt 3 (some .int), Cond.methodLink RX0 60 yX1_addToHash, Cond.instanceMethod yX1_addToHash, Cond.selects RX1 yX1_addToHash yX1_addToHash, Cond.initialized RX1, Cond.code yX1_addToHash cX1_addToHash 6 (some .long), Cond.constantLong RX1 31 (31), Cond.fieldLink RX1 21 "StrikingWork$Strikes" "count" "I", Cond.fieldLink RX1 9 "StrikingWork$Strikes" "minutes" "[I", Cond.fieldLink RX1 15 "StrikingWork$Strikes" "trains" "[I", Cond.fieldLink RX1 18 "StrikingWork$Strikes" "blows" "[I"]
def wsX3_digest : List Cond := .code yX3_digest cX3_digest 4 (some .long) :: ((wsX3_digest_r1 ++ (wsX3_digest_r2 ++ wsX3_digest_r3)) ++ wsX30 ++ wsX00 ++ wsX20 ++ wsX10)
def wsX4_at : List Cond := .code yX4_at cX4_at 2 (some .int) :: ([])
def wsX4_init : List Cond := .code yX4_init cX4_init 2 none :: ([.methodLink RX4 1 objectInit, .instanceMethod objectInit, .code objectInit ⟨#[0xb1]⟩ 1 none, .arrayClass .int, .fieldLink RX4 7 "StrikingWorkModel" "now" "[I", .fieldLink RX4 13 "StrikingWorkModel" "aside" "[I", .fieldLink RX4 16 "StrikingWorkModel" "past" "[I", .fieldLink RX4 19 "StrikingWorkModel" "errors" "[I", .methodLink RX4 22 yX4_at, .static yX4_at, .initialized RX4, .code yX4_at cX4_at 2 (some .int)] ++ wsX40)
def wsX4_in : List Cond := .code yX4_in cX4_in 3 (some .boolean) :: ([])
def wsX4_error : List Cond := .code yX4_error cX4_error 2 (some .int) :: ([.fieldLink RX4 19 "StrikingWorkModel" "errors" "[I"] ++ wsX40)
def wsX4_copy : List Cond := .code yX4_copy cX4_copy 5 none :: ([])
def wsX4_save : List Cond := .code yX4_save cX4_save 2 none :: ([.fieldLink RX4 26 "StrikingWorkModel" "states" "I", .fieldLink RX4 16 "StrikingWorkModel" "past" "[I", .fieldLink RX4 7 "StrikingWorkModel" "now" "[I", .methodLink RX4 30 yX4_copy, .static yX4_copy, .initialized RX4, .code yX4_copy cX4_copy 5 none] ++ wsX40)
def wsX4_isTrain : List Cond := .code yX4_isTrain cX4_isTrain 1 (some .boolean) :: ([.methodLink RX4 34 yX4_in, .static yX4_in, .initialized RX4, .code yX4_in cX4_in 3 (some .boolean)])
def wsX4_positions : List Cond := .code yX4_positions cX4_positions 1 (some .int) :: ([])
def wsX4_setMechanism_r1 : List Cond := [Cond.fieldLink RX4 7 "StrikingWorkModel" "now" "[I", Cond.methodLink RX4 38 yX4_isTrain, Cond.static yX4_isTrain, Cond.initialized RX4, Cond.code yX4_isTrain cX4_isTrain 1 (some .boolean), Cond.methodLink RX4 34 yX4_in, Cond.static yX4_in, Cond.code yX4_in cX4_in 3 (some .boolean), Cond.methodLink RX4 42 yX4_error, Cond.instanceMethod yX4_error, Cond.selects RX4 yX4_error yX4_error, Cond.code yX4_error cX4_error 2 (some .int), Cond.fieldLink RX4 19 "StrikingWorkModel" "errors" "[I", Cond.methodLink RX4 46 yX4_save, Cond.instanceMethod yX4_save, Cond.selects RX4 yX4_save yX4_save, Cond.code yX4_save cX4_save 2 none, Cond.fieldLink RX4 26 "StrikingWorkModel" "states" "I", Cond.fieldLink RX4 16 "StrikingWorkModel" "past" "[I", Cond.methodLink RX4 30 yX4_copy, Cond.static yX4_copy, Cond.code yX4_copy cX4_copy 5 none, Cond.methodLink RX4 22 yX4_at, Cond.static yX4_at]
def wsX4_setMechanism_r2 : List Cond := [Cond.code yX4_at cX4_at 2 (some .int)]
def wsX4_setMechanism : List Cond := .code yX4_setMechanism cX4_setMechanism 4 (some .int) :: ((wsX4_setMechanism_r1 ++ wsX4_setMechanism_r2) ++ wsX40)
def wsX4_setPosition_r1 : List Cond := [Cond.fieldLink RX4 7 "StrikingWorkModel" "now" "[I", Cond.methodLink RX4 38 yX4_isTrain, Cond.static yX4_isTrain, Cond.initialized RX4, Cond.code yX4_isTrain cX4_isTrain 1 (some .boolean), Cond.methodLink RX4 34 yX4_in, Cond.static yX4_in, Cond.code yX4_in cX4_in 3 (some .boolean), Cond.methodLink RX4 49 yX4_positions, Cond.static yX4_positions, Cond.code yX4_positions cX4_positions 1 (some .int), Cond.methodLink RX4 42 yX4_error, Cond.instanceMethod yX4_error, Cond.selects RX4 yX4_error yX4_error, Cond.code yX4_error cX4_error 2 (some .int), Cond.fieldLink RX4 19 "StrikingWorkModel" "errors" "[I", Cond.methodLink RX4 46 yX4_save, Cond.instanceMethod yX4_save, Cond.selects RX4 yX4_save yX4_save, Cond.code yX4_save cX4_save 2 none, Cond.fieldLink RX4 26 "StrikingWorkModel" "states" "I", Cond.fieldLink RX4 16 "StrikingWorkModel" "past" "[I", Cond.methodLink RX4 30 yX4_copy, Cond.static yX4_copy]
def wsX4_setPosition_r2 : List Cond := [Cond.code yX4_copy cX4_copy 5 none, Cond.methodLink RX4 22 yX4_at, Cond.static yX4_at, Cond.code yX4_at cX4_at 2 (some .int)]
def wsX4_setPosition : List Cond := .code yX4_setPosition cX4_setPosition 4 (some .int) :: ((wsX4_setPosition_r1 ++ wsX4_setPosition_r2) ++ wsX40)
def wsX4_setSilence : List Cond := .code yX4_setSilence cX4_setSilence 5 (some .int) :: ([.fieldLink RX4 7 "StrikingWorkModel" "now" "[I", .methodLink RX4 34 yX4_in, .static yX4_in, .initialized RX4, .code yX4_in cX4_in 3 (some .boolean), .methodLink RX4 42 yX4_error, .instanceMethod yX4_error, .selects RX4 yX4_error yX4_error, .code yX4_error cX4_error 2 (some .int), .fieldLink RX4 19 "StrikingWorkModel" "errors" "[I", .methodLink RX4 46 yX4_save, .instanceMethod yX4_save, .selects RX4 yX4_save yX4_save, .code yX4_save cX4_save 2 none, .fieldLink RX4 26 "StrikingWorkModel" "states" "I", .fieldLink RX4 16 "StrikingWorkModel" "past" "[I", .methodLink RX4 30 yX4_copy, .static yX4_copy, .code yX4_copy cX4_copy 5 none] ++ wsX40)
def wsX4_wind_r1 : List Cond := [Cond.fieldLink RX4 7 "StrikingWorkModel" "now" "[I", Cond.methodLink RX4 38 yX4_isTrain, Cond.static yX4_isTrain, Cond.initialized RX4, Cond.code yX4_isTrain cX4_isTrain 1 (some .boolean), Cond.methodLink RX4 34 yX4_in, Cond.static yX4_in, Cond.code yX4_in cX4_in 3 (some .boolean), Cond.methodLink RX4 42 yX4_error, Cond.instanceMethod yX4_error, Cond.selects RX4 yX4_error yX4_error, Cond.code yX4_error cX4_error 2 (some .int), Cond.fieldLink RX4 19 "StrikingWorkModel" "errors" "[I", Cond.methodLink RX4 46 yX4_save, Cond.instanceMethod yX4_save, Cond.selects RX4 yX4_save yX4_save, Cond.code yX4_save cX4_save 2 none, Cond.fieldLink RX4 26 "StrikingWorkModel" "states" "I", Cond.fieldLink RX4 16 "StrikingWorkModel" "past" "[I", Cond.methodLink RX4 30 yX4_copy, Cond.static yX4_copy, Cond.code yX4_copy cX4_copy 5 none, Cond.methodLink RX4 22 yX4_at, Cond.static yX4_at]
def wsX4_wind_r2 : List Cond := [Cond.code yX4_at cX4_at 2 (some .int)]
def wsX4_wind : List Cond := .code yX4_wind cX4_wind 5 (some .int) :: ((wsX4_wind_r1 ++ wsX4_wind_r2) ++ wsX40)
def wsX4_silentAt : List Cond := .code yX4_silentAt cX4_silentAt 4 (some .boolean) :: ([.fieldLink RX4 7 "StrikingWorkModel" "now" "[I"] ++ wsX40)
def wsX4_dueAfter : List Cond := .code yX4_dueAfter cX4_dueAfter 4 (some .int) :: ([.methodLink RX4 49 yX4_positions, .static yX4_positions, .initialized RX4, .code yX4_positions cX4_positions 1 (some .int)])
def wsX4_record : List Cond := .code yX4_record cX4_record 4 none :: ([.fieldLink RX4 7 "StrikingWorkModel" "now" "[I"] ++ wsX40)
def wsX4_blowsOf : List Cond := .code yX4_blowsOf cX4_blowsOf 4 (some .int) :: ([.fieldLink RX4 7 "StrikingWorkModel" "now" "[I", .methodLink RX4 22 yX4_at, .static yX4_at, .initialized RX4, .code yX4_at cX4_at 2 (some .int)] ++ wsX40)
def wsX4_strike : List Cond := .code yX4_strike cX4_strike 4 (some .int) :: ([.fieldLink RX4 7 "StrikingWorkModel" "now" "[I", .methodLink RX4 22 yX4_at, .static yX4_at, .initialized RX4, .code yX4_at cX4_at 2 (some .int), .methodLink RX4 49 yX4_positions, .static yX4_positions, .code yX4_positions cX4_positions 1 (some .int), .methodLink RX4 52 yX4_record, .instanceMethod yX4_record, .selects RX4 yX4_record yX4_record, .code yX4_record cX4_record 4 none] ++ wsX40)
def wsX4_release : List Cond := .code yX4_release cX4_release 5 (some .int) :: ([.fieldLink RX4 7 "StrikingWorkModel" "now" "[I", .methodLink RX4 56 yX4_blowsOf, .instanceMethod yX4_blowsOf, .selects RX4 yX4_blowsOf yX4_blowsOf, .initialized RX4, .code yX4_blowsOf cX4_blowsOf 4 (some .int), .methodLink RX4 22 yX4_at, .static yX4_at, .code yX4_at cX4_at 2 (some .int), .methodLink RX4 59 yX4_strike, .instanceMethod yX4_strike, .selects RX4 yX4_strike yX4_strike, .code yX4_strike cX4_strike 4 (some .int), .methodLink RX4 49 yX4_positions, .static yX4_positions, .code yX4_positions cX4_positions 1 (some .int), .methodLink RX4 52 yX4_record, .instanceMethod yX4_record, .selects RX4 yX4_record yX4_record, .code yX4_record cX4_record 4 none] ++ wsX40)
def wsX4_tick_r1 : List Cond := [Cond.fieldLink RX4 7 "StrikingWorkModel" "now" "[I", Cond.methodLink RX4 63 yX4_silentAt, Cond.instanceMethod yX4_silentAt, Cond.selects RX4 yX4_silentAt yX4_silentAt, Cond.initialized RX4, Cond.code yX4_silentAt cX4_silentAt 4 (some .boolean), Cond.methodLink RX4 66 yX4_dueAfter, Cond.static yX4_dueAfter, Cond.code yX4_dueAfter cX4_dueAfter 4 (some .int), Cond.methodLink RX4 49 yX4_positions, Cond.static yX4_positions, Cond.code yX4_positions cX4_positions 1 (some .int), Cond.methodLink RX4 69 yX4_release, Cond.instanceMethod yX4_release, Cond.selects RX4 yX4_release yX4_release, Cond.code yX4_release cX4_release 5 (some .int), Cond.methodLink RX4 56 yX4_blowsOf, Cond.instanceMethod yX4_blowsOf, Cond.selects RX4 yX4_blowsOf yX4_blowsOf, Cond.code yX4_blowsOf cX4_blowsOf 4 (some .int), Cond.methodLink RX4 22 yX4_at, Cond.static yX4_at, Cond.code yX4_at cX4_at 2 (some .int), Cond.methodLink RX4 59 yX4_strike]
def wsX4_tick_r2 : List Cond := [Cond.instanceMethod yX4_strike, Cond.selects RX4 yX4_strike yX4_strike, Cond.code yX4_strike cX4_strike 4 (some .int), Cond.methodLink RX4 52 yX4_record, Cond.instanceMethod yX4_record, Cond.selects RX4 yX4_record yX4_record, Cond.code yX4_record cX4_record 4 none]
def wsX4_tick : List Cond := .code yX4_tick cX4_tick 5 (some .int) :: ((wsX4_tick_r1 ++ wsX4_tick_r2) ++ wsX40)
def wsX4_run_r1 : List Cond := [Cond.methodLink RX4 34 yX4_in, Cond.static yX4_in, Cond.initialized RX4, Cond.code yX4_in cX4_in 3 (some .boolean), Cond.methodLink RX4 42 yX4_error, Cond.instanceMethod yX4_error, Cond.selects RX4 yX4_error yX4_error, Cond.code yX4_error cX4_error 2 (some .int), Cond.fieldLink RX4 19 "StrikingWorkModel" "errors" "[I", Cond.methodLink RX4 46 yX4_save, Cond.instanceMethod yX4_save, Cond.selects RX4 yX4_save yX4_save, Cond.code yX4_save cX4_save 2 none, Cond.fieldLink RX4 26 "StrikingWorkModel" "states" "I", Cond.fieldLink RX4 16 "StrikingWorkModel" "past" "[I", Cond.fieldLink RX4 7 "StrikingWorkModel" "now" "[I", Cond.methodLink RX4 30 yX4_copy, Cond.static yX4_copy, Cond.code yX4_copy cX4_copy 5 none, Cond.methodLink RX4 72 yX4_tick, Cond.instanceMethod yX4_tick, Cond.selects RX4 yX4_tick yX4_tick, Cond.code yX4_tick cX4_tick 5 (some .int), Cond.methodLink RX4 63 yX4_silentAt]
def wsX4_run_r2 : List Cond := [Cond.instanceMethod yX4_silentAt, Cond.selects RX4 yX4_silentAt yX4_silentAt, Cond.code yX4_silentAt cX4_silentAt 4 (some .boolean), Cond.methodLink RX4 66 yX4_dueAfter, Cond.static yX4_dueAfter, Cond.code yX4_dueAfter cX4_dueAfter 4 (some .int), Cond.methodLink RX4 49 yX4_positions, Cond.static yX4_positions, Cond.code yX4_positions cX4_positions 1 (some .int), Cond.methodLink RX4 69 yX4_release, Cond.instanceMethod yX4_release, Cond.selects RX4 yX4_release yX4_release, Cond.code yX4_release cX4_release 5 (some .int), Cond.methodLink RX4 56 yX4_blowsOf, Cond.instanceMethod yX4_blowsOf, Cond.selects RX4 yX4_blowsOf yX4_blowsOf, Cond.code yX4_blowsOf cX4_blowsOf 4 (some .int), Cond.methodLink RX4 22 yX4_at, Cond.static yX4_at, Cond.code yX4_at cX4_at 2 (some .int), Cond.methodLink RX4 59 yX4_strike, Cond.instanceMethod yX4_strike, Cond.selects RX4 yX4_strike yX4_strike, Cond.code yX4_strike cX4_strike 4 (some .int)]
def wsX4_run_r3 : List Cond := [Cond.methodLink RX4 52 yX4_record, Cond.instanceMethod yX4_record, Cond.selects RX4 yX4_record yX4_record, Cond.code yX4_record cX4_record 4 none]
def wsX4_run : List Cond := .code yX4_run cX4_run 4 (some .int) :: ((wsX4_run_r1 ++ (wsX4_run_r2 ++ wsX4_run_r3)) ++ wsX40)
def wsX4_setHands : List Cond := .code yX4_setHands cX4_setHands 3 (some .int) :: ([.fieldLink RX4 7 "StrikingWorkModel" "now" "[I", .methodLink RX4 34 yX4_in, .static yX4_in, .initialized RX4, .code yX4_in cX4_in 3 (some .boolean), .methodLink RX4 42 yX4_error, .instanceMethod yX4_error, .selects RX4 yX4_error yX4_error, .code yX4_error cX4_error 2 (some .int), .fieldLink RX4 19 "StrikingWorkModel" "errors" "[I", .methodLink RX4 46 yX4_save, .instanceMethod yX4_save, .selects RX4 yX4_save yX4_save, .code yX4_save cX4_save 2 none, .fieldLink RX4 26 "StrikingWorkModel" "states" "I", .fieldLink RX4 16 "StrikingWorkModel" "past" "[I", .methodLink RX4 30 yX4_copy, .static yX4_copy, .code yX4_copy cX4_copy 5 none] ++ wsX40)
def wsX4_trip_r1 : List Cond := [Cond.fieldLink RX4 7 "StrikingWorkModel" "now" "[I", Cond.methodLink RX4 38 yX4_isTrain, Cond.static yX4_isTrain, Cond.initialized RX4, Cond.code yX4_isTrain cX4_isTrain 1 (some .boolean), Cond.methodLink RX4 34 yX4_in, Cond.static yX4_in, Cond.code yX4_in cX4_in 3 (some .boolean), Cond.methodLink RX4 42 yX4_error, Cond.instanceMethod yX4_error, Cond.selects RX4 yX4_error yX4_error, Cond.code yX4_error cX4_error 2 (some .int), Cond.fieldLink RX4 19 "StrikingWorkModel" "errors" "[I", Cond.methodLink RX4 66 yX4_dueAfter, Cond.static yX4_dueAfter, Cond.code yX4_dueAfter cX4_dueAfter 4 (some .int), Cond.methodLink RX4 49 yX4_positions, Cond.static yX4_positions, Cond.code yX4_positions cX4_positions 1 (some .int), Cond.methodLink RX4 56 yX4_blowsOf, Cond.instanceMethod yX4_blowsOf, Cond.selects RX4 yX4_blowsOf yX4_blowsOf, Cond.code yX4_blowsOf cX4_blowsOf 4 (some .int), Cond.methodLink RX4 22 yX4_at]
def wsX4_trip_r2 : List Cond := [Cond.static yX4_at, Cond.code yX4_at cX4_at 2 (some .int), Cond.methodLink RX4 46 yX4_save, Cond.instanceMethod yX4_save, Cond.selects RX4 yX4_save yX4_save, Cond.code yX4_save cX4_save 2 none, Cond.fieldLink RX4 26 "StrikingWorkModel" "states" "I", Cond.fieldLink RX4 16 "StrikingWorkModel" "past" "[I", Cond.methodLink RX4 30 yX4_copy, Cond.static yX4_copy, Cond.code yX4_copy cX4_copy 5 none, Cond.methodLink RX4 59 yX4_strike, Cond.instanceMethod yX4_strike, Cond.selects RX4 yX4_strike yX4_strike, Cond.code yX4_strike cX4_strike 4 (some .int), Cond.methodLink RX4 52 yX4_record, Cond.instanceMethod yX4_record, Cond.selects RX4 yX4_record yX4_record, Cond.code yX4_record cX4_record 4 none]
def wsX4_trip : List Cond := .code yX4_trip cX4_trip 3 (some .int) :: ((wsX4_trip_r1 ++ wsX4_trip_r2) ++ wsX40)
def wsX4_lagAt : List Cond := .code yX4_lagAt cX4_lagAt 4 (some .int) :: ([.fieldLink RX4 7 "StrikingWorkModel" "now" "[I", .methodLink RX4 22 yX4_at, .static yX4_at, .initialized RX4, .code yX4_at cX4_at 2 (some .int), .methodLink RX4 49 yX4_positions, .static yX4_positions, .code yX4_positions cX4_positions 1 (some .int), .methodLink RX4 66 yX4_dueAfter, .static yX4_dueAfter, .code yX4_dueAfter cX4_dueAfter 4 (some .int)] ++ wsX40)
def wsX4_nextDue : List Cond := .code yX4_nextDue cX4_nextDue 2 (some .int) :: ([.fieldLink RX4 7 "StrikingWorkModel" "now" "[I", .methodLink RX4 38 yX4_isTrain, .static yX4_isTrain, .initialized RX4, .code yX4_isTrain cX4_isTrain 1 (some .boolean), .methodLink RX4 34 yX4_in, .static yX4_in, .code yX4_in cX4_in 3 (some .boolean), .methodLink RX4 66 yX4_dueAfter, .static yX4_dueAfter, .code yX4_dueAfter cX4_dueAfter 4 (some .int), .methodLink RX4 49 yX4_positions, .static yX4_positions, .code yX4_positions cX4_positions 1 (some .int), .methodLink RX4 42 yX4_error, .instanceMethod yX4_error, .selects RX4 yX4_error yX4_error, .code yX4_error cX4_error 2 (some .int), .fieldLink RX4 19 "StrikingWorkModel" "errors" "[I"] ++ wsX40)
def wsX4_lag_r1 : List Cond := [Cond.fieldLink RX4 7 "StrikingWorkModel" "now" "[I", Cond.methodLink RX4 38 yX4_isTrain, Cond.static yX4_isTrain, Cond.initialized RX4, Cond.code yX4_isTrain cX4_isTrain 1 (some .boolean), Cond.methodLink RX4 34 yX4_in, Cond.static yX4_in, Cond.code yX4_in cX4_in 3 (some .boolean), Cond.methodLink RX4 76 yX4_lagAt, Cond.instanceMethod yX4_lagAt, Cond.selects RX4 yX4_lagAt yX4_lagAt, Cond.code yX4_lagAt cX4_lagAt 4 (some .int), Cond.methodLink RX4 22 yX4_at, Cond.static yX4_at, Cond.code yX4_at cX4_at 2 (some .int), Cond.methodLink RX4 49 yX4_positions, Cond.static yX4_positions, Cond.code yX4_positions cX4_positions 1 (some .int), Cond.methodLink RX4 66 yX4_dueAfter, Cond.static yX4_dueAfter, Cond.code yX4_dueAfter cX4_dueAfter 4 (some .int), Cond.methodLink RX4 42 yX4_error, Cond.instanceMethod yX4_error, Cond.selects RX4 yX4_error yX4_error]
def wsX4_lag_r2 : List Cond := [Cond.code yX4_error cX4_error 2 (some .int), Cond.fieldLink RX4 19 "StrikingWorkModel" "errors" "[I"]
def wsX4_lag : List Cond := .code yX4_lag cX4_lag 2 (some .int) :: ((wsX4_lag_r1 ++ wsX4_lag_r2) ++ wsX40)
def wsX4_blowsToCorrect_r1 : List Cond := [Cond.fieldLink RX4 7 "StrikingWorkModel" "now" "[I", Cond.methodLink RX4 38 yX4_isTrain, Cond.static yX4_isTrain, Cond.initialized RX4, Cond.code yX4_isTrain cX4_isTrain 1 (some .boolean), Cond.methodLink RX4 34 yX4_in, Cond.static yX4_in, Cond.code yX4_in cX4_in 3 (some .boolean), Cond.methodLink RX4 42 yX4_error, Cond.instanceMethod yX4_error, Cond.selects RX4 yX4_error yX4_error, Cond.code yX4_error cX4_error 2 (some .int), Cond.fieldLink RX4 19 "StrikingWorkModel" "errors" "[I", Cond.methodLink RX4 22 yX4_at, Cond.static yX4_at, Cond.code yX4_at cX4_at 2 (some .int), Cond.methodLink RX4 76 yX4_lagAt, Cond.instanceMethod yX4_lagAt, Cond.selects RX4 yX4_lagAt yX4_lagAt, Cond.code yX4_lagAt cX4_lagAt 4 (some .int), Cond.methodLink RX4 49 yX4_positions, Cond.static yX4_positions, Cond.code yX4_positions cX4_positions 1 (some .int), Cond.methodLink RX4 66 yX4_dueAfter]
def wsX4_blowsToCorrect_r2 : List Cond := [Cond.static yX4_dueAfter, Cond.code yX4_dueAfter cX4_dueAfter 4 (some .int)]
def wsX4_blowsToCorrect : List Cond := .code yX4_blowsToCorrect cX4_blowsToCorrect 5 (some .int) :: ((wsX4_blowsToCorrect_r1 ++ wsX4_blowsToCorrect_r2) ++ wsX40)
def wsX4_handsToCorrect_r1 : List Cond := [Cond.fieldLink RX4 7 "StrikingWorkModel" "now" "[I", Cond.methodLink RX4 38 yX4_isTrain, Cond.static yX4_isTrain, Cond.initialized RX4, Cond.code yX4_isTrain cX4_isTrain 1 (some .boolean), Cond.methodLink RX4 34 yX4_in, Cond.static yX4_in, Cond.code yX4_in cX4_in 3 (some .boolean), Cond.methodLink RX4 42 yX4_error, Cond.instanceMethod yX4_error, Cond.selects RX4 yX4_error yX4_error, Cond.code yX4_error cX4_error 2 (some .int), Cond.fieldLink RX4 19 "StrikingWorkModel" "errors" "[I", Cond.methodLink RX4 76 yX4_lagAt, Cond.instanceMethod yX4_lagAt, Cond.selects RX4 yX4_lagAt yX4_lagAt, Cond.code yX4_lagAt cX4_lagAt 4 (some .int), Cond.methodLink RX4 22 yX4_at, Cond.static yX4_at, Cond.code yX4_at cX4_at 2 (some .int), Cond.methodLink RX4 49 yX4_positions, Cond.static yX4_positions, Cond.code yX4_positions cX4_positions 1 (some .int), Cond.methodLink RX4 66 yX4_dueAfter]
def wsX4_handsToCorrect_r2 : List Cond := [Cond.static yX4_dueAfter, Cond.code yX4_dueAfter cX4_dueAfter 4 (some .int)]
def wsX4_handsToCorrect : List Cond := .code yX4_handsToCorrect cX4_handsToCorrect 3 (some .int) :: ((wsX4_handsToCorrect_r1 ++ wsX4_handsToCorrect_r2) ++ wsX40)
def wsX4_minutesToMiss_r1 : List Cond := [Cond.fieldLink RX4 7 "StrikingWorkModel" "now" "[I", Cond.fieldLink RX4 13 "StrikingWorkModel" "aside" "[I", Cond.methodLink RX4 38 yX4_isTrain, Cond.static yX4_isTrain, Cond.initialized RX4, Cond.code yX4_isTrain cX4_isTrain 1 (some .boolean), Cond.methodLink RX4 34 yX4_in, Cond.static yX4_in, Cond.code yX4_in cX4_in 3 (some .boolean), Cond.methodLink RX4 42 yX4_error, Cond.instanceMethod yX4_error, Cond.selects RX4 yX4_error yX4_error, Cond.code yX4_error cX4_error 2 (some .int), Cond.fieldLink RX4 19 "StrikingWorkModel" "errors" "[I", Cond.methodLink RX4 30 yX4_copy, Cond.static yX4_copy, Cond.code yX4_copy cX4_copy 5 none, Cond.methodLink RX4 22 yX4_at, Cond.static yX4_at, Cond.code yX4_at cX4_at 2 (some .int), Cond.methodLink RX4 72 yX4_tick, Cond.instanceMethod yX4_tick, Cond.selects RX4 yX4_tick yX4_tick, Cond.code yX4_tick cX4_tick 5 (some .int)]
def wsX4_minutesToMiss_r2 : List Cond := [Cond.methodLink RX4 63 yX4_silentAt, Cond.instanceMethod yX4_silentAt, Cond.selects RX4 yX4_silentAt yX4_silentAt, Cond.code yX4_silentAt cX4_silentAt 4 (some .boolean), Cond.methodLink RX4 66 yX4_dueAfter, Cond.static yX4_dueAfter, Cond.code yX4_dueAfter cX4_dueAfter 4 (some .int), Cond.methodLink RX4 49 yX4_positions, Cond.static yX4_positions, Cond.code yX4_positions cX4_positions 1 (some .int), Cond.methodLink RX4 69 yX4_release, Cond.instanceMethod yX4_release, Cond.selects RX4 yX4_release yX4_release, Cond.code yX4_release cX4_release 5 (some .int), Cond.methodLink RX4 56 yX4_blowsOf, Cond.instanceMethod yX4_blowsOf, Cond.selects RX4 yX4_blowsOf yX4_blowsOf, Cond.code yX4_blowsOf cX4_blowsOf 4 (some .int), Cond.methodLink RX4 59 yX4_strike, Cond.instanceMethod yX4_strike, Cond.selects RX4 yX4_strike yX4_strike, Cond.code yX4_strike cX4_strike 4 (some .int), Cond.methodLink RX4 52 yX4_record, Cond.instanceMethod yX4_record]
def wsX4_minutesToMiss_r3 : List Cond := [Cond.selects RX4 yX4_record yX4_record, Cond.code yX4_record cX4_record 4 none]
def wsX4_minutesToMiss : List Cond := .code yX4_minutesToMiss cX4_minutesToMiss 6 (some .int) :: ((wsX4_minutesToMiss_r1 ++ (wsX4_minutesToMiss_r2 ++ wsX4_minutesToMiss_r3)) ++ wsX40)
def wsX4_minute : List Cond := .code yX4_minute cX4_minute 1 (some .int) :: ([.fieldLink RX4 7 "StrikingWorkModel" "now" "[I"] ++ wsX40)
def wsX4_valueOf : List Cond := .code yX4_valueOf cX4_valueOf 3 (some .int) :: ([.fieldLink RX4 7 "StrikingWorkModel" "now" "[I", .methodLink RX4 38 yX4_isTrain, .static yX4_isTrain, .initialized RX4, .code yX4_isTrain cX4_isTrain 1 (some .boolean), .methodLink RX4 34 yX4_in, .static yX4_in, .code yX4_in cX4_in 3 (some .boolean), .methodLink RX4 22 yX4_at, .static yX4_at, .code yX4_at cX4_at 2 (some .int), .methodLink RX4 42 yX4_error, .instanceMethod yX4_error, .selects RX4 yX4_error yX4_error, .code yX4_error cX4_error 2 (some .int), .fieldLink RX4 19 "StrikingWorkModel" "errors" "[I"] ++ wsX40)
def wsX4_position : List Cond := .code yX4_position cX4_position 2 (some .int) :: ([.methodLink RX4 79 yX4_valueOf, .instanceMethod yX4_valueOf, .selects RX4 yX4_valueOf yX4_valueOf, .initialized RX4, .code yX4_valueOf cX4_valueOf 3 (some .int), .fieldLink RX4 7 "StrikingWorkModel" "now" "[I", .methodLink RX4 38 yX4_isTrain, .static yX4_isTrain, .code yX4_isTrain cX4_isTrain 1 (some .boolean), .methodLink RX4 34 yX4_in, .static yX4_in, .code yX4_in cX4_in 3 (some .boolean), .methodLink RX4 22 yX4_at, .static yX4_at, .code yX4_at cX4_at 2 (some .int), .methodLink RX4 42 yX4_error, .instanceMethod yX4_error, .selects RX4 yX4_error yX4_error, .code yX4_error cX4_error 2 (some .int), .fieldLink RX4 19 "StrikingWorkModel" "errors" "[I"] ++ wsX40)
def wsX4_weight : List Cond := .code yX4_weight cX4_weight 2 (some .int) :: ([.methodLink RX4 79 yX4_valueOf, .instanceMethod yX4_valueOf, .selects RX4 yX4_valueOf yX4_valueOf, .initialized RX4, .code yX4_valueOf cX4_valueOf 3 (some .int), .fieldLink RX4 7 "StrikingWorkModel" "now" "[I", .methodLink RX4 38 yX4_isTrain, .static yX4_isTrain, .code yX4_isTrain cX4_isTrain 1 (some .boolean), .methodLink RX4 34 yX4_in, .static yX4_in, .code yX4_in cX4_in 3 (some .boolean), .methodLink RX4 22 yX4_at, .static yX4_at, .code yX4_at cX4_at 2 (some .int), .methodLink RX4 42 yX4_error, .instanceMethod yX4_error, .selects RX4 yX4_error yX4_error, .code yX4_error cX4_error 2 (some .int), .fieldLink RX4 19 "StrikingWorkModel" "errors" "[I"] ++ wsX40)
def wsX4_sounded : List Cond := .code yX4_sounded cX4_sounded 2 (some .int) :: ([.methodLink RX4 79 yX4_valueOf, .instanceMethod yX4_valueOf, .selects RX4 yX4_valueOf yX4_valueOf, .initialized RX4, .code yX4_valueOf cX4_valueOf 3 (some .int), .fieldLink RX4 7 "StrikingWorkModel" "now" "[I", .methodLink RX4 38 yX4_isTrain, .static yX4_isTrain, .code yX4_isTrain cX4_isTrain 1 (some .boolean), .methodLink RX4 34 yX4_in, .static yX4_in, .code yX4_in cX4_in 3 (some .boolean), .methodLink RX4 22 yX4_at, .static yX4_at, .code yX4_at cX4_at 2 (some .int), .methodLink RX4 42 yX4_error, .instanceMethod yX4_error, .selects RX4 yX4_error yX4_error, .code yX4_error cX4_error 2 (some .int), .fieldLink RX4 19 "StrikingWorkModel" "errors" "[I"] ++ wsX40)
def wsX4_missed : List Cond := .code yX4_missed cX4_missed 2 (some .int) :: ([.methodLink RX4 79 yX4_valueOf, .instanceMethod yX4_valueOf, .selects RX4 yX4_valueOf yX4_valueOf, .initialized RX4, .code yX4_valueOf cX4_valueOf 3 (some .int), .fieldLink RX4 7 "StrikingWorkModel" "now" "[I", .methodLink RX4 38 yX4_isTrain, .static yX4_isTrain, .code yX4_isTrain cX4_isTrain 1 (some .boolean), .methodLink RX4 34 yX4_in, .static yX4_in, .code yX4_in cX4_in 3 (some .boolean), .methodLink RX4 22 yX4_at, .static yX4_at, .code yX4_at cX4_at 2 (some .int), .methodLink RX4 42 yX4_error, .instanceMethod yX4_error, .selects RX4 yX4_error yX4_error, .code yX4_error cX4_error 2 (some .int), .fieldLink RX4 19 "StrikingWorkModel" "errors" "[I"] ++ wsX40)
def wsX4_isSilent : List Cond := .code yX4_isSilent cX4_isSilent 2 (some .int) :: ([.methodLink RX4 34 yX4_in, .static yX4_in, .initialized RX4, .code yX4_in cX4_in 3 (some .boolean), .methodLink RX4 42 yX4_error, .instanceMethod yX4_error, .selects RX4 yX4_error yX4_error, .code yX4_error cX4_error 2 (some .int), .fieldLink RX4 19 "StrikingWorkModel" "errors" "[I", .methodLink RX4 63 yX4_silentAt, .instanceMethod yX4_silentAt, .selects RX4 yX4_silentAt yX4_silentAt, .code yX4_silentAt cX4_silentAt 4 (some .boolean), .fieldLink RX4 7 "StrikingWorkModel" "now" "[I"] ++ wsX40)
def wsX4_entry : List Cond := .code yX4_entry cX4_entry 4 (some .int) :: ([.fieldLink RX4 7 "StrikingWorkModel" "now" "[I", .methodLink RX4 42 yX4_error, .instanceMethod yX4_error, .selects RX4 yX4_error yX4_error, .initialized RX4, .code yX4_error cX4_error 2 (some .int), .fieldLink RX4 19 "StrikingWorkModel" "errors" "[I"] ++ wsX40)
def wsX4_strikeMinute : List Cond := .code yX4_strikeMinute cX4_strikeMinute 2 (some .int) :: ([.methodLink RX4 82 yX4_entry, .instanceMethod yX4_entry, .selects RX4 yX4_entry yX4_entry, .initialized RX4, .code yX4_entry cX4_entry 4 (some .int), .fieldLink RX4 7 "StrikingWorkModel" "now" "[I", .methodLink RX4 42 yX4_error, .instanceMethod yX4_error, .selects RX4 yX4_error yX4_error, .code yX4_error cX4_error 2 (some .int), .fieldLink RX4 19 "StrikingWorkModel" "errors" "[I"] ++ wsX40)
def wsX4_strikeTrain : List Cond := .code yX4_strikeTrain cX4_strikeTrain 2 (some .int) :: ([.methodLink RX4 82 yX4_entry, .instanceMethod yX4_entry, .selects RX4 yX4_entry yX4_entry, .initialized RX4, .code yX4_entry cX4_entry 4 (some .int), .fieldLink RX4 7 "StrikingWorkModel" "now" "[I", .methodLink RX4 42 yX4_error, .instanceMethod yX4_error, .selects RX4 yX4_error yX4_error, .code yX4_error cX4_error 2 (some .int), .fieldLink RX4 19 "StrikingWorkModel" "errors" "[I"] ++ wsX40)
def wsX4_strikeBlows : List Cond := .code yX4_strikeBlows cX4_strikeBlows 2 (some .int) :: ([.methodLink RX4 82 yX4_entry, .instanceMethod yX4_entry, .selects RX4 yX4_entry yX4_entry, .initialized RX4, .code yX4_entry cX4_entry 4 (some .int), .fieldLink RX4 7 "StrikingWorkModel" "now" "[I", .methodLink RX4 42 yX4_error, .instanceMethod yX4_error, .selects RX4 yX4_error yX4_error, .code yX4_error cX4_error 2 (some .int), .fieldLink RX4 19 "StrikingWorkModel" "errors" "[I"] ++ wsX40)
def wsX4_undo : List Cond := .code yX4_undo cX4_undo 1 (some .int) :: ([.fieldLink RX4 26 "StrikingWorkModel" "states" "I", .fieldLink RX4 16 "StrikingWorkModel" "past" "[I", .fieldLink RX4 7 "StrikingWorkModel" "now" "[I", .methodLink RX4 42 yX4_error, .instanceMethod yX4_error, .selects RX4 yX4_error yX4_error, .initialized RX4, .code yX4_error cX4_error 2 (some .int), .fieldLink RX4 19 "StrikingWorkModel" "errors" "[I", .methodLink RX4 30 yX4_copy, .static yX4_copy, .code yX4_copy cX4_copy 5 none] ++ wsX40)
def wsX4_errorCount : List Cond := .code yX4_errorCount cX4_errorCount 2 (some .int) :: ([.fieldLink RX4 19 "StrikingWorkModel" "errors" "[I", .methodLink RX4 34 yX4_in, .static yX4_in, .initialized RX4, .code yX4_in cX4_in 3 (some .boolean), .methodLink RX4 42 yX4_error, .instanceMethod yX4_error, .selects RX4 yX4_error yX4_error, .code yX4_error cX4_error 2 (some .int)] ++ wsX40)
def wsX4_mix : List Cond := .code yX4_mix cX4_mix 3 none :: ([.constantLong RX4 86 (31), .fieldLink RX4 88 "StrikingWorkModel" "hash" "J"] ++ wsX40)
def wsX4_digest : List Cond := .code yX4_digest cX4_digest 3 (some .long) :: ([.constantLong RX4 92 (2657), .fieldLink RX4 88 "StrikingWorkModel" "hash" "J", .fieldLink RX4 19 "StrikingWorkModel" "errors" "[I", .fieldLink RX4 7 "StrikingWorkModel" "now" "[I", .fieldLink RX4 26 "StrikingWorkModel" "states" "I", .methodLink RX4 94 yX4_mix, .instanceMethod yX4_mix, .selects RX4 yX4_mix yX4_mix, .initialized RX4, .code yX4_mix cX4_mix 3 none, .constantLong RX4 86 (31), .methodLink RX4 22 yX4_at, .static yX4_at, .code yX4_at cX4_at 2 (some .int), .methodLink RX4 66 yX4_dueAfter, .static yX4_dueAfter, .code yX4_dueAfter cX4_dueAfter 4 (some .int), .methodLink RX4 49 yX4_positions, .static yX4_positions, .code yX4_positions cX4_positions 1 (some .int), .methodLink RX4 76 yX4_lagAt, .instanceMethod yX4_lagAt, .selects RX4 yX4_lagAt yX4_lagAt, .code yX4_lagAt cX4_lagAt 4 (some .int)] ++ wsX40)
def wsJ9_min_7cf53 : List Cond := .code yJ9_min_7cf53 cJ9_min_7cf53 2 (some .int) :: ([])
def wsL_law_r1 : List Cond := [Cond.classLink RL 7 RX3, Cond.instantiable RX3 5, Cond.initialized RX3, Cond.classLink RL 10 RX4, Cond.instantiable RX4 6, Cond.initialized RX4, Cond.methodLink RL 9 yX3_init, Cond.instanceMethod yX3_init, Cond.code yX3_init cX3_init 2 none, Cond.methodLink RX3 1 objectInit, Cond.instanceMethod objectInit, Cond.code objectInit ⟨#[0xb1]⟩ 1 none, Cond.classLink RX3 7 RX0, Cond.instantiable RX0 7, Cond.initialized RX0, Cond.fieldLink RX3 10 "StrikingWork" "now" "LStrikingWork$State;", Cond.fieldLink RX3 16 "StrikingWork" "saved" "[LStrikingWork$State;", Cond.classLink RX3 20 RX2, Cond.instantiable RX2 6, Cond.initialized RX2, Cond.fieldLink RX3 25 "StrikingWork" "trial" "LStrikingWork$Train;", Cond.arrayClass .int, Cond.fieldLink RX3 29 "StrikingWork" "errors" "[I", Cond.fieldLink RX3 33 "StrikingWork" "savedCount" "I"]
def wsL_law_r2 : List Cond := [Cond.instanceMethod yX0_init, Cond.code yX0_init cX0_init 1 none, Cond.methodLink RX0 3 objectInit, Cond.classLink RX0 9 RX2, Cond.fieldLink RX0 14 "StrikingWork$State" "hours" "LStrikingWork$Train;", Cond.fieldLink RX0 20 "StrikingWork$State" "quarters" "LStrikingWork$Train;", Cond.classLink RX0 23 RX1, Cond.instantiable RX1 4, Cond.initialized RX1, Cond.fieldLink RX0 26 "StrikingWork$State" "strikes" "LStrikingWork$Strikes;", Cond.fieldLink RX0 30 "StrikingWork$State" "minute" "I", Cond.fieldLink RX0 34 "StrikingWork$State" "silenceMode" "I", Cond.fieldLink RX0 37 "StrikingWork$State" "silenceBegin" "I", Cond.fieldLink RX0 40 "StrikingWork$State" "silenceEnd" "I", Cond.methodLink RX0 11 yX2_init, Cond.instanceMethod yX2_init, Cond.code yX2_init cX2_init 2 none, Cond.methodLink RX2 3 objectInit, Cond.fieldLink RX2 9 "StrikingWork$Train" "mechanism" "I", Cond.fieldLink RX2 15 "StrikingWork$Train" "position" "I", Cond.fieldLink RX2 18 "StrikingWork$Train" "weight" "I", Cond.fieldLink RX2 21 "StrikingWork$Train" "sounded" "I", Cond.fieldLink RX2 24 "StrikingWork$Train" "missed" "I", Cond.fieldLink RX2 27 "StrikingWork$Train" "number" "I"]
def wsL_law_r3 : List Cond := [Cond.instanceMethod yX1_init, Cond.code yX1_init cX1_init 1 none, Cond.methodLink RX1 3 objectInit, Cond.fieldLink RX1 9 "StrikingWork$Strikes" "minutes" "[I", Cond.fieldLink RX1 15 "StrikingWork$Strikes" "trains" "[I", Cond.fieldLink RX1 18 "StrikingWork$Strikes" "blows" "[I", Cond.fieldLink RX1 21 "StrikingWork$Strikes" "count" "I", Cond.methodLink RX3 22 yX2_init, Cond.methodLink RL 12 yX4_init, Cond.instanceMethod yX4_init, Cond.code yX4_init cX4_init 2 none, Cond.methodLink RX4 1 objectInit, Cond.fieldLink RX4 7 "StrikingWorkModel" "now" "[I", Cond.fieldLink RX4 13 "StrikingWorkModel" "aside" "[I", Cond.fieldLink RX4 16 "StrikingWorkModel" "past" "[I", Cond.fieldLink RX4 19 "StrikingWorkModel" "errors" "[I", Cond.methodLink RX4 22 yX4_at, Cond.static yX4_at, Cond.code yX4_at cX4_at 2 (some .int), Cond.methodLink RL 13 yX3_setMechanism, Cond.instanceMethod yX3_setMechanism, Cond.selects RX3 yX3_setMechanism yX3_setMechanism, Cond.code yX3_setMechanism cX3_setMechanism 5 (some .int), Cond.fieldLink RX3 52 "StrikingWork$Train" "mechanism" "I"]
def wsL_law_r4 : List Cond := [Cond.methodLink RX3 37 yX3_isTrain, Cond.static yX3_isTrain, Cond.code yX3_isTrain cX3_isTrain 1 (some .boolean), Cond.methodLink RX3 41 yX3_refuse, Cond.instanceMethod yX3_refuse, Cond.selects RX3 yX3_refuse yX3_refuse, Cond.code yX3_refuse cX3_refuse 2 (some .int), Cond.methodLink RX3 157 yX3_errorIndex, Cond.static yX3_errorIndex, Cond.code yX3_errorIndex cX3_errorIndex 1 (some .int), Cond.methodLink RX3 45 yX3_save, Cond.instanceMethod yX3_save, Cond.selects RX3 yX3_save yX3_save, Cond.code yX3_save cX3_save 1 none, Cond.methodLink RX3 168 yX3_dropOldestSaved, Cond.instanceMethod yX3_dropOldestSaved, Cond.selects RX3 yX3_dropOldestSaved yX3_dropOldestSaved, Cond.code yX3_dropOldestSaved cX3_dropOldestSaved 3 none, Cond.methodLink RX3 154 yX0_copyFrom, Cond.instanceMethod yX0_copyFrom, Cond.selects RX0 yX0_copyFrom yX0_copyFrom, Cond.code yX0_copyFrom cX0_copyFrom 2 none, Cond.methodLink RX0 47 yX2_copyFrom, Cond.instanceMethod yX2_copyFrom]
def wsL_law_r5 : List Cond := [Cond.selects RX2 yX2_copyFrom yX2_copyFrom, Cond.code yX2_copyFrom cX2_copyFrom 2 none, Cond.methodLink RX0 51 yX1_copyFrom, Cond.instanceMethod yX1_copyFrom, Cond.selects RX1 yX1_copyFrom yX1_copyFrom, Cond.code yX1_copyFrom cX1_copyFrom 3 none, Cond.methodLink RX3 48 yX0_trainOf, Cond.instanceMethod yX0_trainOf, Cond.selects RX0 yX0_trainOf yX0_trainOf, Cond.code yX0_trainOf cX0_trainOf 2 (some (.object "StrikingWork$Train")), Cond.methodLink RL 17 yX4_setMechanism, Cond.instanceMethod yX4_setMechanism, Cond.selects RX4 yX4_setMechanism yX4_setMechanism, Cond.code yX4_setMechanism cX4_setMechanism 4 (some .int), Cond.methodLink RX4 38 yX4_isTrain, Cond.static yX4_isTrain, Cond.code yX4_isTrain cX4_isTrain 1 (some .boolean), Cond.methodLink RX4 34 yX4_in, Cond.static yX4_in, Cond.code yX4_in cX4_in 3 (some .boolean), Cond.methodLink RX4 42 yX4_error, Cond.instanceMethod yX4_error, Cond.selects RX4 yX4_error yX4_error, Cond.code yX4_error cX4_error 2 (some .int)]
def wsL_law_r6 : List Cond := [Cond.methodLink RX4 46 yX4_save, Cond.instanceMethod yX4_save, Cond.selects RX4 yX4_save yX4_save, Cond.code yX4_save cX4_save 2 none, Cond.fieldLink RX4 26 "StrikingWorkModel" "states" "I", Cond.methodLink RX4 30 yX4_copy, Cond.static yX4_copy, Cond.code yX4_copy cX4_copy 5 none, Cond.methodLink RL 18 yX3_setPosition, Cond.instanceMethod yX3_setPosition, Cond.selects RX3 yX3_setPosition yX3_setPosition, Cond.code yX3_setPosition cX3_setPosition 5 (some .int), Cond.fieldLink RX3 59 "StrikingWork$Train" "position" "I", Cond.methodLink RX3 55 yX2_lastPosition, Cond.instanceMethod yX2_lastPosition, Cond.selects RX2 yX2_lastPosition yX2_lastPosition, Cond.code yX2_lastPosition cX2_lastPosition 1 (some .int), Cond.methodLink RL 21 yX4_setPosition, Cond.instanceMethod yX4_setPosition, Cond.selects RX4 yX4_setPosition yX4_setPosition, Cond.code yX4_setPosition cX4_setPosition 4 (some .int), Cond.methodLink RX4 49 yX4_positions, Cond.static yX4_positions, Cond.code yX4_positions cX4_positions 1 (some .int)]
def wsL_law_r7 : List Cond := [Cond.methodLink RL 22 yX3_setSilence, Cond.instanceMethod yX3_setSilence, Cond.selects RX3 yX3_setSilence yX3_setSilence, Cond.code yX3_setSilence cX3_setSilence 6 (some .int), Cond.fieldLink RX3 65 "StrikingWork$State" "silenceMode" "I", Cond.fieldLink RX3 68 "StrikingWork$State" "silenceBegin" "I", Cond.fieldLink RX3 71 "StrikingWork$State" "silenceEnd" "I", Cond.methodLink RX3 62 yX3_isMinute, Cond.static yX3_isMinute, Cond.code yX3_isMinute cX3_isMinute 1 (some .boolean), Cond.methodLink RL 26 yX4_setSilence, Cond.instanceMethod yX4_setSilence, Cond.selects RX4 yX4_setSilence yX4_setSilence, Cond.code yX4_setSilence cX4_setSilence 5 (some .int), Cond.methodLink RL 27 yX3_wind, Cond.instanceMethod yX3_wind, Cond.selects RX3 yX3_wind yX3_wind, Cond.code yX3_wind cX3_wind 5 (some .int), Cond.fieldLink RX3 74 "StrikingWork$Train" "weight" "I", Cond.methodLink RX3 77 Lib.Math.min.name, Cond.static Lib.Math.min.name, Cond.initialized "java/lang/Math", Cond.code Lib.Math.min.name Lib.Math.min.code 2 (some .int), Cond.methodLink RL 30 yX4_wind]
def wsL_law_r8 : List Cond := [Cond.instanceMethod yX4_wind, Cond.selects RX4 yX4_wind yX4_wind, Cond.code yX4_wind cX4_wind 5 (some .int), Cond.methodLink RL 31 yX3_run, Cond.instanceMethod yX3_run, Cond.selects RX3 yX3_run yX3_run, Cond.code yX3_run cX3_run 5 (some .int), Cond.fieldLink RX3 83 "StrikingWork$State" "minute" "I", Cond.methodLink RX3 86 yX3_strikeQuarter, Cond.instanceMethod yX3_strikeQuarter, Cond.selects RX3 yX3_strikeQuarter yX3_strikeQuarter, Cond.code yX3_strikeQuarter cX3_strikeQuarter 3 (some .int), Cond.fieldLink RX3 171 "StrikingWork$State" "quarters" "LStrikingWork$Train;", Cond.fieldLink RX3 174 "StrikingWork$State" "hours" "LStrikingWork$Train;", Cond.methodLink RX3 121 yX0_blocksAt, Cond.instanceMethod yX0_blocksAt, Cond.selects RX0 yX0_blocksAt yX0_blocksAt, Cond.code yX0_blocksAt cX0_blocksAt 2 (some .boolean), Cond.methodLink RX0 43 yX0_hushesAt, Cond.instanceMethod yX0_hushesAt, Cond.selects RX0 yX0_hushesAt yX0_hushesAt, Cond.code yX0_hushesAt cX0_hushesAt 2 (some .boolean), Cond.methodLink RX3 133 yX0_hushesAt, Cond.methodLink RX3 124 yX2_dueAt]
def wsL_law_r9 : List Cond := [Cond.instanceMethod yX2_dueAt, Cond.selects RX2 yX2_dueAt yX2_dueAt, Cond.code yX2_dueAt cX2_dueAt 3 (some .int), Cond.methodLink RX2 34 yX2_lastPosition, Cond.methodLink RX3 95 yX3_release, Cond.instanceMethod yX3_release, Cond.selects RX3 yX3_release yX3_release, Cond.code yX3_release cX3_release 5 (some .int), Cond.fieldLink RX3 136 "StrikingWork$State" "strikes" "LStrikingWork$Strikes;", Cond.fieldLink RX3 177 "StrikingWork$Train" "number" "I", Cond.fieldLink RX3 130 "StrikingWork$Train" "sounded" "I", Cond.methodLink RX3 127 yX2_releaseWith, Cond.instanceMethod yX2_releaseWith, Cond.selects RX2 yX2_releaseWith yX2_releaseWith, Cond.code yX2_releaseWith cX2_releaseWith 3 (some .int), Cond.methodLink RX2 50 yX2_canStrike, Cond.instanceMethod yX2_canStrike, Cond.selects RX2 yX2_canStrike yX2_canStrike, Cond.code yX2_canStrike cX2_canStrike 2 (some .boolean), Cond.methodLink RX2 47 yX2_blowsFor, Cond.instanceMethod yX2_blowsFor, Cond.selects RX2 yX2_blowsFor yX2_blowsFor, Cond.code yX2_blowsFor cX2_blowsFor 2 (some .int), Cond.methodLink RX2 54 yX2_positionAfter]
def wsL_law_r10 : List Cond := [Cond.instanceMethod yX2_positionAfter, Cond.selects RX2 yX2_positionAfter yX2_positionAfter, Cond.code yX2_positionAfter cX2_positionAfter 2 (some .int), Cond.methodLink RX3 180 yX1_put, Cond.instanceMethod yX1_put, Cond.selects RX1 yX1_put yX1_put, Cond.code yX1_put cX1_put 5 none, Cond.methodLink RX1 25 Lib.Math.min.name, Cond.methodLink RX3 118 yX2_isReleasedAt, Cond.instanceMethod yX2_isReleasedAt, Cond.selects RX2 yX2_isReleasedAt yX2_isReleasedAt, Cond.code yX2_isReleasedAt cX2_isReleasedAt 2 (some .boolean), Cond.methodLink RX2 30 yX2_lastReleaseUpTo, Cond.instanceMethod yX2_lastReleaseUpTo, Cond.selects RX2 yX2_lastReleaseUpTo yX2_lastReleaseUpTo, Cond.code yX2_lastReleaseUpTo cX2_lastReleaseUpTo 2 (some .int), Cond.methodLink RL 35 yX4_run, Cond.instanceMethod yX4_run, Cond.selects RX4 yX4_run yX4_run, Cond.code yX4_run cX4_run 4 (some .int), Cond.methodLink RX4 72 yX4_tick, Cond.instanceMethod yX4_tick, Cond.selects RX4 yX4_tick yX4_tick, Cond.code yX4_tick cX4_tick 5 (some .int)]
def wsL_law_r11 : List Cond := [Cond.methodLink RX4 63 yX4_silentAt, Cond.instanceMethod yX4_silentAt, Cond.selects RX4 yX4_silentAt yX4_silentAt, Cond.code yX4_silentAt cX4_silentAt 4 (some .boolean), Cond.methodLink RX4 66 yX4_dueAfter, Cond.static yX4_dueAfter, Cond.code yX4_dueAfter cX4_dueAfter 4 (some .int), Cond.methodLink RX4 69 yX4_release, Cond.instanceMethod yX4_release, Cond.selects RX4 yX4_release yX4_release, Cond.code yX4_release cX4_release 5 (some .int), Cond.methodLink RX4 56 yX4_blowsOf, Cond.instanceMethod yX4_blowsOf, Cond.selects RX4 yX4_blowsOf yX4_blowsOf, Cond.code yX4_blowsOf cX4_blowsOf 4 (some .int), Cond.methodLink RX4 59 yX4_strike, Cond.instanceMethod yX4_strike, Cond.selects RX4 yX4_strike yX4_strike, Cond.code yX4_strike cX4_strike 4 (some .int), Cond.methodLink RX4 52 yX4_record, Cond.instanceMethod yX4_record, Cond.selects RX4 yX4_record yX4_record, Cond.code yX4_record cX4_record 4 none, Cond.methodLink RL 36 yX3_setHands]
def wsL_law_r12 : List Cond := [Cond.instanceMethod yX3_setHands, Cond.selects RX3 yX3_setHands yX3_setHands, Cond.code yX3_setHands cX3_setHands 3 (some .int), Cond.methodLink RL 39 yX4_setHands, Cond.instanceMethod yX4_setHands, Cond.selects RX4 yX4_setHands yX4_setHands, Cond.code yX4_setHands cX4_setHands 3 (some .int), Cond.methodLink RL 40 yX3_trip, Cond.instanceMethod yX3_trip, Cond.selects RX3 yX3_trip yX3_trip, Cond.code yX3_trip cX3_trip 4 (some .int), Cond.methodLink RX3 89 yX2_dueAfter, Cond.instanceMethod yX2_dueAfter, Cond.selects RX2 yX2_dueAfter yX2_dueAfter, Cond.code yX2_dueAfter cX2_dueAfter 2 (some .int), Cond.methodLink RX2 38 yX2_period, Cond.instanceMethod yX2_period, Cond.selects RX2 yX2_period yX2_period, Cond.code yX2_period cX2_period 1 (some .int), Cond.methodLink RX2 41 yX2_dueAt, Cond.methodLink RX3 92 yX2_canStrike, Cond.methodLink RL 43 yX4_trip, Cond.instanceMethod yX4_trip, Cond.selects RX4 yX4_trip yX4_trip]
def wsL_law_r13 : List Cond := [Cond.code yX4_trip cX4_trip 3 (some .int), Cond.methodLink RL 44 yX3_nextDue, Cond.instanceMethod yX3_nextDue, Cond.selects RX3 yX3_nextDue yX3_nextDue, Cond.code yX3_nextDue cX3_nextDue 2 (some .int), Cond.methodLink RL 47 yX4_nextDue, Cond.instanceMethod yX4_nextDue, Cond.selects RX4 yX4_nextDue yX4_nextDue, Cond.code yX4_nextDue cX4_nextDue 2 (some .int), Cond.methodLink RL 48 yX3_lag, Cond.instanceMethod yX3_lag, Cond.selects RX3 yX3_lag yX3_lag, Cond.code yX3_lag cX3_lag 2 (some .int), Cond.methodLink RX3 99 yX2_lagAt, Cond.instanceMethod yX2_lagAt, Cond.selects RX2 yX2_lagAt yX2_lagAt, Cond.code yX2_lagAt cX2_lagAt 3 (some .int), Cond.methodLink RX2 44 yX2_dueAfter, Cond.methodLink RL 51 yX4_lag, Cond.instanceMethod yX4_lag, Cond.selects RX4 yX4_lag yX4_lag, Cond.code yX4_lag cX4_lag 2 (some .int), Cond.methodLink RX4 76 yX4_lagAt, Cond.instanceMethod yX4_lagAt]
def wsL_law_r14 : List Cond := [Cond.selects RX4 yX4_lagAt yX4_lagAt, Cond.code yX4_lagAt cX4_lagAt 4 (some .int), Cond.methodLink RL 52 yX3_blowsToCorrect, Cond.instanceMethod yX3_blowsToCorrect, Cond.selects RX3 yX3_blowsToCorrect yX3_blowsToCorrect, Cond.code yX3_blowsToCorrect cX3_blowsToCorrect 7 (some .int), Cond.methodLink RX3 102 yX2_positionAfter, Cond.methodLink RL 55 yX4_blowsToCorrect, Cond.instanceMethod yX4_blowsToCorrect, Cond.selects RX4 yX4_blowsToCorrect yX4_blowsToCorrect, Cond.code yX4_blowsToCorrect cX4_blowsToCorrect 5 (some .int), Cond.methodLink RL 56 yX3_handsToCorrect, Cond.instanceMethod yX3_handsToCorrect, Cond.selects RX3 yX3_handsToCorrect yX3_handsToCorrect, Cond.code yX3_handsToCorrect cX3_handsToCorrect 5 (some .int), Cond.methodLink RX3 105 yX2_lastReleaseUpTo, Cond.methodLink RX3 108 yX2_period, Cond.methodLink RL 59 yX4_handsToCorrect, Cond.instanceMethod yX4_handsToCorrect, Cond.selects RX4 yX4_handsToCorrect yX4_handsToCorrect, Cond.code yX4_handsToCorrect cX4_handsToCorrect 3 (some .int), Cond.methodLink RL 60 yX3_minutesToMiss, Cond.instanceMethod yX3_minutesToMiss, Cond.selects RX3 yX3_minutesToMiss yX3_minutesToMiss]
def wsL_law_r15 : List Cond := [Cond.code yX3_minutesToMiss cX3_minutesToMiss 5 (some .int), Cond.fieldLink RX3 115 "StrikingWork$Train" "missed" "I", Cond.methodLink RX3 111 yX2_copyFrom, Cond.methodLink RL 63 yX4_minutesToMiss, Cond.instanceMethod yX4_minutesToMiss, Cond.selects RX4 yX4_minutesToMiss yX4_minutesToMiss, Cond.code yX4_minutesToMiss cX4_minutesToMiss 6 (some .int), Cond.methodLink RL 64 yX3_minute, Cond.instanceMethod yX3_minute, Cond.selects RX3 yX3_minute yX3_minute, Cond.code yX3_minute cX3_minute 1 (some .int), Cond.methodLink RL 68 yX4_minute, Cond.instanceMethod yX4_minute, Cond.selects RX4 yX4_minute yX4_minute, Cond.code yX4_minute cX4_minute 1 (some .int), Cond.methodLink RL 69 yX3_position, Cond.instanceMethod yX3_position, Cond.selects RX3 yX3_position yX3_position, Cond.code yX3_position cX3_position 2 (some .int), Cond.methodLink RL 72 yX4_position, Cond.instanceMethod yX4_position, Cond.selects RX4 yX4_position yX4_position, Cond.code yX4_position cX4_position 2 (some .int), Cond.methodLink RX4 79 yX4_valueOf]
def wsL_law_r16 : List Cond := [Cond.instanceMethod yX4_valueOf, Cond.selects RX4 yX4_valueOf yX4_valueOf, Cond.code yX4_valueOf cX4_valueOf 3 (some .int), Cond.methodLink RL 73 yX3_weight, Cond.instanceMethod yX3_weight, Cond.selects RX3 yX3_weight yX3_weight, Cond.code yX3_weight cX3_weight 2 (some .int), Cond.methodLink RL 76 yX4_weight, Cond.instanceMethod yX4_weight, Cond.selects RX4 yX4_weight yX4_weight, Cond.code yX4_weight cX4_weight 2 (some .int), Cond.methodLink RL 77 yX3_sounded, Cond.instanceMethod yX3_sounded, Cond.selects RX3 yX3_sounded yX3_sounded, Cond.code yX3_sounded cX3_sounded 2 (some .int), Cond.methodLink RL 80 yX4_sounded, Cond.instanceMethod yX4_sounded, Cond.selects RX4 yX4_sounded yX4_sounded, Cond.code yX4_sounded cX4_sounded 2 (some .int), Cond.methodLink RL 81 yX3_missed, Cond.instanceMethod yX3_missed, Cond.selects RX3 yX3_missed yX3_missed, Cond.code yX3_missed cX3_missed 2 (some .int), Cond.methodLink RL 84 yX4_missed]
def wsL_law_r17 : List Cond := [Cond.instanceMethod yX4_missed, Cond.selects RX4 yX4_missed yX4_missed, Cond.code yX4_missed cX4_missed 2 (some .int), Cond.methodLink RL 85 yX3_isSilent, Cond.instanceMethod yX3_isSilent, Cond.selects RX3 yX3_isSilent yX3_isSilent, Cond.code yX3_isSilent cX3_isSilent 2 (some .int), Cond.methodLink RL 88 yX4_isSilent, Cond.instanceMethod yX4_isSilent, Cond.selects RX4 yX4_isSilent yX4_isSilent, Cond.code yX4_isSilent cX4_isSilent 2 (some .int), Cond.methodLink RL 89 yX3_strikeMinute, Cond.instanceMethod yX3_strikeMinute, Cond.selects RX3 yX3_strikeMinute yX3_strikeMinute, Cond.code yX3_strikeMinute cX3_strikeMinute 2 (some .int), Cond.fieldLink RX3 140 "StrikingWork$Strikes" "count" "I", Cond.fieldLink RX3 145 "StrikingWork$Strikes" "minutes" "[I", Cond.methodLink RL 92 yX4_strikeMinute, Cond.instanceMethod yX4_strikeMinute, Cond.selects RX4 yX4_strikeMinute yX4_strikeMinute, Cond.code yX4_strikeMinute cX4_strikeMinute 2 (some .int), Cond.methodLink RX4 82 yX4_entry, Cond.instanceMethod yX4_entry, Cond.selects RX4 yX4_entry yX4_entry]
def wsL_law_r18 : List Cond := [Cond.code yX4_entry cX4_entry 4 (some .int), Cond.methodLink RL 93 yX3_strikeTrain, Cond.instanceMethod yX3_strikeTrain, Cond.selects RX3 yX3_strikeTrain yX3_strikeTrain, Cond.code yX3_strikeTrain cX3_strikeTrain 2 (some .int), Cond.fieldLink RX3 148 "StrikingWork$Strikes" "trains" "[I", Cond.methodLink RL 96 yX4_strikeTrain, Cond.instanceMethod yX4_strikeTrain, Cond.selects RX4 yX4_strikeTrain yX4_strikeTrain, Cond.code yX4_strikeTrain cX4_strikeTrain 2 (some .int), Cond.methodLink RL 97 yX3_strikeBlows, Cond.instanceMethod yX3_strikeBlows, Cond.selects RX3 yX3_strikeBlows yX3_strikeBlows, Cond.code yX3_strikeBlows cX3_strikeBlows 2 (some .int), Cond.fieldLink RX3 151 "StrikingWork$Strikes" "blows" "[I", Cond.methodLink RL 100 yX4_strikeBlows, Cond.instanceMethod yX4_strikeBlows, Cond.selects RX4 yX4_strikeBlows yX4_strikeBlows, Cond.code yX4_strikeBlows cX4_strikeBlows 2 (some .int), Cond.methodLink RL 101 yX3_undo, Cond.instanceMethod yX3_undo, Cond.selects RX3 yX3_undo yX3_undo, Cond.code yX3_undo cX3_undo 1 (some .int), Cond.methodLink RL 104 yX4_undo]
def wsL_law_r19 : List Cond := [Cond.instanceMethod yX4_undo, Cond.selects RX4 yX4_undo yX4_undo, Cond.code yX4_undo cX4_undo 1 (some .int), Cond.methodLink RL 105 yX3_errorCount, Cond.instanceMethod yX3_errorCount, Cond.selects RX3 yX3_errorCount yX3_errorCount, Cond.code yX3_errorCount cX3_errorCount 2 (some .int), Cond.methodLink RL 108 yX4_errorCount, Cond.instanceMethod yX4_errorCount, Cond.selects RX4 yX4_errorCount yX4_errorCount, Cond.code yX4_errorCount cX4_errorCount 2 (some .int), Cond.methodLink RL 109 yX3_digest, Cond.instanceMethod yX3_digest, Cond.selects RX3 yX3_digest yX3_digest, Cond.code yX3_digest cX3_digest 4 (some .long), Cond.constantLong RX3 160 (2657), Cond.constantLong RX3 162 (31), Cond.methodLink RX3 164 yX0_addToHash, Cond.instanceMethod yX0_addToHash, Cond.selects RX0 yX0_addToHash yX0_addToHash, Cond.code yX0_addToHash cX0_addToHash 5 (some .long), Cond.constantLong RX0 54 (31), Cond.methodLink RX0 56 yX2_addToHash, Cond.instanceMethod yX2_addToHash]
def wsL_law_r20 : List Cond := [Cond.selects RX2 yX2_addToHash yX2_addToHash, Cond.code yX2_addToHash cX2_addToHash 6 (some .long), Cond.constantLong RX2 57 (31), Cond.methodLink RX2 59 yX2_lagAt, Cond.methodLink RX0 60 yX1_addToHash, Cond.instanceMethod yX1_addToHash, Cond.selects RX1 yX1_addToHash yX1_addToHash, Cond.code yX1_addToHash cX1_addToHash 6 (some .long), Cond.constantLong RX1 31 (31), Cond.methodLink RL 113 yX4_digest, Cond.instanceMethod yX4_digest, Cond.selects RX4 yX4_digest yX4_digest, Cond.code yX4_digest cX4_digest 3 (some .long), Cond.constantLong RX4 92 (2657), Cond.fieldLink RX4 88 "StrikingWorkModel" "hash" "J", Cond.methodLink RX4 94 yX4_mix, Cond.instanceMethod yX4_mix, Cond.selects RX4 yX4_mix yX4_mix, Cond.code yX4_mix cX4_mix 3 none, Cond.constantLong RX4 86 (31)]
def wsL_law : List Cond := (wsL_law_r1 ++ (wsL_law_r2 ++ (wsL_law_r3 ++ (wsL_law_r4 ++ (wsL_law_r5 ++ (wsL_law_r6 ++ (wsL_law_r7 ++ (wsL_law_r8 ++ (wsL_law_r9 ++ (wsL_law_r10 ++ (wsL_law_r11 ++ (wsL_law_r12 ++ (wsL_law_r13 ++ (wsL_law_r14 ++ (wsL_law_r15 ++ (wsL_law_r16 ++ (wsL_law_r17 ++ (wsL_law_r18 ++ (wsL_law_r19 ++ wsL_law_r20))))))))))))))))))) ++ wsX30 ++ wsX40 ++ wsX00 ++ wsX20 ++ wsX10 ++ ([] : List Cond)
abbrev vwCl : List vw_C := [(RX0, TX0, 7), (RX1, TX1, 4), (RX2, TX2, 6), (RX3, TX3, 5), (RX4, TX4, 6)]
end
section
theorem mem_r {big ws : List Cond} (ps : List Nat) (hp : ws = ps.filterMap (fun i => big[i]?)) : ∀ w ∈ ws, w ∈ big := by
  intro w hw
  rw [hp] at hw
  obtain ⟨i, -, hi⟩ := List.mem_filterMap.mp hw
  exact List.mem_of_getElem? hi
theorem mem_a {big a b : List Cond} (ha : ∀ w ∈ a, w ∈ big) (hb : ∀ w ∈ b, w ∈ big) : ∀ w ∈ a ++ b, w ∈ big := fun w h => (List.mem_append.mp h).elim (ha w) (hb w)
theorem wsL_law_in1 : ∀ w ∈ wsL_law_r1, w ∈ lw_tbl := mem_r [24, 25, 18, 369, 370, 22, 26, 27, 28, 29, 30, 31, 32, 33, 19, 125, 126, 123, 39, 20, 127, 92, 128, 129] (by decide +kernel)
theorem wsL_law_in2 : ∀ w ∈ wsL_law_r2, w ∈ lw_tbl := mem_r [35, 36, 37, 38, 93, 95, 69, 70, 21, 97, 99, 101, 103, 105, 40, 41, 42, 43, 46, 48, 50, 52, 54, 44] (by decide +kernel)
theorem wsL_law_in3 : ∀ w ∈ wsL_law_r3, w ∈ lw_tbl := mem_r [72, 73, 74, 75, 77, 79, 81, 124, 371, 372, 373, 374, 378, 379, 380, 382, 375, 376, 377, 141, 142, 143, 144, 47] (by decide +kernel)
theorem wsL_law_in4 : ∀ w ∈ wsL_law_r4, w ∈ lw_tbl := mem_r [145, 146, 147, 148, 150, 0, 151, 152, 153, 154, 155, 157, 1, 158, 159, 161, 2, 162, 163, 164, 165, 166, 167, 168] (by decide +kernel)
theorem wsL_law_in5 : ∀ w ∈ wsL_law_r5, w ∈ lw_tbl := mem_r [169, 170, 171, 172, 173, 174, 175, 176, 177, 178, 397, 398, 399, 400, 401, 402, 403, 404, 405, 406, 407, 409, 5, 410] (by decide +kernel)
theorem wsL_law_in6 : ∀ w ∈ wsL_law_r6, w ∈ lw_tbl := mem_r [411, 413, 6, 414, 381, 415, 416, 417, 179, 180, 181, 182, 49, 183, 184, 185, 186, 418, 419, 420, 421, 422, 423, 424] (by decide +kernel)
theorem wsL_law_in7 : ∀ w ∈ wsL_law_r7, w ∈ lw_tbl := mem_r [187, 188, 189, 190, 102, 104, 106, 191, 192, 193, 425, 426, 427, 428, 194, 195, 196, 197, 51, 198, 199, 23, 200, 429] (by decide +kernel)
theorem wsL_law_in8 : ∀ w ∈ wsL_law_r8, w ∈ lw_tbl := mem_r [430, 431, 432, 201, 202, 203, 204, 100, 205, 207, 3, 208, 96, 94, 209, 210, 211, 212, 213, 214, 215, 216, 217, 218] (by decide +kernel)
theorem wsL_law_in9 : ∀ w ∈ wsL_law_r9, w ∈ lw_tbl := mem_r [219, 220, 221, 222, 223, 225, 4, 226, 98, 45, 53, 227, 228, 229, 230, 231, 232, 233, 234, 235, 236, 237, 238, 239] (by decide +kernel)
theorem wsL_law_in10 : ∀ w ∈ wsL_law_r10, w ∈ lw_tbl := mem_r [240, 241, 242, 243, 244, 245, 246, 247, 248, 249, 250, 251, 252, 253, 254, 255, 433, 434, 435, 436, 437, 439, 7, 440] (by decide +kernel)
theorem wsL_law_in11 : ∀ w ∈ wsL_law_r11, w ∈ lw_tbl := mem_r [441, 443, 8, 444, 445, 446, 447, 448, 450, 9, 451, 452, 454, 10, 455, 456, 458, 11, 459, 460, 462, 12, 463, 256] (by decide +kernel)
theorem wsL_law_in12 : ∀ w ∈ wsL_law_r12, w ∈ lw_tbl := mem_r [257, 258, 259, 464, 465, 466, 467, 260, 261, 262, 263, 264, 265, 266, 267, 268, 269, 270, 271, 272, 273, 468, 469, 470] (by decide +kernel)
theorem wsL_law_in13 : ∀ w ∈ wsL_law_r13, w ∈ lw_tbl := mem_r [471, 274, 275, 276, 277, 472, 473, 474, 475, 278, 279, 280, 281, 282, 283, 284, 285, 286, 476, 477, 478, 479, 480, 482] (by decide +kernel)
theorem wsL_law_in14 : ∀ w ∈ wsL_law_r14, w ∈ lw_tbl := mem_r [13, 483, 287, 288, 289, 290, 291, 484, 485, 486, 487, 292, 293, 294, 295, 296, 297, 488, 489, 490, 491, 298, 299, 300] (by decide +kernel)
theorem wsL_law_in15 : ∀ w ∈ wsL_law_r15, w ∈ lw_tbl := mem_r [301, 55, 302, 492, 493, 494, 495, 303, 304, 305, 306, 496, 497, 498, 499, 307, 308, 309, 310, 500, 501, 502, 503, 504] (by decide +kernel)
theorem wsL_law_in16 : ∀ w ∈ wsL_law_r16, w ∈ lw_tbl := mem_r [506, 14, 507, 311, 312, 313, 314, 508, 509, 510, 511, 315, 316, 317, 318, 512, 513, 514, 515, 319, 320, 321, 322, 516] (by decide +kernel)
theorem wsL_law_in17 : ∀ w ∈ wsL_law_r17, w ∈ lw_tbl := mem_r [517, 518, 519, 323, 324, 325, 326, 520, 521, 522, 523, 327, 328, 329, 330, 82, 76, 524, 525, 526, 527, 528, 530, 15] (by decide +kernel)
theorem wsL_law_in18 : ∀ w ∈ wsL_law_r18, w ∈ lw_tbl := mem_r [531, 331, 332, 333, 334, 78, 532, 533, 534, 535, 335, 336, 337, 338, 80, 536, 537, 538, 539, 339, 340, 341, 342, 540] (by decide +kernel)
theorem wsL_law_in19 : ∀ w ∈ wsL_law_r19, w ∈ lw_tbl := mem_r [541, 542, 543, 343, 344, 345, 346, 544, 545, 546, 547, 347, 348, 349, 350, 351, 352, 353, 354, 355, 356, 357, 358, 359] (by decide +kernel)
theorem wsL_law_in20 : ∀ w ∈ wsL_law_r20, w ∈ lw_tbl := mem_r [360, 361, 362, 363, 364, 365, 366, 367, 368, 548, 549, 550, 551, 552, 383, 553, 555, 16, 556, 557] (by decide +kernel)
theorem wsL_inX0 : ∀ w ∈ wsX00, w ∈ lw_tbl := mem_r [107, 109, 111, 113, 115, 117, 119] (by decide +kernel)
theorem wsL_inX1 : ∀ w ∈ wsX10, w ∈ lw_tbl := mem_r [83, 85, 87, 89] (by decide +kernel)
theorem wsL_inX2 : ∀ w ∈ wsX20, w ∈ lw_tbl := mem_r [56, 58, 60, 62, 64, 66] (by decide +kernel)
theorem wsL_inX3 : ∀ w ∈ wsX30, w ∈ lw_tbl := mem_r [130, 132, 134, 136, 138] (by decide +kernel)
theorem wsL_inX4 : ∀ w ∈ wsX40, w ∈ lw_tbl := mem_r [384, 386, 388, 390, 392, 394] (by decide +kernel)
theorem wsL_law_in : ∀ w ∈ wsL_law, w ∈ lw_tbl := mem_a (mem_a (mem_a (mem_a (mem_a (mem_a (mem_a wsL_law_in1 (mem_a wsL_law_in2 (mem_a wsL_law_in3 (mem_a wsL_law_in4 (mem_a wsL_law_in5 (mem_a wsL_law_in6 (mem_a wsL_law_in7 (mem_a wsL_law_in8 (mem_a wsL_law_in9 (mem_a wsL_law_in10 (mem_a wsL_law_in11 (mem_a wsL_law_in12 (mem_a wsL_law_in13 (mem_a wsL_law_in14 (mem_a wsL_law_in15 (mem_a wsL_law_in16 (mem_a wsL_law_in17 (mem_a wsL_law_in18 (mem_a wsL_law_in19 wsL_law_in20))))))))))))))))))) wsL_inX3) wsL_inX4) wsL_inX0) wsL_inX2) wsL_inX1) (fun _ h => absurd h List.not_mem_nil)
theorem inlX0 : ∀ w ∈ wsX00, w ∈ wsL_law := fun _ h => List.mem_append_left _ (List.mem_append_left _ (List.mem_append_left _ (List.mem_append_right _ h)))
theorem inX0 : ∀ w ∈ wsX00, w ∈ lw_tbl := fun w h => wsL_law_in w (inlX0 w h)
theorem inlX1 : ∀ w ∈ wsX10, w ∈ wsL_law := fun _ h => List.mem_append_left _ (List.mem_append_right _ h)
theorem inX1 : ∀ w ∈ wsX10, w ∈ lw_tbl := fun w h => wsL_law_in w (inlX1 w h)
theorem inlX2 : ∀ w ∈ wsX20, w ∈ wsL_law := fun _ h => List.mem_append_left _ (List.mem_append_left _ (List.mem_append_right _ h))
theorem inX2 : ∀ w ∈ wsX20, w ∈ lw_tbl := fun w h => wsL_law_in w (inlX2 w h)
theorem inlX3 : ∀ w ∈ wsX30, w ∈ wsL_law := fun _ h => List.mem_append_left _ (List.mem_append_left _ (List.mem_append_left _ (List.mem_append_left _ (List.mem_append_left _ (List.mem_append_right _ h)))))
theorem inX3 : ∀ w ∈ wsX30, w ∈ lw_tbl := fun w h => wsL_law_in w (inlX3 w h)
theorem inlX4 : ∀ w ∈ wsX40, w ∈ wsL_law := fun _ h => List.mem_append_left _ (List.mem_append_left _ (List.mem_append_left _ (List.mem_append_left _ (List.mem_append_right _ h))))
theorem inX4 : ∀ w ∈ wsX40, w ∈ lw_tbl := fun w h => wsL_law_in w (inlX4 w h)
theorem inJ9 : ∀ w ∈ wsJ90, w ∈ lw_tbl := by decide +kernel
end
section
set_option maxRecDepth 20000 in
theorem ggX0_init_X2_init : GoodIn wsX0_init wsX2_init := goodIn_r _ [19, 20, 2, 3, 21, 22, 23, 24, 25, 26, 35, 36, 37, 38, 39, 40] (by decide +kernel) (by decide +kernel)
set_option maxRecDepth 20000 in
theorem gX0_init_X2_init : GoodIn wsX0_init (wsX2_init) := ggX0_init_X2_init
set_option maxRecDepth 20000 in
theorem ggX0_init_X1_init : GoodIn wsX0_init wsX1_init := goodIn_r _ [28, 29, 2, 3, 30, 31, 32, 33, 34, 48, 49, 50, 51] (by decide +kernel) (by decide +kernel)
set_option maxRecDepth 20000 in
theorem gX0_init_X1_init_n25 : GoodIn wsX0_init (wsX1_init) := ggX0_init_X1_init
theorem dX0_init_0 : decode cX0_init 0 = .ok (.aload_n 0, 1) := by decide +kernel
theorem dX0_init_1 : decode cX0_init 1 = .ok (.invokespecial 3, 3) := by decide +kernel
theorem dX0_init_4 : decode cX0_init 4 = .ok (.aload_n 0, 1) := by decide +kernel
theorem dX0_init_5 : decode cX0_init 5 = .ok (.new 9, 3) := by decide +kernel
theorem dX0_init_8 : decode cX0_init 8 = .ok (.dup, 1) := by decide +kernel
theorem dX0_init_9 : decode cX0_init 9 = .ok (.iconst 0, 1) := by decide +kernel
theorem dX0_init_10 : decode cX0_init 10 = .ok (.invokespecial 11, 3) := by decide +kernel
theorem dX0_init_13 : decode cX0_init 13 = .ok (.putfield 14, 3) := by decide +kernel
theorem dX0_init_16 : decode cX0_init 16 = .ok (.aload_n 0, 1) := by decide +kernel
theorem dX0_init_17 : decode cX0_init 17 = .ok (.new 9, 3) := by decide +kernel
theorem dX0_init_20 : decode cX0_init 20 = .ok (.dup, 1) := by decide +kernel
theorem dX0_init_21 : decode cX0_init 21 = .ok (.iconst 1, 1) := by decide +kernel
theorem dX0_init_22 : decode cX0_init 22 = .ok (.invokespecial 11, 3) := by decide +kernel
theorem dX0_init_25 : decode cX0_init 25 = .ok (.putfield 20, 3) := by decide +kernel
theorem dX0_init_28 : decode cX0_init 28 = .ok (.aload_n 0, 1) := by decide +kernel
theorem dX0_init_29 : decode cX0_init 29 = .ok (.new 23, 3) := by decide +kernel
theorem dX0_init_32 : decode cX0_init 32 = .ok (.dup, 1) := by decide +kernel
theorem dX0_init_33 : decode cX0_init 33 = .ok (.invokespecial 25, 3) := by decide +kernel
theorem dX0_init_36 : decode cX0_init 36 = .ok (.putfield 26, 3) := by decide +kernel
theorem dX0_init_39 : decode cX0_init 39 = .ok (.aload_n 0, 1) := by decide +kernel
theorem dX0_init_40 : decode cX0_init 40 = .ok (.iconst 0, 1) := by decide +kernel
theorem dX0_init_41 : decode cX0_init 41 = .ok (.putfield 30, 3) := by decide +kernel
theorem dX0_init_44 : decode cX0_init 44 = .ok (.aload_n 0, 1) := by decide +kernel
theorem dX0_init_45 : decode cX0_init 45 = .ok (.iconst 0, 1) := by decide +kernel
theorem dX0_init_46 : decode cX0_init 46 = .ok (.putfield 34, 3) := by decide +kernel
theorem dX0_init_49 : decode cX0_init 49 = .ok (.aload_n 0, 1) := by decide +kernel
theorem dX0_init_50 : decode cX0_init 50 = .ok (.iconst 0, 1) := by decide +kernel
theorem dX0_init_51 : decode cX0_init 51 = .ok (.putfield 37, 3) := by decide +kernel
theorem dX0_init_54 : decode cX0_init 54 = .ok (.aload_n 0, 1) := by decide +kernel
theorem dX0_init_55 : decode cX0_init 55 = .ok (.iconst 0, 1) := by decide +kernel
theorem dX0_init_56 : decode cX0_init 56 = .ok (.putfield 40, 3) := by decide +kernel
theorem dX0_init_59 : decode cX0_init 59 = .ok (.return_, 1) := by decide +kernel
theorem dX0_trainOf_0 : decode cX0_trainOf 0 = .ok (.iload_n 1, 1) := by decide +kernel
theorem dX0_trainOf_1 : decode cX0_trainOf 1 = .ok (.ifCond .ne 10, 3) := by decide +kernel
theorem dX0_trainOf_4 : decode cX0_trainOf 4 = .ok (.aload_n 0, 1) := by decide +kernel
theorem dX0_trainOf_5 : decode cX0_trainOf 5 = .ok (.getfield 14, 3) := by decide +kernel
theorem dX0_trainOf_8 : decode cX0_trainOf 8 = .ok (.goto 7, 3) := by decide +kernel
theorem dX0_trainOf_11 : decode cX0_trainOf 11 = .ok (.aload_n 0, 1) := by decide +kernel
theorem dX0_trainOf_12 : decode cX0_trainOf 12 = .ok (.getfield 20, 3) := by decide +kernel
theorem dX0_trainOf_15 : decode cX0_trainOf 15 = .ok (.areturn, 1) := by decide +kernel
theorem dX0_hushesAt_0 : decode cX0_hushesAt 0 = .ok (.aload_n 0, 1) := by decide +kernel
theorem dX0_hushesAt_1 : decode cX0_hushesAt 1 = .ok (.getfield 34, 3) := by decide +kernel
theorem dX0_hushesAt_4 : decode cX0_hushesAt 4 = .ok (.ifCond .ne 5, 3) := by decide +kernel
theorem dX0_hushesAt_7 : decode cX0_hushesAt 7 = .ok (.iconst 0, 1) := by decide +kernel
theorem dX0_hushesAt_8 : decode cX0_hushesAt 8 = .ok (.ireturn, 1) := by decide +kernel
theorem dX0_hushesAt_9 : decode cX0_hushesAt 9 = .ok (.aload_n 0, 1) := by decide +kernel
theorem dX0_hushesAt_10 : decode cX0_hushesAt 10 = .ok (.getfield 37, 3) := by decide +kernel
theorem dX0_hushesAt_13 : decode cX0_hushesAt 13 = .ok (.aload_n 0, 1) := by decide +kernel
theorem dX0_hushesAt_14 : decode cX0_hushesAt 14 = .ok (.getfield 40, 3) := by decide +kernel
theorem dX0_hushesAt_17 : decode cX0_hushesAt 17 = .ok (.if_icmp .ge 25, 3) := by decide +kernel
theorem dX0_hushesAt_20 : decode cX0_hushesAt 20 = .ok (.iload_n 1, 1) := by decide +kernel
theorem dX0_hushesAt_21 : decode cX0_hushesAt 21 = .ok (.aload_n 0, 1) := by decide +kernel
theorem dX0_hushesAt_22 : decode cX0_hushesAt 22 = .ok (.getfield 37, 3) := by decide +kernel
theorem dX0_hushesAt_25 : decode cX0_hushesAt 25 = .ok (.if_icmp .lt 15, 3) := by decide +kernel
theorem dX0_hushesAt_28 : decode cX0_hushesAt 28 = .ok (.iload_n 1, 1) := by decide +kernel
theorem dX0_hushesAt_29 : decode cX0_hushesAt 29 = .ok (.aload_n 0, 1) := by decide +kernel
theorem dX0_hushesAt_30 : decode cX0_hushesAt 30 = .ok (.getfield 40, 3) := by decide +kernel
theorem dX0_hushesAt_33 : decode cX0_hushesAt 33 = .ok (.if_icmp .ge 7, 3) := by decide +kernel
theorem dX0_hushesAt_36 : decode cX0_hushesAt 36 = .ok (.iconst 1, 1) := by decide +kernel
theorem dX0_hushesAt_37 : decode cX0_hushesAt 37 = .ok (.goto 4, 3) := by decide +kernel
theorem dX0_hushesAt_40 : decode cX0_hushesAt 40 = .ok (.iconst 0, 1) := by decide +kernel
theorem dX0_hushesAt_41 : decode cX0_hushesAt 41 = .ok (.ireturn, 1) := by decide +kernel
theorem dX0_hushesAt_42 : decode cX0_hushesAt 42 = .ok (.aload_n 0, 1) := by decide +kernel
theorem dX0_hushesAt_43 : decode cX0_hushesAt 43 = .ok (.getfield 37, 3) := by decide +kernel
theorem dX0_hushesAt_46 : decode cX0_hushesAt 46 = .ok (.aload_n 0, 1) := by decide +kernel
theorem dX0_hushesAt_47 : decode cX0_hushesAt 47 = .ok (.getfield 40, 3) := by decide +kernel
theorem dX0_hushesAt_50 : decode cX0_hushesAt 50 = .ok (.if_icmp .le 23, 3) := by decide +kernel
theorem dX0_hushesAt_53 : decode cX0_hushesAt 53 = .ok (.iload_n 1, 1) := by decide +kernel
theorem dX0_hushesAt_54 : decode cX0_hushesAt 54 = .ok (.aload_n 0, 1) := by decide +kernel
theorem dX0_hushesAt_55 : decode cX0_hushesAt 55 = .ok (.getfield 37, 3) := by decide +kernel
theorem dX0_hushesAt_58 : decode cX0_hushesAt 58 = .ok (.if_icmp .ge 11, 3) := by decide +kernel
theorem dX0_hushesAt_61 : decode cX0_hushesAt 61 = .ok (.iload_n 1, 1) := by decide +kernel
theorem dX0_hushesAt_62 : decode cX0_hushesAt 62 = .ok (.aload_n 0, 1) := by decide +kernel
theorem dX0_hushesAt_63 : decode cX0_hushesAt 63 = .ok (.getfield 40, 3) := by decide +kernel
theorem dX0_hushesAt_66 : decode cX0_hushesAt 66 = .ok (.if_icmp .ge 7, 3) := by decide +kernel
theorem dX0_hushesAt_69 : decode cX0_hushesAt 69 = .ok (.iconst 1, 1) := by decide +kernel
theorem dX0_hushesAt_70 : decode cX0_hushesAt 70 = .ok (.goto 4, 3) := by decide +kernel
theorem dX0_hushesAt_73 : decode cX0_hushesAt 73 = .ok (.iconst 0, 1) := by decide +kernel
theorem dX0_hushesAt_74 : decode cX0_hushesAt 74 = .ok (.ireturn, 1) := by decide +kernel
set_option maxRecDepth 20000 in
theorem ggX0_blocksAt_X0_hushesAt : GoodIn wsX0_blocksAt wsX0_hushesAt := goodIn_r _ [6, 1, 7, 8, 9, 10, 11, 12, 13, 14, 15] (by decide +kernel) (by decide +kernel)
set_option maxRecDepth 20000 in
theorem gX0_blocksAt_X0_hushesAt : GoodIn wsX0_blocksAt (wsV RX0 43 RX0 yX0_hushesAt wsX0_hushesAt) := goodIn_app (goodIn_of _ (by decide +kernel)) ggX0_blocksAt_X0_hushesAt
theorem dX0_blocksAt_0 : decode cX0_blocksAt 0 = .ok (.aload_n 0, 1) := by decide +kernel
theorem dX0_blocksAt_1 : decode cX0_blocksAt 1 = .ok (.getfield 34, 3) := by decide +kernel
theorem dX0_blocksAt_4 : decode cX0_blocksAt 4 = .ok (.iconst 1, 1) := by decide +kernel
theorem dX0_blocksAt_5 : decode cX0_blocksAt 5 = .ok (.if_icmp .ne 15, 3) := by decide +kernel
theorem dX0_blocksAt_8 : decode cX0_blocksAt 8 = .ok (.aload_n 0, 1) := by decide +kernel
theorem dX0_blocksAt_9 : decode cX0_blocksAt 9 = .ok (.iload_n 1, 1) := by decide +kernel
theorem dX0_blocksAt_10 : decode cX0_blocksAt 10 = .ok (.invokevirtual 43, 3) := by decide +kernel
theorem dX0_blocksAt_13 : decode cX0_blocksAt 13 = .ok (.ifCond .eq 7, 3) := by decide +kernel
theorem dX0_blocksAt_16 : decode cX0_blocksAt 16 = .ok (.iconst 1, 1) := by decide +kernel
theorem dX0_blocksAt_17 : decode cX0_blocksAt 17 = .ok (.goto 4, 3) := by decide +kernel
theorem dX0_blocksAt_20 : decode cX0_blocksAt 20 = .ok (.iconst 0, 1) := by decide +kernel
theorem dX0_blocksAt_21 : decode cX0_blocksAt 21 = .ok (.ireturn, 1) := by decide +kernel
set_option maxRecDepth 20000 in
theorem ggX0_copyFrom_X2_copyFrom : GoodIn wsX0_copyFrom wsX2_copyFrom := goodIn_r _ [12, 13, 14, 15, 16, 17, 18, 35, 36, 37, 38, 39, 40] (by decide +kernel) (by decide +kernel)
set_option maxRecDepth 20000 in
theorem gX0_copyFrom_X2_copyFrom : GoodIn wsX0_copyFrom (wsV RX0 47 RX2 yX2_copyFrom wsX2_copyFrom) := goodIn_app (goodIn_of _ (by decide +kernel)) ggX0_copyFrom_X2_copyFrom
set_option maxRecDepth 20000 in
theorem ggX0_copyFrom_X1_copyFrom : GoodIn wsX0_copyFrom wsX1_copyFrom := goodIn_r _ [23, 24, 25, 26, 27, 41, 42, 43, 44] (by decide +kernel) (by decide +kernel)
set_option maxRecDepth 20000 in
theorem gX0_copyFrom_X1_copyFrom : GoodIn wsX0_copyFrom (wsV RX0 51 RX1 yX1_copyFrom wsX1_copyFrom) := goodIn_app (goodIn_of _ (by decide +kernel)) ggX0_copyFrom_X1_copyFrom
theorem dX0_copyFrom_0 : decode cX0_copyFrom 0 = .ok (.aload_n 0, 1) := by decide +kernel
theorem dX0_copyFrom_1 : decode cX0_copyFrom 1 = .ok (.getfield 14, 3) := by decide +kernel
theorem dX0_copyFrom_4 : decode cX0_copyFrom 4 = .ok (.aload_n 1, 1) := by decide +kernel
theorem dX0_copyFrom_5 : decode cX0_copyFrom 5 = .ok (.getfield 14, 3) := by decide +kernel
theorem dX0_copyFrom_8 : decode cX0_copyFrom 8 = .ok (.invokevirtual 47, 3) := by decide +kernel
theorem dX0_copyFrom_11 : decode cX0_copyFrom 11 = .ok (.aload_n 0, 1) := by decide +kernel
theorem dX0_copyFrom_12 : decode cX0_copyFrom 12 = .ok (.getfield 20, 3) := by decide +kernel
theorem dX0_copyFrom_15 : decode cX0_copyFrom 15 = .ok (.aload_n 1, 1) := by decide +kernel
theorem dX0_copyFrom_16 : decode cX0_copyFrom 16 = .ok (.getfield 20, 3) := by decide +kernel
theorem dX0_copyFrom_19 : decode cX0_copyFrom 19 = .ok (.invokevirtual 47, 3) := by decide +kernel
theorem dX0_copyFrom_22 : decode cX0_copyFrom 22 = .ok (.aload_n 0, 1) := by decide +kernel
theorem dX0_copyFrom_23 : decode cX0_copyFrom 23 = .ok (.getfield 26, 3) := by decide +kernel
theorem dX0_copyFrom_26 : decode cX0_copyFrom 26 = .ok (.aload_n 1, 1) := by decide +kernel
theorem dX0_copyFrom_27 : decode cX0_copyFrom 27 = .ok (.getfield 26, 3) := by decide +kernel
theorem dX0_copyFrom_30 : decode cX0_copyFrom 30 = .ok (.invokevirtual 51, 3) := by decide +kernel
theorem dX0_copyFrom_33 : decode cX0_copyFrom 33 = .ok (.aload_n 0, 1) := by decide +kernel
theorem dX0_copyFrom_34 : decode cX0_copyFrom 34 = .ok (.aload_n 1, 1) := by decide +kernel
theorem dX0_copyFrom_35 : decode cX0_copyFrom 35 = .ok (.getfield 30, 3) := by decide +kernel
theorem dX0_copyFrom_38 : decode cX0_copyFrom 38 = .ok (.putfield 30, 3) := by decide +kernel
theorem dX0_copyFrom_41 : decode cX0_copyFrom 41 = .ok (.aload_n 0, 1) := by decide +kernel
theorem dX0_copyFrom_42 : decode cX0_copyFrom 42 = .ok (.aload_n 1, 1) := by decide +kernel
theorem dX0_copyFrom_43 : decode cX0_copyFrom 43 = .ok (.getfield 34, 3) := by decide +kernel
theorem dX0_copyFrom_46 : decode cX0_copyFrom 46 = .ok (.putfield 34, 3) := by decide +kernel
theorem dX0_copyFrom_49 : decode cX0_copyFrom 49 = .ok (.aload_n 0, 1) := by decide +kernel
theorem dX0_copyFrom_50 : decode cX0_copyFrom 50 = .ok (.aload_n 1, 1) := by decide +kernel
theorem dX0_copyFrom_51 : decode cX0_copyFrom 51 = .ok (.getfield 37, 3) := by decide +kernel
theorem dX0_copyFrom_54 : decode cX0_copyFrom 54 = .ok (.putfield 37, 3) := by decide +kernel
theorem dX0_copyFrom_57 : decode cX0_copyFrom 57 = .ok (.aload_n 0, 1) := by decide +kernel
theorem dX0_copyFrom_58 : decode cX0_copyFrom 58 = .ok (.aload_n 1, 1) := by decide +kernel
theorem dX0_copyFrom_59 : decode cX0_copyFrom 59 = .ok (.getfield 40, 3) := by decide +kernel
theorem dX0_copyFrom_62 : decode cX0_copyFrom 62 = .ok (.putfield 40, 3) := by decide +kernel
theorem dX0_copyFrom_65 : decode cX0_copyFrom 65 = .ok (.return_, 1) := by decide +kernel
set_option maxRecDepth 20000 in
theorem ggX0_addToHash_X2_addToHash : GoodIn wsX0_addToHash wsX2_addToHash := goodIn_r _ [13, 14, 15, 16, 17, 18, 19, 20, 21, 22, 12, 23, 24, 25, 26, 27, 28, 29, 30, 31, 32, 33, 34, 35, 36, 37, 38, 39, 40, 58, 59, 60, 61, 62, 63] (by decide +kernel) (by decide +kernel)
set_option maxRecDepth 20000 in
theorem gX0_addToHash_X2_addToHash : GoodIn wsX0_addToHash (wsV RX0 56 RX2 yX2_addToHash wsX2_addToHash) := goodIn_app (goodIn_of _ (by decide +kernel)) ggX0_addToHash_X2_addToHash
set_option maxRecDepth 20000 in
theorem ggX0_addToHash_X1_addToHash : GoodIn wsX0_addToHash wsX1_addToHash := goodIn_r _ [45, 46, 47, 48, 49, 50, 64, 65, 66, 67] (by decide +kernel) (by decide +kernel)
set_option maxRecDepth 20000 in
theorem gX0_addToHash_X1_addToHash : GoodIn wsX0_addToHash (wsV RX0 60 RX1 yX1_addToHash wsX1_addToHash) := goodIn_app (goodIn_of _ (by decide +kernel)) ggX0_addToHash_X1_addToHash
theorem dX0_addToHash_0 : decode cX0_addToHash 0 = .ok (.ldc2_w 54, 3) := by decide +kernel
theorem dX0_addToHash_3 : decode cX0_addToHash 3 = .ok (.lload_n 1, 1) := by decide +kernel
theorem dX0_addToHash_4 : decode cX0_addToHash 4 = .ok (.lmul, 1) := by decide +kernel
theorem dX0_addToHash_5 : decode cX0_addToHash 5 = .ok (.aload_n 0, 1) := by decide +kernel
theorem dX0_addToHash_6 : decode cX0_addToHash 6 = .ok (.getfield 30, 3) := by decide +kernel
theorem dX0_addToHash_9 : decode cX0_addToHash 9 = .ok (.i2l, 1) := by decide +kernel
theorem dX0_addToHash_10 : decode cX0_addToHash 10 = .ok (.ladd, 1) := by decide +kernel
theorem dX0_addToHash_11 : decode cX0_addToHash 11 = .ok (.lstore_n 3, 1) := by decide +kernel
theorem dX0_addToHash_12 : decode cX0_addToHash 12 = .ok (.aload_n 0, 1) := by decide +kernel
theorem dX0_addToHash_13 : decode cX0_addToHash 13 = .ok (.getfield 14, 3) := by decide +kernel
theorem dX0_addToHash_16 : decode cX0_addToHash 16 = .ok (.lload_n 3, 1) := by decide +kernel
theorem dX0_addToHash_17 : decode cX0_addToHash 17 = .ok (.aload_n 0, 1) := by decide +kernel
theorem dX0_addToHash_18 : decode cX0_addToHash 18 = .ok (.getfield 30, 3) := by decide +kernel
theorem dX0_addToHash_21 : decode cX0_addToHash 21 = .ok (.invokevirtual 56, 3) := by decide +kernel
theorem dX0_addToHash_24 : decode cX0_addToHash 24 = .ok (.lstore_n 3, 1) := by decide +kernel
theorem dX0_addToHash_25 : decode cX0_addToHash 25 = .ok (.aload_n 0, 1) := by decide +kernel
theorem dX0_addToHash_26 : decode cX0_addToHash 26 = .ok (.getfield 20, 3) := by decide +kernel
theorem dX0_addToHash_29 : decode cX0_addToHash 29 = .ok (.lload_n 3, 1) := by decide +kernel
theorem dX0_addToHash_30 : decode cX0_addToHash 30 = .ok (.aload_n 0, 1) := by decide +kernel
theorem dX0_addToHash_31 : decode cX0_addToHash 31 = .ok (.getfield 30, 3) := by decide +kernel
theorem dX0_addToHash_34 : decode cX0_addToHash 34 = .ok (.invokevirtual 56, 3) := by decide +kernel
theorem dX0_addToHash_37 : decode cX0_addToHash 37 = .ok (.lstore_n 3, 1) := by decide +kernel
theorem dX0_addToHash_38 : decode cX0_addToHash 38 = .ok (.ldc2_w 54, 3) := by decide +kernel
theorem dX0_addToHash_41 : decode cX0_addToHash 41 = .ok (.lload_n 3, 1) := by decide +kernel
theorem dX0_addToHash_42 : decode cX0_addToHash 42 = .ok (.lmul, 1) := by decide +kernel
theorem dX0_addToHash_43 : decode cX0_addToHash 43 = .ok (.aload_n 0, 1) := by decide +kernel
theorem dX0_addToHash_44 : decode cX0_addToHash 44 = .ok (.getfield 34, 3) := by decide +kernel
theorem dX0_addToHash_47 : decode cX0_addToHash 47 = .ok (.i2l, 1) := by decide +kernel
theorem dX0_addToHash_48 : decode cX0_addToHash 48 = .ok (.ladd, 1) := by decide +kernel
theorem dX0_addToHash_49 : decode cX0_addToHash 49 = .ok (.lstore_n 3, 1) := by decide +kernel
theorem dX0_addToHash_50 : decode cX0_addToHash 50 = .ok (.ldc2_w 54, 3) := by decide +kernel
theorem dX0_addToHash_53 : decode cX0_addToHash 53 = .ok (.lload_n 3, 1) := by decide +kernel
theorem dX0_addToHash_54 : decode cX0_addToHash 54 = .ok (.lmul, 1) := by decide +kernel
theorem dX0_addToHash_55 : decode cX0_addToHash 55 = .ok (.aload_n 0, 1) := by decide +kernel
theorem dX0_addToHash_56 : decode cX0_addToHash 56 = .ok (.getfield 37, 3) := by decide +kernel
theorem dX0_addToHash_59 : decode cX0_addToHash 59 = .ok (.i2l, 1) := by decide +kernel
theorem dX0_addToHash_60 : decode cX0_addToHash 60 = .ok (.ladd, 1) := by decide +kernel
theorem dX0_addToHash_61 : decode cX0_addToHash 61 = .ok (.lstore_n 3, 1) := by decide +kernel
theorem dX0_addToHash_62 : decode cX0_addToHash 62 = .ok (.ldc2_w 54, 3) := by decide +kernel
theorem dX0_addToHash_65 : decode cX0_addToHash 65 = .ok (.lload_n 3, 1) := by decide +kernel
theorem dX0_addToHash_66 : decode cX0_addToHash 66 = .ok (.lmul, 1) := by decide +kernel
theorem dX0_addToHash_67 : decode cX0_addToHash 67 = .ok (.aload_n 0, 1) := by decide +kernel
theorem dX0_addToHash_68 : decode cX0_addToHash 68 = .ok (.getfield 40, 3) := by decide +kernel
theorem dX0_addToHash_71 : decode cX0_addToHash 71 = .ok (.i2l, 1) := by decide +kernel
theorem dX0_addToHash_72 : decode cX0_addToHash 72 = .ok (.ladd, 1) := by decide +kernel
theorem dX0_addToHash_73 : decode cX0_addToHash 73 = .ok (.lstore_n 3, 1) := by decide +kernel
theorem dX0_addToHash_74 : decode cX0_addToHash 74 = .ok (.aload_n 0, 1) := by decide +kernel
theorem dX0_addToHash_75 : decode cX0_addToHash 75 = .ok (.getfield 26, 3) := by decide +kernel
theorem dX0_addToHash_78 : decode cX0_addToHash 78 = .ok (.lload_n 3, 1) := by decide +kernel
theorem dX0_addToHash_79 : decode cX0_addToHash 79 = .ok (.invokevirtual 60, 3) := by decide +kernel
theorem dX0_addToHash_82 : decode cX0_addToHash 82 = .ok (.lreturn, 1) := by decide +kernel
theorem dX1_init_0 : decode cX1_init 0 = .ok (.aload_n 0, 1) := by decide +kernel
theorem dX1_init_1 : decode cX1_init 1 = .ok (.invokespecial 3, 3) := by decide +kernel
theorem dX1_init_4 : decode cX1_init 4 = .ok (.aload_n 0, 1) := by decide +kernel
theorem dX1_init_5 : decode cX1_init 5 = .ok (.bipush 6, 2) := by decide +kernel
theorem dX1_init_7 : decode cX1_init 7 = .ok (.newarray .int, 2) := by decide +kernel
theorem dX1_init_9 : decode cX1_init 9 = .ok (.putfield 9, 3) := by decide +kernel
theorem dX1_init_12 : decode cX1_init 12 = .ok (.aload_n 0, 1) := by decide +kernel
theorem dX1_init_13 : decode cX1_init 13 = .ok (.bipush 6, 2) := by decide +kernel
theorem dX1_init_15 : decode cX1_init 15 = .ok (.newarray .int, 2) := by decide +kernel
theorem dX1_init_17 : decode cX1_init 17 = .ok (.putfield 15, 3) := by decide +kernel
theorem dX1_init_20 : decode cX1_init 20 = .ok (.aload_n 0, 1) := by decide +kernel
theorem dX1_init_21 : decode cX1_init 21 = .ok (.bipush 6, 2) := by decide +kernel
theorem dX1_init_23 : decode cX1_init 23 = .ok (.newarray .int, 2) := by decide +kernel
theorem dX1_init_25 : decode cX1_init 25 = .ok (.putfield 18, 3) := by decide +kernel
theorem dX1_init_28 : decode cX1_init 28 = .ok (.aload_n 0, 1) := by decide +kernel
theorem dX1_init_29 : decode cX1_init 29 = .ok (.iconst 0, 1) := by decide +kernel
theorem dX1_init_30 : decode cX1_init 30 = .ok (.putfield 21, 3) := by decide +kernel
theorem dX1_init_33 : decode cX1_init 33 = .ok (.return_, 1) := by decide +kernel
theorem dX1_put_0 : decode cX1_put 0 = .ok (.iconst 5, 1) := by decide +kernel
theorem dX1_put_1 : decode cX1_put 1 = .ok (.istore 4, 2) := by decide +kernel
theorem dX1_put_3 : decode cX1_put 3 = .ok (.iload 4, 2) := by decide +kernel
theorem dX1_put_5 : decode cX1_put 5 = .ok (.ifCond .le 57, 3) := by decide +kernel
theorem dX1_put_8 : decode cX1_put 8 = .ok (.aload_n 0, 1) := by decide +kernel
theorem dX1_put_9 : decode cX1_put 9 = .ok (.getfield 9, 3) := by decide +kernel
theorem dX1_put_12 : decode cX1_put 12 = .ok (.iload 4, 2) := by decide +kernel
theorem dX1_put_14 : decode cX1_put 14 = .ok (.aload_n 0, 1) := by decide +kernel
theorem dX1_put_15 : decode cX1_put 15 = .ok (.getfield 9, 3) := by decide +kernel
theorem dX1_put_18 : decode cX1_put 18 = .ok (.iload 4, 2) := by decide +kernel
theorem dX1_put_20 : decode cX1_put 20 = .ok (.iconst 1, 1) := by decide +kernel
theorem dX1_put_21 : decode cX1_put 21 = .ok (.isub, 1) := by decide +kernel
theorem dX1_put_22 : decode cX1_put 22 = .ok (.iaload, 1) := by decide +kernel
theorem dX1_put_23 : decode cX1_put 23 = .ok (.iastore, 1) := by decide +kernel
theorem dX1_put_24 : decode cX1_put 24 = .ok (.aload_n 0, 1) := by decide +kernel
theorem dX1_put_25 : decode cX1_put 25 = .ok (.getfield 15, 3) := by decide +kernel
theorem dX1_put_28 : decode cX1_put 28 = .ok (.iload 4, 2) := by decide +kernel
theorem dX1_put_30 : decode cX1_put 30 = .ok (.aload_n 0, 1) := by decide +kernel
theorem dX1_put_31 : decode cX1_put 31 = .ok (.getfield 15, 3) := by decide +kernel
theorem dX1_put_34 : decode cX1_put 34 = .ok (.iload 4, 2) := by decide +kernel
theorem dX1_put_36 : decode cX1_put 36 = .ok (.iconst 1, 1) := by decide +kernel
theorem dX1_put_37 : decode cX1_put 37 = .ok (.isub, 1) := by decide +kernel
theorem dX1_put_38 : decode cX1_put 38 = .ok (.iaload, 1) := by decide +kernel
theorem dX1_put_39 : decode cX1_put 39 = .ok (.iastore, 1) := by decide +kernel
theorem dX1_put_40 : decode cX1_put 40 = .ok (.aload_n 0, 1) := by decide +kernel
theorem dX1_put_41 : decode cX1_put 41 = .ok (.getfield 18, 3) := by decide +kernel
theorem dX1_put_44 : decode cX1_put 44 = .ok (.iload 4, 2) := by decide +kernel
theorem dX1_put_46 : decode cX1_put 46 = .ok (.aload_n 0, 1) := by decide +kernel
theorem dX1_put_47 : decode cX1_put 47 = .ok (.getfield 18, 3) := by decide +kernel
theorem dX1_put_50 : decode cX1_put 50 = .ok (.iload 4, 2) := by decide +kernel
theorem dX1_put_52 : decode cX1_put 52 = .ok (.iconst 1, 1) := by decide +kernel
theorem dX1_put_53 : decode cX1_put 53 = .ok (.isub, 1) := by decide +kernel
theorem dX1_put_54 : decode cX1_put 54 = .ok (.iaload, 1) := by decide +kernel
theorem dX1_put_55 : decode cX1_put 55 = .ok (.iastore, 1) := by decide +kernel
theorem dX1_put_56 : decode cX1_put 56 = .ok (.iinc 4 (-1), 3) := by decide +kernel
theorem dX1_put_59 : decode cX1_put 59 = .ok (.goto (-56), 3) := by decide +kernel
theorem dX1_put_62 : decode cX1_put 62 = .ok (.aload_n 0, 1) := by decide +kernel
theorem dX1_put_63 : decode cX1_put 63 = .ok (.getfield 9, 3) := by decide +kernel
theorem dX1_put_66 : decode cX1_put 66 = .ok (.iconst 0, 1) := by decide +kernel
theorem dX1_put_67 : decode cX1_put 67 = .ok (.iload_n 1, 1) := by decide +kernel
theorem dX1_put_68 : decode cX1_put 68 = .ok (.iastore, 1) := by decide +kernel
theorem dX1_put_69 : decode cX1_put 69 = .ok (.aload_n 0, 1) := by decide +kernel
theorem dX1_put_70 : decode cX1_put 70 = .ok (.getfield 15, 3) := by decide +kernel
theorem dX1_put_73 : decode cX1_put 73 = .ok (.iconst 0, 1) := by decide +kernel
theorem dX1_put_74 : decode cX1_put 74 = .ok (.iload_n 2, 1) := by decide +kernel
theorem dX1_put_75 : decode cX1_put 75 = .ok (.iastore, 1) := by decide +kernel
theorem dX1_put_76 : decode cX1_put 76 = .ok (.aload_n 0, 1) := by decide +kernel
theorem dX1_put_77 : decode cX1_put 77 = .ok (.getfield 18, 3) := by decide +kernel
theorem dX1_put_80 : decode cX1_put 80 = .ok (.iconst 0, 1) := by decide +kernel
theorem dX1_put_81 : decode cX1_put 81 = .ok (.iload_n 3, 1) := by decide +kernel
theorem dX1_put_82 : decode cX1_put 82 = .ok (.iastore, 1) := by decide +kernel
theorem dX1_put_83 : decode cX1_put 83 = .ok (.aload_n 0, 1) := by decide +kernel
theorem dX1_put_84 : decode cX1_put 84 = .ok (.aload_n 0, 1) := by decide +kernel
theorem dX1_put_85 : decode cX1_put 85 = .ok (.getfield 21, 3) := by decide +kernel
theorem dX1_put_88 : decode cX1_put 88 = .ok (.iconst 1, 1) := by decide +kernel
theorem dX1_put_89 : decode cX1_put 89 = .ok (.iadd, 1) := by decide +kernel
theorem dX1_put_90 : decode cX1_put 90 = .ok (.bipush 6, 2) := by decide +kernel
theorem dX1_put_92 : decode cX1_put 92 = .ok (.invokestatic 25, 3) := by decide +kernel
theorem dX1_put_95 : decode cX1_put 95 = .ok (.putfield 21, 3) := by decide +kernel
theorem dX1_put_98 : decode cX1_put 98 = .ok (.return_, 1) := by decide +kernel
theorem dX1_copyFrom_0 : decode cX1_copyFrom 0 = .ok (.iconst 0, 1) := by decide +kernel
theorem dX1_copyFrom_1 : decode cX1_copyFrom 1 = .ok (.istore_n 2, 1) := by decide +kernel
theorem dX1_copyFrom_2 : decode cX1_copyFrom 2 = .ok (.iload_n 2, 1) := by decide +kernel
theorem dX1_copyFrom_3 : decode cX1_copyFrom 3 = .ok (.bipush 6, 2) := by decide +kernel
theorem dX1_copyFrom_5 : decode cX1_copyFrom 5 = .ok (.if_icmp .ge 45, 3) := by decide +kernel
theorem dX1_copyFrom_8 : decode cX1_copyFrom 8 = .ok (.aload_n 0, 1) := by decide +kernel
theorem dX1_copyFrom_9 : decode cX1_copyFrom 9 = .ok (.getfield 9, 3) := by decide +kernel
theorem dX1_copyFrom_12 : decode cX1_copyFrom 12 = .ok (.iload_n 2, 1) := by decide +kernel
theorem dX1_copyFrom_13 : decode cX1_copyFrom 13 = .ok (.aload_n 1, 1) := by decide +kernel
theorem dX1_copyFrom_14 : decode cX1_copyFrom 14 = .ok (.getfield 9, 3) := by decide +kernel
theorem dX1_copyFrom_17 : decode cX1_copyFrom 17 = .ok (.iload_n 2, 1) := by decide +kernel
theorem dX1_copyFrom_18 : decode cX1_copyFrom 18 = .ok (.iaload, 1) := by decide +kernel
theorem dX1_copyFrom_19 : decode cX1_copyFrom 19 = .ok (.iastore, 1) := by decide +kernel
theorem dX1_copyFrom_20 : decode cX1_copyFrom 20 = .ok (.aload_n 0, 1) := by decide +kernel
theorem dX1_copyFrom_21 : decode cX1_copyFrom 21 = .ok (.getfield 15, 3) := by decide +kernel
theorem dX1_copyFrom_24 : decode cX1_copyFrom 24 = .ok (.iload_n 2, 1) := by decide +kernel
theorem dX1_copyFrom_25 : decode cX1_copyFrom 25 = .ok (.aload_n 1, 1) := by decide +kernel
theorem dX1_copyFrom_26 : decode cX1_copyFrom 26 = .ok (.getfield 15, 3) := by decide +kernel
theorem dX1_copyFrom_29 : decode cX1_copyFrom 29 = .ok (.iload_n 2, 1) := by decide +kernel
theorem dX1_copyFrom_30 : decode cX1_copyFrom 30 = .ok (.iaload, 1) := by decide +kernel
theorem dX1_copyFrom_31 : decode cX1_copyFrom 31 = .ok (.iastore, 1) := by decide +kernel
theorem dX1_copyFrom_32 : decode cX1_copyFrom 32 = .ok (.aload_n 0, 1) := by decide +kernel
theorem dX1_copyFrom_33 : decode cX1_copyFrom 33 = .ok (.getfield 18, 3) := by decide +kernel
theorem dX1_copyFrom_36 : decode cX1_copyFrom 36 = .ok (.iload_n 2, 1) := by decide +kernel
theorem dX1_copyFrom_37 : decode cX1_copyFrom 37 = .ok (.aload_n 1, 1) := by decide +kernel
theorem dX1_copyFrom_38 : decode cX1_copyFrom 38 = .ok (.getfield 18, 3) := by decide +kernel
theorem dX1_copyFrom_41 : decode cX1_copyFrom 41 = .ok (.iload_n 2, 1) := by decide +kernel
theorem dX1_copyFrom_42 : decode cX1_copyFrom 42 = .ok (.iaload, 1) := by decide +kernel
theorem dX1_copyFrom_43 : decode cX1_copyFrom 43 = .ok (.iastore, 1) := by decide +kernel
theorem dX1_copyFrom_44 : decode cX1_copyFrom 44 = .ok (.iinc 2 1, 3) := by decide +kernel
theorem dX1_copyFrom_47 : decode cX1_copyFrom 47 = .ok (.goto (-45), 3) := by decide +kernel
theorem dX1_copyFrom_50 : decode cX1_copyFrom 50 = .ok (.aload_n 0, 1) := by decide +kernel
theorem dX1_copyFrom_51 : decode cX1_copyFrom 51 = .ok (.aload_n 1, 1) := by decide +kernel
theorem dX1_copyFrom_52 : decode cX1_copyFrom 52 = .ok (.getfield 21, 3) := by decide +kernel
theorem dX1_copyFrom_55 : decode cX1_copyFrom 55 = .ok (.putfield 21, 3) := by decide +kernel
theorem dX1_copyFrom_58 : decode cX1_copyFrom 58 = .ok (.return_, 1) := by decide +kernel
theorem dX1_addToHash_0 : decode cX1_addToHash 0 = .ok (.ldc2_w 31, 3) := by decide +kernel
theorem dX1_addToHash_3 : decode cX1_addToHash 3 = .ok (.lload_n 1, 1) := by decide +kernel
theorem dX1_addToHash_4 : decode cX1_addToHash 4 = .ok (.lmul, 1) := by decide +kernel
theorem dX1_addToHash_5 : decode cX1_addToHash 5 = .ok (.aload_n 0, 1) := by decide +kernel
theorem dX1_addToHash_6 : decode cX1_addToHash 6 = .ok (.getfield 21, 3) := by decide +kernel
theorem dX1_addToHash_9 : decode cX1_addToHash 9 = .ok (.i2l, 1) := by decide +kernel
theorem dX1_addToHash_10 : decode cX1_addToHash 10 = .ok (.ladd, 1) := by decide +kernel
theorem dX1_addToHash_11 : decode cX1_addToHash 11 = .ok (.lstore_n 3, 1) := by decide +kernel
theorem dX1_addToHash_12 : decode cX1_addToHash 12 = .ok (.iconst 0, 1) := by decide +kernel
theorem dX1_addToHash_13 : decode cX1_addToHash 13 = .ok (.istore 5, 2) := by decide +kernel
theorem dX1_addToHash_15 : decode cX1_addToHash 15 = .ok (.iload 5, 2) := by decide +kernel
theorem dX1_addToHash_17 : decode cX1_addToHash 17 = .ok (.aload_n 0, 1) := by decide +kernel
theorem dX1_addToHash_18 : decode cX1_addToHash 18 = .ok (.getfield 21, 3) := by decide +kernel
theorem dX1_addToHash_21 : decode cX1_addToHash 21 = .ok (.if_icmp .ge 54, 3) := by decide +kernel
theorem dX1_addToHash_24 : decode cX1_addToHash 24 = .ok (.ldc2_w 31, 3) := by decide +kernel
theorem dX1_addToHash_27 : decode cX1_addToHash 27 = .ok (.lload_n 3, 1) := by decide +kernel
theorem dX1_addToHash_28 : decode cX1_addToHash 28 = .ok (.lmul, 1) := by decide +kernel
theorem dX1_addToHash_29 : decode cX1_addToHash 29 = .ok (.aload_n 0, 1) := by decide +kernel
theorem dX1_addToHash_30 : decode cX1_addToHash 30 = .ok (.getfield 9, 3) := by decide +kernel
theorem dX1_addToHash_33 : decode cX1_addToHash 33 = .ok (.iload 5, 2) := by decide +kernel
theorem dX1_addToHash_35 : decode cX1_addToHash 35 = .ok (.iaload, 1) := by decide +kernel
theorem dX1_addToHash_36 : decode cX1_addToHash 36 = .ok (.i2l, 1) := by decide +kernel
theorem dX1_addToHash_37 : decode cX1_addToHash 37 = .ok (.ladd, 1) := by decide +kernel
theorem dX1_addToHash_38 : decode cX1_addToHash 38 = .ok (.lstore_n 3, 1) := by decide +kernel
theorem dX1_addToHash_39 : decode cX1_addToHash 39 = .ok (.ldc2_w 31, 3) := by decide +kernel
theorem dX1_addToHash_42 : decode cX1_addToHash 42 = .ok (.lload_n 3, 1) := by decide +kernel
theorem dX1_addToHash_43 : decode cX1_addToHash 43 = .ok (.lmul, 1) := by decide +kernel
theorem dX1_addToHash_44 : decode cX1_addToHash 44 = .ok (.aload_n 0, 1) := by decide +kernel
theorem dX1_addToHash_45 : decode cX1_addToHash 45 = .ok (.getfield 15, 3) := by decide +kernel
theorem dX1_addToHash_48 : decode cX1_addToHash 48 = .ok (.iload 5, 2) := by decide +kernel
theorem dX1_addToHash_50 : decode cX1_addToHash 50 = .ok (.iaload, 1) := by decide +kernel
theorem dX1_addToHash_51 : decode cX1_addToHash 51 = .ok (.i2l, 1) := by decide +kernel
theorem dX1_addToHash_52 : decode cX1_addToHash 52 = .ok (.ladd, 1) := by decide +kernel
theorem dX1_addToHash_53 : decode cX1_addToHash 53 = .ok (.lstore_n 3, 1) := by decide +kernel
theorem dX1_addToHash_54 : decode cX1_addToHash 54 = .ok (.ldc2_w 31, 3) := by decide +kernel
theorem dX1_addToHash_57 : decode cX1_addToHash 57 = .ok (.lload_n 3, 1) := by decide +kernel
theorem dX1_addToHash_58 : decode cX1_addToHash 58 = .ok (.lmul, 1) := by decide +kernel
theorem dX1_addToHash_59 : decode cX1_addToHash 59 = .ok (.aload_n 0, 1) := by decide +kernel
theorem dX1_addToHash_60 : decode cX1_addToHash 60 = .ok (.getfield 18, 3) := by decide +kernel
theorem dX1_addToHash_63 : decode cX1_addToHash 63 = .ok (.iload 5, 2) := by decide +kernel
theorem dX1_addToHash_65 : decode cX1_addToHash 65 = .ok (.iaload, 1) := by decide +kernel
theorem dX1_addToHash_66 : decode cX1_addToHash 66 = .ok (.i2l, 1) := by decide +kernel
theorem dX1_addToHash_67 : decode cX1_addToHash 67 = .ok (.ladd, 1) := by decide +kernel
theorem dX1_addToHash_68 : decode cX1_addToHash 68 = .ok (.lstore_n 3, 1) := by decide +kernel
theorem dX1_addToHash_69 : decode cX1_addToHash 69 = .ok (.iinc 5 1, 3) := by decide +kernel
theorem dX1_addToHash_72 : decode cX1_addToHash 72 = .ok (.goto (-57), 3) := by decide +kernel
theorem dX1_addToHash_75 : decode cX1_addToHash 75 = .ok (.lload_n 3, 1) := by decide +kernel
theorem dX1_addToHash_76 : decode cX1_addToHash 76 = .ok (.lreturn, 1) := by decide +kernel
theorem dX2_init_0 : decode cX2_init 0 = .ok (.aload_n 0, 1) := by decide +kernel
theorem dX2_init_1 : decode cX2_init 1 = .ok (.invokespecial 3, 3) := by decide +kernel
theorem dX2_init_4 : decode cX2_init 4 = .ok (.aload_n 0, 1) := by decide +kernel
theorem dX2_init_5 : decode cX2_init 5 = .ok (.iconst 1, 1) := by decide +kernel
theorem dX2_init_6 : decode cX2_init 6 = .ok (.putfield 9, 3) := by decide +kernel
theorem dX2_init_9 : decode cX2_init 9 = .ok (.aload_n 0, 1) := by decide +kernel
theorem dX2_init_10 : decode cX2_init 10 = .ok (.iconst 1, 1) := by decide +kernel
theorem dX2_init_11 : decode cX2_init 11 = .ok (.putfield 15, 3) := by decide +kernel
theorem dX2_init_14 : decode cX2_init 14 = .ok (.aload_n 0, 1) := by decide +kernel
theorem dX2_init_15 : decode cX2_init 15 = .ok (.sipush 2000, 3) := by decide +kernel
theorem dX2_init_18 : decode cX2_init 18 = .ok (.putfield 18, 3) := by decide +kernel
theorem dX2_init_21 : decode cX2_init 21 = .ok (.aload_n 0, 1) := by decide +kernel
theorem dX2_init_22 : decode cX2_init 22 = .ok (.iconst 0, 1) := by decide +kernel
theorem dX2_init_23 : decode cX2_init 23 = .ok (.putfield 21, 3) := by decide +kernel
theorem dX2_init_26 : decode cX2_init 26 = .ok (.aload_n 0, 1) := by decide +kernel
theorem dX2_init_27 : decode cX2_init 27 = .ok (.iconst 0, 1) := by decide +kernel
theorem dX2_init_28 : decode cX2_init 28 = .ok (.putfield 24, 3) := by decide +kernel
theorem dX2_init_31 : decode cX2_init 31 = .ok (.aload_n 0, 1) := by decide +kernel
theorem dX2_init_32 : decode cX2_init 32 = .ok (.iload_n 1, 1) := by decide +kernel
theorem dX2_init_33 : decode cX2_init 33 = .ok (.putfield 27, 3) := by decide +kernel
theorem dX2_init_36 : decode cX2_init 36 = .ok (.return_, 1) := by decide +kernel
theorem dX2_lastPosition_0 : decode cX2_lastPosition 0 = .ok (.aload_n 0, 1) := by decide +kernel
theorem dX2_lastPosition_1 : decode cX2_lastPosition 1 = .ok (.getfield 27, 3) := by decide +kernel
theorem dX2_lastPosition_4 : decode cX2_lastPosition 4 = .ok (.ifCond .ne 8, 3) := by decide +kernel
theorem dX2_lastPosition_7 : decode cX2_lastPosition 7 = .ok (.bipush 12, 2) := by decide +kernel
theorem dX2_lastPosition_9 : decode cX2_lastPosition 9 = .ok (.goto 4, 3) := by decide +kernel
theorem dX2_lastPosition_12 : decode cX2_lastPosition 12 = .ok (.iconst 4, 1) := by decide +kernel
theorem dX2_lastPosition_13 : decode cX2_lastPosition 13 = .ok (.ireturn, 1) := by decide +kernel
theorem dX2_period_0 : decode cX2_period 0 = .ok (.aload_n 0, 1) := by decide +kernel
theorem dX2_period_1 : decode cX2_period 1 = .ok (.getfield 27, 3) := by decide +kernel
theorem dX2_period_4 : decode cX2_period 4 = .ok (.ifCond .ne 8, 3) := by decide +kernel
theorem dX2_period_7 : decode cX2_period 7 = .ok (.bipush 60, 2) := by decide +kernel
theorem dX2_period_9 : decode cX2_period 9 = .ok (.goto 5, 3) := by decide +kernel
theorem dX2_period_12 : decode cX2_period 12 = .ok (.bipush 15, 2) := by decide +kernel
theorem dX2_period_14 : decode cX2_period 14 = .ok (.ireturn, 1) := by decide +kernel
theorem dX2_lastReleaseUpTo_0 : decode cX2_lastReleaseUpTo 0 = .ok (.aload_n 0, 1) := by decide +kernel
theorem dX2_lastReleaseUpTo_1 : decode cX2_lastReleaseUpTo 1 = .ok (.getfield 27, 3) := by decide +kernel
theorem dX2_lastReleaseUpTo_4 : decode cX2_lastReleaseUpTo 4 = .ok (.ifCond .ne 12, 3) := by decide +kernel
theorem dX2_lastReleaseUpTo_7 : decode cX2_lastReleaseUpTo 7 = .ok (.iload_n 1, 1) := by decide +kernel
theorem dX2_lastReleaseUpTo_8 : decode cX2_lastReleaseUpTo 8 = .ok (.iload_n 1, 1) := by decide +kernel
theorem dX2_lastReleaseUpTo_9 : decode cX2_lastReleaseUpTo 9 = .ok (.bipush 60, 2) := by decide +kernel
theorem dX2_lastReleaseUpTo_11 : decode cX2_lastReleaseUpTo 11 = .ok (.irem, 1) := by decide +kernel
theorem dX2_lastReleaseUpTo_12 : decode cX2_lastReleaseUpTo 12 = .ok (.isub, 1) := by decide +kernel
theorem dX2_lastReleaseUpTo_13 : decode cX2_lastReleaseUpTo 13 = .ok (.goto 9, 3) := by decide +kernel
theorem dX2_lastReleaseUpTo_16 : decode cX2_lastReleaseUpTo 16 = .ok (.iload_n 1, 1) := by decide +kernel
theorem dX2_lastReleaseUpTo_17 : decode cX2_lastReleaseUpTo 17 = .ok (.iload_n 1, 1) := by decide +kernel
theorem dX2_lastReleaseUpTo_18 : decode cX2_lastReleaseUpTo 18 = .ok (.bipush 15, 2) := by decide +kernel
theorem dX2_lastReleaseUpTo_20 : decode cX2_lastReleaseUpTo 20 = .ok (.irem, 1) := by decide +kernel
theorem dX2_lastReleaseUpTo_21 : decode cX2_lastReleaseUpTo 21 = .ok (.isub, 1) := by decide +kernel
theorem dX2_lastReleaseUpTo_22 : decode cX2_lastReleaseUpTo 22 = .ok (.ireturn, 1) := by decide +kernel
set_option maxRecDepth 20000 in
theorem ggX2_isReleasedAt_X2_lastReleaseUpTo : GoodIn wsX2_isReleasedAt wsX2_lastReleaseUpTo := goodIn_r _ [5, 6, 7, 8, 9, 10, 11, 12] (by decide +kernel) (by decide +kernel)
set_option maxRecDepth 20000 in
theorem gX2_isReleasedAt_X2_lastReleaseUpTo : GoodIn wsX2_isReleasedAt (wsV RX2 30 RX2 yX2_lastReleaseUpTo wsX2_lastReleaseUpTo) := goodIn_app (goodIn_of _ (by decide +kernel)) ggX2_isReleasedAt_X2_lastReleaseUpTo
theorem dX2_isReleasedAt_0 : decode cX2_isReleasedAt 0 = .ok (.aload_n 0, 1) := by decide +kernel
theorem dX2_isReleasedAt_1 : decode cX2_isReleasedAt 1 = .ok (.iload_n 1, 1) := by decide +kernel
theorem dX2_isReleasedAt_2 : decode cX2_isReleasedAt 2 = .ok (.invokevirtual 30, 3) := by decide +kernel
theorem dX2_isReleasedAt_5 : decode cX2_isReleasedAt 5 = .ok (.iload_n 1, 1) := by decide +kernel
theorem dX2_isReleasedAt_6 : decode cX2_isReleasedAt 6 = .ok (.if_icmp .ne 7, 3) := by decide +kernel
theorem dX2_isReleasedAt_9 : decode cX2_isReleasedAt 9 = .ok (.iconst 1, 1) := by decide +kernel
theorem dX2_isReleasedAt_10 : decode cX2_isReleasedAt 10 = .ok (.goto 4, 3) := by decide +kernel
theorem dX2_isReleasedAt_13 : decode cX2_isReleasedAt 13 = .ok (.iconst 0, 1) := by decide +kernel
theorem dX2_isReleasedAt_14 : decode cX2_isReleasedAt 14 = .ok (.ireturn, 1) := by decide +kernel
set_option maxRecDepth 20000 in
theorem ggX2_dueAt_X2_lastPosition : GoodIn wsX2_dueAt wsX2_lastPosition := goodIn_r _ [6, 1, 7, 8, 9, 10, 11, 12] (by decide +kernel) (by decide +kernel)
set_option maxRecDepth 20000 in
theorem gX2_dueAt_X2_lastPosition : GoodIn wsX2_dueAt (wsV RX2 34 RX2 yX2_lastPosition wsX2_lastPosition) := goodIn_app (goodIn_of _ (by decide +kernel)) ggX2_dueAt_X2_lastPosition
theorem dX2_dueAt_0 : decode cX2_dueAt 0 = .ok (.aload_n 0, 1) := by decide +kernel
theorem dX2_dueAt_1 : decode cX2_dueAt 1 = .ok (.getfield 27, 3) := by decide +kernel
theorem dX2_dueAt_4 : decode cX2_dueAt 4 = .ok (.ifCond .ne 13, 3) := by decide +kernel
theorem dX2_dueAt_7 : decode cX2_dueAt 7 = .ok (.iload_n 1, 1) := by decide +kernel
theorem dX2_dueAt_8 : decode cX2_dueAt 8 = .ok (.bipush 60, 2) := by decide +kernel
theorem dX2_dueAt_10 : decode cX2_dueAt 10 = .ok (.idiv, 1) := by decide +kernel
theorem dX2_dueAt_11 : decode cX2_dueAt 11 = .ok (.bipush 12, 2) := by decide +kernel
theorem dX2_dueAt_13 : decode cX2_dueAt 13 = .ok (.irem, 1) := by decide +kernel
theorem dX2_dueAt_14 : decode cX2_dueAt 14 = .ok (.goto 9, 3) := by decide +kernel
theorem dX2_dueAt_17 : decode cX2_dueAt 17 = .ok (.iload_n 1, 1) := by decide +kernel
theorem dX2_dueAt_18 : decode cX2_dueAt 18 = .ok (.bipush 15, 2) := by decide +kernel
theorem dX2_dueAt_20 : decode cX2_dueAt 20 = .ok (.idiv, 1) := by decide +kernel
theorem dX2_dueAt_21 : decode cX2_dueAt 21 = .ok (.iconst 4, 1) := by decide +kernel
theorem dX2_dueAt_22 : decode cX2_dueAt 22 = .ok (.irem, 1) := by decide +kernel
theorem dX2_dueAt_23 : decode cX2_dueAt 23 = .ok (.istore_n 2, 1) := by decide +kernel
theorem dX2_dueAt_24 : decode cX2_dueAt 24 = .ok (.iload_n 2, 1) := by decide +kernel
theorem dX2_dueAt_25 : decode cX2_dueAt 25 = .ok (.ifCond .ne 10, 3) := by decide +kernel
theorem dX2_dueAt_28 : decode cX2_dueAt 28 = .ok (.aload_n 0, 1) := by decide +kernel
theorem dX2_dueAt_29 : decode cX2_dueAt 29 = .ok (.invokevirtual 34, 3) := by decide +kernel
theorem dX2_dueAt_32 : decode cX2_dueAt 32 = .ok (.goto 4, 3) := by decide +kernel
theorem dX2_dueAt_35 : decode cX2_dueAt 35 = .ok (.iload_n 2, 1) := by decide +kernel
theorem dX2_dueAt_36 : decode cX2_dueAt 36 = .ok (.ireturn, 1) := by decide +kernel
set_option maxRecDepth 20000 in
theorem ggX2_dueAfter_X2_period : GoodIn wsX2_dueAfter wsX2_period := goodIn_r _ [5, 6, 15, 16, 17, 18, 19, 20] (by decide +kernel) (by decide +kernel)
set_option maxRecDepth 20000 in
theorem gX2_dueAfter_X2_period : GoodIn wsX2_dueAfter (wsV RX2 38 RX2 yX2_period wsX2_period) := goodIn_app (goodIn_of _ (by decide +kernel)) ggX2_dueAfter_X2_period
set_option maxRecDepth 20000 in
theorem ggX2_dueAfter_X2_dueAt : GoodIn wsX2_dueAfter wsX2_dueAt := goodIn_r _ [10, 6, 11, 12, 13, 4, 14, 15, 16, 17, 18, 19, 20] (by decide +kernel) (by decide +kernel)
set_option maxRecDepth 20000 in
theorem gX2_dueAfter_X2_dueAt : GoodIn wsX2_dueAfter (wsV RX2 41 RX2 yX2_dueAt wsX2_dueAt) := goodIn_app (goodIn_of _ (by decide +kernel)) ggX2_dueAfter_X2_dueAt
theorem dX2_dueAfter_0 : decode cX2_dueAfter 0 = .ok (.aload_n 0, 1) := by decide +kernel
theorem dX2_dueAfter_1 : decode cX2_dueAfter 1 = .ok (.iload_n 1, 1) := by decide +kernel
theorem dX2_dueAfter_2 : decode cX2_dueAfter 2 = .ok (.aload_n 0, 1) := by decide +kernel
theorem dX2_dueAfter_3 : decode cX2_dueAfter 3 = .ok (.invokevirtual 38, 3) := by decide +kernel
theorem dX2_dueAfter_6 : decode cX2_dueAfter 6 = .ok (.iadd, 1) := by decide +kernel
theorem dX2_dueAfter_7 : decode cX2_dueAfter 7 = .ok (.invokevirtual 41, 3) := by decide +kernel
theorem dX2_dueAfter_10 : decode cX2_dueAfter 10 = .ok (.ireturn, 1) := by decide +kernel
set_option maxRecDepth 20000 in
theorem ggX2_positionAfter_X2_lastPosition : GoodIn wsX2_positionAfter wsX2_lastPosition := goodIn_r _ [5, 6, 7, 8, 9, 10, 11, 12] (by decide +kernel) (by decide +kernel)
set_option maxRecDepth 20000 in
theorem gX2_positionAfter_X2_lastPosition : GoodIn wsX2_positionAfter (wsV RX2 34 RX2 yX2_lastPosition wsX2_lastPosition) := goodIn_app (goodIn_of _ (by decide +kernel)) ggX2_positionAfter_X2_lastPosition
theorem dX2_positionAfter_0 : decode cX2_positionAfter 0 = .ok (.iload_n 1, 1) := by decide +kernel
theorem dX2_positionAfter_1 : decode cX2_positionAfter 1 = .ok (.aload_n 0, 1) := by decide +kernel
theorem dX2_positionAfter_2 : decode cX2_positionAfter 2 = .ok (.invokevirtual 34, 3) := by decide +kernel
theorem dX2_positionAfter_5 : decode cX2_positionAfter 5 = .ok (.if_icmp .ne 7, 3) := by decide +kernel
theorem dX2_positionAfter_8 : decode cX2_positionAfter 8 = .ok (.iconst 1, 1) := by decide +kernel
theorem dX2_positionAfter_9 : decode cX2_positionAfter 9 = .ok (.goto 6, 3) := by decide +kernel
theorem dX2_positionAfter_12 : decode cX2_positionAfter 12 = .ok (.iload_n 1, 1) := by decide +kernel
theorem dX2_positionAfter_13 : decode cX2_positionAfter 13 = .ok (.iconst 1, 1) := by decide +kernel
theorem dX2_positionAfter_14 : decode cX2_positionAfter 14 = .ok (.iadd, 1) := by decide +kernel
theorem dX2_positionAfter_15 : decode cX2_positionAfter 15 = .ok (.ireturn, 1) := by decide +kernel
set_option maxRecDepth 20000 in
theorem ggX2_lagAt_X2_dueAfter : GoodIn wsX2_lagAt wsX2_dueAfter := goodIn_r _ [7, 8, 9, 10, 6, 11, 12, 13, 14, 15, 16, 17, 18, 19, 20, 21, 22, 23, 24, 25, 26] (by decide +kernel) (by decide +kernel)
set_option maxRecDepth 20000 in
theorem gX2_lagAt_X2_dueAfter : GoodIn wsX2_lagAt (wsV RX2 44 RX2 yX2_dueAfter wsX2_dueAfter) := goodIn_app (goodIn_of _ (by decide +kernel)) ggX2_lagAt_X2_dueAfter
set_option maxRecDepth 20000 in
theorem ggX2_lagAt_X2_lastPosition : GoodIn wsX2_lagAt wsX2_lastPosition := goodIn_r _ [20, 12, 21, 22, 23, 24, 25, 26] (by decide +kernel) (by decide +kernel)
set_option maxRecDepth 20000 in
theorem gX2_lagAt_X2_lastPosition : GoodIn wsX2_lagAt (wsV RX2 34 RX2 yX2_lastPosition wsX2_lastPosition) := goodIn_app (goodIn_of _ (by decide +kernel)) ggX2_lagAt_X2_lastPosition
theorem dX2_lagAt_0 : decode cX2_lagAt 0 = .ok (.aload_n 0, 1) := by decide +kernel
theorem dX2_lagAt_1 : decode cX2_lagAt 1 = .ok (.getfield 9, 3) := by decide +kernel
theorem dX2_lagAt_4 : decode cX2_lagAt 4 = .ok (.iconst 1, 1) := by decide +kernel
theorem dX2_lagAt_5 : decode cX2_lagAt 5 = .ok (.if_icmp .eq 5, 3) := by decide +kernel
theorem dX2_lagAt_8 : decode cX2_lagAt 8 = .ok (.iconst 0, 1) := by decide +kernel
theorem dX2_lagAt_9 : decode cX2_lagAt 9 = .ok (.ireturn, 1) := by decide +kernel
theorem dX2_lagAt_10 : decode cX2_lagAt 10 = .ok (.aload_n 0, 1) := by decide +kernel
theorem dX2_lagAt_11 : decode cX2_lagAt 11 = .ok (.iload_n 1, 1) := by decide +kernel
theorem dX2_lagAt_12 : decode cX2_lagAt 12 = .ok (.invokevirtual 44, 3) := by decide +kernel
theorem dX2_lagAt_15 : decode cX2_lagAt 15 = .ok (.aload_n 0, 1) := by decide +kernel
theorem dX2_lagAt_16 : decode cX2_lagAt 16 = .ok (.getfield 15, 3) := by decide +kernel
theorem dX2_lagAt_19 : decode cX2_lagAt 19 = .ok (.isub, 1) := by decide +kernel
theorem dX2_lagAt_20 : decode cX2_lagAt 20 = .ok (.istore_n 2, 1) := by decide +kernel
theorem dX2_lagAt_21 : decode cX2_lagAt 21 = .ok (.iload_n 2, 1) := by decide +kernel
theorem dX2_lagAt_22 : decode cX2_lagAt 22 = .ok (.ifCond .ge 12, 3) := by decide +kernel
theorem dX2_lagAt_25 : decode cX2_lagAt 25 = .ok (.iload_n 2, 1) := by decide +kernel
theorem dX2_lagAt_26 : decode cX2_lagAt 26 = .ok (.aload_n 0, 1) := by decide +kernel
theorem dX2_lagAt_27 : decode cX2_lagAt 27 = .ok (.invokevirtual 34, 3) := by decide +kernel
theorem dX2_lagAt_30 : decode cX2_lagAt 30 = .ok (.iadd, 1) := by decide +kernel
theorem dX2_lagAt_31 : decode cX2_lagAt 31 = .ok (.goto 4, 3) := by decide +kernel
theorem dX2_lagAt_34 : decode cX2_lagAt 34 = .ok (.iload_n 2, 1) := by decide +kernel
theorem dX2_lagAt_35 : decode cX2_lagAt 35 = .ok (.ireturn, 1) := by decide +kernel
theorem dX2_blowsFor_0 : decode cX2_blowsFor 0 = .ok (.aload_n 0, 1) := by decide +kernel
theorem dX2_blowsFor_1 : decode cX2_blowsFor 1 = .ok (.getfield 9, 3) := by decide +kernel
theorem dX2_blowsFor_4 : decode cX2_blowsFor 4 = .ok (.iconst 1, 1) := by decide +kernel
theorem dX2_blowsFor_5 : decode cX2_blowsFor 5 = .ok (.if_icmp .ne 10, 3) := by decide +kernel
theorem dX2_blowsFor_8 : decode cX2_blowsFor 8 = .ok (.aload_n 0, 1) := by decide +kernel
theorem dX2_blowsFor_9 : decode cX2_blowsFor 9 = .ok (.getfield 15, 3) := by decide +kernel
theorem dX2_blowsFor_12 : decode cX2_blowsFor 12 = .ok (.goto 4, 3) := by decide +kernel
theorem dX2_blowsFor_15 : decode cX2_blowsFor 15 = .ok (.iload_n 1, 1) := by decide +kernel
theorem dX2_blowsFor_16 : decode cX2_blowsFor 16 = .ok (.ireturn, 1) := by decide +kernel
set_option maxRecDepth 20000 in
theorem ggX2_canStrike_X2_blowsFor : GoodIn wsX2_canStrike wsX2_blowsFor := goodIn_r _ [7, 1, 8, 9, 10, 11, 12, 13, 14] (by decide +kernel) (by decide +kernel)
set_option maxRecDepth 20000 in
theorem gX2_canStrike_X2_blowsFor : GoodIn wsX2_canStrike (wsV RX2 47 RX2 yX2_blowsFor wsX2_blowsFor) := goodIn_app (goodIn_of _ (by decide +kernel)) ggX2_canStrike_X2_blowsFor
theorem dX2_canStrike_0 : decode cX2_canStrike 0 = .ok (.aload_n 0, 1) := by decide +kernel
theorem dX2_canStrike_1 : decode cX2_canStrike 1 = .ok (.getfield 9, 3) := by decide +kernel
theorem dX2_canStrike_4 : decode cX2_canStrike 4 = .ok (.ifCond .eq 19, 3) := by decide +kernel
theorem dX2_canStrike_7 : decode cX2_canStrike 7 = .ok (.aload_n 0, 1) := by decide +kernel
theorem dX2_canStrike_8 : decode cX2_canStrike 8 = .ok (.getfield 18, 3) := by decide +kernel
theorem dX2_canStrike_11 : decode cX2_canStrike 11 = .ok (.aload_n 0, 1) := by decide +kernel
theorem dX2_canStrike_12 : decode cX2_canStrike 12 = .ok (.iload_n 1, 1) := by decide +kernel
theorem dX2_canStrike_13 : decode cX2_canStrike 13 = .ok (.invokevirtual 47, 3) := by decide +kernel
theorem dX2_canStrike_16 : decode cX2_canStrike 16 = .ok (.if_icmp .lt 7, 3) := by decide +kernel
theorem dX2_canStrike_19 : decode cX2_canStrike 19 = .ok (.iconst 1, 1) := by decide +kernel
theorem dX2_canStrike_20 : decode cX2_canStrike 20 = .ok (.goto 4, 3) := by decide +kernel
theorem dX2_canStrike_23 : decode cX2_canStrike 23 = .ok (.iconst 0, 1) := by decide +kernel
theorem dX2_canStrike_24 : decode cX2_canStrike 24 = .ok (.ireturn, 1) := by decide +kernel
set_option maxRecDepth 20000 in
theorem ggX2_releaseWith_X2_canStrike : GoodIn wsX2_releaseWith wsX2_canStrike := goodIn_r _ [9, 1, 3, 10, 11, 12, 8, 13, 4, 23, 24, 25, 26, 27, 28] (by decide +kernel) (by decide +kernel)
set_option maxRecDepth 20000 in
theorem gX2_releaseWith_X2_canStrike : GoodIn wsX2_releaseWith (wsV RX2 50 RX2 yX2_canStrike wsX2_canStrike) := goodIn_app (goodIn_of _ (by decide +kernel)) ggX2_releaseWith_X2_canStrike
set_option maxRecDepth 20000 in
theorem ggX2_releaseWith_X2_blowsFor : GoodIn wsX2_releaseWith wsX2_blowsFor := goodIn_r _ [13, 1, 4, 23, 24, 25, 26, 27, 28] (by decide +kernel) (by decide +kernel)
set_option maxRecDepth 20000 in
theorem gX2_releaseWith_X2_blowsFor : GoodIn wsX2_releaseWith (wsV RX2 47 RX2 yX2_blowsFor wsX2_blowsFor) := goodIn_app (goodIn_of _ (by decide +kernel)) ggX2_releaseWith_X2_blowsFor
set_option maxRecDepth 20000 in
theorem ggX2_releaseWith_X2_positionAfter : GoodIn wsX2_releaseWith wsX2_positionAfter := goodIn_r _ [17, 18, 19, 20, 8, 21, 22, 23, 24, 25, 26, 27, 28] (by decide +kernel) (by decide +kernel)
set_option maxRecDepth 20000 in
theorem gX2_releaseWith_X2_positionAfter : GoodIn wsX2_releaseWith (wsV RX2 54 RX2 yX2_positionAfter wsX2_positionAfter) := goodIn_app (goodIn_of _ (by decide +kernel)) ggX2_releaseWith_X2_positionAfter
theorem dX2_releaseWith_0 : decode cX2_releaseWith 0 = .ok (.aload_n 0, 1) := by decide +kernel
theorem dX2_releaseWith_1 : decode cX2_releaseWith 1 = .ok (.getfield 9, 3) := by decide +kernel
theorem dX2_releaseWith_4 : decode cX2_releaseWith 4 = .ok (.ifCond .ne 5, 3) := by decide +kernel
theorem dX2_releaseWith_7 : decode cX2_releaseWith 7 = .ok (.iconst 0, 1) := by decide +kernel
theorem dX2_releaseWith_8 : decode cX2_releaseWith 8 = .ok (.ireturn, 1) := by decide +kernel
theorem dX2_releaseWith_9 : decode cX2_releaseWith 9 = .ok (.aload_n 0, 1) := by decide +kernel
theorem dX2_releaseWith_10 : decode cX2_releaseWith 10 = .ok (.iload_n 1, 1) := by decide +kernel
theorem dX2_releaseWith_11 : decode cX2_releaseWith 11 = .ok (.invokevirtual 50, 3) := by decide +kernel
theorem dX2_releaseWith_14 : decode cX2_releaseWith 14 = .ok (.ifCond .ne 15, 3) := by decide +kernel
theorem dX2_releaseWith_17 : decode cX2_releaseWith 17 = .ok (.aload_n 0, 1) := by decide +kernel
theorem dX2_releaseWith_18 : decode cX2_releaseWith 18 = .ok (.dup, 1) := by decide +kernel
theorem dX2_releaseWith_19 : decode cX2_releaseWith 19 = .ok (.getfield 24, 3) := by decide +kernel
theorem dX2_releaseWith_22 : decode cX2_releaseWith 22 = .ok (.iconst 1, 1) := by decide +kernel
theorem dX2_releaseWith_23 : decode cX2_releaseWith 23 = .ok (.iadd, 1) := by decide +kernel
theorem dX2_releaseWith_24 : decode cX2_releaseWith 24 = .ok (.putfield 24, 3) := by decide +kernel
theorem dX2_releaseWith_27 : decode cX2_releaseWith 27 = .ok (.iconst 0, 1) := by decide +kernel
theorem dX2_releaseWith_28 : decode cX2_releaseWith 28 = .ok (.ireturn, 1) := by decide +kernel
theorem dX2_releaseWith_29 : decode cX2_releaseWith 29 = .ok (.aload_n 0, 1) := by decide +kernel
theorem dX2_releaseWith_30 : decode cX2_releaseWith 30 = .ok (.iload_n 1, 1) := by decide +kernel
theorem dX2_releaseWith_31 : decode cX2_releaseWith 31 = .ok (.invokevirtual 47, 3) := by decide +kernel
theorem dX2_releaseWith_34 : decode cX2_releaseWith 34 = .ok (.istore_n 2, 1) := by decide +kernel
theorem dX2_releaseWith_35 : decode cX2_releaseWith 35 = .ok (.aload_n 0, 1) := by decide +kernel
theorem dX2_releaseWith_36 : decode cX2_releaseWith 36 = .ok (.dup, 1) := by decide +kernel
theorem dX2_releaseWith_37 : decode cX2_releaseWith 37 = .ok (.getfield 18, 3) := by decide +kernel
theorem dX2_releaseWith_40 : decode cX2_releaseWith 40 = .ok (.iload_n 2, 1) := by decide +kernel
theorem dX2_releaseWith_41 : decode cX2_releaseWith 41 = .ok (.isub, 1) := by decide +kernel
theorem dX2_releaseWith_42 : decode cX2_releaseWith 42 = .ok (.putfield 18, 3) := by decide +kernel
theorem dX2_releaseWith_45 : decode cX2_releaseWith 45 = .ok (.aload_n 0, 1) := by decide +kernel
theorem dX2_releaseWith_46 : decode cX2_releaseWith 46 = .ok (.getfield 9, 3) := by decide +kernel
theorem dX2_releaseWith_49 : decode cX2_releaseWith 49 = .ok (.iconst 1, 1) := by decide +kernel
theorem dX2_releaseWith_50 : decode cX2_releaseWith 50 = .ok (.if_icmp .ne 15, 3) := by decide +kernel
theorem dX2_releaseWith_53 : decode cX2_releaseWith 53 = .ok (.aload_n 0, 1) := by decide +kernel
theorem dX2_releaseWith_54 : decode cX2_releaseWith 54 = .ok (.aload_n 0, 1) := by decide +kernel
theorem dX2_releaseWith_55 : decode cX2_releaseWith 55 = .ok (.aload_n 0, 1) := by decide +kernel
theorem dX2_releaseWith_56 : decode cX2_releaseWith 56 = .ok (.getfield 15, 3) := by decide +kernel
theorem dX2_releaseWith_59 : decode cX2_releaseWith 59 = .ok (.invokevirtual 54, 3) := by decide +kernel
theorem dX2_releaseWith_62 : decode cX2_releaseWith 62 = .ok (.putfield 15, 3) := by decide +kernel
theorem dX2_releaseWith_65 : decode cX2_releaseWith 65 = .ok (.iload_n 2, 1) := by decide +kernel
theorem dX2_releaseWith_66 : decode cX2_releaseWith 66 = .ok (.ireturn, 1) := by decide +kernel
theorem dX2_copyFrom_0 : decode cX2_copyFrom 0 = .ok (.aload_n 0, 1) := by decide +kernel
theorem dX2_copyFrom_1 : decode cX2_copyFrom 1 = .ok (.aload_n 1, 1) := by decide +kernel
theorem dX2_copyFrom_2 : decode cX2_copyFrom 2 = .ok (.getfield 27, 3) := by decide +kernel
theorem dX2_copyFrom_5 : decode cX2_copyFrom 5 = .ok (.putfield 27, 3) := by decide +kernel
theorem dX2_copyFrom_8 : decode cX2_copyFrom 8 = .ok (.aload_n 0, 1) := by decide +kernel
theorem dX2_copyFrom_9 : decode cX2_copyFrom 9 = .ok (.aload_n 1, 1) := by decide +kernel
theorem dX2_copyFrom_10 : decode cX2_copyFrom 10 = .ok (.getfield 9, 3) := by decide +kernel
theorem dX2_copyFrom_13 : decode cX2_copyFrom 13 = .ok (.putfield 9, 3) := by decide +kernel
theorem dX2_copyFrom_16 : decode cX2_copyFrom 16 = .ok (.aload_n 0, 1) := by decide +kernel
theorem dX2_copyFrom_17 : decode cX2_copyFrom 17 = .ok (.aload_n 1, 1) := by decide +kernel
theorem dX2_copyFrom_18 : decode cX2_copyFrom 18 = .ok (.getfield 15, 3) := by decide +kernel
theorem dX2_copyFrom_21 : decode cX2_copyFrom 21 = .ok (.putfield 15, 3) := by decide +kernel
theorem dX2_copyFrom_24 : decode cX2_copyFrom 24 = .ok (.aload_n 0, 1) := by decide +kernel
theorem dX2_copyFrom_25 : decode cX2_copyFrom 25 = .ok (.aload_n 1, 1) := by decide +kernel
theorem dX2_copyFrom_26 : decode cX2_copyFrom 26 = .ok (.getfield 18, 3) := by decide +kernel
theorem dX2_copyFrom_29 : decode cX2_copyFrom 29 = .ok (.putfield 18, 3) := by decide +kernel
theorem dX2_copyFrom_32 : decode cX2_copyFrom 32 = .ok (.aload_n 0, 1) := by decide +kernel
theorem dX2_copyFrom_33 : decode cX2_copyFrom 33 = .ok (.aload_n 1, 1) := by decide +kernel
theorem dX2_copyFrom_34 : decode cX2_copyFrom 34 = .ok (.getfield 21, 3) := by decide +kernel
theorem dX2_copyFrom_37 : decode cX2_copyFrom 37 = .ok (.putfield 21, 3) := by decide +kernel
theorem dX2_copyFrom_40 : decode cX2_copyFrom 40 = .ok (.aload_n 0, 1) := by decide +kernel
theorem dX2_copyFrom_41 : decode cX2_copyFrom 41 = .ok (.aload_n 1, 1) := by decide +kernel
theorem dX2_copyFrom_42 : decode cX2_copyFrom 42 = .ok (.getfield 24, 3) := by decide +kernel
theorem dX2_copyFrom_45 : decode cX2_copyFrom 45 = .ok (.putfield 24, 3) := by decide +kernel
theorem dX2_copyFrom_48 : decode cX2_copyFrom 48 = .ok (.return_, 1) := by decide +kernel
set_option maxRecDepth 20000 in
theorem ggX2_addToHash_X2_dueAfter : GoodIn wsX2_addToHash wsX2_dueAfter := goodIn_r _ [11, 12, 13, 14, 10, 15, 16, 17, 18, 19, 20, 21, 22, 23, 24, 29, 30, 31, 32, 33, 34] (by decide +kernel) (by decide +kernel)
set_option maxRecDepth 20000 in
theorem gX2_addToHash_X2_dueAfter : GoodIn wsX2_addToHash (wsV RX2 44 RX2 yX2_dueAfter wsX2_dueAfter) := goodIn_app (goodIn_of _ (by decide +kernel)) ggX2_addToHash_X2_dueAfter
set_option maxRecDepth 20000 in
theorem ggX2_addToHash_X2_lagAt : GoodIn wsX2_addToHash wsX2_lagAt := goodIn_r _ [28, 2, 3, 7, 8, 9, 10, 11, 12, 13, 14, 15, 16, 17, 18, 19, 20, 21, 22, 23, 24, 29, 30, 31, 32, 33, 34] (by decide +kernel) (by decide +kernel)
set_option maxRecDepth 20000 in
theorem gX2_addToHash_X2_lagAt : GoodIn wsX2_addToHash (wsV RX2 59 RX2 yX2_lagAt wsX2_lagAt) := goodIn_app (goodIn_of _ (by decide +kernel)) ggX2_addToHash_X2_lagAt
theorem dX2_addToHash_0 : decode cX2_addToHash 0 = .ok (.ldc2_w 57, 3) := by decide +kernel
theorem dX2_addToHash_3 : decode cX2_addToHash 3 = .ok (.lload_n 1, 1) := by decide +kernel
theorem dX2_addToHash_4 : decode cX2_addToHash 4 = .ok (.lmul, 1) := by decide +kernel
theorem dX2_addToHash_5 : decode cX2_addToHash 5 = .ok (.aload_n 0, 1) := by decide +kernel
theorem dX2_addToHash_6 : decode cX2_addToHash 6 = .ok (.getfield 9, 3) := by decide +kernel
theorem dX2_addToHash_9 : decode cX2_addToHash 9 = .ok (.i2l, 1) := by decide +kernel
theorem dX2_addToHash_10 : decode cX2_addToHash 10 = .ok (.ladd, 1) := by decide +kernel
theorem dX2_addToHash_11 : decode cX2_addToHash 11 = .ok (.lstore 4, 2) := by decide +kernel
theorem dX2_addToHash_13 : decode cX2_addToHash 13 = .ok (.ldc2_w 57, 3) := by decide +kernel
theorem dX2_addToHash_16 : decode cX2_addToHash 16 = .ok (.lload 4, 2) := by decide +kernel
theorem dX2_addToHash_18 : decode cX2_addToHash 18 = .ok (.lmul, 1) := by decide +kernel
theorem dX2_addToHash_19 : decode cX2_addToHash 19 = .ok (.aload_n 0, 1) := by decide +kernel
theorem dX2_addToHash_20 : decode cX2_addToHash 20 = .ok (.getfield 15, 3) := by decide +kernel
theorem dX2_addToHash_23 : decode cX2_addToHash 23 = .ok (.i2l, 1) := by decide +kernel
theorem dX2_addToHash_24 : decode cX2_addToHash 24 = .ok (.ladd, 1) := by decide +kernel
theorem dX2_addToHash_25 : decode cX2_addToHash 25 = .ok (.lstore 4, 2) := by decide +kernel
theorem dX2_addToHash_27 : decode cX2_addToHash 27 = .ok (.ldc2_w 57, 3) := by decide +kernel
theorem dX2_addToHash_30 : decode cX2_addToHash 30 = .ok (.lload 4, 2) := by decide +kernel
theorem dX2_addToHash_32 : decode cX2_addToHash 32 = .ok (.lmul, 1) := by decide +kernel
theorem dX2_addToHash_33 : decode cX2_addToHash 33 = .ok (.aload_n 0, 1) := by decide +kernel
theorem dX2_addToHash_34 : decode cX2_addToHash 34 = .ok (.getfield 18, 3) := by decide +kernel
theorem dX2_addToHash_37 : decode cX2_addToHash 37 = .ok (.i2l, 1) := by decide +kernel
theorem dX2_addToHash_38 : decode cX2_addToHash 38 = .ok (.ladd, 1) := by decide +kernel
theorem dX2_addToHash_39 : decode cX2_addToHash 39 = .ok (.lstore 4, 2) := by decide +kernel
theorem dX2_addToHash_41 : decode cX2_addToHash 41 = .ok (.ldc2_w 57, 3) := by decide +kernel
theorem dX2_addToHash_44 : decode cX2_addToHash 44 = .ok (.lload 4, 2) := by decide +kernel
theorem dX2_addToHash_46 : decode cX2_addToHash 46 = .ok (.lmul, 1) := by decide +kernel
theorem dX2_addToHash_47 : decode cX2_addToHash 47 = .ok (.aload_n 0, 1) := by decide +kernel
theorem dX2_addToHash_48 : decode cX2_addToHash 48 = .ok (.getfield 21, 3) := by decide +kernel
theorem dX2_addToHash_51 : decode cX2_addToHash 51 = .ok (.i2l, 1) := by decide +kernel
theorem dX2_addToHash_52 : decode cX2_addToHash 52 = .ok (.ladd, 1) := by decide +kernel
theorem dX2_addToHash_53 : decode cX2_addToHash 53 = .ok (.lstore 4, 2) := by decide +kernel
theorem dX2_addToHash_55 : decode cX2_addToHash 55 = .ok (.ldc2_w 57, 3) := by decide +kernel
theorem dX2_addToHash_58 : decode cX2_addToHash 58 = .ok (.lload 4, 2) := by decide +kernel
theorem dX2_addToHash_60 : decode cX2_addToHash 60 = .ok (.lmul, 1) := by decide +kernel
theorem dX2_addToHash_61 : decode cX2_addToHash 61 = .ok (.aload_n 0, 1) := by decide +kernel
theorem dX2_addToHash_62 : decode cX2_addToHash 62 = .ok (.getfield 24, 3) := by decide +kernel
theorem dX2_addToHash_65 : decode cX2_addToHash 65 = .ok (.i2l, 1) := by decide +kernel
theorem dX2_addToHash_66 : decode cX2_addToHash 66 = .ok (.ladd, 1) := by decide +kernel
theorem dX2_addToHash_67 : decode cX2_addToHash 67 = .ok (.lstore 4, 2) := by decide +kernel
theorem dX2_addToHash_69 : decode cX2_addToHash 69 = .ok (.ldc2_w 57, 3) := by decide +kernel
theorem dX2_addToHash_72 : decode cX2_addToHash 72 = .ok (.lload 4, 2) := by decide +kernel
theorem dX2_addToHash_74 : decode cX2_addToHash 74 = .ok (.lmul, 1) := by decide +kernel
theorem dX2_addToHash_75 : decode cX2_addToHash 75 = .ok (.aload_n 0, 1) := by decide +kernel
theorem dX2_addToHash_76 : decode cX2_addToHash 76 = .ok (.iload_n 3, 1) := by decide +kernel
theorem dX2_addToHash_77 : decode cX2_addToHash 77 = .ok (.invokevirtual 44, 3) := by decide +kernel
theorem dX2_addToHash_80 : decode cX2_addToHash 80 = .ok (.i2l, 1) := by decide +kernel
theorem dX2_addToHash_81 : decode cX2_addToHash 81 = .ok (.ladd, 1) := by decide +kernel
theorem dX2_addToHash_82 : decode cX2_addToHash 82 = .ok (.lstore 4, 2) := by decide +kernel
theorem dX2_addToHash_84 : decode cX2_addToHash 84 = .ok (.ldc2_w 57, 3) := by decide +kernel
theorem dX2_addToHash_87 : decode cX2_addToHash 87 = .ok (.lload 4, 2) := by decide +kernel
theorem dX2_addToHash_89 : decode cX2_addToHash 89 = .ok (.lmul, 1) := by decide +kernel
theorem dX2_addToHash_90 : decode cX2_addToHash 90 = .ok (.aload_n 0, 1) := by decide +kernel
theorem dX2_addToHash_91 : decode cX2_addToHash 91 = .ok (.iload_n 3, 1) := by decide +kernel
theorem dX2_addToHash_92 : decode cX2_addToHash 92 = .ok (.invokevirtual 59, 3) := by decide +kernel
theorem dX2_addToHash_95 : decode cX2_addToHash 95 = .ok (.i2l, 1) := by decide +kernel
theorem dX2_addToHash_96 : decode cX2_addToHash 96 = .ok (.ladd, 1) := by decide +kernel
theorem dX2_addToHash_97 : decode cX2_addToHash 97 = .ok (.lreturn, 1) := by decide +kernel
set_option maxRecDepth 20000 in
theorem ggX3_init_X0_init : GoodIn wsX3_init wsX0_init := goodIn_r _ [17, 18, 2, 3, 19, 10, 11, 20, 21, 22, 23, 24, 25, 26, 27, 28, 29, 30, 31, 32, 33, 34, 35, 36, 37, 38, 39, 40, 41, 42, 13, 43, 44, 45, 46, 60, 61, 62, 63, 64, 65, 48, 49, 50, 51, 52, 53, 54, 66, 67, 68, 69] (by decide +kernel) (by decide +kernel)
set_option maxRecDepth 20000 in
theorem gX3_init_X0_init_n9 : GoodIn wsX3_init (wsX0_init) := ggX3_init_X0_init
set_option maxRecDepth 20000 in
theorem ggX3_init_X2_init : GoodIn wsX3_init wsX2_init := goodIn_r _ [32, 33, 2, 3, 34, 35, 36, 37, 38, 39, 60, 61, 62, 63, 64, 65] (by decide +kernel) (by decide +kernel)
set_option maxRecDepth 20000 in
theorem gX3_init_X2_init : GoodIn wsX3_init (wsX2_init) := ggX3_init_X2_init
theorem dX3_init_0 : decode cX3_init 0 = .ok (.aload_n 0, 1) := by decide +kernel
theorem dX3_init_1 : decode cX3_init 1 = .ok (.invokespecial 1, 3) := by decide +kernel
theorem dX3_init_4 : decode cX3_init 4 = .ok (.aload_n 0, 1) := by decide +kernel
theorem dX3_init_5 : decode cX3_init 5 = .ok (.new 7, 3) := by decide +kernel
theorem dX3_init_8 : decode cX3_init 8 = .ok (.dup, 1) := by decide +kernel
theorem dX3_init_9 : decode cX3_init 9 = .ok (.invokespecial 9, 3) := by decide +kernel
theorem dX3_init_12 : decode cX3_init 12 = .ok (.putfield 10, 3) := by decide +kernel
theorem dX3_init_15 : decode cX3_init 15 = .ok (.aload_n 0, 1) := by decide +kernel
theorem dX3_init_16 : decode cX3_init 16 = .ok (.iconst 5, 1) := by decide +kernel
theorem dX3_init_17 : decode cX3_init 17 = .ok (.anewarray 7, 3) := by decide +kernel
theorem dX3_init_20 : decode cX3_init 20 = .ok (.putfield 16, 3) := by decide +kernel
theorem dX3_init_23 : decode cX3_init 23 = .ok (.aload_n 0, 1) := by decide +kernel
theorem dX3_init_24 : decode cX3_init 24 = .ok (.new 20, 3) := by decide +kernel
theorem dX3_init_27 : decode cX3_init 27 = .ok (.dup, 1) := by decide +kernel
theorem dX3_init_28 : decode cX3_init 28 = .ok (.iconst 0, 1) := by decide +kernel
theorem dX3_init_29 : decode cX3_init 29 = .ok (.invokespecial 22, 3) := by decide +kernel
theorem dX3_init_32 : decode cX3_init 32 = .ok (.putfield 25, 3) := by decide +kernel
theorem dX3_init_35 : decode cX3_init 35 = .ok (.aload_n 0, 1) := by decide +kernel
theorem dX3_init_36 : decode cX3_init 36 = .ok (.iconst 3, 1) := by decide +kernel
theorem dX3_init_37 : decode cX3_init 37 = .ok (.newarray .int, 2) := by decide +kernel
theorem dX3_init_39 : decode cX3_init 39 = .ok (.putfield 29, 3) := by decide +kernel
theorem dX3_init_42 : decode cX3_init 42 = .ok (.aload_n 0, 1) := by decide +kernel
theorem dX3_init_43 : decode cX3_init 43 = .ok (.iconst 0, 1) := by decide +kernel
theorem dX3_init_44 : decode cX3_init 44 = .ok (.putfield 33, 3) := by decide +kernel
theorem dX3_init_47 : decode cX3_init 47 = .ok (.iconst 0, 1) := by decide +kernel
theorem dX3_init_48 : decode cX3_init 48 = .ok (.istore_n 1, 1) := by decide +kernel
theorem dX3_init_49 : decode cX3_init 49 = .ok (.iload_n 1, 1) := by decide +kernel
theorem dX3_init_50 : decode cX3_init 50 = .ok (.iconst 5, 1) := by decide +kernel
theorem dX3_init_51 : decode cX3_init 51 = .ok (.if_icmp .ge 22, 3) := by decide +kernel
theorem dX3_init_54 : decode cX3_init 54 = .ok (.aload_n 0, 1) := by decide +kernel
theorem dX3_init_55 : decode cX3_init 55 = .ok (.getfield 16, 3) := by decide +kernel
theorem dX3_init_58 : decode cX3_init 58 = .ok (.iload_n 1, 1) := by decide +kernel
theorem dX3_init_59 : decode cX3_init 59 = .ok (.new 7, 3) := by decide +kernel
theorem dX3_init_62 : decode cX3_init 62 = .ok (.dup, 1) := by decide +kernel
theorem dX3_init_63 : decode cX3_init 63 = .ok (.invokespecial 9, 3) := by decide +kernel
theorem dX3_init_66 : decode cX3_init 66 = .ok (.aastore, 1) := by decide +kernel
theorem dX3_init_67 : decode cX3_init 67 = .ok (.iinc 1 1, 3) := by decide +kernel
theorem dX3_init_70 : decode cX3_init 70 = .ok (.goto (-21), 3) := by decide +kernel
theorem dX3_init_73 : decode cX3_init 73 = .ok (.return_, 1) := by decide +kernel
set_option maxRecDepth 20000 in
theorem ggX3_setMechanism_X3_isTrain : GoodIn wsX3_setMechanism wsX3_isTrain := goodIn_r _ [6] (by decide +kernel) (by decide +kernel)
set_option maxRecDepth 20000 in
theorem gX3_setMechanism_X3_isTrain : GoodIn wsX3_setMechanism (va_wsS RX3 37 yX3_isTrain wsX3_isTrain) := goodIn_app (goodIn_of _ (by decide +kernel)) ggX3_setMechanism_X3_isTrain
set_option maxRecDepth 20000 in
theorem ggX3_setMechanism_X3_refuse : GoodIn wsX3_setMechanism wsX3_refuse := goodIn_r _ [10, 11, 12, 13, 5, 14, 61, 62, 63, 64, 65] (by decide +kernel) (by decide +kernel)
set_option maxRecDepth 20000 in
theorem gX3_setMechanism_X3_refuse : GoodIn wsX3_setMechanism (wsV RX3 41 RX3 yX3_refuse wsX3_refuse) := goodIn_app (goodIn_of _ (by decide +kernel)) ggX3_setMechanism_X3_refuse
set_option maxRecDepth 20000 in
theorem ggX3_setMechanism_X3_save : GoodIn wsX3_setMechanism wsX3_save := goodIn_r _ [18, 19, 20, 1, 21, 22, 23, 5, 24, 25, 26, 27, 28, 29, 30, 31, 32, 33, 34, 35, 36, 37, 38, 39, 40, 41, 42, 43, 44, 45, 46, 47, 48, 49, 50, 51, 52, 53, 54, 55, 56, 61, 62, 63, 64, 65, 72, 73, 74, 75, 76, 77, 78, 66, 67, 68, 69, 70, 71, 79, 80, 81, 82] (by decide +kernel) (by decide +kernel)
set_option maxRecDepth 20000 in
theorem gX3_setMechanism_X3_save : GoodIn wsX3_setMechanism (wsV RX3 45 RX3 yX3_save wsX3_save) := goodIn_app (goodIn_of _ (by decide +kernel)) ggX3_setMechanism_X3_save
set_option maxRecDepth 20000 in
theorem ggX3_setMechanism_X0_trainOf : GoodIn wsX3_setMechanism wsX0_trainOf := goodIn_r _ [60, 30, 31, 72, 73, 74, 75, 76, 77, 78] (by decide +kernel) (by decide +kernel)
set_option maxRecDepth 20000 in
theorem gX3_setMechanism_X0_trainOf : GoodIn wsX3_setMechanism (wsV RX3 48 RX0 yX0_trainOf wsX0_trainOf) := goodIn_app (goodIn_of _ (by decide +kernel)) ggX3_setMechanism_X0_trainOf
theorem dX3_setMechanism_0 : decode cX3_setMechanism 0 = .ok (.iload_n 1, 1) := by decide +kernel
theorem dX3_setMechanism_1 : decode cX3_setMechanism 1 = .ok (.invokestatic 37, 3) := by decide +kernel
theorem dX3_setMechanism_4 : decode cX3_setMechanism 4 = .ok (.ifCond .eq 12, 3) := by decide +kernel
theorem dX3_setMechanism_7 : decode cX3_setMechanism 7 = .ok (.iload_n 2, 1) := by decide +kernel
theorem dX3_setMechanism_8 : decode cX3_setMechanism 8 = .ok (.ifCond .lt 8, 3) := by decide +kernel
theorem dX3_setMechanism_11 : decode cX3_setMechanism 11 = .ok (.iload_n 2, 1) := by decide +kernel
theorem dX3_setMechanism_12 : decode cX3_setMechanism 12 = .ok (.iconst 2, 1) := by decide +kernel
theorem dX3_setMechanism_13 : decode cX3_setMechanism 13 = .ok (.if_icmp .le 10, 3) := by decide +kernel
theorem dX3_setMechanism_16 : decode cX3_setMechanism 16 = .ok (.aload_n 0, 1) := by decide +kernel
theorem dX3_setMechanism_17 : decode cX3_setMechanism 17 = .ok (.bipush (-2), 2) := by decide +kernel
theorem dX3_setMechanism_19 : decode cX3_setMechanism 19 = .ok (.invokevirtual 41, 3) := by decide +kernel
theorem dX3_setMechanism_22 : decode cX3_setMechanism 22 = .ok (.ireturn, 1) := by decide +kernel
theorem dX3_setMechanism_23 : decode cX3_setMechanism 23 = .ok (.aload_n 0, 1) := by decide +kernel
theorem dX3_setMechanism_24 : decode cX3_setMechanism 24 = .ok (.invokevirtual 45, 3) := by decide +kernel
theorem dX3_setMechanism_27 : decode cX3_setMechanism 27 = .ok (.aload_n 0, 1) := by decide +kernel
theorem dX3_setMechanism_28 : decode cX3_setMechanism 28 = .ok (.getfield 10, 3) := by decide +kernel
theorem dX3_setMechanism_31 : decode cX3_setMechanism 31 = .ok (.iload_n 1, 1) := by decide +kernel
theorem dX3_setMechanism_32 : decode cX3_setMechanism 32 = .ok (.invokevirtual 48, 3) := by decide +kernel
theorem dX3_setMechanism_35 : decode cX3_setMechanism 35 = .ok (.astore_n 3, 1) := by decide +kernel
theorem dX3_setMechanism_36 : decode cX3_setMechanism 36 = .ok (.aload_n 3, 1) := by decide +kernel
theorem dX3_setMechanism_37 : decode cX3_setMechanism 37 = .ok (.getfield 52, 3) := by decide +kernel
theorem dX3_setMechanism_40 : decode cX3_setMechanism 40 = .ok (.istore 4, 2) := by decide +kernel
theorem dX3_setMechanism_42 : decode cX3_setMechanism 42 = .ok (.aload_n 3, 1) := by decide +kernel
theorem dX3_setMechanism_43 : decode cX3_setMechanism 43 = .ok (.iload_n 2, 1) := by decide +kernel
theorem dX3_setMechanism_44 : decode cX3_setMechanism 44 = .ok (.putfield 52, 3) := by decide +kernel
theorem dX3_setMechanism_47 : decode cX3_setMechanism 47 = .ok (.iload 4, 2) := by decide +kernel
theorem dX3_setMechanism_49 : decode cX3_setMechanism 49 = .ok (.ireturn, 1) := by decide +kernel
set_option maxRecDepth 20000 in
theorem ggX3_setPosition_X3_isTrain : GoodIn wsX3_setPosition wsX3_isTrain := goodIn_r _ [6] (by decide +kernel) (by decide +kernel)
set_option maxRecDepth 20000 in
theorem gX3_setPosition_X3_isTrain : GoodIn wsX3_setPosition (va_wsS RX3 37 yX3_isTrain wsX3_isTrain) := goodIn_app (goodIn_of _ (by decide +kernel)) ggX3_setPosition_X3_isTrain
set_option maxRecDepth 20000 in
theorem ggX3_setPosition_X0_trainOf : GoodIn wsX3_setPosition wsX0_trainOf := goodIn_r _ [11, 12, 13, 76, 77, 78, 79, 80, 81, 82] (by decide +kernel) (by decide +kernel)
set_option maxRecDepth 20000 in
theorem gX3_setPosition_X0_trainOf : GoodIn wsX3_setPosition (wsV RX3 48 RX0 yX0_trainOf wsX0_trainOf) := goodIn_app (goodIn_of _ (by decide +kernel)) ggX3_setPosition_X0_trainOf
set_option maxRecDepth 20000 in
theorem ggX3_setPosition_X2_lastPosition : GoodIn wsX3_setPosition wsX2_lastPosition := goodIn_r _ [18, 19, 70, 71, 72, 73, 74, 75] (by decide +kernel) (by decide +kernel)
set_option maxRecDepth 20000 in
theorem gX3_setPosition_X2_lastPosition : GoodIn wsX3_setPosition (wsV RX3 55 RX2 yX2_lastPosition wsX2_lastPosition) := goodIn_app (goodIn_of _ (by decide +kernel)) ggX3_setPosition_X2_lastPosition
set_option maxRecDepth 20000 in
theorem ggX3_setPosition_X3_refuse : GoodIn wsX3_setPosition wsX3_refuse := goodIn_r _ [23, 24, 25, 26, 5, 27, 65, 66, 67, 68, 69] (by decide +kernel) (by decide +kernel)
set_option maxRecDepth 20000 in
theorem gX3_setPosition_X3_refuse : GoodIn wsX3_setPosition (wsV RX3 41 RX3 yX3_refuse wsX3_refuse) := goodIn_app (goodIn_of _ (by decide +kernel)) ggX3_setPosition_X3_refuse
set_option maxRecDepth 20000 in
theorem ggX3_setPosition_X3_save : GoodIn wsX3_setPosition wsX3_save := goodIn_r _ [31, 32, 33, 1, 34, 35, 36, 5, 37, 38, 39, 40, 10, 41, 12, 13, 42, 43, 44, 45, 46, 47, 48, 49, 17, 50, 19, 51, 52, 53, 54, 55, 56, 57, 58, 59, 60, 61, 62, 63, 64, 65, 66, 67, 68, 69, 76, 77, 78, 79, 80, 81, 82, 70, 71, 72, 73, 74, 75, 83, 84, 85, 86] (by decide +kernel) (by decide +kernel)
set_option maxRecDepth 20000 in
theorem gX3_setPosition_X3_save : GoodIn wsX3_setPosition (wsV RX3 45 RX3 yX3_save wsX3_save) := goodIn_app (goodIn_of _ (by decide +kernel)) ggX3_setPosition_X3_save
theorem dX3_setPosition_0 : decode cX3_setPosition 0 = .ok (.iload_n 1, 1) := by decide +kernel
theorem dX3_setPosition_1 : decode cX3_setPosition 1 = .ok (.invokestatic 37, 3) := by decide +kernel
theorem dX3_setPosition_4 : decode cX3_setPosition 4 = .ok (.ifCond .eq 23, 3) := by decide +kernel
theorem dX3_setPosition_7 : decode cX3_setPosition 7 = .ok (.iload_n 2, 1) := by decide +kernel
theorem dX3_setPosition_8 : decode cX3_setPosition 8 = .ok (.iconst 1, 1) := by decide +kernel
theorem dX3_setPosition_9 : decode cX3_setPosition 9 = .ok (.if_icmp .lt 18, 3) := by decide +kernel
theorem dX3_setPosition_12 : decode cX3_setPosition 12 = .ok (.iload_n 2, 1) := by decide +kernel
theorem dX3_setPosition_13 : decode cX3_setPosition 13 = .ok (.aload_n 0, 1) := by decide +kernel
theorem dX3_setPosition_14 : decode cX3_setPosition 14 = .ok (.getfield 10, 3) := by decide +kernel
theorem dX3_setPosition_17 : decode cX3_setPosition 17 = .ok (.iload_n 1, 1) := by decide +kernel
end
section
theorem dX3_setPosition_18 : decode cX3_setPosition 18 = .ok (.invokevirtual 48, 3) := by decide +kernel
theorem dX3_setPosition_21 : decode cX3_setPosition 21 = .ok (.invokevirtual 55, 3) := by decide +kernel
theorem dX3_setPosition_24 : decode cX3_setPosition 24 = .ok (.if_icmp .le 10, 3) := by decide +kernel
theorem dX3_setPosition_27 : decode cX3_setPosition 27 = .ok (.aload_n 0, 1) := by decide +kernel
theorem dX3_setPosition_28 : decode cX3_setPosition 28 = .ok (.bipush (-2), 2) := by decide +kernel
theorem dX3_setPosition_30 : decode cX3_setPosition 30 = .ok (.invokevirtual 41, 3) := by decide +kernel
theorem dX3_setPosition_33 : decode cX3_setPosition 33 = .ok (.ireturn, 1) := by decide +kernel
theorem dX3_setPosition_34 : decode cX3_setPosition 34 = .ok (.aload_n 0, 1) := by decide +kernel
theorem dX3_setPosition_35 : decode cX3_setPosition 35 = .ok (.invokevirtual 45, 3) := by decide +kernel
theorem dX3_setPosition_38 : decode cX3_setPosition 38 = .ok (.aload_n 0, 1) := by decide +kernel
theorem dX3_setPosition_39 : decode cX3_setPosition 39 = .ok (.getfield 10, 3) := by decide +kernel
theorem dX3_setPosition_42 : decode cX3_setPosition 42 = .ok (.iload_n 1, 1) := by decide +kernel
theorem dX3_setPosition_43 : decode cX3_setPosition 43 = .ok (.invokevirtual 48, 3) := by decide +kernel
theorem dX3_setPosition_46 : decode cX3_setPosition 46 = .ok (.astore_n 3, 1) := by decide +kernel
theorem dX3_setPosition_47 : decode cX3_setPosition 47 = .ok (.aload_n 3, 1) := by decide +kernel
theorem dX3_setPosition_48 : decode cX3_setPosition 48 = .ok (.getfield 59, 3) := by decide +kernel
theorem dX3_setPosition_51 : decode cX3_setPosition 51 = .ok (.istore 4, 2) := by decide +kernel
theorem dX3_setPosition_53 : decode cX3_setPosition 53 = .ok (.aload_n 3, 1) := by decide +kernel
theorem dX3_setPosition_54 : decode cX3_setPosition 54 = .ok (.iload_n 2, 1) := by decide +kernel
theorem dX3_setPosition_55 : decode cX3_setPosition 55 = .ok (.putfield 59, 3) := by decide +kernel
theorem dX3_setPosition_58 : decode cX3_setPosition 58 = .ok (.iload 4, 2) := by decide +kernel
theorem dX3_setPosition_60 : decode cX3_setPosition 60 = .ok (.ireturn, 1) := by decide +kernel
set_option maxRecDepth 20000 in
theorem ggX3_setSilence_X3_isMinute : GoodIn wsX3_setSilence wsX3_isMinute := goodIn_r _ [8] (by decide +kernel) (by decide +kernel)
set_option maxRecDepth 20000 in
theorem gX3_setSilence_X3_isMinute : GoodIn wsX3_setSilence (va_wsS RX3 62 yX3_isMinute wsX3_isMinute) := goodIn_app (goodIn_of _ (by decide +kernel)) ggX3_setSilence_X3_isMinute
set_option maxRecDepth 20000 in
theorem ggX3_setSilence_X3_refuse : GoodIn wsX3_setSilence wsX3_refuse := goodIn_r _ [12, 13, 14, 15, 7, 16, 59, 60, 61, 62, 63] (by decide +kernel) (by decide +kernel)
set_option maxRecDepth 20000 in
theorem gX3_setSilence_X3_refuse : GoodIn wsX3_setSilence (wsV RX3 41 RX3 yX3_refuse wsX3_refuse) := goodIn_app (goodIn_of _ (by decide +kernel)) ggX3_setSilence_X3_refuse
set_option maxRecDepth 20000 in
theorem ggX3_setSilence_X3_save : GoodIn wsX3_setSilence wsX3_save := goodIn_r _ [20, 21, 22, 1, 23, 24, 25, 7, 26, 27, 28, 29, 30, 31, 32, 33, 34, 35, 36, 37, 38, 39, 40, 41, 42, 43, 44, 45, 46, 47, 48, 49, 50, 51, 52, 53, 54, 55, 56, 57, 58, 59, 60, 61, 62, 63, 64, 65, 66, 67, 68, 69, 70, 71, 72, 73, 74, 75, 76, 77, 78, 79, 80] (by decide +kernel) (by decide +kernel)
set_option maxRecDepth 20000 in
theorem gX3_setSilence_X3_save : GoodIn wsX3_setSilence (wsV RX3 45 RX3 yX3_save wsX3_save) := goodIn_app (goodIn_of _ (by decide +kernel)) ggX3_setSilence_X3_save
theorem dX3_setSilence_0 : decode cX3_setSilence 0 = .ok (.iload_n 1, 1) := by decide +kernel
theorem dX3_setSilence_1 : decode cX3_setSilence 1 = .ok (.ifCond .lt 12, 3) := by decide +kernel
theorem dX3_setSilence_4 : decode cX3_setSilence 4 = .ok (.iload_n 1, 1) := by decide +kernel
theorem dX3_setSilence_5 : decode cX3_setSilence 5 = .ok (.iconst 2, 1) := by decide +kernel
theorem dX3_setSilence_6 : decode cX3_setSilence 6 = .ok (.if_icmp .gt 7, 3) := by decide +kernel
theorem dX3_setSilence_9 : decode cX3_setSilence 9 = .ok (.iconst 1, 1) := by decide +kernel
theorem dX3_setSilence_10 : decode cX3_setSilence 10 = .ok (.goto 4, 3) := by decide +kernel
theorem dX3_setSilence_13 : decode cX3_setSilence 13 = .ok (.iconst 0, 1) := by decide +kernel
theorem dX3_setSilence_14 : decode cX3_setSilence 14 = .ok (.istore 4, 2) := by decide +kernel
theorem dX3_setSilence_16 : decode cX3_setSilence 16 = .ok (.iload 4, 2) := by decide +kernel
theorem dX3_setSilence_18 : decode cX3_setSilence 18 = .ok (.ifCond .eq 17, 3) := by decide +kernel
theorem dX3_setSilence_21 : decode cX3_setSilence 21 = .ok (.iload_n 2, 1) := by decide +kernel
theorem dX3_setSilence_22 : decode cX3_setSilence 22 = .ok (.invokestatic 62, 3) := by decide +kernel
theorem dX3_setSilence_25 : decode cX3_setSilence 25 = .ok (.ifCond .eq 10, 3) := by decide +kernel
theorem dX3_setSilence_28 : decode cX3_setSilence 28 = .ok (.iload_n 3, 1) := by decide +kernel
theorem dX3_setSilence_29 : decode cX3_setSilence 29 = .ok (.invokestatic 62, 3) := by decide +kernel
theorem dX3_setSilence_32 : decode cX3_setSilence 32 = .ok (.ifCond .ne 10, 3) := by decide +kernel
theorem dX3_setSilence_35 : decode cX3_setSilence 35 = .ok (.aload_n 0, 1) := by decide +kernel
theorem dX3_setSilence_36 : decode cX3_setSilence 36 = .ok (.bipush (-2), 2) := by decide +kernel
theorem dX3_setSilence_38 : decode cX3_setSilence 38 = .ok (.invokevirtual 41, 3) := by decide +kernel
theorem dX3_setSilence_41 : decode cX3_setSilence 41 = .ok (.ireturn, 1) := by decide +kernel
theorem dX3_setSilence_42 : decode cX3_setSilence 42 = .ok (.aload_n 0, 1) := by decide +kernel
theorem dX3_setSilence_43 : decode cX3_setSilence 43 = .ok (.invokevirtual 45, 3) := by decide +kernel
theorem dX3_setSilence_46 : decode cX3_setSilence 46 = .ok (.aload_n 0, 1) := by decide +kernel
theorem dX3_setSilence_47 : decode cX3_setSilence 47 = .ok (.getfield 10, 3) := by decide +kernel
theorem dX3_setSilence_50 : decode cX3_setSilence 50 = .ok (.getfield 65, 3) := by decide +kernel
theorem dX3_setSilence_53 : decode cX3_setSilence 53 = .ok (.istore 5, 2) := by decide +kernel
theorem dX3_setSilence_55 : decode cX3_setSilence 55 = .ok (.aload_n 0, 1) := by decide +kernel
theorem dX3_setSilence_56 : decode cX3_setSilence 56 = .ok (.getfield 10, 3) := by decide +kernel
theorem dX3_setSilence_59 : decode cX3_setSilence 59 = .ok (.iload_n 1, 1) := by decide +kernel
theorem dX3_setSilence_60 : decode cX3_setSilence 60 = .ok (.putfield 65, 3) := by decide +kernel
theorem dX3_setSilence_63 : decode cX3_setSilence 63 = .ok (.aload_n 0, 1) := by decide +kernel
theorem dX3_setSilence_64 : decode cX3_setSilence 64 = .ok (.getfield 10, 3) := by decide +kernel
theorem dX3_setSilence_67 : decode cX3_setSilence 67 = .ok (.iload_n 2, 1) := by decide +kernel
theorem dX3_setSilence_68 : decode cX3_setSilence 68 = .ok (.putfield 68, 3) := by decide +kernel
theorem dX3_setSilence_71 : decode cX3_setSilence 71 = .ok (.aload_n 0, 1) := by decide +kernel
theorem dX3_setSilence_72 : decode cX3_setSilence 72 = .ok (.getfield 10, 3) := by decide +kernel
theorem dX3_setSilence_75 : decode cX3_setSilence 75 = .ok (.iload_n 3, 1) := by decide +kernel
theorem dX3_setSilence_76 : decode cX3_setSilence 76 = .ok (.putfield 71, 3) := by decide +kernel
theorem dX3_setSilence_79 : decode cX3_setSilence 79 = .ok (.iload 5, 2) := by decide +kernel
theorem dX3_setSilence_81 : decode cX3_setSilence 81 = .ok (.ireturn, 1) := by decide +kernel
set_option maxRecDepth 20000 in
theorem ggX3_wind_X3_isTrain : GoodIn wsX3_wind wsX3_isTrain := goodIn_r _ [10] (by decide +kernel) (by decide +kernel)
set_option maxRecDepth 20000 in
theorem gX3_wind_X3_isTrain : GoodIn wsX3_wind (va_wsS RX3 37 yX3_isTrain wsX3_isTrain) := goodIn_app (goodIn_of _ (by decide +kernel)) ggX3_wind_X3_isTrain
set_option maxRecDepth 20000 in
theorem ggX3_wind_X3_refuse : GoodIn wsX3_wind wsX3_refuse := goodIn_r _ [14, 15, 16, 17, 9, 18, 65, 66, 67, 68, 69] (by decide +kernel) (by decide +kernel)
set_option maxRecDepth 20000 in
theorem gX3_wind_X3_refuse : GoodIn wsX3_wind (wsV RX3 41 RX3 yX3_refuse wsX3_refuse) := goodIn_app (goodIn_of _ (by decide +kernel)) ggX3_wind_X3_refuse
set_option maxRecDepth 20000 in
theorem ggX3_wind_X3_save : GoodIn wsX3_wind wsX3_save := goodIn_r _ [22, 23, 24, 1, 25, 26, 27, 9, 28, 29, 30, 31, 32, 33, 34, 35, 36, 37, 38, 39, 40, 41, 42, 43, 44, 45, 46, 47, 48, 49, 50, 51, 52, 53, 54, 55, 56, 57, 58, 59, 60, 65, 66, 67, 68, 69, 76, 77, 78, 79, 80, 81, 82, 70, 71, 72, 73, 74, 75, 83, 84, 85, 86] (by decide +kernel) (by decide +kernel)
set_option maxRecDepth 20000 in
theorem gX3_wind_X3_save : GoodIn wsX3_wind (wsV RX3 45 RX3 yX3_save wsX3_save) := goodIn_app (goodIn_of _ (by decide +kernel)) ggX3_wind_X3_save
set_option maxRecDepth 20000 in
theorem ggX3_wind_X0_trainOf : GoodIn wsX3_wind wsX0_trainOf := goodIn_r _ [64, 34, 35, 76, 77, 78, 79, 80, 81, 82] (by decide +kernel) (by decide +kernel)
set_option maxRecDepth 20000 in
theorem gX3_wind_X0_trainOf : GoodIn wsX3_wind (wsV RX3 48 RX0 yX0_trainOf wsX0_trainOf) := goodIn_app (goodIn_of _ (by decide +kernel)) ggX3_wind_X0_trainOf
theorem dX3_wind_0 : decode cX3_wind 0 = .ok (.iload_n 1, 1) := by decide +kernel
theorem dX3_wind_1 : decode cX3_wind 1 = .ok (.invokestatic 37, 3) := by decide +kernel
theorem dX3_wind_4 : decode cX3_wind 4 = .ok (.ifCond .eq 15, 3) := by decide +kernel
theorem dX3_wind_7 : decode cX3_wind 7 = .ok (.iload_n 2, 1) := by decide +kernel
theorem dX3_wind_8 : decode cX3_wind 8 = .ok (.iconst 1, 1) := by decide +kernel
theorem dX3_wind_9 : decode cX3_wind 9 = .ok (.if_icmp .lt 10, 3) := by decide +kernel
theorem dX3_wind_12 : decode cX3_wind 12 = .ok (.iload_n 2, 1) := by decide +kernel
theorem dX3_wind_13 : decode cX3_wind 13 = .ok (.sipush 2000, 3) := by decide +kernel
theorem dX3_wind_16 : decode cX3_wind 16 = .ok (.if_icmp .le 10, 3) := by decide +kernel
theorem dX3_wind_19 : decode cX3_wind 19 = .ok (.aload_n 0, 1) := by decide +kernel
theorem dX3_wind_20 : decode cX3_wind 20 = .ok (.bipush (-2), 2) := by decide +kernel
theorem dX3_wind_22 : decode cX3_wind 22 = .ok (.invokevirtual 41, 3) := by decide +kernel
theorem dX3_wind_25 : decode cX3_wind 25 = .ok (.ireturn, 1) := by decide +kernel
theorem dX3_wind_26 : decode cX3_wind 26 = .ok (.aload_n 0, 1) := by decide +kernel
theorem dX3_wind_27 : decode cX3_wind 27 = .ok (.invokevirtual 45, 3) := by decide +kernel
theorem dX3_wind_30 : decode cX3_wind 30 = .ok (.aload_n 0, 1) := by decide +kernel
theorem dX3_wind_31 : decode cX3_wind 31 = .ok (.getfield 10, 3) := by decide +kernel
theorem dX3_wind_34 : decode cX3_wind 34 = .ok (.iload_n 1, 1) := by decide +kernel
theorem dX3_wind_35 : decode cX3_wind 35 = .ok (.invokevirtual 48, 3) := by decide +kernel
theorem dX3_wind_38 : decode cX3_wind 38 = .ok (.astore_n 3, 1) := by decide +kernel
theorem dX3_wind_39 : decode cX3_wind 39 = .ok (.iload_n 2, 1) := by decide +kernel
theorem dX3_wind_40 : decode cX3_wind 40 = .ok (.sipush 2000, 3) := by decide +kernel
theorem dX3_wind_43 : decode cX3_wind 43 = .ok (.aload_n 3, 1) := by decide +kernel
theorem dX3_wind_44 : decode cX3_wind 44 = .ok (.getfield 74, 3) := by decide +kernel
theorem dX3_wind_47 : decode cX3_wind 47 = .ok (.isub, 1) := by decide +kernel
theorem dX3_wind_48 : decode cX3_wind 48 = .ok (.invokestatic 77, 3) := by decide +kernel
theorem dX3_wind_51 : decode cX3_wind 51 = .ok (.istore 4, 2) := by decide +kernel
theorem dX3_wind_53 : decode cX3_wind 53 = .ok (.aload_n 3, 1) := by decide +kernel
theorem dX3_wind_54 : decode cX3_wind 54 = .ok (.dup, 1) := by decide +kernel
theorem dX3_wind_55 : decode cX3_wind 55 = .ok (.getfield 74, 3) := by decide +kernel
theorem dX3_wind_58 : decode cX3_wind 58 = .ok (.iload 4, 2) := by decide +kernel
theorem dX3_wind_60 : decode cX3_wind 60 = .ok (.iadd, 1) := by decide +kernel
theorem dX3_wind_61 : decode cX3_wind 61 = .ok (.putfield 74, 3) := by decide +kernel
theorem dX3_wind_64 : decode cX3_wind 64 = .ok (.iload 4, 2) := by decide +kernel
theorem dX3_wind_66 : decode cX3_wind 66 = .ok (.ireturn, 1) := by decide +kernel
set_option maxRecDepth 20000 in
theorem ggX3_run_X3_refuse : GoodIn wsX3_run wsX3_refuse := goodIn_r _ [7, 8, 9, 10, 6, 11, 116, 117, 118, 119, 120] (by decide +kernel) (by decide +kernel)
set_option maxRecDepth 20000 in
theorem gX3_run_X3_refuse : GoodIn wsX3_run (wsV RX3 41 RX3 yX3_refuse wsX3_refuse) := goodIn_app (goodIn_of _ (by decide +kernel)) ggX3_run_X3_refuse
set_option maxRecDepth 20000 in
theorem ggX3_run_X3_save : GoodIn wsX3_run wsX3_save := goodIn_r _ [15, 16, 17, 1, 18, 19, 20, 6, 21, 22, 23, 24, 25, 26, 27, 28, 29, 30, 31, 32, 33, 34, 35, 36, 37, 38, 39, 40, 41, 42, 43, 44, 45, 46, 47, 48, 49, 50, 51, 52, 53, 116, 117, 118, 119, 120, 121, 122, 123, 124, 125, 126, 127, 128, 129, 130, 131, 132, 133, 134, 135, 136, 137] (by decide +kernel) (by decide +kernel)
set_option maxRecDepth 20000 in
theorem gX3_run_X3_save : GoodIn wsX3_run (wsV RX3 45 RX3 yX3_save wsX3_save) := goodIn_app (goodIn_of _ (by decide +kernel)) ggX3_run_X3_save
set_option maxRecDepth 20000 in
theorem ggX3_run_X3_strikeQuarter : GoodIn wsX3_run wsX3_strikeQuarter := goodIn_r _ [57, 1, 2, 58, 59, 60, 61, 62, 25, 63, 31, 64, 65, 66, 67, 32, 33, 68, 69, 70, 71, 37, 72, 39, 73, 74, 75, 76, 77, 78, 79, 6, 80, 81, 82, 83, 84, 85, 86, 87, 40, 44, 42, 41, 88, 89, 90, 91, 92, 93, 94, 95, 96, 97, 98, 99, 100, 101, 102, 48, 103, 50, 51, 52, 53, 104, 105, 106, 107, 108, 109, 110, 111, 112, 113, 114, 115, 116, 117, 118, 119, 120, 121, 122, 123, 124, 125, 126, 127, 128, 129, 130, 131, 132, 133, 134, 135, 136, 137] (by decide +kernel) (by decide +kernel)
set_option maxRecDepth 20000 in
theorem gX3_run_X3_strikeQuarter : GoodIn wsX3_run (wsV RX3 86 RX3 yX3_strikeQuarter wsX3_strikeQuarter) := goodIn_app (goodIn_of _ (by decide +kernel)) ggX3_run_X3_strikeQuarter
theorem dX3_run_0 : decode cX3_run 0 = .ok (.iload_n 1, 1) := by decide +kernel
theorem dX3_run_1 : decode cX3_run 1 = .ok (.ifCond .lt 10, 3) := by decide +kernel
theorem dX3_run_4 : decode cX3_run 4 = .ok (.iload_n 1, 1) := by decide +kernel
theorem dX3_run_5 : decode cX3_run 5 = .ok (.sipush 1440, 3) := by decide +kernel
theorem dX3_run_8 : decode cX3_run 8 = .ok (.if_icmp .le 10, 3) := by decide +kernel
theorem dX3_run_11 : decode cX3_run 11 = .ok (.aload_n 0, 1) := by decide +kernel
theorem dX3_run_12 : decode cX3_run 12 = .ok (.bipush (-2), 2) := by decide +kernel
theorem dX3_run_14 : decode cX3_run 14 = .ok (.invokevirtual 41, 3) := by decide +kernel
theorem dX3_run_17 : decode cX3_run 17 = .ok (.ireturn, 1) := by decide +kernel
theorem dX3_run_18 : decode cX3_run 18 = .ok (.aload_n 0, 1) := by decide +kernel
theorem dX3_run_19 : decode cX3_run 19 = .ok (.invokevirtual 45, 3) := by decide +kernel
theorem dX3_run_22 : decode cX3_run 22 = .ok (.aload_n 0, 1) := by decide +kernel
theorem dX3_run_23 : decode cX3_run 23 = .ok (.getfield 10, 3) := by decide +kernel
theorem dX3_run_26 : decode cX3_run 26 = .ok (.getfield 83, 3) := by decide +kernel
theorem dX3_run_29 : decode cX3_run 29 = .ok (.istore_n 2, 1) := by decide +kernel
theorem dX3_run_30 : decode cX3_run 30 = .ok (.iconst 0, 1) := by decide +kernel
theorem dX3_run_31 : decode cX3_run 31 = .ok (.istore_n 3, 1) := by decide +kernel
theorem dX3_run_32 : decode cX3_run 32 = .ok (.bipush 15, 2) := by decide +kernel
theorem dX3_run_34 : decode cX3_run 34 = .ok (.iload_n 2, 1) := by decide +kernel
theorem dX3_run_35 : decode cX3_run 35 = .ok (.bipush 15, 2) := by decide +kernel
theorem dX3_run_37 : decode cX3_run 37 = .ok (.irem, 1) := by decide +kernel
theorem dX3_run_38 : decode cX3_run 38 = .ok (.isub, 1) := by decide +kernel
theorem dX3_run_39 : decode cX3_run 39 = .ok (.istore 4, 2) := by decide +kernel
theorem dX3_run_41 : decode cX3_run 41 = .ok (.iload 4, 2) := by decide +kernel
theorem dX3_run_43 : decode cX3_run 43 = .ok (.iload_n 1, 1) := by decide +kernel
theorem dX3_run_44 : decode cX3_run 44 = .ok (.if_icmp .gt 31, 3) := by decide +kernel
theorem dX3_run_47 : decode cX3_run 47 = .ok (.aload_n 0, 1) := by decide +kernel
theorem dX3_run_48 : decode cX3_run 48 = .ok (.getfield 10, 3) := by decide +kernel
theorem dX3_run_51 : decode cX3_run 51 = .ok (.iload_n 2, 1) := by decide +kernel
theorem dX3_run_52 : decode cX3_run 52 = .ok (.iload 4, 2) := by decide +kernel
theorem dX3_run_54 : decode cX3_run 54 = .ok (.iadd, 1) := by decide +kernel
theorem dX3_run_55 : decode cX3_run 55 = .ok (.sipush 1440, 3) := by decide +kernel
theorem dX3_run_58 : decode cX3_run 58 = .ok (.irem, 1) := by decide +kernel
theorem dX3_run_59 : decode cX3_run 59 = .ok (.putfield 83, 3) := by decide +kernel
theorem dX3_run_62 : decode cX3_run 62 = .ok (.iload_n 3, 1) := by decide +kernel
theorem dX3_run_63 : decode cX3_run 63 = .ok (.aload_n 0, 1) := by decide +kernel
theorem dX3_run_64 : decode cX3_run 64 = .ok (.invokevirtual 86, 3) := by decide +kernel
theorem dX3_run_67 : decode cX3_run 67 = .ok (.iadd, 1) := by decide +kernel
theorem dX3_run_68 : decode cX3_run 68 = .ok (.istore_n 3, 1) := by decide +kernel
theorem dX3_run_69 : decode cX3_run 69 = .ok (.iinc 4 15, 3) := by decide +kernel
theorem dX3_run_72 : decode cX3_run 72 = .ok (.goto (-31), 3) := by decide +kernel
theorem dX3_run_75 : decode cX3_run 75 = .ok (.aload_n 0, 1) := by decide +kernel
theorem dX3_run_76 : decode cX3_run 76 = .ok (.getfield 10, 3) := by decide +kernel
theorem dX3_run_79 : decode cX3_run 79 = .ok (.iload_n 2, 1) := by decide +kernel
theorem dX3_run_80 : decode cX3_run 80 = .ok (.iload_n 1, 1) := by decide +kernel
theorem dX3_run_81 : decode cX3_run 81 = .ok (.iadd, 1) := by decide +kernel
theorem dX3_run_82 : decode cX3_run 82 = .ok (.sipush 1440, 3) := by decide +kernel
theorem dX3_run_85 : decode cX3_run 85 = .ok (.irem, 1) := by decide +kernel
theorem dX3_run_86 : decode cX3_run 86 = .ok (.putfield 83, 3) := by decide +kernel
theorem dX3_run_89 : decode cX3_run 89 = .ok (.iload_n 3, 1) := by decide +kernel
theorem dX3_run_90 : decode cX3_run 90 = .ok (.ireturn, 1) := by decide +kernel
set_option maxRecDepth 20000 in
theorem ggX3_setHands_X3_isMinute : GoodIn wsX3_setHands wsX3_isMinute := goodIn_r _ [6] (by decide +kernel) (by decide +kernel)
set_option maxRecDepth 20000 in
theorem gX3_setHands_X3_isMinute : GoodIn wsX3_setHands (va_wsS RX3 62 yX3_isMinute wsX3_isMinute) := goodIn_app (goodIn_of _ (by decide +kernel)) ggX3_setHands_X3_isMinute
set_option maxRecDepth 20000 in
theorem ggX3_setHands_X3_refuse : GoodIn wsX3_setHands wsX3_refuse := goodIn_r _ [10, 11, 12, 13, 5, 14, 57, 58, 59, 60, 61] (by decide +kernel) (by decide +kernel)
set_option maxRecDepth 20000 in
theorem gX3_setHands_X3_refuse : GoodIn wsX3_setHands (wsV RX3 41 RX3 yX3_refuse wsX3_refuse) := goodIn_app (goodIn_of _ (by decide +kernel)) ggX3_setHands_X3_refuse
set_option maxRecDepth 20000 in
theorem ggX3_setHands_X3_save : GoodIn wsX3_setHands wsX3_save := goodIn_r _ [18, 19, 20, 1, 21, 22, 23, 5, 24, 25, 26, 27, 28, 29, 30, 31, 32, 33, 34, 35, 36, 37, 38, 39, 40, 41, 42, 43, 44, 45, 46, 47, 48, 49, 50, 51, 52, 53, 54, 55, 56, 57, 58, 59, 60, 61, 62, 63, 64, 65, 66, 67, 68, 69, 70, 71, 72, 73, 74, 75, 76, 77, 78] (by decide +kernel) (by decide +kernel)
set_option maxRecDepth 20000 in
theorem gX3_setHands_X3_save : GoodIn wsX3_setHands (wsV RX3 45 RX3 yX3_save wsX3_save) := goodIn_app (goodIn_of _ (by decide +kernel)) ggX3_setHands_X3_save
theorem dX3_setHands_0 : decode cX3_setHands 0 = .ok (.iload_n 1, 1) := by decide +kernel
theorem dX3_setHands_1 : decode cX3_setHands 1 = .ok (.invokestatic 62, 3) := by decide +kernel
theorem dX3_setHands_4 : decode cX3_setHands 4 = .ok (.ifCond .ne 10, 3) := by decide +kernel
theorem dX3_setHands_7 : decode cX3_setHands 7 = .ok (.aload_n 0, 1) := by decide +kernel
theorem dX3_setHands_8 : decode cX3_setHands 8 = .ok (.bipush (-2), 2) := by decide +kernel
theorem dX3_setHands_10 : decode cX3_setHands 10 = .ok (.invokevirtual 41, 3) := by decide +kernel
theorem dX3_setHands_13 : decode cX3_setHands 13 = .ok (.ireturn, 1) := by decide +kernel
theorem dX3_setHands_14 : decode cX3_setHands 14 = .ok (.aload_n 0, 1) := by decide +kernel
theorem dX3_setHands_15 : decode cX3_setHands 15 = .ok (.invokevirtual 45, 3) := by decide +kernel
theorem dX3_setHands_18 : decode cX3_setHands 18 = .ok (.aload_n 0, 1) := by decide +kernel
theorem dX3_setHands_19 : decode cX3_setHands 19 = .ok (.getfield 10, 3) := by decide +kernel
theorem dX3_setHands_22 : decode cX3_setHands 22 = .ok (.getfield 83, 3) := by decide +kernel
theorem dX3_setHands_25 : decode cX3_setHands 25 = .ok (.istore_n 2, 1) := by decide +kernel
theorem dX3_setHands_26 : decode cX3_setHands 26 = .ok (.aload_n 0, 1) := by decide +kernel
theorem dX3_setHands_27 : decode cX3_setHands 27 = .ok (.getfield 10, 3) := by decide +kernel
theorem dX3_setHands_30 : decode cX3_setHands 30 = .ok (.iload_n 1, 1) := by decide +kernel
theorem dX3_setHands_31 : decode cX3_setHands 31 = .ok (.putfield 83, 3) := by decide +kernel
theorem dX3_setHands_34 : decode cX3_setHands 34 = .ok (.iload_n 2, 1) := by decide +kernel
theorem dX3_setHands_35 : decode cX3_setHands 35 = .ok (.ireturn, 1) := by decide +kernel
set_option maxRecDepth 20000 in
theorem ggX3_trip_X3_isTrain : GoodIn wsX3_trip wsX3_isTrain := goodIn_r _ [6] (by decide +kernel) (by decide +kernel)
set_option maxRecDepth 20000 in
theorem gX3_trip_X3_isTrain : GoodIn wsX3_trip (va_wsS RX3 37 yX3_isTrain wsX3_isTrain) := goodIn_app (goodIn_of _ (by decide +kernel)) ggX3_trip_X3_isTrain
set_option maxRecDepth 20000 in
theorem ggX3_trip_X3_refuse : GoodIn wsX3_trip wsX3_refuse := goodIn_r _ [10, 11, 12, 13, 5, 14, 109, 110, 111, 112, 113] (by decide +kernel) (by decide +kernel)
set_option maxRecDepth 20000 in
theorem gX3_trip_X3_refuse : GoodIn wsX3_trip (wsV RX3 41 RX3 yX3_refuse wsX3_refuse) := goodIn_app (goodIn_of _ (by decide +kernel)) ggX3_trip_X3_refuse
set_option maxRecDepth 20000 in
theorem ggX3_trip_X0_trainOf : GoodIn wsX3_trip wsX0_trainOf := goodIn_r _ [19, 20, 21, 114, 115, 116, 117, 118, 119, 120] (by decide +kernel) (by decide +kernel)
set_option maxRecDepth 20000 in
theorem gX3_trip_X0_trainOf : GoodIn wsX3_trip (wsV RX3 48 RX0 yX0_trainOf wsX0_trainOf) := goodIn_app (goodIn_of _ (by decide +kernel)) ggX3_trip_X0_trainOf
set_option maxRecDepth 20000 in
theorem ggX3_trip_X2_dueAfter : GoodIn wsX3_trip wsX2_dueAfter := goodIn_r _ [26, 27, 28, 29, 25, 30, 31, 32, 33, 34, 35, 36, 37, 38, 39, 121, 122, 123, 124, 125, 126] (by decide +kernel) (by decide +kernel)
set_option maxRecDepth 20000 in
theorem gX3_trip_X2_dueAfter : GoodIn wsX3_trip (wsV RX3 89 RX2 yX2_dueAfter wsX2_dueAfter) := goodIn_app (goodIn_of _ (by decide +kernel)) ggX3_trip_X2_dueAfter
set_option maxRecDepth 20000 in
theorem ggX3_trip_X2_canStrike : GoodIn wsX3_trip wsX2_canStrike := goodIn_r _ [43, 44, 45, 46, 47, 48, 25, 49, 50, 121, 122, 123, 124, 125, 126] (by decide +kernel) (by decide +kernel)
set_option maxRecDepth 20000 in
theorem gX3_trip_X2_canStrike : GoodIn wsX3_trip (wsV RX3 92 RX2 yX2_canStrike wsX2_canStrike) := goodIn_app (goodIn_of _ (by decide +kernel)) ggX3_trip_X2_canStrike
set_option maxRecDepth 20000 in
theorem ggX3_trip_X3_save : GoodIn wsX3_trip wsX3_save := goodIn_r _ [54, 55, 56, 1, 57, 58, 59, 5, 60, 61, 62, 63, 18, 64, 20, 21, 65, 66, 67, 68, 69, 70, 71, 72, 25, 73, 31, 44, 50, 45, 74, 75, 76, 77, 78, 79, 80, 81, 82, 83, 84, 109, 110, 111, 112, 113, 114, 115, 116, 117, 118, 119, 120, 121, 122, 123, 124, 125, 126, 127, 128, 129, 130] (by decide +kernel) (by decide +kernel)
set_option maxRecDepth 20000 in
theorem gX3_trip_X3_save : GoodIn wsX3_trip (wsV RX3 45 RX3 yX3_save wsX3_save) := goodIn_app (goodIn_of _ (by decide +kernel)) ggX3_trip_X3_save
set_option maxRecDepth 20000 in
theorem ggX3_trip_X3_release : GoodIn wsX3_trip wsX3_release := goodIn_r _ [88, 1, 89, 2, 90, 91, 92, 93, 94, 25, 95, 44, 75, 45, 50, 96, 41, 42, 43, 46, 47, 48, 49, 97, 98, 99, 100, 36, 37, 38, 39, 31, 101, 102, 103, 79, 104, 81, 82, 83, 84, 105, 106, 107, 108, 109, 110, 111, 112, 113, 114, 115, 116, 117, 118, 119, 120, 121, 122, 123, 124, 125, 126, 127, 128, 129, 130] (by decide +kernel) (by decide +kernel)
set_option maxRecDepth 20000 in
theorem gX3_trip_X3_release : GoodIn wsX3_trip (wsV RX3 95 RX3 yX3_release wsX3_release) := goodIn_app (goodIn_of _ (by decide +kernel)) ggX3_trip_X3_release
theorem dX3_trip_0 : decode cX3_trip 0 = .ok (.iload_n 1, 1) := by decide +kernel
theorem dX3_trip_1 : decode cX3_trip 1 = .ok (.invokestatic 37, 3) := by decide +kernel
theorem dX3_trip_4 : decode cX3_trip 4 = .ok (.ifCond .ne 10, 3) := by decide +kernel
theorem dX3_trip_7 : decode cX3_trip 7 = .ok (.aload_n 0, 1) := by decide +kernel
theorem dX3_trip_8 : decode cX3_trip 8 = .ok (.bipush (-2), 2) := by decide +kernel
theorem dX3_trip_10 : decode cX3_trip 10 = .ok (.invokevirtual 41, 3) := by decide +kernel
theorem dX3_trip_13 : decode cX3_trip 13 = .ok (.ireturn, 1) := by decide +kernel
theorem dX3_trip_14 : decode cX3_trip 14 = .ok (.aload_n 0, 1) := by decide +kernel
theorem dX3_trip_15 : decode cX3_trip 15 = .ok (.getfield 10, 3) := by decide +kernel
theorem dX3_trip_18 : decode cX3_trip 18 = .ok (.iload_n 1, 1) := by decide +kernel
theorem dX3_trip_19 : decode cX3_trip 19 = .ok (.invokevirtual 48, 3) := by decide +kernel
theorem dX3_trip_22 : decode cX3_trip 22 = .ok (.astore_n 2, 1) := by decide +kernel
theorem dX3_trip_23 : decode cX3_trip 23 = .ok (.aload_n 2, 1) := by decide +kernel
theorem dX3_trip_24 : decode cX3_trip 24 = .ok (.aload_n 0, 1) := by decide +kernel
theorem dX3_trip_25 : decode cX3_trip 25 = .ok (.getfield 10, 3) := by decide +kernel
theorem dX3_trip_28 : decode cX3_trip 28 = .ok (.getfield 83, 3) := by decide +kernel
theorem dX3_trip_31 : decode cX3_trip 31 = .ok (.invokevirtual 89, 3) := by decide +kernel
theorem dX3_trip_34 : decode cX3_trip 34 = .ok (.istore_n 3, 1) := by decide +kernel
theorem dX3_trip_35 : decode cX3_trip 35 = .ok (.aload_n 2, 1) := by decide +kernel
theorem dX3_trip_36 : decode cX3_trip 36 = .ok (.iload_n 3, 1) := by decide +kernel
theorem dX3_trip_37 : decode cX3_trip 37 = .ok (.invokevirtual 92, 3) := by decide +kernel
theorem dX3_trip_40 : decode cX3_trip 40 = .ok (.ifCond .ne 10, 3) := by decide +kernel
theorem dX3_trip_43 : decode cX3_trip 43 = .ok (.aload_n 0, 1) := by decide +kernel
theorem dX3_trip_44 : decode cX3_trip 44 = .ok (.bipush (-3), 2) := by decide +kernel
theorem dX3_trip_46 : decode cX3_trip 46 = .ok (.invokevirtual 41, 3) := by decide +kernel
theorem dX3_trip_49 : decode cX3_trip 49 = .ok (.ireturn, 1) := by decide +kernel
theorem dX3_trip_50 : decode cX3_trip 50 = .ok (.aload_n 0, 1) := by decide +kernel
theorem dX3_trip_51 : decode cX3_trip 51 = .ok (.invokevirtual 45, 3) := by decide +kernel
theorem dX3_trip_54 : decode cX3_trip 54 = .ok (.aload_n 0, 1) := by decide +kernel
theorem dX3_trip_55 : decode cX3_trip 55 = .ok (.aload_n 2, 1) := by decide +kernel
theorem dX3_trip_56 : decode cX3_trip 56 = .ok (.iload_n 3, 1) := by decide +kernel
theorem dX3_trip_57 : decode cX3_trip 57 = .ok (.iconst 0, 1) := by decide +kernel
theorem dX3_trip_58 : decode cX3_trip 58 = .ok (.invokevirtual 95, 3) := by decide +kernel
theorem dX3_trip_61 : decode cX3_trip 61 = .ok (.ireturn, 1) := by decide +kernel
set_option maxRecDepth 20000 in
theorem ggX3_nextDue_X3_isTrain : GoodIn wsX3_nextDue wsX3_isTrain := goodIn_r _ [6] (by decide +kernel) (by decide +kernel)
set_option maxRecDepth 20000 in
theorem gX3_nextDue_X3_isTrain : GoodIn wsX3_nextDue (va_wsS RX3 37 yX3_isTrain wsX3_isTrain) := goodIn_app (goodIn_of _ (by decide +kernel)) ggX3_nextDue_X3_isTrain
set_option maxRecDepth 20000 in
theorem ggX3_nextDue_X0_trainOf : GoodIn wsX3_nextDue wsX0_trainOf := goodIn_r _ [11, 12, 13, 45, 46, 47, 48, 49, 50, 51] (by decide +kernel) (by decide +kernel)
set_option maxRecDepth 20000 in
theorem gX3_nextDue_X0_trainOf : GoodIn wsX3_nextDue (wsV RX3 48 RX0 yX0_trainOf wsX0_trainOf) := goodIn_app (goodIn_of _ (by decide +kernel)) ggX3_nextDue_X0_trainOf
set_option maxRecDepth 20000 in
theorem ggX3_nextDue_X2_dueAfter : GoodIn wsX3_nextDue wsX2_dueAfter := goodIn_r _ [18, 19, 20, 21, 17, 22, 23, 24, 25, 26, 27, 28, 29, 30, 31, 52, 53, 54, 55, 56, 57] (by decide +kernel) (by decide +kernel)
set_option maxRecDepth 20000 in
theorem gX3_nextDue_X2_dueAfter : GoodIn wsX3_nextDue (wsV RX3 89 RX2 yX2_dueAfter wsX2_dueAfter) := goodIn_app (goodIn_of _ (by decide +kernel)) ggX3_nextDue_X2_dueAfter
set_option maxRecDepth 20000 in
theorem ggX3_nextDue_X3_refuse : GoodIn wsX3_nextDue wsX3_refuse := goodIn_r _ [35, 36, 37, 38, 5, 39, 40, 41, 42, 43, 44] (by decide +kernel) (by decide +kernel)
set_option maxRecDepth 20000 in
theorem gX3_nextDue_X3_refuse : GoodIn wsX3_nextDue (wsV RX3 41 RX3 yX3_refuse wsX3_refuse) := goodIn_app (goodIn_of _ (by decide +kernel)) ggX3_nextDue_X3_refuse
theorem dX3_nextDue_0 : decode cX3_nextDue 0 = .ok (.iload_n 1, 1) := by decide +kernel
theorem dX3_nextDue_1 : decode cX3_nextDue 1 = .ok (.invokestatic 37, 3) := by decide +kernel
theorem dX3_nextDue_4 : decode cX3_nextDue 4 = .ok (.ifCond .eq 24, 3) := by decide +kernel
theorem dX3_nextDue_7 : decode cX3_nextDue 7 = .ok (.aload_n 0, 1) := by decide +kernel
theorem dX3_nextDue_8 : decode cX3_nextDue 8 = .ok (.getfield 10, 3) := by decide +kernel
theorem dX3_nextDue_11 : decode cX3_nextDue 11 = .ok (.iload_n 1, 1) := by decide +kernel
theorem dX3_nextDue_12 : decode cX3_nextDue 12 = .ok (.invokevirtual 48, 3) := by decide +kernel
theorem dX3_nextDue_15 : decode cX3_nextDue 15 = .ok (.aload_n 0, 1) := by decide +kernel
theorem dX3_nextDue_16 : decode cX3_nextDue 16 = .ok (.getfield 10, 3) := by decide +kernel
theorem dX3_nextDue_19 : decode cX3_nextDue 19 = .ok (.getfield 83, 3) := by decide +kernel
theorem dX3_nextDue_22 : decode cX3_nextDue 22 = .ok (.invokevirtual 89, 3) := by decide +kernel
theorem dX3_nextDue_25 : decode cX3_nextDue 25 = .ok (.goto 9, 3) := by decide +kernel
theorem dX3_nextDue_28 : decode cX3_nextDue 28 = .ok (.aload_n 0, 1) := by decide +kernel
theorem dX3_nextDue_29 : decode cX3_nextDue 29 = .ok (.bipush (-2), 2) := by decide +kernel
theorem dX3_nextDue_31 : decode cX3_nextDue 31 = .ok (.invokevirtual 41, 3) := by decide +kernel
theorem dX3_nextDue_34 : decode cX3_nextDue 34 = .ok (.ireturn, 1) := by decide +kernel
set_option maxRecDepth 20000 in
theorem ggX3_lag_X3_isTrain : GoodIn wsX3_lag wsX3_isTrain := goodIn_r _ [6] (by decide +kernel) (by decide +kernel)
set_option maxRecDepth 20000 in
theorem gX3_lag_X3_isTrain : GoodIn wsX3_lag (va_wsS RX3 37 yX3_isTrain wsX3_isTrain) := goodIn_app (goodIn_of _ (by decide +kernel)) ggX3_lag_X3_isTrain
set_option maxRecDepth 20000 in
theorem ggX3_lag_X0_trainOf : GoodIn wsX3_lag wsX0_trainOf := goodIn_r _ [11, 12, 13, 51, 52, 53, 54, 55, 56, 57] (by decide +kernel) (by decide +kernel)
set_option maxRecDepth 20000 in
theorem gX3_lag_X0_trainOf : GoodIn wsX3_lag (wsV RX3 48 RX0 yX0_trainOf wsX0_trainOf) := goodIn_app (goodIn_of _ (by decide +kernel)) ggX3_lag_X0_trainOf
set_option maxRecDepth 20000 in
theorem ggX3_lag_X2_lagAt : GoodIn wsX3_lag wsX2_lagAt := goodIn_r _ [18, 19, 20, 21, 22, 23, 17, 24, 25, 26, 27, 28, 29, 30, 31, 32, 33, 34, 35, 36, 37, 58, 59, 60, 61, 62, 63] (by decide +kernel) (by decide +kernel)
set_option maxRecDepth 20000 in
theorem gX3_lag_X2_lagAt : GoodIn wsX3_lag (wsV RX3 99 RX2 yX2_lagAt wsX2_lagAt) := goodIn_app (goodIn_of _ (by decide +kernel)) ggX3_lag_X2_lagAt
set_option maxRecDepth 20000 in
theorem ggX3_lag_X3_refuse : GoodIn wsX3_lag wsX3_refuse := goodIn_r _ [41, 42, 43, 44, 5, 45, 46, 47, 48, 49, 50] (by decide +kernel) (by decide +kernel)
set_option maxRecDepth 20000 in
theorem gX3_lag_X3_refuse : GoodIn wsX3_lag (wsV RX3 41 RX3 yX3_refuse wsX3_refuse) := goodIn_app (goodIn_of _ (by decide +kernel)) ggX3_lag_X3_refuse
theorem dX3_lag_0 : decode cX3_lag 0 = .ok (.iload_n 1, 1) := by decide +kernel
theorem dX3_lag_1 : decode cX3_lag 1 = .ok (.invokestatic 37, 3) := by decide +kernel
theorem dX3_lag_4 : decode cX3_lag 4 = .ok (.ifCond .eq 24, 3) := by decide +kernel
theorem dX3_lag_7 : decode cX3_lag 7 = .ok (.aload_n 0, 1) := by decide +kernel
theorem dX3_lag_8 : decode cX3_lag 8 = .ok (.getfield 10, 3) := by decide +kernel
theorem dX3_lag_11 : decode cX3_lag 11 = .ok (.iload_n 1, 1) := by decide +kernel
theorem dX3_lag_12 : decode cX3_lag 12 = .ok (.invokevirtual 48, 3) := by decide +kernel
theorem dX3_lag_15 : decode cX3_lag 15 = .ok (.aload_n 0, 1) := by decide +kernel
theorem dX3_lag_16 : decode cX3_lag 16 = .ok (.getfield 10, 3) := by decide +kernel
theorem dX3_lag_19 : decode cX3_lag 19 = .ok (.getfield 83, 3) := by decide +kernel
theorem dX3_lag_22 : decode cX3_lag 22 = .ok (.invokevirtual 99, 3) := by decide +kernel
theorem dX3_lag_25 : decode cX3_lag 25 = .ok (.goto 9, 3) := by decide +kernel
theorem dX3_lag_28 : decode cX3_lag 28 = .ok (.aload_n 0, 1) := by decide +kernel
theorem dX3_lag_29 : decode cX3_lag 29 = .ok (.bipush (-2), 2) := by decide +kernel
theorem dX3_lag_31 : decode cX3_lag 31 = .ok (.invokevirtual 41, 3) := by decide +kernel
theorem dX3_lag_34 : decode cX3_lag 34 = .ok (.ireturn, 1) := by decide +kernel
set_option maxRecDepth 20000 in
theorem ggX3_blowsToCorrect_X3_isTrain : GoodIn wsX3_blowsToCorrect wsX3_isTrain := goodIn_r _ [7] (by decide +kernel) (by decide +kernel)
set_option maxRecDepth 20000 in
theorem gX3_blowsToCorrect_X3_isTrain : GoodIn wsX3_blowsToCorrect (va_wsS RX3 37 yX3_isTrain wsX3_isTrain) := goodIn_app (goodIn_of _ (by decide +kernel)) ggX3_blowsToCorrect_X3_isTrain
set_option maxRecDepth 20000 in
theorem ggX3_blowsToCorrect_X3_refuse : GoodIn wsX3_blowsToCorrect wsX3_refuse := goodIn_r _ [11, 12, 13, 14, 6, 15, 51, 52, 53, 54, 55] (by decide +kernel) (by decide +kernel)
set_option maxRecDepth 20000 in
theorem gX3_blowsToCorrect_X3_refuse : GoodIn wsX3_blowsToCorrect (wsV RX3 41 RX3 yX3_refuse wsX3_refuse) := goodIn_app (goodIn_of _ (by decide +kernel)) ggX3_blowsToCorrect_X3_refuse
set_option maxRecDepth 20000 in
theorem ggX3_blowsToCorrect_X0_trainOf : GoodIn wsX3_blowsToCorrect wsX0_trainOf := goodIn_r _ [20, 21, 22, 56, 57, 58, 59, 60, 61, 62] (by decide +kernel) (by decide +kernel)
set_option maxRecDepth 20000 in
theorem gX3_blowsToCorrect_X0_trainOf : GoodIn wsX3_blowsToCorrect (wsV RX3 48 RX0 yX0_trainOf wsX0_trainOf) := goodIn_app (goodIn_of _ (by decide +kernel)) ggX3_blowsToCorrect_X0_trainOf
set_option maxRecDepth 20000 in
theorem ggX3_blowsToCorrect_X2_lagAt : GoodIn wsX3_blowsToCorrect wsX2_lagAt := goodIn_r _ [27, 28, 29, 30, 31, 32, 26, 33, 34, 35, 36, 37, 38, 39, 40, 41, 42, 43, 44, 45, 46, 63, 64, 65, 66, 67, 68] (by decide +kernel) (by decide +kernel)
set_option maxRecDepth 20000 in
theorem gX3_blowsToCorrect_X2_lagAt : GoodIn wsX3_blowsToCorrect (wsV RX3 99 RX2 yX2_lagAt wsX2_lagAt) := goodIn_app (goodIn_of _ (by decide +kernel)) ggX3_blowsToCorrect_X2_lagAt
set_option maxRecDepth 20000 in
theorem ggX3_blowsToCorrect_X2_positionAfter : GoodIn wsX3_blowsToCorrect wsX2_positionAfter := goodIn_r _ [50, 43, 44, 45, 26, 46, 38, 63, 64, 65, 66, 67, 68] (by decide +kernel) (by decide +kernel)
set_option maxRecDepth 20000 in
theorem gX3_blowsToCorrect_X2_positionAfter : GoodIn wsX3_blowsToCorrect (wsV RX3 102 RX2 yX2_positionAfter wsX2_positionAfter) := goodIn_app (goodIn_of _ (by decide +kernel)) ggX3_blowsToCorrect_X2_positionAfter
theorem dX3_blowsToCorrect_0 : decode cX3_blowsToCorrect 0 = .ok (.iload_n 1, 1) := by decide +kernel
theorem dX3_blowsToCorrect_1 : decode cX3_blowsToCorrect 1 = .ok (.invokestatic 37, 3) := by decide +kernel
theorem dX3_blowsToCorrect_4 : decode cX3_blowsToCorrect 4 = .ok (.ifCond .ne 10, 3) := by decide +kernel
theorem dX3_blowsToCorrect_7 : decode cX3_blowsToCorrect 7 = .ok (.aload_n 0, 1) := by decide +kernel
theorem dX3_blowsToCorrect_8 : decode cX3_blowsToCorrect 8 = .ok (.bipush (-2), 2) := by decide +kernel
theorem dX3_blowsToCorrect_10 : decode cX3_blowsToCorrect 10 = .ok (.invokevirtual 41, 3) := by decide +kernel
theorem dX3_blowsToCorrect_13 : decode cX3_blowsToCorrect 13 = .ok (.ireturn, 1) := by decide +kernel
theorem dX3_blowsToCorrect_14 : decode cX3_blowsToCorrect 14 = .ok (.aload_n 0, 1) := by decide +kernel
theorem dX3_blowsToCorrect_15 : decode cX3_blowsToCorrect 15 = .ok (.getfield 10, 3) := by decide +kernel
theorem dX3_blowsToCorrect_18 : decode cX3_blowsToCorrect 18 = .ok (.iload_n 1, 1) := by decide +kernel
theorem dX3_blowsToCorrect_19 : decode cX3_blowsToCorrect 19 = .ok (.invokevirtual 48, 3) := by decide +kernel
theorem dX3_blowsToCorrect_22 : decode cX3_blowsToCorrect 22 = .ok (.astore_n 2, 1) := by decide +kernel
theorem dX3_blowsToCorrect_23 : decode cX3_blowsToCorrect 23 = .ok (.aload_n 2, 1) := by decide +kernel
theorem dX3_blowsToCorrect_24 : decode cX3_blowsToCorrect 24 = .ok (.aload_n 0, 1) := by decide +kernel
theorem dX3_blowsToCorrect_25 : decode cX3_blowsToCorrect 25 = .ok (.getfield 10, 3) := by decide +kernel
theorem dX3_blowsToCorrect_28 : decode cX3_blowsToCorrect 28 = .ok (.getfield 83, 3) := by decide +kernel
theorem dX3_blowsToCorrect_31 : decode cX3_blowsToCorrect 31 = .ok (.invokevirtual 99, 3) := by decide +kernel
theorem dX3_blowsToCorrect_34 : decode cX3_blowsToCorrect 34 = .ok (.istore_n 3, 1) := by decide +kernel
theorem dX3_blowsToCorrect_35 : decode cX3_blowsToCorrect 35 = .ok (.aload_n 2, 1) := by decide +kernel
theorem dX3_blowsToCorrect_36 : decode cX3_blowsToCorrect 36 = .ok (.getfield 59, 3) := by decide +kernel
theorem dX3_blowsToCorrect_39 : decode cX3_blowsToCorrect 39 = .ok (.istore 4, 2) := by decide +kernel
theorem dX3_blowsToCorrect_41 : decode cX3_blowsToCorrect 41 = .ok (.iconst 0, 1) := by decide +kernel
theorem dX3_blowsToCorrect_42 : decode cX3_blowsToCorrect 42 = .ok (.istore 5, 2) := by decide +kernel
theorem dX3_blowsToCorrect_44 : decode cX3_blowsToCorrect 44 = .ok (.iconst 0, 1) := by decide +kernel
theorem dX3_blowsToCorrect_45 : decode cX3_blowsToCorrect 45 = .ok (.istore 6, 2) := by decide +kernel
theorem dX3_blowsToCorrect_47 : decode cX3_blowsToCorrect 47 = .ok (.iload 6, 2) := by decide +kernel
theorem dX3_blowsToCorrect_49 : decode cX3_blowsToCorrect 49 = .ok (.iload_n 3, 1) := by decide +kernel
theorem dX3_blowsToCorrect_50 : decode cX3_blowsToCorrect 50 = .ok (.if_icmp .ge 24, 3) := by decide +kernel
theorem dX3_blowsToCorrect_53 : decode cX3_blowsToCorrect 53 = .ok (.iload 5, 2) := by decide +kernel
theorem dX3_blowsToCorrect_55 : decode cX3_blowsToCorrect 55 = .ok (.iload 4, 2) := by decide +kernel
theorem dX3_blowsToCorrect_57 : decode cX3_blowsToCorrect 57 = .ok (.iadd, 1) := by decide +kernel
theorem dX3_blowsToCorrect_58 : decode cX3_blowsToCorrect 58 = .ok (.istore 5, 2) := by decide +kernel
theorem dX3_blowsToCorrect_60 : decode cX3_blowsToCorrect 60 = .ok (.aload_n 2, 1) := by decide +kernel
theorem dX3_blowsToCorrect_61 : decode cX3_blowsToCorrect 61 = .ok (.iload 4, 2) := by decide +kernel
theorem dX3_blowsToCorrect_63 : decode cX3_blowsToCorrect 63 = .ok (.invokevirtual 102, 3) := by decide +kernel
theorem dX3_blowsToCorrect_66 : decode cX3_blowsToCorrect 66 = .ok (.istore 4, 2) := by decide +kernel
theorem dX3_blowsToCorrect_68 : decode cX3_blowsToCorrect 68 = .ok (.iinc 6 1, 3) := by decide +kernel
theorem dX3_blowsToCorrect_71 : decode cX3_blowsToCorrect 71 = .ok (.goto (-24), 3) := by decide +kernel
theorem dX3_blowsToCorrect_74 : decode cX3_blowsToCorrect 74 = .ok (.iload 5, 2) := by decide +kernel
theorem dX3_blowsToCorrect_76 : decode cX3_blowsToCorrect 76 = .ok (.ireturn, 1) := by decide +kernel
set_option maxRecDepth 20000 in
theorem ggX3_handsToCorrect_X3_isTrain : GoodIn wsX3_handsToCorrect wsX3_isTrain := goodIn_r _ [6] (by decide +kernel) (by decide +kernel)
set_option maxRecDepth 20000 in
theorem gX3_handsToCorrect_X3_isTrain : GoodIn wsX3_handsToCorrect (va_wsS RX3 37 yX3_isTrain wsX3_isTrain) := goodIn_app (goodIn_of _ (by decide +kernel)) ggX3_handsToCorrect_X3_isTrain
set_option maxRecDepth 20000 in
theorem ggX3_handsToCorrect_X3_refuse : GoodIn wsX3_handsToCorrect wsX3_refuse := goodIn_r _ [10, 11, 12, 13, 5, 14, 52, 53, 54, 55, 56] (by decide +kernel) (by decide +kernel)
set_option maxRecDepth 20000 in
theorem gX3_handsToCorrect_X3_refuse : GoodIn wsX3_handsToCorrect (wsV RX3 41 RX3 yX3_refuse wsX3_refuse) := goodIn_app (goodIn_of _ (by decide +kernel)) ggX3_handsToCorrect_X3_refuse
set_option maxRecDepth 20000 in
theorem ggX3_handsToCorrect_X0_trainOf : GoodIn wsX3_handsToCorrect wsX0_trainOf := goodIn_r _ [19, 20, 21, 57, 58, 59, 60, 61, 62, 63] (by decide +kernel) (by decide +kernel)
set_option maxRecDepth 20000 in
theorem gX3_handsToCorrect_X0_trainOf : GoodIn wsX3_handsToCorrect (wsV RX3 48 RX0 yX0_trainOf wsX0_trainOf) := goodIn_app (goodIn_of _ (by decide +kernel)) ggX3_handsToCorrect_X0_trainOf
set_option maxRecDepth 20000 in
theorem ggX3_handsToCorrect_X2_lagAt : GoodIn wsX3_handsToCorrect wsX2_lagAt := goodIn_r _ [26, 27, 28, 29, 30, 31, 25, 32, 33, 34, 35, 36, 37, 38, 39, 40, 41, 42, 43, 44, 45, 64, 65, 66, 67, 68, 69] (by decide +kernel) (by decide +kernel)
set_option maxRecDepth 20000 in
theorem gX3_handsToCorrect_X2_lagAt : GoodIn wsX3_handsToCorrect (wsV RX3 99 RX2 yX2_lagAt wsX2_lagAt) := goodIn_app (goodIn_of _ (by decide +kernel)) ggX3_handsToCorrect_X2_lagAt
set_option maxRecDepth 20000 in
theorem ggX3_handsToCorrect_X2_lastPosition : GoodIn wsX3_handsToCorrect wsX2_lastPosition := goodIn_r _ [45, 37, 64, 65, 66, 67, 68, 69] (by decide +kernel) (by decide +kernel)
set_option maxRecDepth 20000 in
theorem gX3_handsToCorrect_X2_lastPosition : GoodIn wsX3_handsToCorrect (wsV RX3 55 RX2 yX2_lastPosition wsX2_lastPosition) := goodIn_app (goodIn_of _ (by decide +kernel)) ggX3_handsToCorrect_X2_lastPosition
set_option maxRecDepth 20000 in
theorem ggX3_handsToCorrect_X2_lastReleaseUpTo : GoodIn wsX3_handsToCorrect wsX2_lastReleaseUpTo := goodIn_r _ [50, 37, 64, 65, 66, 67, 68, 69] (by decide +kernel) (by decide +kernel)
set_option maxRecDepth 20000 in
theorem gX3_handsToCorrect_X2_lastReleaseUpTo : GoodIn wsX3_handsToCorrect (wsV RX3 105 RX2 yX2_lastReleaseUpTo wsX2_lastReleaseUpTo) := goodIn_app (goodIn_of _ (by decide +kernel)) ggX3_handsToCorrect_X2_lastReleaseUpTo
set_option maxRecDepth 20000 in
theorem ggX3_handsToCorrect_X2_period : GoodIn wsX3_handsToCorrect wsX2_period := goodIn_r _ [36, 37, 64, 65, 66, 67, 68, 69] (by decide +kernel) (by decide +kernel)
set_option maxRecDepth 20000 in
theorem gX3_handsToCorrect_X2_period : GoodIn wsX3_handsToCorrect (wsV RX3 108 RX2 yX2_period wsX2_period) := goodIn_app (goodIn_of _ (by decide +kernel)) ggX3_handsToCorrect_X2_period
theorem dX3_handsToCorrect_0 : decode cX3_handsToCorrect 0 = .ok (.iload_n 1, 1) := by decide +kernel
theorem dX3_handsToCorrect_1 : decode cX3_handsToCorrect 1 = .ok (.invokestatic 37, 3) := by decide +kernel
theorem dX3_handsToCorrect_4 : decode cX3_handsToCorrect 4 = .ok (.ifCond .ne 10, 3) := by decide +kernel
theorem dX3_handsToCorrect_7 : decode cX3_handsToCorrect 7 = .ok (.aload_n 0, 1) := by decide +kernel
theorem dX3_handsToCorrect_8 : decode cX3_handsToCorrect 8 = .ok (.bipush (-2), 2) := by decide +kernel
theorem dX3_handsToCorrect_10 : decode cX3_handsToCorrect 10 = .ok (.invokevirtual 41, 3) := by decide +kernel
theorem dX3_handsToCorrect_13 : decode cX3_handsToCorrect 13 = .ok (.ireturn, 1) := by decide +kernel
theorem dX3_handsToCorrect_14 : decode cX3_handsToCorrect 14 = .ok (.aload_n 0, 1) := by decide +kernel
theorem dX3_handsToCorrect_15 : decode cX3_handsToCorrect 15 = .ok (.getfield 10, 3) := by decide +kernel
theorem dX3_handsToCorrect_18 : decode cX3_handsToCorrect 18 = .ok (.iload_n 1, 1) := by decide +kernel
theorem dX3_handsToCorrect_19 : decode cX3_handsToCorrect 19 = .ok (.invokevirtual 48, 3) := by decide +kernel
theorem dX3_handsToCorrect_22 : decode cX3_handsToCorrect 22 = .ok (.astore_n 2, 1) := by decide +kernel
theorem dX3_handsToCorrect_23 : decode cX3_handsToCorrect 23 = .ok (.aload_n 2, 1) := by decide +kernel
theorem dX3_handsToCorrect_24 : decode cX3_handsToCorrect 24 = .ok (.aload_n 0, 1) := by decide +kernel
theorem dX3_handsToCorrect_25 : decode cX3_handsToCorrect 25 = .ok (.getfield 10, 3) := by decide +kernel
theorem dX3_handsToCorrect_28 : decode cX3_handsToCorrect 28 = .ok (.getfield 83, 3) := by decide +kernel
theorem dX3_handsToCorrect_31 : decode cX3_handsToCorrect 31 = .ok (.invokevirtual 99, 3) := by decide +kernel
theorem dX3_handsToCorrect_34 : decode cX3_handsToCorrect 34 = .ok (.istore_n 3, 1) := by decide +kernel
theorem dX3_handsToCorrect_35 : decode cX3_handsToCorrect 35 = .ok (.iload_n 3, 1) := by decide +kernel
theorem dX3_handsToCorrect_36 : decode cX3_handsToCorrect 36 = .ok (.ifCond .ne 11, 3) := by decide +kernel
theorem dX3_handsToCorrect_39 : decode cX3_handsToCorrect 39 = .ok (.aload_n 0, 1) := by decide +kernel
theorem dX3_handsToCorrect_40 : decode cX3_handsToCorrect 40 = .ok (.getfield 10, 3) := by decide +kernel
theorem dX3_handsToCorrect_43 : decode cX3_handsToCorrect 43 = .ok (.getfield 83, 3) := by decide +kernel
theorem dX3_handsToCorrect_46 : decode cX3_handsToCorrect 46 = .ok (.ireturn, 1) := by decide +kernel
theorem dX3_handsToCorrect_47 : decode cX3_handsToCorrect 47 = .ok (.aload_n 2, 1) := by decide +kernel
theorem dX3_handsToCorrect_48 : decode cX3_handsToCorrect 48 = .ok (.invokevirtual 55, 3) := by decide +kernel
theorem dX3_handsToCorrect_51 : decode cX3_handsToCorrect 51 = .ok (.iload_n 3, 1) := by decide +kernel
theorem dX3_handsToCorrect_52 : decode cX3_handsToCorrect 52 = .ok (.isub, 1) := by decide +kernel
theorem dX3_handsToCorrect_53 : decode cX3_handsToCorrect 53 = .ok (.istore 4, 2) := by decide +kernel
theorem dX3_handsToCorrect_55 : decode cX3_handsToCorrect 55 = .ok (.aload_n 2, 1) := by decide +kernel
theorem dX3_handsToCorrect_56 : decode cX3_handsToCorrect 56 = .ok (.aload_n 0, 1) := by decide +kernel
theorem dX3_handsToCorrect_57 : decode cX3_handsToCorrect 57 = .ok (.getfield 10, 3) := by decide +kernel
theorem dX3_handsToCorrect_60 : decode cX3_handsToCorrect 60 = .ok (.getfield 83, 3) := by decide +kernel
theorem dX3_handsToCorrect_63 : decode cX3_handsToCorrect 63 = .ok (.invokevirtual 105, 3) := by decide +kernel
theorem dX3_handsToCorrect_66 : decode cX3_handsToCorrect 66 = .ok (.iload 4, 2) := by decide +kernel
theorem dX3_handsToCorrect_68 : decode cX3_handsToCorrect 68 = .ok (.aload_n 2, 1) := by decide +kernel
theorem dX3_handsToCorrect_69 : decode cX3_handsToCorrect 69 = .ok (.invokevirtual 108, 3) := by decide +kernel
theorem dX3_handsToCorrect_72 : decode cX3_handsToCorrect 72 = .ok (.imul, 1) := by decide +kernel
theorem dX3_handsToCorrect_73 : decode cX3_handsToCorrect 73 = .ok (.iadd, 1) := by decide +kernel
theorem dX3_handsToCorrect_74 : decode cX3_handsToCorrect 74 = .ok (.sipush 1440, 3) := by decide +kernel
theorem dX3_handsToCorrect_77 : decode cX3_handsToCorrect 77 = .ok (.irem, 1) := by decide +kernel
theorem dX3_handsToCorrect_78 : decode cX3_handsToCorrect 78 = .ok (.ireturn, 1) := by decide +kernel
set_option maxRecDepth 20000 in
theorem ggX3_minutesToMiss_X3_isTrain : GoodIn wsX3_minutesToMiss wsX3_isTrain := goodIn_r _ [8] (by decide +kernel) (by decide +kernel)
set_option maxRecDepth 20000 in
theorem gX3_minutesToMiss_X3_isTrain : GoodIn wsX3_minutesToMiss (va_wsS RX3 37 yX3_isTrain wsX3_isTrain) := goodIn_app (goodIn_of _ (by decide +kernel)) ggX3_minutesToMiss_X3_isTrain
set_option maxRecDepth 20000 in
theorem ggX3_minutesToMiss_X3_refuse : GoodIn wsX3_minutesToMiss wsX3_refuse := goodIn_r _ [12, 13, 14, 15, 7, 16, 78, 79, 80, 81, 82] (by decide +kernel) (by decide +kernel)
set_option maxRecDepth 20000 in
theorem gX3_minutesToMiss_X3_refuse : GoodIn wsX3_minutesToMiss (wsV RX3 41 RX3 yX3_refuse wsX3_refuse) := goodIn_app (goodIn_of _ (by decide +kernel)) ggX3_minutesToMiss_X3_refuse
set_option maxRecDepth 20000 in
theorem ggX3_minutesToMiss_X0_trainOf : GoodIn wsX3_minutesToMiss wsX0_trainOf := goodIn_r _ [21, 22, 23, 89, 90, 91, 92, 93, 94, 95] (by decide +kernel) (by decide +kernel)
set_option maxRecDepth 20000 in
theorem gX3_minutesToMiss_X0_trainOf : GoodIn wsX3_minutesToMiss (wsV RX3 48 RX0 yX0_trainOf wsX0_trainOf) := goodIn_app (goodIn_of _ (by decide +kernel)) ggX3_minutesToMiss_X0_trainOf
set_option maxRecDepth 20000 in
theorem ggX3_minutesToMiss_X2_copyFrom : GoodIn wsX3_minutesToMiss wsX2_copyFrom := goodIn_r _ [28, 29, 30, 31, 32, 33, 34, 83, 84, 85, 86, 87, 88] (by decide +kernel) (by decide +kernel)
set_option maxRecDepth 20000 in
theorem gX3_minutesToMiss_X2_copyFrom : GoodIn wsX3_minutesToMiss (wsV RX3 111 RX2 yX2_copyFrom wsX2_copyFrom) := goodIn_app (goodIn_of _ (by decide +kernel)) ggX3_minutesToMiss_X2_copyFrom
set_option maxRecDepth 20000 in
theorem ggX3_minutesToMiss_X2_isReleasedAt : GoodIn wsX3_minutesToMiss wsX2_isReleasedAt := goodIn_r _ [38, 39, 40, 41, 27, 42, 29, 83, 84, 85, 86, 87, 88] (by decide +kernel) (by decide +kernel)
set_option maxRecDepth 20000 in
theorem gX3_minutesToMiss_X2_isReleasedAt : GoodIn wsX3_minutesToMiss (wsV RX3 118 RX2 yX2_isReleasedAt wsX2_isReleasedAt) := goodIn_app (goodIn_of _ (by decide +kernel)) ggX3_minutesToMiss_X2_isReleasedAt
set_option maxRecDepth 20000 in
theorem ggX3_minutesToMiss_X0_blocksAt : GoodIn wsX3_minutesToMiss wsX0_blocksAt := goodIn_r _ [46, 47, 48, 49, 50, 20, 51, 52, 53, 89, 90, 91, 92, 93, 94, 95] (by decide +kernel) (by decide +kernel)
set_option maxRecDepth 20000 in
theorem gX3_minutesToMiss_X0_blocksAt : GoodIn wsX3_minutesToMiss (wsV RX3 121 RX0 yX0_blocksAt wsX0_blocksAt) := goodIn_app (goodIn_of _ (by decide +kernel)) ggX3_minutesToMiss_X0_blocksAt
set_option maxRecDepth 20000 in
theorem ggX3_minutesToMiss_X2_dueAt : GoodIn wsX3_minutesToMiss wsX2_dueAt := goodIn_r _ [57, 29, 58, 59, 60, 27, 61, 83, 84, 85, 86, 87, 88] (by decide +kernel) (by decide +kernel)
set_option maxRecDepth 20000 in
theorem gX3_minutesToMiss_X2_dueAt : GoodIn wsX3_minutesToMiss (wsV RX3 124 RX2 yX2_dueAt wsX2_dueAt) := goodIn_app (goodIn_of _ (by decide +kernel)) ggX3_minutesToMiss_X2_dueAt
set_option maxRecDepth 20000 in
theorem ggX3_minutesToMiss_X2_releaseWith : GoodIn wsX3_minutesToMiss wsX2_releaseWith := goodIn_r _ [65, 30, 34, 32, 31, 66, 67, 68, 27, 69, 70, 71, 72, 73, 74, 75, 76, 77, 58, 59, 60, 61, 29, 83, 84, 85, 86, 87, 88] (by decide +kernel) (by decide +kernel)
set_option maxRecDepth 20000 in
theorem gX3_minutesToMiss_X2_releaseWith : GoodIn wsX3_minutesToMiss (wsV RX3 127 RX2 yX2_releaseWith wsX2_releaseWith) := goodIn_app (goodIn_of _ (by decide +kernel)) ggX3_minutesToMiss_X2_releaseWith
theorem dX3_minutesToMiss_0 : decode cX3_minutesToMiss 0 = .ok (.iload_n 1, 1) := by decide +kernel
theorem dX3_minutesToMiss_1 : decode cX3_minutesToMiss 1 = .ok (.invokestatic 37, 3) := by decide +kernel
theorem dX3_minutesToMiss_4 : decode cX3_minutesToMiss 4 = .ok (.ifCond .ne 10, 3) := by decide +kernel
theorem dX3_minutesToMiss_7 : decode cX3_minutesToMiss 7 = .ok (.aload_n 0, 1) := by decide +kernel
theorem dX3_minutesToMiss_8 : decode cX3_minutesToMiss 8 = .ok (.bipush (-2), 2) := by decide +kernel
theorem dX3_minutesToMiss_10 : decode cX3_minutesToMiss 10 = .ok (.invokevirtual 41, 3) := by decide +kernel
theorem dX3_minutesToMiss_13 : decode cX3_minutesToMiss 13 = .ok (.ireturn, 1) := by decide +kernel
theorem dX3_minutesToMiss_14 : decode cX3_minutesToMiss 14 = .ok (.aload_n 0, 1) := by decide +kernel
theorem dX3_minutesToMiss_15 : decode cX3_minutesToMiss 15 = .ok (.getfield 25, 3) := by decide +kernel
theorem dX3_minutesToMiss_18 : decode cX3_minutesToMiss 18 = .ok (.aload_n 0, 1) := by decide +kernel
theorem dX3_minutesToMiss_19 : decode cX3_minutesToMiss 19 = .ok (.getfield 10, 3) := by decide +kernel
theorem dX3_minutesToMiss_22 : decode cX3_minutesToMiss 22 = .ok (.iload_n 1, 1) := by decide +kernel
theorem dX3_minutesToMiss_23 : decode cX3_minutesToMiss 23 = .ok (.invokevirtual 48, 3) := by decide +kernel
theorem dX3_minutesToMiss_26 : decode cX3_minutesToMiss 26 = .ok (.invokevirtual 111, 3) := by decide +kernel
theorem dX3_minutesToMiss_29 : decode cX3_minutesToMiss 29 = .ok (.aload_n 0, 1) := by decide +kernel
theorem dX3_minutesToMiss_30 : decode cX3_minutesToMiss 30 = .ok (.getfield 25, 3) := by decide +kernel
theorem dX3_minutesToMiss_33 : decode cX3_minutesToMiss 33 = .ok (.getfield 115, 3) := by decide +kernel
theorem dX3_minutesToMiss_36 : decode cX3_minutesToMiss 36 = .ok (.istore_n 2, 1) := by decide +kernel
theorem dX3_minutesToMiss_37 : decode cX3_minutesToMiss 37 = .ok (.bipush 15, 2) := by decide +kernel
theorem dX3_minutesToMiss_39 : decode cX3_minutesToMiss 39 = .ok (.aload_n 0, 1) := by decide +kernel
theorem dX3_minutesToMiss_40 : decode cX3_minutesToMiss 40 = .ok (.getfield 10, 3) := by decide +kernel
theorem dX3_minutesToMiss_43 : decode cX3_minutesToMiss 43 = .ok (.getfield 83, 3) := by decide +kernel
theorem dX3_minutesToMiss_46 : decode cX3_minutesToMiss 46 = .ok (.bipush 15, 2) := by decide +kernel
theorem dX3_minutesToMiss_48 : decode cX3_minutesToMiss 48 = .ok (.irem, 1) := by decide +kernel
theorem dX3_minutesToMiss_49 : decode cX3_minutesToMiss 49 = .ok (.isub, 1) := by decide +kernel
theorem dX3_minutesToMiss_50 : decode cX3_minutesToMiss 50 = .ok (.istore_n 3, 1) := by decide +kernel
theorem dX3_minutesToMiss_51 : decode cX3_minutesToMiss 51 = .ok (.iload_n 3, 1) := by decide +kernel
theorem dX3_minutesToMiss_52 : decode cX3_minutesToMiss 52 = .ok (.sipush 20000, 3) := by decide +kernel
theorem dX3_minutesToMiss_55 : decode cX3_minutesToMiss 55 = .ok (.if_icmp .gt 78, 3) := by decide +kernel
theorem dX3_minutesToMiss_58 : decode cX3_minutesToMiss 58 = .ok (.aload_n 0, 1) := by decide +kernel
theorem dX3_minutesToMiss_59 : decode cX3_minutesToMiss 59 = .ok (.getfield 10, 3) := by decide +kernel
theorem dX3_minutesToMiss_62 : decode cX3_minutesToMiss 62 = .ok (.getfield 83, 3) := by decide +kernel
theorem dX3_minutesToMiss_65 : decode cX3_minutesToMiss 65 = .ok (.iload_n 3, 1) := by decide +kernel
theorem dX3_minutesToMiss_66 : decode cX3_minutesToMiss 66 = .ok (.iadd, 1) := by decide +kernel
theorem dX3_minutesToMiss_67 : decode cX3_minutesToMiss 67 = .ok (.sipush 1440, 3) := by decide +kernel
theorem dX3_minutesToMiss_70 : decode cX3_minutesToMiss 70 = .ok (.irem, 1) := by decide +kernel
theorem dX3_minutesToMiss_71 : decode cX3_minutesToMiss 71 = .ok (.istore 4, 2) := by decide +kernel
theorem dX3_minutesToMiss_73 : decode cX3_minutesToMiss 73 = .ok (.aload_n 0, 1) := by decide +kernel
theorem dX3_minutesToMiss_74 : decode cX3_minutesToMiss 74 = .ok (.getfield 25, 3) := by decide +kernel
theorem dX3_minutesToMiss_77 : decode cX3_minutesToMiss 77 = .ok (.iload 4, 2) := by decide +kernel
theorem dX3_minutesToMiss_79 : decode cX3_minutesToMiss 79 = .ok (.invokevirtual 118, 3) := by decide +kernel
theorem dX3_minutesToMiss_82 : decode cX3_minutesToMiss 82 = .ok (.ifCond .eq 32, 3) := by decide +kernel
theorem dX3_minutesToMiss_85 : decode cX3_minutesToMiss 85 = .ok (.aload_n 0, 1) := by decide +kernel
theorem dX3_minutesToMiss_86 : decode cX3_minutesToMiss 86 = .ok (.getfield 10, 3) := by decide +kernel
theorem dX3_minutesToMiss_89 : decode cX3_minutesToMiss 89 = .ok (.iload 4, 2) := by decide +kernel
theorem dX3_minutesToMiss_91 : decode cX3_minutesToMiss 91 = .ok (.invokevirtual 121, 3) := by decide +kernel
theorem dX3_minutesToMiss_94 : decode cX3_minutesToMiss 94 = .ok (.ifCond .ne 20, 3) := by decide +kernel
theorem dX3_minutesToMiss_97 : decode cX3_minutesToMiss 97 = .ok (.aload_n 0, 1) := by decide +kernel
theorem dX3_minutesToMiss_98 : decode cX3_minutesToMiss 98 = .ok (.getfield 25, 3) := by decide +kernel
theorem dX3_minutesToMiss_101 : decode cX3_minutesToMiss 101 = .ok (.aload_n 0, 1) := by decide +kernel
theorem dX3_minutesToMiss_102 : decode cX3_minutesToMiss 102 = .ok (.getfield 25, 3) := by decide +kernel
theorem dX3_minutesToMiss_105 : decode cX3_minutesToMiss 105 = .ok (.iload 4, 2) := by decide +kernel
theorem dX3_minutesToMiss_107 : decode cX3_minutesToMiss 107 = .ok (.invokevirtual 124, 3) := by decide +kernel
theorem dX3_minutesToMiss_110 : decode cX3_minutesToMiss 110 = .ok (.invokevirtual 127, 3) := by decide +kernel
theorem dX3_minutesToMiss_113 : decode cX3_minutesToMiss 113 = .ok (.pop, 1) := by decide +kernel
theorem dX3_minutesToMiss_114 : decode cX3_minutesToMiss 114 = .ok (.aload_n 0, 1) := by decide +kernel
theorem dX3_minutesToMiss_115 : decode cX3_minutesToMiss 115 = .ok (.getfield 25, 3) := by decide +kernel
theorem dX3_minutesToMiss_118 : decode cX3_minutesToMiss 118 = .ok (.getfield 115, 3) := by decide +kernel
theorem dX3_minutesToMiss_121 : decode cX3_minutesToMiss 121 = .ok (.iload_n 2, 1) := by decide +kernel
theorem dX3_minutesToMiss_122 : decode cX3_minutesToMiss 122 = .ok (.if_icmp .eq 5, 3) := by decide +kernel
theorem dX3_minutesToMiss_125 : decode cX3_minutesToMiss 125 = .ok (.iload_n 3, 1) := by decide +kernel
theorem dX3_minutesToMiss_126 : decode cX3_minutesToMiss 126 = .ok (.ireturn, 1) := by decide +kernel
theorem dX3_minutesToMiss_127 : decode cX3_minutesToMiss 127 = .ok (.iinc 3 15, 3) := by decide +kernel
theorem dX3_minutesToMiss_130 : decode cX3_minutesToMiss 130 = .ok (.goto (-79), 3) := by decide +kernel
theorem dX3_minutesToMiss_133 : decode cX3_minutesToMiss 133 = .ok (.iconst (-1), 1) := by decide +kernel
theorem dX3_minutesToMiss_134 : decode cX3_minutesToMiss 134 = .ok (.ireturn, 1) := by decide +kernel
theorem dX3_minute_0 : decode cX3_minute 0 = .ok (.aload_n 0, 1) := by decide +kernel
theorem dX3_minute_1 : decode cX3_minute 1 = .ok (.getfield 10, 3) := by decide +kernel
theorem dX3_minute_4 : decode cX3_minute 4 = .ok (.getfield 83, 3) := by decide +kernel
theorem dX3_minute_7 : decode cX3_minute 7 = .ok (.ireturn, 1) := by decide +kernel
set_option maxRecDepth 20000 in
theorem ggX3_position_X3_isTrain : GoodIn wsX3_position wsX3_isTrain := goodIn_r _ [6] (by decide +kernel) (by decide +kernel)
set_option maxRecDepth 20000 in
theorem gX3_position_X3_isTrain : GoodIn wsX3_position (va_wsS RX3 37 yX3_isTrain wsX3_isTrain) := goodIn_app (goodIn_of _ (by decide +kernel)) ggX3_position_X3_isTrain
set_option maxRecDepth 20000 in
theorem ggX3_position_X0_trainOf : GoodIn wsX3_position wsX0_trainOf := goodIn_r _ [11, 12, 13, 33, 34, 35, 36, 37, 38, 39] (by decide +kernel) (by decide +kernel)
set_option maxRecDepth 20000 in
theorem gX3_position_X0_trainOf : GoodIn wsX3_position (wsV RX3 48 RX0 yX0_trainOf wsX0_trainOf) := goodIn_app (goodIn_of _ (by decide +kernel)) ggX3_position_X0_trainOf
set_option maxRecDepth 20000 in
theorem ggX3_position_X3_refuse : GoodIn wsX3_position wsX3_refuse := goodIn_r _ [17, 18, 19, 20, 5, 21, 22, 23, 24, 25, 26] (by decide +kernel) (by decide +kernel)
set_option maxRecDepth 20000 in
theorem gX3_position_X3_refuse : GoodIn wsX3_position (wsV RX3 41 RX3 yX3_refuse wsX3_refuse) := goodIn_app (goodIn_of _ (by decide +kernel)) ggX3_position_X3_refuse
theorem dX3_position_0 : decode cX3_position 0 = .ok (.iload_n 1, 1) := by decide +kernel
theorem dX3_position_1 : decode cX3_position 1 = .ok (.invokestatic 37, 3) := by decide +kernel
theorem dX3_position_4 : decode cX3_position 4 = .ok (.ifCond .eq 17, 3) := by decide +kernel
theorem dX3_position_7 : decode cX3_position 7 = .ok (.aload_n 0, 1) := by decide +kernel
theorem dX3_position_8 : decode cX3_position 8 = .ok (.getfield 10, 3) := by decide +kernel
theorem dX3_position_11 : decode cX3_position 11 = .ok (.iload_n 1, 1) := by decide +kernel
theorem dX3_position_12 : decode cX3_position 12 = .ok (.invokevirtual 48, 3) := by decide +kernel
theorem dX3_position_15 : decode cX3_position 15 = .ok (.getfield 59, 3) := by decide +kernel
theorem dX3_position_18 : decode cX3_position 18 = .ok (.goto 9, 3) := by decide +kernel
theorem dX3_position_21 : decode cX3_position 21 = .ok (.aload_n 0, 1) := by decide +kernel
theorem dX3_position_22 : decode cX3_position 22 = .ok (.bipush (-2), 2) := by decide +kernel
theorem dX3_position_24 : decode cX3_position 24 = .ok (.invokevirtual 41, 3) := by decide +kernel
theorem dX3_position_27 : decode cX3_position 27 = .ok (.ireturn, 1) := by decide +kernel
set_option maxRecDepth 20000 in
theorem ggX3_weight_X3_isTrain : GoodIn wsX3_weight wsX3_isTrain := goodIn_r _ [6] (by decide +kernel) (by decide +kernel)
set_option maxRecDepth 20000 in
theorem gX3_weight_X3_isTrain : GoodIn wsX3_weight (va_wsS RX3 37 yX3_isTrain wsX3_isTrain) := goodIn_app (goodIn_of _ (by decide +kernel)) ggX3_weight_X3_isTrain
set_option maxRecDepth 20000 in
theorem ggX3_weight_X0_trainOf : GoodIn wsX3_weight wsX0_trainOf := goodIn_r _ [11, 12, 13, 33, 34, 35, 36, 37, 38, 39] (by decide +kernel) (by decide +kernel)
set_option maxRecDepth 20000 in
theorem gX3_weight_X0_trainOf : GoodIn wsX3_weight (wsV RX3 48 RX0 yX0_trainOf wsX0_trainOf) := goodIn_app (goodIn_of _ (by decide +kernel)) ggX3_weight_X0_trainOf
set_option maxRecDepth 20000 in
theorem ggX3_weight_X3_refuse : GoodIn wsX3_weight wsX3_refuse := goodIn_r _ [17, 18, 19, 20, 5, 21, 22, 23, 24, 25, 26] (by decide +kernel) (by decide +kernel)
set_option maxRecDepth 20000 in
theorem gX3_weight_X3_refuse : GoodIn wsX3_weight (wsV RX3 41 RX3 yX3_refuse wsX3_refuse) := goodIn_app (goodIn_of _ (by decide +kernel)) ggX3_weight_X3_refuse
theorem dX3_weight_0 : decode cX3_weight 0 = .ok (.iload_n 1, 1) := by decide +kernel
theorem dX3_weight_1 : decode cX3_weight 1 = .ok (.invokestatic 37, 3) := by decide +kernel
theorem dX3_weight_4 : decode cX3_weight 4 = .ok (.ifCond .eq 17, 3) := by decide +kernel
theorem dX3_weight_7 : decode cX3_weight 7 = .ok (.aload_n 0, 1) := by decide +kernel
theorem dX3_weight_8 : decode cX3_weight 8 = .ok (.getfield 10, 3) := by decide +kernel
theorem dX3_weight_11 : decode cX3_weight 11 = .ok (.iload_n 1, 1) := by decide +kernel
theorem dX3_weight_12 : decode cX3_weight 12 = .ok (.invokevirtual 48, 3) := by decide +kernel
theorem dX3_weight_15 : decode cX3_weight 15 = .ok (.getfield 74, 3) := by decide +kernel
theorem dX3_weight_18 : decode cX3_weight 18 = .ok (.goto 9, 3) := by decide +kernel
theorem dX3_weight_21 : decode cX3_weight 21 = .ok (.aload_n 0, 1) := by decide +kernel
theorem dX3_weight_22 : decode cX3_weight 22 = .ok (.bipush (-2), 2) := by decide +kernel
theorem dX3_weight_24 : decode cX3_weight 24 = .ok (.invokevirtual 41, 3) := by decide +kernel
theorem dX3_weight_27 : decode cX3_weight 27 = .ok (.ireturn, 1) := by decide +kernel
set_option maxRecDepth 20000 in
theorem ggX3_sounded_X3_isTrain : GoodIn wsX3_sounded wsX3_isTrain := goodIn_r _ [6] (by decide +kernel) (by decide +kernel)
set_option maxRecDepth 20000 in
theorem gX3_sounded_X3_isTrain : GoodIn wsX3_sounded (va_wsS RX3 37 yX3_isTrain wsX3_isTrain) := goodIn_app (goodIn_of _ (by decide +kernel)) ggX3_sounded_X3_isTrain
set_option maxRecDepth 20000 in
theorem ggX3_sounded_X0_trainOf : GoodIn wsX3_sounded wsX0_trainOf := goodIn_r _ [11, 12, 13, 33, 34, 35, 36, 37, 38, 39] (by decide +kernel) (by decide +kernel)
set_option maxRecDepth 20000 in
theorem gX3_sounded_X0_trainOf : GoodIn wsX3_sounded (wsV RX3 48 RX0 yX0_trainOf wsX0_trainOf) := goodIn_app (goodIn_of _ (by decide +kernel)) ggX3_sounded_X0_trainOf
set_option maxRecDepth 20000 in
theorem ggX3_sounded_X3_refuse : GoodIn wsX3_sounded wsX3_refuse := goodIn_r _ [17, 18, 19, 20, 5, 21, 22, 23, 24, 25, 26] (by decide +kernel) (by decide +kernel)
set_option maxRecDepth 20000 in
theorem gX3_sounded_X3_refuse : GoodIn wsX3_sounded (wsV RX3 41 RX3 yX3_refuse wsX3_refuse) := goodIn_app (goodIn_of _ (by decide +kernel)) ggX3_sounded_X3_refuse
theorem dX3_sounded_0 : decode cX3_sounded 0 = .ok (.iload_n 1, 1) := by decide +kernel
theorem dX3_sounded_1 : decode cX3_sounded 1 = .ok (.invokestatic 37, 3) := by decide +kernel
theorem dX3_sounded_4 : decode cX3_sounded 4 = .ok (.ifCond .eq 17, 3) := by decide +kernel
theorem dX3_sounded_7 : decode cX3_sounded 7 = .ok (.aload_n 0, 1) := by decide +kernel
theorem dX3_sounded_8 : decode cX3_sounded 8 = .ok (.getfield 10, 3) := by decide +kernel
theorem dX3_sounded_11 : decode cX3_sounded 11 = .ok (.iload_n 1, 1) := by decide +kernel
theorem dX3_sounded_12 : decode cX3_sounded 12 = .ok (.invokevirtual 48, 3) := by decide +kernel
theorem dX3_sounded_15 : decode cX3_sounded 15 = .ok (.getfield 130, 3) := by decide +kernel
theorem dX3_sounded_18 : decode cX3_sounded 18 = .ok (.goto 9, 3) := by decide +kernel
theorem dX3_sounded_21 : decode cX3_sounded 21 = .ok (.aload_n 0, 1) := by decide +kernel
theorem dX3_sounded_22 : decode cX3_sounded 22 = .ok (.bipush (-2), 2) := by decide +kernel
theorem dX3_sounded_24 : decode cX3_sounded 24 = .ok (.invokevirtual 41, 3) := by decide +kernel
theorem dX3_sounded_27 : decode cX3_sounded 27 = .ok (.ireturn, 1) := by decide +kernel
set_option maxRecDepth 20000 in
theorem ggX3_missed_X3_isTrain : GoodIn wsX3_missed wsX3_isTrain := goodIn_r _ [6] (by decide +kernel) (by decide +kernel)
set_option maxRecDepth 20000 in
theorem gX3_missed_X3_isTrain : GoodIn wsX3_missed (va_wsS RX3 37 yX3_isTrain wsX3_isTrain) := goodIn_app (goodIn_of _ (by decide +kernel)) ggX3_missed_X3_isTrain
set_option maxRecDepth 20000 in
theorem ggX3_missed_X0_trainOf : GoodIn wsX3_missed wsX0_trainOf := goodIn_r _ [11, 12, 13, 33, 34, 35, 36, 37, 38, 39] (by decide +kernel) (by decide +kernel)
set_option maxRecDepth 20000 in
theorem gX3_missed_X0_trainOf : GoodIn wsX3_missed (wsV RX3 48 RX0 yX0_trainOf wsX0_trainOf) := goodIn_app (goodIn_of _ (by decide +kernel)) ggX3_missed_X0_trainOf
set_option maxRecDepth 20000 in
theorem ggX3_missed_X3_refuse : GoodIn wsX3_missed wsX3_refuse := goodIn_r _ [17, 18, 19, 20, 5, 21, 22, 23, 24, 25, 26] (by decide +kernel) (by decide +kernel)
set_option maxRecDepth 20000 in
theorem gX3_missed_X3_refuse : GoodIn wsX3_missed (wsV RX3 41 RX3 yX3_refuse wsX3_refuse) := goodIn_app (goodIn_of _ (by decide +kernel)) ggX3_missed_X3_refuse
theorem dX3_missed_0 : decode cX3_missed 0 = .ok (.iload_n 1, 1) := by decide +kernel
theorem dX3_missed_1 : decode cX3_missed 1 = .ok (.invokestatic 37, 3) := by decide +kernel
theorem dX3_missed_4 : decode cX3_missed 4 = .ok (.ifCond .eq 17, 3) := by decide +kernel
theorem dX3_missed_7 : decode cX3_missed 7 = .ok (.aload_n 0, 1) := by decide +kernel
theorem dX3_missed_8 : decode cX3_missed 8 = .ok (.getfield 10, 3) := by decide +kernel
theorem dX3_missed_11 : decode cX3_missed 11 = .ok (.iload_n 1, 1) := by decide +kernel
theorem dX3_missed_12 : decode cX3_missed 12 = .ok (.invokevirtual 48, 3) := by decide +kernel
theorem dX3_missed_15 : decode cX3_missed 15 = .ok (.getfield 115, 3) := by decide +kernel
theorem dX3_missed_18 : decode cX3_missed 18 = .ok (.goto 9, 3) := by decide +kernel
theorem dX3_missed_21 : decode cX3_missed 21 = .ok (.aload_n 0, 1) := by decide +kernel
theorem dX3_missed_22 : decode cX3_missed 22 = .ok (.bipush (-2), 2) := by decide +kernel
theorem dX3_missed_24 : decode cX3_missed 24 = .ok (.invokevirtual 41, 3) := by decide +kernel
theorem dX3_missed_27 : decode cX3_missed 27 = .ok (.ireturn, 1) := by decide +kernel
set_option maxRecDepth 20000 in
theorem ggX3_isSilent_X3_isMinute : GoodIn wsX3_isSilent wsX3_isMinute := goodIn_r _ [5] (by decide +kernel) (by decide +kernel)
set_option maxRecDepth 20000 in
theorem gX3_isSilent_X3_isMinute : GoodIn wsX3_isSilent (va_wsS RX3 62 yX3_isMinute wsX3_isMinute) := goodIn_app (goodIn_of _ (by decide +kernel)) ggX3_isSilent_X3_isMinute
set_option maxRecDepth 20000 in
theorem ggX3_isSilent_X3_refuse : GoodIn wsX3_isSilent wsX3_refuse := goodIn_r _ [9, 10, 11, 12, 4, 13, 22, 23, 24, 25, 26] (by decide +kernel) (by decide +kernel)
set_option maxRecDepth 20000 in
theorem gX3_isSilent_X3_refuse : GoodIn wsX3_isSilent (wsV RX3 41 RX3 yX3_refuse wsX3_refuse) := goodIn_app (goodIn_of _ (by decide +kernel)) ggX3_isSilent_X3_refuse
set_option maxRecDepth 20000 in
theorem ggX3_isSilent_X0_hushesAt : GoodIn wsX3_isSilent wsX0_hushesAt := goodIn_r _ [18, 19, 20, 21, 27, 28, 29, 30, 31, 32, 33] (by decide +kernel) (by decide +kernel)
set_option maxRecDepth 20000 in
theorem gX3_isSilent_X0_hushesAt : GoodIn wsX3_isSilent (wsV RX3 133 RX0 yX0_hushesAt wsX0_hushesAt) := goodIn_app (goodIn_of _ (by decide +kernel)) ggX3_isSilent_X0_hushesAt
theorem dX3_isSilent_0 : decode cX3_isSilent 0 = .ok (.iload_n 1, 1) := by decide +kernel
theorem dX3_isSilent_1 : decode cX3_isSilent 1 = .ok (.invokestatic 62, 3) := by decide +kernel
theorem dX3_isSilent_4 : decode cX3_isSilent 4 = .ok (.ifCond .ne 10, 3) := by decide +kernel
theorem dX3_isSilent_7 : decode cX3_isSilent 7 = .ok (.aload_n 0, 1) := by decide +kernel
theorem dX3_isSilent_8 : decode cX3_isSilent 8 = .ok (.bipush (-2), 2) := by decide +kernel
theorem dX3_isSilent_10 : decode cX3_isSilent 10 = .ok (.invokevirtual 41, 3) := by decide +kernel
theorem dX3_isSilent_13 : decode cX3_isSilent 13 = .ok (.ireturn, 1) := by decide +kernel
theorem dX3_isSilent_14 : decode cX3_isSilent 14 = .ok (.aload_n 0, 1) := by decide +kernel
theorem dX3_isSilent_15 : decode cX3_isSilent 15 = .ok (.getfield 10, 3) := by decide +kernel
theorem dX3_isSilent_18 : decode cX3_isSilent 18 = .ok (.iload_n 1, 1) := by decide +kernel
theorem dX3_isSilent_19 : decode cX3_isSilent 19 = .ok (.invokevirtual 133, 3) := by decide +kernel
theorem dX3_isSilent_22 : decode cX3_isSilent 22 = .ok (.ifCond .eq 7, 3) := by decide +kernel
theorem dX3_isSilent_25 : decode cX3_isSilent 25 = .ok (.iconst 1, 1) := by decide +kernel
theorem dX3_isSilent_26 : decode cX3_isSilent 26 = .ok (.goto 4, 3) := by decide +kernel
theorem dX3_isSilent_29 : decode cX3_isSilent 29 = .ok (.iconst 0, 1) := by decide +kernel
theorem dX3_isSilent_30 : decode cX3_isSilent 30 = .ok (.ireturn, 1) := by decide +kernel
set_option maxRecDepth 20000 in
theorem ggX3_strikeMinute_X3_refuse : GoodIn wsX3_strikeMinute wsX3_refuse := goodIn_r _ [9, 10, 11, 12, 8, 13, 14, 15, 16, 17, 18] (by decide +kernel) (by decide +kernel)
set_option maxRecDepth 20000 in
theorem gX3_strikeMinute_X3_refuse : GoodIn wsX3_strikeMinute (wsV RX3 41 RX3 yX3_refuse wsX3_refuse) := goodIn_app (goodIn_of _ (by decide +kernel)) ggX3_strikeMinute_X3_refuse
theorem dX3_strikeMinute_0 : decode cX3_strikeMinute 0 = .ok (.iload_n 1, 1) := by decide +kernel
theorem dX3_strikeMinute_1 : decode cX3_strikeMinute 1 = .ok (.ifCond .ge 10, 3) := by decide +kernel
theorem dX3_strikeMinute_4 : decode cX3_strikeMinute 4 = .ok (.aload_n 0, 1) := by decide +kernel
theorem dX3_strikeMinute_5 : decode cX3_strikeMinute 5 = .ok (.bipush (-2), 2) := by decide +kernel
theorem dX3_strikeMinute_7 : decode cX3_strikeMinute 7 = .ok (.invokevirtual 41, 3) := by decide +kernel
theorem dX3_strikeMinute_10 : decode cX3_strikeMinute 10 = .ok (.ireturn, 1) := by decide +kernel
theorem dX3_strikeMinute_11 : decode cX3_strikeMinute 11 = .ok (.iload_n 1, 1) := by decide +kernel
theorem dX3_strikeMinute_12 : decode cX3_strikeMinute 12 = .ok (.aload_n 0, 1) := by decide +kernel
theorem dX3_strikeMinute_13 : decode cX3_strikeMinute 13 = .ok (.getfield 10, 3) := by decide +kernel
theorem dX3_strikeMinute_16 : decode cX3_strikeMinute 16 = .ok (.getfield 136, 3) := by decide +kernel
theorem dX3_strikeMinute_19 : decode cX3_strikeMinute 19 = .ok (.getfield 140, 3) := by decide +kernel
theorem dX3_strikeMinute_22 : decode cX3_strikeMinute 22 = .ok (.if_icmp .ge 18, 3) := by decide +kernel
theorem dX3_strikeMinute_25 : decode cX3_strikeMinute 25 = .ok (.aload_n 0, 1) := by decide +kernel
theorem dX3_strikeMinute_26 : decode cX3_strikeMinute 26 = .ok (.getfield 10, 3) := by decide +kernel
theorem dX3_strikeMinute_29 : decode cX3_strikeMinute 29 = .ok (.getfield 136, 3) := by decide +kernel
theorem dX3_strikeMinute_32 : decode cX3_strikeMinute 32 = .ok (.getfield 145, 3) := by decide +kernel
theorem dX3_strikeMinute_35 : decode cX3_strikeMinute 35 = .ok (.iload_n 1, 1) := by decide +kernel
theorem dX3_strikeMinute_36 : decode cX3_strikeMinute 36 = .ok (.iaload, 1) := by decide +kernel
theorem dX3_strikeMinute_37 : decode cX3_strikeMinute 37 = .ok (.goto 4, 3) := by decide +kernel
theorem dX3_strikeMinute_40 : decode cX3_strikeMinute 40 = .ok (.iconst (-1), 1) := by decide +kernel
theorem dX3_strikeMinute_41 : decode cX3_strikeMinute 41 = .ok (.ireturn, 1) := by decide +kernel
set_option maxRecDepth 20000 in
theorem ggX3_strikeTrain_X3_refuse : GoodIn wsX3_strikeTrain wsX3_refuse := goodIn_r _ [9, 10, 11, 12, 8, 13, 14, 15, 16, 17, 18] (by decide +kernel) (by decide +kernel)
set_option maxRecDepth 20000 in
theorem gX3_strikeTrain_X3_refuse : GoodIn wsX3_strikeTrain (wsV RX3 41 RX3 yX3_refuse wsX3_refuse) := goodIn_app (goodIn_of _ (by decide +kernel)) ggX3_strikeTrain_X3_refuse
theorem dX3_strikeTrain_0 : decode cX3_strikeTrain 0 = .ok (.iload_n 1, 1) := by decide +kernel
theorem dX3_strikeTrain_1 : decode cX3_strikeTrain 1 = .ok (.ifCond .ge 10, 3) := by decide +kernel
theorem dX3_strikeTrain_4 : decode cX3_strikeTrain 4 = .ok (.aload_n 0, 1) := by decide +kernel
theorem dX3_strikeTrain_5 : decode cX3_strikeTrain 5 = .ok (.bipush (-2), 2) := by decide +kernel
theorem dX3_strikeTrain_7 : decode cX3_strikeTrain 7 = .ok (.invokevirtual 41, 3) := by decide +kernel
theorem dX3_strikeTrain_10 : decode cX3_strikeTrain 10 = .ok (.ireturn, 1) := by decide +kernel
theorem dX3_strikeTrain_11 : decode cX3_strikeTrain 11 = .ok (.iload_n 1, 1) := by decide +kernel
theorem dX3_strikeTrain_12 : decode cX3_strikeTrain 12 = .ok (.aload_n 0, 1) := by decide +kernel
theorem dX3_strikeTrain_13 : decode cX3_strikeTrain 13 = .ok (.getfield 10, 3) := by decide +kernel
theorem dX3_strikeTrain_16 : decode cX3_strikeTrain 16 = .ok (.getfield 136, 3) := by decide +kernel
theorem dX3_strikeTrain_19 : decode cX3_strikeTrain 19 = .ok (.getfield 140, 3) := by decide +kernel
theorem dX3_strikeTrain_22 : decode cX3_strikeTrain 22 = .ok (.if_icmp .ge 18, 3) := by decide +kernel
theorem dX3_strikeTrain_25 : decode cX3_strikeTrain 25 = .ok (.aload_n 0, 1) := by decide +kernel
theorem dX3_strikeTrain_26 : decode cX3_strikeTrain 26 = .ok (.getfield 10, 3) := by decide +kernel
theorem dX3_strikeTrain_29 : decode cX3_strikeTrain 29 = .ok (.getfield 136, 3) := by decide +kernel
theorem dX3_strikeTrain_32 : decode cX3_strikeTrain 32 = .ok (.getfield 148, 3) := by decide +kernel
theorem dX3_strikeTrain_35 : decode cX3_strikeTrain 35 = .ok (.iload_n 1, 1) := by decide +kernel
theorem dX3_strikeTrain_36 : decode cX3_strikeTrain 36 = .ok (.iaload, 1) := by decide +kernel
theorem dX3_strikeTrain_37 : decode cX3_strikeTrain 37 = .ok (.goto 4, 3) := by decide +kernel
theorem dX3_strikeTrain_40 : decode cX3_strikeTrain 40 = .ok (.iconst (-1), 1) := by decide +kernel
theorem dX3_strikeTrain_41 : decode cX3_strikeTrain 41 = .ok (.ireturn, 1) := by decide +kernel
set_option maxRecDepth 20000 in
theorem ggX3_strikeBlows_X3_refuse : GoodIn wsX3_strikeBlows wsX3_refuse := goodIn_r _ [9, 10, 11, 12, 8, 13, 14, 15, 16, 17, 18] (by decide +kernel) (by decide +kernel)
set_option maxRecDepth 20000 in
theorem gX3_strikeBlows_X3_refuse : GoodIn wsX3_strikeBlows (wsV RX3 41 RX3 yX3_refuse wsX3_refuse) := goodIn_app (goodIn_of _ (by decide +kernel)) ggX3_strikeBlows_X3_refuse
theorem dX3_strikeBlows_0 : decode cX3_strikeBlows 0 = .ok (.iload_n 1, 1) := by decide +kernel
theorem dX3_strikeBlows_1 : decode cX3_strikeBlows 1 = .ok (.ifCond .ge 10, 3) := by decide +kernel
theorem dX3_strikeBlows_4 : decode cX3_strikeBlows 4 = .ok (.aload_n 0, 1) := by decide +kernel
theorem dX3_strikeBlows_5 : decode cX3_strikeBlows 5 = .ok (.bipush (-2), 2) := by decide +kernel
theorem dX3_strikeBlows_7 : decode cX3_strikeBlows 7 = .ok (.invokevirtual 41, 3) := by decide +kernel
theorem dX3_strikeBlows_10 : decode cX3_strikeBlows 10 = .ok (.ireturn, 1) := by decide +kernel
theorem dX3_strikeBlows_11 : decode cX3_strikeBlows 11 = .ok (.iload_n 1, 1) := by decide +kernel
theorem dX3_strikeBlows_12 : decode cX3_strikeBlows 12 = .ok (.aload_n 0, 1) := by decide +kernel
theorem dX3_strikeBlows_13 : decode cX3_strikeBlows 13 = .ok (.getfield 10, 3) := by decide +kernel
theorem dX3_strikeBlows_16 : decode cX3_strikeBlows 16 = .ok (.getfield 136, 3) := by decide +kernel
theorem dX3_strikeBlows_19 : decode cX3_strikeBlows 19 = .ok (.getfield 140, 3) := by decide +kernel
theorem dX3_strikeBlows_22 : decode cX3_strikeBlows 22 = .ok (.if_icmp .ge 18, 3) := by decide +kernel
theorem dX3_strikeBlows_25 : decode cX3_strikeBlows 25 = .ok (.aload_n 0, 1) := by decide +kernel
theorem dX3_strikeBlows_26 : decode cX3_strikeBlows 26 = .ok (.getfield 10, 3) := by decide +kernel
theorem dX3_strikeBlows_29 : decode cX3_strikeBlows 29 = .ok (.getfield 136, 3) := by decide +kernel
theorem dX3_strikeBlows_32 : decode cX3_strikeBlows 32 = .ok (.getfield 151, 3) := by decide +kernel
theorem dX3_strikeBlows_35 : decode cX3_strikeBlows 35 = .ok (.iload_n 1, 1) := by decide +kernel
theorem dX3_strikeBlows_36 : decode cX3_strikeBlows 36 = .ok (.iaload, 1) := by decide +kernel
theorem dX3_strikeBlows_37 : decode cX3_strikeBlows 37 = .ok (.goto 4, 3) := by decide +kernel
theorem dX3_strikeBlows_40 : decode cX3_strikeBlows 40 = .ok (.iconst 0, 1) := by decide +kernel
theorem dX3_strikeBlows_41 : decode cX3_strikeBlows 41 = .ok (.ireturn, 1) := by decide +kernel
set_option maxRecDepth 20000 in
theorem ggX3_undo_X3_refuse : GoodIn wsX3_undo wsX3_refuse := goodIn_r _ [8, 9, 10, 11, 7, 12, 45, 46, 47, 48, 49] (by decide +kernel) (by decide +kernel)
set_option maxRecDepth 20000 in
theorem gX3_undo_X3_refuse : GoodIn wsX3_undo (wsV RX3 41 RX3 yX3_refuse wsX3_refuse) := goodIn_app (goodIn_of _ (by decide +kernel)) ggX3_undo_X3_refuse
set_option maxRecDepth 20000 in
theorem ggX3_undo_X0_copyFrom : GoodIn wsX3_undo wsX0_copyFrom := goodIn_r _ [17, 18, 19, 20, 21, 22, 23, 24, 25, 26, 27, 28, 29, 30, 31, 32, 33, 34, 35, 36, 37, 38, 39, 40, 41, 42, 43, 44, 50, 51, 52, 53, 54, 55, 56, 57, 58, 59, 60, 61, 62, 63, 64, 65, 66] (by decide +kernel) (by decide +kernel)
set_option maxRecDepth 20000 in
theorem gX3_undo_X0_copyFrom : GoodIn wsX3_undo (wsV RX3 154 RX0 yX0_copyFrom wsX0_copyFrom) := goodIn_app (goodIn_of _ (by decide +kernel)) ggX3_undo_X0_copyFrom
theorem dX3_undo_0 : decode cX3_undo 0 = .ok (.aload_n 0, 1) := by decide +kernel
theorem dX3_undo_1 : decode cX3_undo 1 = .ok (.getfield 33, 3) := by decide +kernel
theorem dX3_undo_4 : decode cX3_undo 4 = .ok (.ifCond .gt 10, 3) := by decide +kernel
theorem dX3_undo_7 : decode cX3_undo 7 = .ok (.aload_n 0, 1) := by decide +kernel
theorem dX3_undo_8 : decode cX3_undo 8 = .ok (.bipush (-4), 2) := by decide +kernel
theorem dX3_undo_10 : decode cX3_undo 10 = .ok (.invokevirtual 41, 3) := by decide +kernel
theorem dX3_undo_13 : decode cX3_undo 13 = .ok (.ireturn, 1) := by decide +kernel
theorem dX3_undo_14 : decode cX3_undo 14 = .ok (.aload_n 0, 1) := by decide +kernel
theorem dX3_undo_15 : decode cX3_undo 15 = .ok (.dup, 1) := by decide +kernel
theorem dX3_undo_16 : decode cX3_undo 16 = .ok (.getfield 33, 3) := by decide +kernel
theorem dX3_undo_19 : decode cX3_undo 19 = .ok (.iconst 1, 1) := by decide +kernel
end
section
theorem dX3_undo_20 : decode cX3_undo 20 = .ok (.isub, 1) := by decide +kernel
theorem dX3_undo_21 : decode cX3_undo 21 = .ok (.putfield 33, 3) := by decide +kernel
theorem dX3_undo_24 : decode cX3_undo 24 = .ok (.aload_n 0, 1) := by decide +kernel
theorem dX3_undo_25 : decode cX3_undo 25 = .ok (.getfield 10, 3) := by decide +kernel
theorem dX3_undo_28 : decode cX3_undo 28 = .ok (.aload_n 0, 1) := by decide +kernel
theorem dX3_undo_29 : decode cX3_undo 29 = .ok (.getfield 16, 3) := by decide +kernel
theorem dX3_undo_32 : decode cX3_undo 32 = .ok (.aload_n 0, 1) := by decide +kernel
theorem dX3_undo_33 : decode cX3_undo 33 = .ok (.getfield 33, 3) := by decide +kernel
theorem dX3_undo_36 : decode cX3_undo 36 = .ok (.aaload, 1) := by decide +kernel
theorem dX3_undo_37 : decode cX3_undo 37 = .ok (.invokevirtual 154, 3) := by decide +kernel
theorem dX3_undo_40 : decode cX3_undo 40 = .ok (.aload_n 0, 1) := by decide +kernel
theorem dX3_undo_41 : decode cX3_undo 41 = .ok (.getfield 33, 3) := by decide +kernel
theorem dX3_undo_44 : decode cX3_undo 44 = .ok (.ireturn, 1) := by decide +kernel
set_option maxRecDepth 20000 in
theorem ggX3_errorCount_X3_refuse : GoodIn wsX3_errorCount wsX3_refuse := goodIn_r _ [6, 1, 7, 8, 5, 9, 10, 11, 12, 13, 14] (by decide +kernel) (by decide +kernel)
set_option maxRecDepth 20000 in
theorem gX3_errorCount_X3_refuse : GoodIn wsX3_errorCount (wsV RX3 41 RX3 yX3_refuse wsX3_refuse) := goodIn_app (goodIn_of _ (by decide +kernel)) ggX3_errorCount_X3_refuse
set_option maxRecDepth 20000 in
theorem ggX3_errorCount_X3_errorIndex : GoodIn wsX3_errorCount wsX3_errorIndex := goodIn_r _ [9] (by decide +kernel) (by decide +kernel)
set_option maxRecDepth 20000 in
theorem gX3_errorCount_X3_errorIndex : GoodIn wsX3_errorCount (va_wsS RX3 157 yX3_errorIndex wsX3_errorIndex) := goodIn_app (goodIn_of _ (by decide +kernel)) ggX3_errorCount_X3_errorIndex
theorem dX3_errorCount_0 : decode cX3_errorCount 0 = .ok (.iload_n 1, 1) := by decide +kernel
theorem dX3_errorCount_1 : decode cX3_errorCount 1 = .ok (.bipush (-4), 2) := by decide +kernel
theorem dX3_errorCount_3 : decode cX3_errorCount 3 = .ok (.if_icmp .lt 9, 3) := by decide +kernel
theorem dX3_errorCount_6 : decode cX3_errorCount 6 = .ok (.iload_n 1, 1) := by decide +kernel
theorem dX3_errorCount_7 : decode cX3_errorCount 7 = .ok (.bipush (-2), 2) := by decide +kernel
theorem dX3_errorCount_9 : decode cX3_errorCount 9 = .ok (.if_icmp .le 10, 3) := by decide +kernel
theorem dX3_errorCount_12 : decode cX3_errorCount 12 = .ok (.aload_n 0, 1) := by decide +kernel
theorem dX3_errorCount_13 : decode cX3_errorCount 13 = .ok (.bipush (-2), 2) := by decide +kernel
theorem dX3_errorCount_15 : decode cX3_errorCount 15 = .ok (.invokevirtual 41, 3) := by decide +kernel
theorem dX3_errorCount_18 : decode cX3_errorCount 18 = .ok (.ireturn, 1) := by decide +kernel
theorem dX3_errorCount_19 : decode cX3_errorCount 19 = .ok (.aload_n 0, 1) := by decide +kernel
theorem dX3_errorCount_20 : decode cX3_errorCount 20 = .ok (.getfield 29, 3) := by decide +kernel
theorem dX3_errorCount_23 : decode cX3_errorCount 23 = .ok (.iload_n 1, 1) := by decide +kernel
theorem dX3_errorCount_24 : decode cX3_errorCount 24 = .ok (.invokestatic 157, 3) := by decide +kernel
theorem dX3_errorCount_27 : decode cX3_errorCount 27 = .ok (.iaload, 1) := by decide +kernel
theorem dX3_errorCount_28 : decode cX3_errorCount 28 = .ok (.ireturn, 1) := by decide +kernel
set_option maxRecDepth 20000 in
theorem ggX3_digest_X0_addToHash : GoodIn wsX3_digest wsX0_addToHash := goodIn_r _ [10, 11, 12, 13, 14, 15, 16, 17, 18, 19, 20, 21, 22, 23, 24, 25, 26, 27, 28, 29, 30, 31, 32, 33, 34, 35, 36, 37, 38, 39, 40, 41, 42, 43, 44, 45, 46, 47, 48, 49, 50, 51, 52, 53, 54, 55, 56, 57, 58, 59, 60, 66, 67, 68, 69, 70, 71, 72, 73, 74, 75, 76, 77, 78, 79, 80, 81, 82] (by decide +kernel) (by decide +kernel)
set_option maxRecDepth 20000 in
theorem gX3_digest_X0_addToHash : GoodIn wsX3_digest (wsV RX3 164 RX0 yX0_addToHash wsX0_addToHash) := goodIn_app (goodIn_of _ (by decide +kernel)) ggX3_digest_X0_addToHash
theorem dX3_digest_0 : decode cX3_digest 0 = .ok (.ldc2_w 160, 3) := by decide +kernel
theorem dX3_digest_3 : decode cX3_digest 3 = .ok (.lstore_n 1, 1) := by decide +kernel
theorem dX3_digest_4 : decode cX3_digest 4 = .ok (.iconst 0, 1) := by decide +kernel
theorem dX3_digest_5 : decode cX3_digest 5 = .ok (.istore_n 3, 1) := by decide +kernel
theorem dX3_digest_6 : decode cX3_digest 6 = .ok (.iload_n 3, 1) := by decide +kernel
theorem dX3_digest_7 : decode cX3_digest 7 = .ok (.iconst 3, 1) := by decide +kernel
theorem dX3_digest_8 : decode cX3_digest 8 = .ok (.if_icmp .ge 23, 3) := by decide +kernel
theorem dX3_digest_11 : decode cX3_digest 11 = .ok (.ldc2_w 162, 3) := by decide +kernel
theorem dX3_digest_14 : decode cX3_digest 14 = .ok (.lload_n 1, 1) := by decide +kernel
theorem dX3_digest_15 : decode cX3_digest 15 = .ok (.lmul, 1) := by decide +kernel
theorem dX3_digest_16 : decode cX3_digest 16 = .ok (.aload_n 0, 1) := by decide +kernel
theorem dX3_digest_17 : decode cX3_digest 17 = .ok (.getfield 29, 3) := by decide +kernel
theorem dX3_digest_20 : decode cX3_digest 20 = .ok (.iload_n 3, 1) := by decide +kernel
theorem dX3_digest_21 : decode cX3_digest 21 = .ok (.iaload, 1) := by decide +kernel
theorem dX3_digest_22 : decode cX3_digest 22 = .ok (.i2l, 1) := by decide +kernel
theorem dX3_digest_23 : decode cX3_digest 23 = .ok (.ladd, 1) := by decide +kernel
theorem dX3_digest_24 : decode cX3_digest 24 = .ok (.lstore_n 1, 1) := by decide +kernel
theorem dX3_digest_25 : decode cX3_digest 25 = .ok (.iinc 3 1, 3) := by decide +kernel
theorem dX3_digest_28 : decode cX3_digest 28 = .ok (.goto (-22), 3) := by decide +kernel
theorem dX3_digest_31 : decode cX3_digest 31 = .ok (.aload_n 0, 1) := by decide +kernel
theorem dX3_digest_32 : decode cX3_digest 32 = .ok (.getfield 10, 3) := by decide +kernel
theorem dX3_digest_35 : decode cX3_digest 35 = .ok (.lload_n 1, 1) := by decide +kernel
theorem dX3_digest_36 : decode cX3_digest 36 = .ok (.invokevirtual 164, 3) := by decide +kernel
theorem dX3_digest_39 : decode cX3_digest 39 = .ok (.lstore_n 1, 1) := by decide +kernel
theorem dX3_digest_40 : decode cX3_digest 40 = .ok (.ldc2_w 162, 3) := by decide +kernel
theorem dX3_digest_43 : decode cX3_digest 43 = .ok (.lload_n 1, 1) := by decide +kernel
theorem dX3_digest_44 : decode cX3_digest 44 = .ok (.lmul, 1) := by decide +kernel
theorem dX3_digest_45 : decode cX3_digest 45 = .ok (.aload_n 0, 1) := by decide +kernel
theorem dX3_digest_46 : decode cX3_digest 46 = .ok (.getfield 33, 3) := by decide +kernel
theorem dX3_digest_49 : decode cX3_digest 49 = .ok (.i2l, 1) := by decide +kernel
theorem dX3_digest_50 : decode cX3_digest 50 = .ok (.ladd, 1) := by decide +kernel
theorem dX3_digest_51 : decode cX3_digest 51 = .ok (.lreturn, 1) := by decide +kernel
theorem dX3_isTrain_0 : decode cX3_isTrain 0 = .ok (.iload_n 0, 1) := by decide +kernel
theorem dX3_isTrain_1 : decode cX3_isTrain 1 = .ok (.ifCond .eq 8, 3) := by decide +kernel
theorem dX3_isTrain_4 : decode cX3_isTrain 4 = .ok (.iload_n 0, 1) := by decide +kernel
theorem dX3_isTrain_5 : decode cX3_isTrain 5 = .ok (.iconst 1, 1) := by decide +kernel
theorem dX3_isTrain_6 : decode cX3_isTrain 6 = .ok (.if_icmp .ne 7, 3) := by decide +kernel
theorem dX3_isTrain_9 : decode cX3_isTrain 9 = .ok (.iconst 1, 1) := by decide +kernel
theorem dX3_isTrain_10 : decode cX3_isTrain 10 = .ok (.goto 4, 3) := by decide +kernel
theorem dX3_isTrain_13 : decode cX3_isTrain 13 = .ok (.iconst 0, 1) := by decide +kernel
theorem dX3_isTrain_14 : decode cX3_isTrain 14 = .ok (.ireturn, 1) := by decide +kernel
theorem dX3_isMinute_0 : decode cX3_isMinute 0 = .ok (.iload_n 0, 1) := by decide +kernel
theorem dX3_isMinute_1 : decode cX3_isMinute 1 = .ok (.ifCond .lt 14, 3) := by decide +kernel
theorem dX3_isMinute_4 : decode cX3_isMinute 4 = .ok (.iload_n 0, 1) := by decide +kernel
theorem dX3_isMinute_5 : decode cX3_isMinute 5 = .ok (.sipush 1440, 3) := by decide +kernel
theorem dX3_isMinute_8 : decode cX3_isMinute 8 = .ok (.if_icmp .ge 7, 3) := by decide +kernel
theorem dX3_isMinute_11 : decode cX3_isMinute 11 = .ok (.iconst 1, 1) := by decide +kernel
theorem dX3_isMinute_12 : decode cX3_isMinute 12 = .ok (.goto 4, 3) := by decide +kernel
theorem dX3_isMinute_15 : decode cX3_isMinute 15 = .ok (.iconst 0, 1) := by decide +kernel
theorem dX3_isMinute_16 : decode cX3_isMinute 16 = .ok (.ireturn, 1) := by decide +kernel
theorem dX3_errorIndex_0 : decode cX3_errorIndex 0 = .ok (.bipush (-2), 2) := by decide +kernel
theorem dX3_errorIndex_2 : decode cX3_errorIndex 2 = .ok (.iload_n 0, 1) := by decide +kernel
theorem dX3_errorIndex_3 : decode cX3_errorIndex 3 = .ok (.isub, 1) := by decide +kernel
theorem dX3_errorIndex_4 : decode cX3_errorIndex 4 = .ok (.ireturn, 1) := by decide +kernel
set_option maxRecDepth 20000 in
theorem ggX3_refuse_X3_errorIndex : GoodIn wsX3_refuse wsX3_errorIndex := goodIn_r _ [5] (by decide +kernel) (by decide +kernel)
set_option maxRecDepth 20000 in
theorem gX3_refuse_X3_errorIndex : GoodIn wsX3_refuse (va_wsS RX3 157 yX3_errorIndex wsX3_errorIndex) := goodIn_app (goodIn_of _ (by decide +kernel)) ggX3_refuse_X3_errorIndex
theorem dX3_refuse_0 : decode cX3_refuse 0 = .ok (.aload_n 0, 1) := by decide +kernel
theorem dX3_refuse_1 : decode cX3_refuse 1 = .ok (.getfield 29, 3) := by decide +kernel
theorem dX3_refuse_4 : decode cX3_refuse 4 = .ok (.iload_n 1, 1) := by decide +kernel
theorem dX3_refuse_5 : decode cX3_refuse 5 = .ok (.invokestatic 157, 3) := by decide +kernel
theorem dX3_refuse_8 : decode cX3_refuse 8 = .ok (.dup2, 1) := by decide +kernel
theorem dX3_refuse_9 : decode cX3_refuse 9 = .ok (.iaload, 1) := by decide +kernel
theorem dX3_refuse_10 : decode cX3_refuse 10 = .ok (.iconst 1, 1) := by decide +kernel
theorem dX3_refuse_11 : decode cX3_refuse 11 = .ok (.iadd, 1) := by decide +kernel
theorem dX3_refuse_12 : decode cX3_refuse 12 = .ok (.iastore, 1) := by decide +kernel
theorem dX3_refuse_13 : decode cX3_refuse 13 = .ok (.iload_n 1, 1) := by decide +kernel
theorem dX3_refuse_14 : decode cX3_refuse 14 = .ok (.ireturn, 1) := by decide +kernel
set_option maxRecDepth 20000 in
theorem ggX3_save_X3_dropOldestSaved : GoodIn wsX3_save wsX3_dropOldestSaved := goodIn_r _ [8, 2, 1, 41, 42, 43, 44, 45] (by decide +kernel) (by decide +kernel)
set_option maxRecDepth 20000 in
theorem gX3_save_X3_dropOldestSaved : GoodIn wsX3_save (wsV RX3 168 RX3 yX3_dropOldestSaved wsX3_dropOldestSaved) := goodIn_app (goodIn_of _ (by decide +kernel)) ggX3_save_X3_dropOldestSaved
set_option maxRecDepth 20000 in
theorem ggX3_save_X0_copyFrom : GoodIn wsX3_save wsX0_copyFrom := goodIn_r _ [13, 14, 15, 16, 17, 18, 19, 20, 21, 22, 23, 24, 25, 26, 27, 28, 29, 30, 31, 32, 33, 34, 35, 36, 37, 38, 39, 40, 46, 47, 48, 49, 50, 51, 52, 53, 54, 55, 56, 57, 58, 59, 60, 61, 62] (by decide +kernel) (by decide +kernel)
set_option maxRecDepth 20000 in
theorem gX3_save_X0_copyFrom : GoodIn wsX3_save (wsV RX3 154 RX0 yX0_copyFrom wsX0_copyFrom) := goodIn_app (goodIn_of _ (by decide +kernel)) ggX3_save_X0_copyFrom
theorem dX3_save_0 : decode cX3_save 0 = .ok (.aload_n 0, 1) := by decide +kernel
theorem dX3_save_1 : decode cX3_save 1 = .ok (.getfield 33, 3) := by decide +kernel
theorem dX3_save_4 : decode cX3_save 4 = .ok (.iconst 5, 1) := by decide +kernel
theorem dX3_save_5 : decode cX3_save 5 = .ok (.if_icmp .lt 7, 3) := by decide +kernel
theorem dX3_save_8 : decode cX3_save 8 = .ok (.aload_n 0, 1) := by decide +kernel
theorem dX3_save_9 : decode cX3_save 9 = .ok (.invokevirtual 168, 3) := by decide +kernel
theorem dX3_save_12 : decode cX3_save 12 = .ok (.aload_n 0, 1) := by decide +kernel
theorem dX3_save_13 : decode cX3_save 13 = .ok (.getfield 16, 3) := by decide +kernel
theorem dX3_save_16 : decode cX3_save 16 = .ok (.aload_n 0, 1) := by decide +kernel
theorem dX3_save_17 : decode cX3_save 17 = .ok (.getfield 33, 3) := by decide +kernel
theorem dX3_save_20 : decode cX3_save 20 = .ok (.aaload, 1) := by decide +kernel
theorem dX3_save_21 : decode cX3_save 21 = .ok (.aload_n 0, 1) := by decide +kernel
theorem dX3_save_22 : decode cX3_save 22 = .ok (.getfield 10, 3) := by decide +kernel
theorem dX3_save_25 : decode cX3_save 25 = .ok (.invokevirtual 154, 3) := by decide +kernel
theorem dX3_save_28 : decode cX3_save 28 = .ok (.aload_n 0, 1) := by decide +kernel
theorem dX3_save_29 : decode cX3_save 29 = .ok (.dup, 1) := by decide +kernel
theorem dX3_save_30 : decode cX3_save 30 = .ok (.getfield 33, 3) := by decide +kernel
theorem dX3_save_33 : decode cX3_save 33 = .ok (.iconst 1, 1) := by decide +kernel
theorem dX3_save_34 : decode cX3_save 34 = .ok (.iadd, 1) := by decide +kernel
theorem dX3_save_35 : decode cX3_save 35 = .ok (.putfield 33, 3) := by decide +kernel
theorem dX3_save_38 : decode cX3_save 38 = .ok (.return_, 1) := by decide +kernel
theorem dX3_dropOldestSaved_0 : decode cX3_dropOldestSaved 0 = .ok (.aload_n 0, 1) := by decide +kernel
theorem dX3_dropOldestSaved_1 : decode cX3_dropOldestSaved 1 = .ok (.getfield 16, 3) := by decide +kernel
theorem dX3_dropOldestSaved_4 : decode cX3_dropOldestSaved 4 = .ok (.iconst 0, 1) := by decide +kernel
theorem dX3_dropOldestSaved_5 : decode cX3_dropOldestSaved 5 = .ok (.aaload, 1) := by decide +kernel
theorem dX3_dropOldestSaved_6 : decode cX3_dropOldestSaved 6 = .ok (.astore_n 1, 1) := by decide +kernel
theorem dX3_dropOldestSaved_7 : decode cX3_dropOldestSaved 7 = .ok (.iconst 1, 1) := by decide +kernel
theorem dX3_dropOldestSaved_8 : decode cX3_dropOldestSaved 8 = .ok (.istore_n 2, 1) := by decide +kernel
theorem dX3_dropOldestSaved_9 : decode cX3_dropOldestSaved 9 = .ok (.iload_n 2, 1) := by decide +kernel
theorem dX3_dropOldestSaved_10 : decode cX3_dropOldestSaved 10 = .ok (.iconst 5, 1) := by decide +kernel
theorem dX3_dropOldestSaved_11 : decode cX3_dropOldestSaved 11 = .ok (.if_icmp .ge 23, 3) := by decide +kernel
theorem dX3_dropOldestSaved_14 : decode cX3_dropOldestSaved 14 = .ok (.aload_n 0, 1) := by decide +kernel
theorem dX3_dropOldestSaved_15 : decode cX3_dropOldestSaved 15 = .ok (.getfield 16, 3) := by decide +kernel
theorem dX3_dropOldestSaved_18 : decode cX3_dropOldestSaved 18 = .ok (.iload_n 2, 1) := by decide +kernel
theorem dX3_dropOldestSaved_19 : decode cX3_dropOldestSaved 19 = .ok (.iconst 1, 1) := by decide +kernel
theorem dX3_dropOldestSaved_20 : decode cX3_dropOldestSaved 20 = .ok (.isub, 1) := by decide +kernel
theorem dX3_dropOldestSaved_21 : decode cX3_dropOldestSaved 21 = .ok (.aload_n 0, 1) := by decide +kernel
theorem dX3_dropOldestSaved_22 : decode cX3_dropOldestSaved 22 = .ok (.getfield 16, 3) := by decide +kernel
theorem dX3_dropOldestSaved_25 : decode cX3_dropOldestSaved 25 = .ok (.iload_n 2, 1) := by decide +kernel
theorem dX3_dropOldestSaved_26 : decode cX3_dropOldestSaved 26 = .ok (.aaload, 1) := by decide +kernel
theorem dX3_dropOldestSaved_27 : decode cX3_dropOldestSaved 27 = .ok (.aastore, 1) := by decide +kernel
theorem dX3_dropOldestSaved_28 : decode cX3_dropOldestSaved 28 = .ok (.iinc 2 1, 3) := by decide +kernel
theorem dX3_dropOldestSaved_31 : decode cX3_dropOldestSaved 31 = .ok (.goto (-22), 3) := by decide +kernel
theorem dX3_dropOldestSaved_34 : decode cX3_dropOldestSaved 34 = .ok (.aload_n 0, 1) := by decide +kernel
theorem dX3_dropOldestSaved_35 : decode cX3_dropOldestSaved 35 = .ok (.getfield 16, 3) := by decide +kernel
theorem dX3_dropOldestSaved_38 : decode cX3_dropOldestSaved 38 = .ok (.iconst 4, 1) := by decide +kernel
theorem dX3_dropOldestSaved_39 : decode cX3_dropOldestSaved 39 = .ok (.aload_n 1, 1) := by decide +kernel
theorem dX3_dropOldestSaved_40 : decode cX3_dropOldestSaved 40 = .ok (.aastore, 1) := by decide +kernel
theorem dX3_dropOldestSaved_41 : decode cX3_dropOldestSaved 41 = .ok (.aload_n 0, 1) := by decide +kernel
theorem dX3_dropOldestSaved_42 : decode cX3_dropOldestSaved 42 = .ok (.iconst 4, 1) := by decide +kernel
theorem dX3_dropOldestSaved_43 : decode cX3_dropOldestSaved 43 = .ok (.putfield 33, 3) := by decide +kernel
theorem dX3_dropOldestSaved_46 : decode cX3_dropOldestSaved 46 = .ok (.return_, 1) := by decide +kernel
set_option maxRecDepth 20000 in
theorem ggX3_strikeQuarter_X0_blocksAt : GoodIn wsX3_strikeQuarter wsX0_blocksAt := goodIn_r _ [9, 10, 11, 12, 13, 8, 14, 15, 16, 82, 83, 84, 85, 86, 87, 88] (by decide +kernel) (by decide +kernel)
set_option maxRecDepth 20000 in
theorem gX3_strikeQuarter_X0_blocksAt : GoodIn wsX3_strikeQuarter (wsV RX3 121 RX0 yX0_blocksAt wsX0_blocksAt) := goodIn_app (goodIn_of _ (by decide +kernel)) ggX3_strikeQuarter_X0_blocksAt
set_option maxRecDepth 20000 in
theorem ggX3_strikeQuarter_X0_hushesAt : GoodIn wsX3_strikeQuarter wsX0_hushesAt := goodIn_r _ [14, 10, 15, 16, 82, 83, 84, 85, 86, 87, 88] (by decide +kernel) (by decide +kernel)
set_option maxRecDepth 20000 in
theorem gX3_strikeQuarter_X0_hushesAt : GoodIn wsX3_strikeQuarter (wsV RX3 133 RX0 yX0_hushesAt wsX0_hushesAt) := goodIn_app (goodIn_of _ (by decide +kernel)) ggX3_strikeQuarter_X0_hushesAt
set_option maxRecDepth 20000 in
theorem ggX3_strikeQuarter_X2_dueAt : GoodIn wsX3_strikeQuarter wsX2_dueAt := goodIn_r _ [22, 23, 24, 25, 26, 21, 27, 89, 90, 91, 92, 93, 94] (by decide +kernel) (by decide +kernel)
set_option maxRecDepth 20000 in
theorem gX3_strikeQuarter_X2_dueAt : GoodIn wsX3_strikeQuarter (wsV RX3 124 RX2 yX2_dueAt wsX2_dueAt) := goodIn_app (goodIn_of _ (by decide +kernel)) ggX3_strikeQuarter_X2_dueAt
set_option maxRecDepth 20000 in
theorem ggX3_strikeQuarter_X3_release : GoodIn wsX3_strikeQuarter wsX3_release := goodIn_r _ [32, 1, 33, 2, 34, 35, 36, 37, 38, 21, 39, 40, 41, 42, 43, 44, 45, 46, 47, 48, 49, 50, 51, 52, 53, 54, 55, 24, 25, 26, 27, 23, 56, 57, 58, 59, 60, 61, 62, 63, 64, 65, 66, 67, 68, 77, 78, 79, 80, 81, 82, 83, 84, 85, 86, 87, 88, 89, 90, 91, 92, 93, 94, 95, 96, 97, 98] (by decide +kernel) (by decide +kernel)
set_option maxRecDepth 20000 in
theorem gX3_strikeQuarter_X3_release : GoodIn wsX3_strikeQuarter (wsV RX3 95 RX3 yX3_release wsX3_release) := goodIn_app (goodIn_of _ (by decide +kernel)) ggX3_strikeQuarter_X3_release
set_option maxRecDepth 20000 in
theorem ggX3_strikeQuarter_X2_isReleasedAt : GoodIn wsX3_strikeQuarter wsX2_isReleasedAt := goodIn_r _ [72, 73, 74, 75, 21, 76, 23, 89, 90, 91, 92, 93, 94] (by decide +kernel) (by decide +kernel)
set_option maxRecDepth 20000 in
theorem gX3_strikeQuarter_X2_isReleasedAt : GoodIn wsX3_strikeQuarter (wsV RX3 118 RX2 yX2_isReleasedAt wsX2_isReleasedAt) := goodIn_app (goodIn_of _ (by decide +kernel)) ggX3_strikeQuarter_X2_isReleasedAt
theorem dX3_strikeQuarter_0 : decode cX3_strikeQuarter 0 = .ok (.aload_n 0, 1) := by decide +kernel
theorem dX3_strikeQuarter_1 : decode cX3_strikeQuarter 1 = .ok (.getfield 10, 3) := by decide +kernel
theorem dX3_strikeQuarter_4 : decode cX3_strikeQuarter 4 = .ok (.aload_n 0, 1) := by decide +kernel
theorem dX3_strikeQuarter_5 : decode cX3_strikeQuarter 5 = .ok (.getfield 10, 3) := by decide +kernel
theorem dX3_strikeQuarter_8 : decode cX3_strikeQuarter 8 = .ok (.getfield 83, 3) := by decide +kernel
theorem dX3_strikeQuarter_11 : decode cX3_strikeQuarter 11 = .ok (.invokevirtual 121, 3) := by decide +kernel
theorem dX3_strikeQuarter_14 : decode cX3_strikeQuarter 14 = .ok (.ifCond .eq 5, 3) := by decide +kernel
theorem dX3_strikeQuarter_17 : decode cX3_strikeQuarter 17 = .ok (.iconst 0, 1) := by decide +kernel
theorem dX3_strikeQuarter_18 : decode cX3_strikeQuarter 18 = .ok (.ireturn, 1) := by decide +kernel
theorem dX3_strikeQuarter_19 : decode cX3_strikeQuarter 19 = .ok (.aload_n 0, 1) := by decide +kernel
theorem dX3_strikeQuarter_20 : decode cX3_strikeQuarter 20 = .ok (.getfield 10, 3) := by decide +kernel
theorem dX3_strikeQuarter_23 : decode cX3_strikeQuarter 23 = .ok (.aload_n 0, 1) := by decide +kernel
theorem dX3_strikeQuarter_24 : decode cX3_strikeQuarter 24 = .ok (.getfield 10, 3) := by decide +kernel
theorem dX3_strikeQuarter_27 : decode cX3_strikeQuarter 27 = .ok (.getfield 83, 3) := by decide +kernel
theorem dX3_strikeQuarter_30 : decode cX3_strikeQuarter 30 = .ok (.invokevirtual 133, 3) := by decide +kernel
theorem dX3_strikeQuarter_33 : decode cX3_strikeQuarter 33 = .ok (.istore_n 1, 1) := by decide +kernel
theorem dX3_strikeQuarter_34 : decode cX3_strikeQuarter 34 = .ok (.aload_n 0, 1) := by decide +kernel
theorem dX3_strikeQuarter_35 : decode cX3_strikeQuarter 35 = .ok (.aload_n 0, 1) := by decide +kernel
theorem dX3_strikeQuarter_36 : decode cX3_strikeQuarter 36 = .ok (.getfield 10, 3) := by decide +kernel
theorem dX3_strikeQuarter_39 : decode cX3_strikeQuarter 39 = .ok (.getfield 171, 3) := by decide +kernel
theorem dX3_strikeQuarter_42 : decode cX3_strikeQuarter 42 = .ok (.aload_n 0, 1) := by decide +kernel
theorem dX3_strikeQuarter_43 : decode cX3_strikeQuarter 43 = .ok (.getfield 10, 3) := by decide +kernel
theorem dX3_strikeQuarter_46 : decode cX3_strikeQuarter 46 = .ok (.getfield 171, 3) := by decide +kernel
theorem dX3_strikeQuarter_49 : decode cX3_strikeQuarter 49 = .ok (.aload_n 0, 1) := by decide +kernel
theorem dX3_strikeQuarter_50 : decode cX3_strikeQuarter 50 = .ok (.getfield 10, 3) := by decide +kernel
theorem dX3_strikeQuarter_53 : decode cX3_strikeQuarter 53 = .ok (.getfield 83, 3) := by decide +kernel
theorem dX3_strikeQuarter_56 : decode cX3_strikeQuarter 56 = .ok (.invokevirtual 124, 3) := by decide +kernel
theorem dX3_strikeQuarter_59 : decode cX3_strikeQuarter 59 = .ok (.iload_n 1, 1) := by decide +kernel
theorem dX3_strikeQuarter_60 : decode cX3_strikeQuarter 60 = .ok (.invokevirtual 95, 3) := by decide +kernel
theorem dX3_strikeQuarter_63 : decode cX3_strikeQuarter 63 = .ok (.istore_n 2, 1) := by decide +kernel
theorem dX3_strikeQuarter_64 : decode cX3_strikeQuarter 64 = .ok (.aload_n 0, 1) := by decide +kernel
theorem dX3_strikeQuarter_65 : decode cX3_strikeQuarter 65 = .ok (.getfield 10, 3) := by decide +kernel
theorem dX3_strikeQuarter_68 : decode cX3_strikeQuarter 68 = .ok (.getfield 174, 3) := by decide +kernel
theorem dX3_strikeQuarter_71 : decode cX3_strikeQuarter 71 = .ok (.aload_n 0, 1) := by decide +kernel
theorem dX3_strikeQuarter_72 : decode cX3_strikeQuarter 72 = .ok (.getfield 10, 3) := by decide +kernel
theorem dX3_strikeQuarter_75 : decode cX3_strikeQuarter 75 = .ok (.getfield 83, 3) := by decide +kernel
theorem dX3_strikeQuarter_78 : decode cX3_strikeQuarter 78 = .ok (.invokevirtual 118, 3) := by decide +kernel
theorem dX3_strikeQuarter_81 : decode cX3_strikeQuarter 81 = .ok (.ifCond .eq 35, 3) := by decide +kernel
theorem dX3_strikeQuarter_84 : decode cX3_strikeQuarter 84 = .ok (.iload_n 2, 1) := by decide +kernel
theorem dX3_strikeQuarter_85 : decode cX3_strikeQuarter 85 = .ok (.aload_n 0, 1) := by decide +kernel
theorem dX3_strikeQuarter_86 : decode cX3_strikeQuarter 86 = .ok (.aload_n 0, 1) := by decide +kernel
theorem dX3_strikeQuarter_87 : decode cX3_strikeQuarter 87 = .ok (.getfield 10, 3) := by decide +kernel
theorem dX3_strikeQuarter_90 : decode cX3_strikeQuarter 90 = .ok (.getfield 174, 3) := by decide +kernel
theorem dX3_strikeQuarter_93 : decode cX3_strikeQuarter 93 = .ok (.aload_n 0, 1) := by decide +kernel
theorem dX3_strikeQuarter_94 : decode cX3_strikeQuarter 94 = .ok (.getfield 10, 3) := by decide +kernel
theorem dX3_strikeQuarter_97 : decode cX3_strikeQuarter 97 = .ok (.getfield 174, 3) := by decide +kernel
theorem dX3_strikeQuarter_100 : decode cX3_strikeQuarter 100 = .ok (.aload_n 0, 1) := by decide +kernel
theorem dX3_strikeQuarter_101 : decode cX3_strikeQuarter 101 = .ok (.getfield 10, 3) := by decide +kernel
theorem dX3_strikeQuarter_104 : decode cX3_strikeQuarter 104 = .ok (.getfield 83, 3) := by decide +kernel
theorem dX3_strikeQuarter_107 : decode cX3_strikeQuarter 107 = .ok (.invokevirtual 124, 3) := by decide +kernel
theorem dX3_strikeQuarter_110 : decode cX3_strikeQuarter 110 = .ok (.iload_n 1, 1) := by decide +kernel
theorem dX3_strikeQuarter_111 : decode cX3_strikeQuarter 111 = .ok (.invokevirtual 95, 3) := by decide +kernel
theorem dX3_strikeQuarter_114 : decode cX3_strikeQuarter 114 = .ok (.iadd, 1) := by decide +kernel
theorem dX3_strikeQuarter_115 : decode cX3_strikeQuarter 115 = .ok (.istore_n 2, 1) := by decide +kernel
theorem dX3_strikeQuarter_116 : decode cX3_strikeQuarter 116 = .ok (.iload_n 2, 1) := by decide +kernel
theorem dX3_strikeQuarter_117 : decode cX3_strikeQuarter 117 = .ok (.ireturn, 1) := by decide +kernel
set_option maxRecDepth 20000 in
theorem ggX3_release_X2_releaseWith : GoodIn wsX3_release wsX2_releaseWith := goodIn_r _ [10, 11, 12, 13, 14, 15, 16, 17, 9, 18, 19, 20, 21, 22, 23, 24, 25, 26, 27, 28, 29, 30, 31, 57, 58, 59, 60, 61, 62] (by decide +kernel) (by decide +kernel)
set_option maxRecDepth 20000 in
theorem gX3_release_X2_releaseWith : GoodIn wsX3_release (wsV RX3 127 RX2 yX2_releaseWith wsX2_releaseWith) := goodIn_app (goodIn_of _ (by decide +kernel)) ggX3_release_X2_releaseWith
set_option maxRecDepth 20000 in
theorem ggX3_release_X1_put : GoodIn wsX3_release wsX1_put := goodIn_r _ [36, 37, 38, 39, 40, 41, 42, 43, 44, 63, 64, 65, 66] (by decide +kernel) (by decide +kernel)
set_option maxRecDepth 20000 in
theorem gX3_release_X1_put : GoodIn wsX3_release (wsV RX3 180 RX1 yX1_put wsX1_put) := goodIn_app (goodIn_of _ (by decide +kernel)) ggX3_release_X1_put
theorem dX3_release_0 : decode cX3_release 0 = .ok (.aload_n 1, 1) := by decide +kernel
theorem dX3_release_1 : decode cX3_release 1 = .ok (.iload_n 2, 1) := by decide +kernel
theorem dX3_release_2 : decode cX3_release 2 = .ok (.invokevirtual 127, 3) := by decide +kernel
theorem dX3_release_5 : decode cX3_release 5 = .ok (.istore 4, 2) := by decide +kernel
theorem dX3_release_7 : decode cX3_release 7 = .ok (.iload 4, 2) := by decide +kernel
theorem dX3_release_9 : decode cX3_release 9 = .ok (.ifCond .ne 5, 3) := by decide +kernel
theorem dX3_release_12 : decode cX3_release 12 = .ok (.iconst 0, 1) := by decide +kernel
theorem dX3_release_13 : decode cX3_release 13 = .ok (.ireturn, 1) := by decide +kernel
theorem dX3_release_14 : decode cX3_release 14 = .ok (.aload_n 0, 1) := by decide +kernel
theorem dX3_release_15 : decode cX3_release 15 = .ok (.getfield 10, 3) := by decide +kernel
theorem dX3_release_18 : decode cX3_release 18 = .ok (.getfield 136, 3) := by decide +kernel
theorem dX3_release_21 : decode cX3_release 21 = .ok (.aload_n 0, 1) := by decide +kernel
theorem dX3_release_22 : decode cX3_release 22 = .ok (.getfield 10, 3) := by decide +kernel
theorem dX3_release_25 : decode cX3_release 25 = .ok (.getfield 83, 3) := by decide +kernel
theorem dX3_release_28 : decode cX3_release 28 = .ok (.aload_n 1, 1) := by decide +kernel
theorem dX3_release_29 : decode cX3_release 29 = .ok (.getfield 177, 3) := by decide +kernel
theorem dX3_release_32 : decode cX3_release 32 = .ok (.iload_n 3, 1) := by decide +kernel
theorem dX3_release_33 : decode cX3_release 33 = .ok (.ifCond .eq 9, 3) := by decide +kernel
theorem dX3_release_36 : decode cX3_release 36 = .ok (.iload 4, 2) := by decide +kernel
theorem dX3_release_38 : decode cX3_release 38 = .ok (.ineg, 1) := by decide +kernel
theorem dX3_release_39 : decode cX3_release 39 = .ok (.goto 5, 3) := by decide +kernel
theorem dX3_release_42 : decode cX3_release 42 = .ok (.iload 4, 2) := by decide +kernel
theorem dX3_release_44 : decode cX3_release 44 = .ok (.invokevirtual 180, 3) := by decide +kernel
theorem dX3_release_47 : decode cX3_release 47 = .ok (.iload_n 3, 1) := by decide +kernel
theorem dX3_release_48 : decode cX3_release 48 = .ok (.ifCond .eq 5, 3) := by decide +kernel
theorem dX3_release_51 : decode cX3_release 51 = .ok (.iconst 0, 1) := by decide +kernel
theorem dX3_release_52 : decode cX3_release 52 = .ok (.ireturn, 1) := by decide +kernel
theorem dX3_release_53 : decode cX3_release 53 = .ok (.aload_n 1, 1) := by decide +kernel
theorem dX3_release_54 : decode cX3_release 54 = .ok (.dup, 1) := by decide +kernel
theorem dX3_release_55 : decode cX3_release 55 = .ok (.getfield 130, 3) := by decide +kernel
theorem dX3_release_58 : decode cX3_release 58 = .ok (.iload 4, 2) := by decide +kernel
theorem dX3_release_60 : decode cX3_release 60 = .ok (.iadd, 1) := by decide +kernel
theorem dX3_release_61 : decode cX3_release 61 = .ok (.putfield 130, 3) := by decide +kernel
theorem dX3_release_64 : decode cX3_release 64 = .ok (.iload 4, 2) := by decide +kernel
theorem dX3_release_66 : decode cX3_release 66 = .ok (.ireturn, 1) := by decide +kernel
set_option maxRecDepth 20000 in
theorem ggX4_init_X4_at : GoodIn wsX4_init wsX4_at := goodIn_r _ [12] (by decide +kernel) (by decide +kernel)
set_option maxRecDepth 20000 in
theorem gX4_init_X4_at : GoodIn wsX4_init (va_wsS RX4 22 yX4_at wsX4_at) := goodIn_app (goodIn_of _ (by decide +kernel)) ggX4_init_X4_at
theorem dX4_init_0 : decode cX4_init 0 = .ok (.aload_n 0, 1) := by decide +kernel
theorem dX4_init_1 : decode cX4_init 1 = .ok (.invokespecial 1, 3) := by decide +kernel
theorem dX4_init_4 : decode cX4_init 4 = .ok (.aload_n 0, 1) := by decide +kernel
theorem dX4_init_5 : decode cX4_init 5 = .ok (.bipush 39, 2) := by decide +kernel
theorem dX4_init_7 : decode cX4_init 7 = .ok (.newarray .int, 2) := by decide +kernel
theorem dX4_init_9 : decode cX4_init 9 = .ok (.putfield 7, 3) := by decide +kernel
theorem dX4_init_12 : decode cX4_init 12 = .ok (.aload_n 0, 1) := by decide +kernel
theorem dX4_init_13 : decode cX4_init 13 = .ok (.bipush 39, 2) := by decide +kernel
theorem dX4_init_15 : decode cX4_init 15 = .ok (.newarray .int, 2) := by decide +kernel
theorem dX4_init_17 : decode cX4_init 17 = .ok (.putfield 13, 3) := by decide +kernel
theorem dX4_init_20 : decode cX4_init 20 = .ok (.aload_n 0, 1) := by decide +kernel
theorem dX4_init_21 : decode cX4_init 21 = .ok (.sipush 195, 3) := by decide +kernel
theorem dX4_init_24 : decode cX4_init 24 = .ok (.newarray .int, 2) := by decide +kernel
theorem dX4_init_26 : decode cX4_init 26 = .ok (.putfield 16, 3) := by decide +kernel
theorem dX4_init_29 : decode cX4_init 29 = .ok (.aload_n 0, 1) := by decide +kernel
theorem dX4_init_30 : decode cX4_init 30 = .ok (.iconst 3, 1) := by decide +kernel
theorem dX4_init_31 : decode cX4_init 31 = .ok (.newarray .int, 2) := by decide +kernel
theorem dX4_init_33 : decode cX4_init 33 = .ok (.putfield 19, 3) := by decide +kernel
theorem dX4_init_36 : decode cX4_init 36 = .ok (.iconst 0, 1) := by decide +kernel
theorem dX4_init_37 : decode cX4_init 37 = .ok (.istore_n 1, 1) := by decide +kernel
theorem dX4_init_38 : decode cX4_init 38 = .ok (.iload_n 1, 1) := by decide +kernel
theorem dX4_init_39 : decode cX4_init 39 = .ok (.iconst 2, 1) := by decide +kernel
theorem dX4_init_40 : decode cX4_init 40 = .ok (.if_icmp .ge 44, 3) := by decide +kernel
theorem dX4_init_43 : decode cX4_init 43 = .ok (.aload_n 0, 1) := by decide +kernel
theorem dX4_init_44 : decode cX4_init 44 = .ok (.getfield 7, 3) := by decide +kernel
theorem dX4_init_47 : decode cX4_init 47 = .ok (.iload_n 1, 1) := by decide +kernel
theorem dX4_init_48 : decode cX4_init 48 = .ok (.iconst 0, 1) := by decide +kernel
theorem dX4_init_49 : decode cX4_init 49 = .ok (.invokestatic 22, 3) := by decide +kernel
theorem dX4_init_52 : decode cX4_init 52 = .ok (.iconst 1, 1) := by decide +kernel
theorem dX4_init_53 : decode cX4_init 53 = .ok (.iastore, 1) := by decide +kernel
theorem dX4_init_54 : decode cX4_init 54 = .ok (.aload_n 0, 1) := by decide +kernel
theorem dX4_init_55 : decode cX4_init 55 = .ok (.getfield 7, 3) := by decide +kernel
theorem dX4_init_58 : decode cX4_init 58 = .ok (.iload_n 1, 1) := by decide +kernel
theorem dX4_init_59 : decode cX4_init 59 = .ok (.iconst 1, 1) := by decide +kernel
theorem dX4_init_60 : decode cX4_init 60 = .ok (.invokestatic 22, 3) := by decide +kernel
theorem dX4_init_63 : decode cX4_init 63 = .ok (.iconst 1, 1) := by decide +kernel
theorem dX4_init_64 : decode cX4_init 64 = .ok (.iastore, 1) := by decide +kernel
theorem dX4_init_65 : decode cX4_init 65 = .ok (.aload_n 0, 1) := by decide +kernel
theorem dX4_init_66 : decode cX4_init 66 = .ok (.getfield 7, 3) := by decide +kernel
theorem dX4_init_69 : decode cX4_init 69 = .ok (.iload_n 1, 1) := by decide +kernel
theorem dX4_init_70 : decode cX4_init 70 = .ok (.iconst 2, 1) := by decide +kernel
theorem dX4_init_71 : decode cX4_init 71 = .ok (.invokestatic 22, 3) := by decide +kernel
theorem dX4_init_74 : decode cX4_init 74 = .ok (.sipush 2000, 3) := by decide +kernel
theorem dX4_init_77 : decode cX4_init 77 = .ok (.iastore, 1) := by decide +kernel
theorem dX4_init_78 : decode cX4_init 78 = .ok (.iinc 1 1, 3) := by decide +kernel
theorem dX4_init_81 : decode cX4_init 81 = .ok (.goto (-43), 3) := by decide +kernel
theorem dX4_init_84 : decode cX4_init 84 = .ok (.return_, 1) := by decide +kernel
theorem dX4_in_0 : decode cX4_in 0 = .ok (.iload_n 0, 1) := by decide +kernel
theorem dX4_in_1 : decode cX4_in 1 = .ok (.iload_n 1, 1) := by decide +kernel
theorem dX4_in_2 : decode cX4_in 2 = .ok (.if_icmp .lt 12, 3) := by decide +kernel
theorem dX4_in_5 : decode cX4_in 5 = .ok (.iload_n 0, 1) := by decide +kernel
theorem dX4_in_6 : decode cX4_in 6 = .ok (.iload_n 2, 1) := by decide +kernel
theorem dX4_in_7 : decode cX4_in 7 = .ok (.if_icmp .gt 7, 3) := by decide +kernel
theorem dX4_in_10 : decode cX4_in 10 = .ok (.iconst 1, 1) := by decide +kernel
theorem dX4_in_11 : decode cX4_in 11 = .ok (.goto 4, 3) := by decide +kernel
theorem dX4_in_14 : decode cX4_in 14 = .ok (.iconst 0, 1) := by decide +kernel
theorem dX4_in_15 : decode cX4_in 15 = .ok (.ireturn, 1) := by decide +kernel
theorem dX4_at_0 : decode cX4_at 0 = .ok (.iconst 4, 1) := by decide +kernel
theorem dX4_at_1 : decode cX4_at 1 = .ok (.iconst 5, 1) := by decide +kernel
theorem dX4_at_2 : decode cX4_at 2 = .ok (.iload_n 0, 1) := by decide +kernel
theorem dX4_at_3 : decode cX4_at 3 = .ok (.imul, 1) := by decide +kernel
theorem dX4_at_4 : decode cX4_at 4 = .ok (.iadd, 1) := by decide +kernel
theorem dX4_at_5 : decode cX4_at 5 = .ok (.iload_n 1, 1) := by decide +kernel
theorem dX4_at_6 : decode cX4_at 6 = .ok (.iadd, 1) := by decide +kernel
theorem dX4_at_7 : decode cX4_at 7 = .ok (.ireturn, 1) := by decide +kernel
theorem dX4_error_0 : decode cX4_error 0 = .ok (.aload_n 0, 1) := by decide +kernel
theorem dX4_error_1 : decode cX4_error 1 = .ok (.getfield 19, 3) := by decide +kernel
theorem dX4_error_4 : decode cX4_error 4 = .ok (.bipush (-2), 2) := by decide +kernel
theorem dX4_error_6 : decode cX4_error 6 = .ok (.iload_n 1, 1) := by decide +kernel
theorem dX4_error_7 : decode cX4_error 7 = .ok (.isub, 1) := by decide +kernel
theorem dX4_error_8 : decode cX4_error 8 = .ok (.dup2, 1) := by decide +kernel
theorem dX4_error_9 : decode cX4_error 9 = .ok (.iaload, 1) := by decide +kernel
theorem dX4_error_10 : decode cX4_error 10 = .ok (.iconst 1, 1) := by decide +kernel
theorem dX4_error_11 : decode cX4_error 11 = .ok (.iadd, 1) := by decide +kernel
theorem dX4_error_12 : decode cX4_error 12 = .ok (.iastore, 1) := by decide +kernel
theorem dX4_error_13 : decode cX4_error 13 = .ok (.iload_n 1, 1) := by decide +kernel
theorem dX4_error_14 : decode cX4_error 14 = .ok (.ireturn, 1) := by decide +kernel
theorem dX4_copy_0 : decode cX4_copy 0 = .ok (.iconst 0, 1) := by decide +kernel
theorem dX4_copy_1 : decode cX4_copy 1 = .ok (.istore 4, 2) := by decide +kernel
theorem dX4_copy_3 : decode cX4_copy 3 = .ok (.iload 4, 2) := by decide +kernel
theorem dX4_copy_5 : decode cX4_copy 5 = .ok (.bipush 39, 2) := by decide +kernel
theorem dX4_copy_7 : decode cX4_copy 7 = .ok (.if_icmp .ge 21, 3) := by decide +kernel
theorem dX4_copy_10 : decode cX4_copy 10 = .ok (.aload_n 2, 1) := by decide +kernel
theorem dX4_copy_11 : decode cX4_copy 11 = .ok (.iload_n 3, 1) := by decide +kernel
theorem dX4_copy_12 : decode cX4_copy 12 = .ok (.iload 4, 2) := by decide +kernel
theorem dX4_copy_14 : decode cX4_copy 14 = .ok (.iadd, 1) := by decide +kernel
theorem dX4_copy_15 : decode cX4_copy 15 = .ok (.aload_n 0, 1) := by decide +kernel
theorem dX4_copy_16 : decode cX4_copy 16 = .ok (.iload_n 1, 1) := by decide +kernel
theorem dX4_copy_17 : decode cX4_copy 17 = .ok (.iload 4, 2) := by decide +kernel
theorem dX4_copy_19 : decode cX4_copy 19 = .ok (.iadd, 1) := by decide +kernel
theorem dX4_copy_20 : decode cX4_copy 20 = .ok (.iaload, 1) := by decide +kernel
theorem dX4_copy_21 : decode cX4_copy 21 = .ok (.iastore, 1) := by decide +kernel
theorem dX4_copy_22 : decode cX4_copy 22 = .ok (.iinc 4 1, 3) := by decide +kernel
theorem dX4_copy_25 : decode cX4_copy 25 = .ok (.goto (-22), 3) := by decide +kernel
theorem dX4_copy_28 : decode cX4_copy 28 = .ok (.return_, 1) := by decide +kernel
set_option maxRecDepth 20000 in
theorem ggX4_save_X4_copy : GoodIn wsX4_save wsX4_copy := goodIn_r _ [7] (by decide +kernel) (by decide +kernel)
set_option maxRecDepth 20000 in
theorem gX4_save_X4_copy : GoodIn wsX4_save (va_wsS RX4 30 yX4_copy wsX4_copy) := goodIn_app (goodIn_of _ (by decide +kernel)) ggX4_save_X4_copy
theorem dX4_save_0 : decode cX4_save 0 = .ok (.aload_n 0, 1) := by decide +kernel
theorem dX4_save_1 : decode cX4_save 1 = .ok (.getfield 26, 3) := by decide +kernel
theorem dX4_save_4 : decode cX4_save 4 = .ok (.iconst 5, 1) := by decide +kernel
theorem dX4_save_5 : decode cX4_save 5 = .ok (.if_icmp .ne 43, 3) := by decide +kernel
theorem dX4_save_8 : decode cX4_save 8 = .ok (.iconst 0, 1) := by decide +kernel
theorem dX4_save_9 : decode cX4_save 9 = .ok (.istore_n 1, 1) := by decide +kernel
theorem dX4_save_10 : decode cX4_save 10 = .ok (.iload_n 1, 1) := by decide +kernel
theorem dX4_save_11 : decode cX4_save 11 = .ok (.sipush 156, 3) := by decide +kernel
theorem dX4_save_14 : decode cX4_save 14 = .ok (.if_icmp .ge 24, 3) := by decide +kernel
theorem dX4_save_17 : decode cX4_save 17 = .ok (.aload_n 0, 1) := by decide +kernel
theorem dX4_save_18 : decode cX4_save 18 = .ok (.getfield 16, 3) := by decide +kernel
theorem dX4_save_21 : decode cX4_save 21 = .ok (.iload_n 1, 1) := by decide +kernel
theorem dX4_save_22 : decode cX4_save 22 = .ok (.aload_n 0, 1) := by decide +kernel
theorem dX4_save_23 : decode cX4_save 23 = .ok (.getfield 16, 3) := by decide +kernel
theorem dX4_save_26 : decode cX4_save 26 = .ok (.iload_n 1, 1) := by decide +kernel
theorem dX4_save_27 : decode cX4_save 27 = .ok (.bipush 39, 2) := by decide +kernel
theorem dX4_save_29 : decode cX4_save 29 = .ok (.iadd, 1) := by decide +kernel
theorem dX4_save_30 : decode cX4_save 30 = .ok (.iaload, 1) := by decide +kernel
theorem dX4_save_31 : decode cX4_save 31 = .ok (.iastore, 1) := by decide +kernel
theorem dX4_save_32 : decode cX4_save 32 = .ok (.iinc 1 1, 3) := by decide +kernel
theorem dX4_save_35 : decode cX4_save 35 = .ok (.goto (-25), 3) := by decide +kernel
theorem dX4_save_38 : decode cX4_save 38 = .ok (.aload_n 0, 1) := by decide +kernel
theorem dX4_save_39 : decode cX4_save 39 = .ok (.dup, 1) := by decide +kernel
theorem dX4_save_40 : decode cX4_save 40 = .ok (.getfield 26, 3) := by decide +kernel
theorem dX4_save_43 : decode cX4_save 43 = .ok (.iconst 1, 1) := by decide +kernel
theorem dX4_save_44 : decode cX4_save 44 = .ok (.isub, 1) := by decide +kernel
theorem dX4_save_45 : decode cX4_save 45 = .ok (.putfield 26, 3) := by decide +kernel
theorem dX4_save_48 : decode cX4_save 48 = .ok (.aload_n 0, 1) := by decide +kernel
theorem dX4_save_49 : decode cX4_save 49 = .ok (.getfield 7, 3) := by decide +kernel
theorem dX4_save_52 : decode cX4_save 52 = .ok (.iconst 0, 1) := by decide +kernel
theorem dX4_save_53 : decode cX4_save 53 = .ok (.aload_n 0, 1) := by decide +kernel
theorem dX4_save_54 : decode cX4_save 54 = .ok (.getfield 16, 3) := by decide +kernel
theorem dX4_save_57 : decode cX4_save 57 = .ok (.bipush 39, 2) := by decide +kernel
theorem dX4_save_59 : decode cX4_save 59 = .ok (.aload_n 0, 1) := by decide +kernel
theorem dX4_save_60 : decode cX4_save 60 = .ok (.getfield 26, 3) := by decide +kernel
theorem dX4_save_63 : decode cX4_save 63 = .ok (.imul, 1) := by decide +kernel
theorem dX4_save_64 : decode cX4_save 64 = .ok (.invokestatic 30, 3) := by decide +kernel
theorem dX4_save_67 : decode cX4_save 67 = .ok (.aload_n 0, 1) := by decide +kernel
theorem dX4_save_68 : decode cX4_save 68 = .ok (.dup, 1) := by decide +kernel
theorem dX4_save_69 : decode cX4_save 69 = .ok (.getfield 26, 3) := by decide +kernel
theorem dX4_save_72 : decode cX4_save 72 = .ok (.iconst 1, 1) := by decide +kernel
theorem dX4_save_73 : decode cX4_save 73 = .ok (.iadd, 1) := by decide +kernel
theorem dX4_save_74 : decode cX4_save 74 = .ok (.putfield 26, 3) := by decide +kernel
theorem dX4_save_77 : decode cX4_save 77 = .ok (.return_, 1) := by decide +kernel
set_option maxRecDepth 20000 in
theorem ggX4_isTrain_X4_in : GoodIn wsX4_isTrain wsX4_in := goodIn_r _ [4] (by decide +kernel) (by decide +kernel)
set_option maxRecDepth 20000 in
theorem gX4_isTrain_X4_in : GoodIn wsX4_isTrain (va_wsS RX4 34 yX4_in wsX4_in) := goodIn_app (goodIn_of _ (by decide +kernel)) ggX4_isTrain_X4_in
theorem dX4_isTrain_0 : decode cX4_isTrain 0 = .ok (.iload_n 0, 1) := by decide +kernel
theorem dX4_isTrain_1 : decode cX4_isTrain 1 = .ok (.iconst 0, 1) := by decide +kernel
theorem dX4_isTrain_2 : decode cX4_isTrain 2 = .ok (.iconst 1, 1) := by decide +kernel
theorem dX4_isTrain_3 : decode cX4_isTrain 3 = .ok (.invokestatic 34, 3) := by decide +kernel
theorem dX4_isTrain_6 : decode cX4_isTrain 6 = .ok (.ireturn, 1) := by decide +kernel
theorem dX4_positions_0 : decode cX4_positions 0 = .ok (.iload_n 0, 1) := by decide +kernel
theorem dX4_positions_1 : decode cX4_positions 1 = .ok (.ifCond .ne 8, 3) := by decide +kernel
theorem dX4_positions_4 : decode cX4_positions 4 = .ok (.bipush 12, 2) := by decide +kernel
theorem dX4_positions_6 : decode cX4_positions 6 = .ok (.goto 4, 3) := by decide +kernel
theorem dX4_positions_9 : decode cX4_positions 9 = .ok (.iconst 4, 1) := by decide +kernel
theorem dX4_positions_10 : decode cX4_positions 10 = .ok (.ireturn, 1) := by decide +kernel
set_option maxRecDepth 20000 in
theorem ggX4_setMechanism_X4_isTrain : GoodIn wsX4_setMechanism wsX4_isTrain := goodIn_r _ [5, 6, 7, 4, 8] (by decide +kernel) (by decide +kernel)
set_option maxRecDepth 20000 in
theorem gX4_setMechanism_X4_isTrain : GoodIn wsX4_setMechanism (va_wsS RX4 38 yX4_isTrain wsX4_isTrain) := goodIn_app (goodIn_of _ (by decide +kernel)) ggX4_setMechanism_X4_isTrain
set_option maxRecDepth 20000 in
theorem ggX4_setMechanism_X4_in : GoodIn wsX4_setMechanism wsX4_in := goodIn_r _ [8] (by decide +kernel) (by decide +kernel)
set_option maxRecDepth 20000 in
theorem gX4_setMechanism_X4_in : GoodIn wsX4_setMechanism (va_wsS RX4 34 yX4_in wsX4_in) := goodIn_app (goodIn_of _ (by decide +kernel)) ggX4_setMechanism_X4_in
set_option maxRecDepth 20000 in
theorem ggX4_setMechanism_X4_error : GoodIn wsX4_setMechanism wsX4_error := goodIn_r _ [12, 13, 26, 27, 28, 29, 30, 31] (by decide +kernel) (by decide +kernel)
set_option maxRecDepth 20000 in
theorem gX4_setMechanism_X4_error : GoodIn wsX4_setMechanism (wsV RX4 42 RX4 yX4_error wsX4_error) := goodIn_app (goodIn_of _ (by decide +kernel)) ggX4_setMechanism_X4_error
set_option maxRecDepth 20000 in
theorem ggX4_setMechanism_X4_save : GoodIn wsX4_setMechanism wsX4_save := goodIn_r _ [17, 18, 19, 1, 20, 21, 4, 22, 26, 27, 28, 29, 30, 31] (by decide +kernel) (by decide +kernel)
set_option maxRecDepth 20000 in
theorem gX4_setMechanism_X4_save : GoodIn wsX4_setMechanism (wsV RX4 46 RX4 yX4_save wsX4_save) := goodIn_app (goodIn_of _ (by decide +kernel)) ggX4_setMechanism_X4_save
set_option maxRecDepth 20000 in
theorem ggX4_setMechanism_X4_at : GoodIn wsX4_setMechanism wsX4_at := goodIn_r _ [25] (by decide +kernel) (by decide +kernel)
set_option maxRecDepth 20000 in
theorem gX4_setMechanism_X4_at : GoodIn wsX4_setMechanism (va_wsS RX4 22 yX4_at wsX4_at) := goodIn_app (goodIn_of _ (by decide +kernel)) ggX4_setMechanism_X4_at
theorem dX4_setMechanism_0 : decode cX4_setMechanism 0 = .ok (.iload_n 1, 1) := by decide +kernel
theorem dX4_setMechanism_1 : decode cX4_setMechanism 1 = .ok (.invokestatic 38, 3) := by decide +kernel
theorem dX4_setMechanism_4 : decode cX4_setMechanism 4 = .ok (.ifCond .eq 12, 3) := by decide +kernel
theorem dX4_setMechanism_7 : decode cX4_setMechanism 7 = .ok (.iload_n 2, 1) := by decide +kernel
theorem dX4_setMechanism_8 : decode cX4_setMechanism 8 = .ok (.iconst 0, 1) := by decide +kernel
theorem dX4_setMechanism_9 : decode cX4_setMechanism 9 = .ok (.iconst 2, 1) := by decide +kernel
theorem dX4_setMechanism_10 : decode cX4_setMechanism 10 = .ok (.invokestatic 34, 3) := by decide +kernel
theorem dX4_setMechanism_13 : decode cX4_setMechanism 13 = .ok (.ifCond .ne 10, 3) := by decide +kernel
theorem dX4_setMechanism_16 : decode cX4_setMechanism 16 = .ok (.aload_n 0, 1) := by decide +kernel
theorem dX4_setMechanism_17 : decode cX4_setMechanism 17 = .ok (.bipush (-2), 2) := by decide +kernel
theorem dX4_setMechanism_19 : decode cX4_setMechanism 19 = .ok (.invokevirtual 42, 3) := by decide +kernel
theorem dX4_setMechanism_22 : decode cX4_setMechanism 22 = .ok (.ireturn, 1) := by decide +kernel
theorem dX4_setMechanism_23 : decode cX4_setMechanism 23 = .ok (.aload_n 0, 1) := by decide +kernel
theorem dX4_setMechanism_24 : decode cX4_setMechanism 24 = .ok (.invokevirtual 46, 3) := by decide +kernel
theorem dX4_setMechanism_27 : decode cX4_setMechanism 27 = .ok (.aload_n 0, 1) := by decide +kernel
theorem dX4_setMechanism_28 : decode cX4_setMechanism 28 = .ok (.getfield 7, 3) := by decide +kernel
theorem dX4_setMechanism_31 : decode cX4_setMechanism 31 = .ok (.iload_n 1, 1) := by decide +kernel
theorem dX4_setMechanism_32 : decode cX4_setMechanism 32 = .ok (.iconst 0, 1) := by decide +kernel
theorem dX4_setMechanism_33 : decode cX4_setMechanism 33 = .ok (.invokestatic 22, 3) := by decide +kernel
theorem dX4_setMechanism_36 : decode cX4_setMechanism 36 = .ok (.iaload, 1) := by decide +kernel
theorem dX4_setMechanism_37 : decode cX4_setMechanism 37 = .ok (.istore_n 3, 1) := by decide +kernel
theorem dX4_setMechanism_38 : decode cX4_setMechanism 38 = .ok (.aload_n 0, 1) := by decide +kernel
theorem dX4_setMechanism_39 : decode cX4_setMechanism 39 = .ok (.getfield 7, 3) := by decide +kernel
theorem dX4_setMechanism_42 : decode cX4_setMechanism 42 = .ok (.iload_n 1, 1) := by decide +kernel
theorem dX4_setMechanism_43 : decode cX4_setMechanism 43 = .ok (.iconst 0, 1) := by decide +kernel
theorem dX4_setMechanism_44 : decode cX4_setMechanism 44 = .ok (.invokestatic 22, 3) := by decide +kernel
theorem dX4_setMechanism_47 : decode cX4_setMechanism 47 = .ok (.iload_n 2, 1) := by decide +kernel
theorem dX4_setMechanism_48 : decode cX4_setMechanism 48 = .ok (.iastore, 1) := by decide +kernel
theorem dX4_setMechanism_49 : decode cX4_setMechanism 49 = .ok (.iload_n 3, 1) := by decide +kernel
theorem dX4_setMechanism_50 : decode cX4_setMechanism 50 = .ok (.ireturn, 1) := by decide +kernel
set_option maxRecDepth 20000 in
theorem ggX4_setPosition_X4_isTrain : GoodIn wsX4_setPosition wsX4_isTrain := goodIn_r _ [5, 6, 7, 4, 8] (by decide +kernel) (by decide +kernel)
set_option maxRecDepth 20000 in
theorem gX4_setPosition_X4_isTrain : GoodIn wsX4_setPosition (va_wsS RX4 38 yX4_isTrain wsX4_isTrain) := goodIn_app (goodIn_of _ (by decide +kernel)) ggX4_setPosition_X4_isTrain
set_option maxRecDepth 20000 in
theorem ggX4_setPosition_X4_positions : GoodIn wsX4_setPosition wsX4_positions := goodIn_r _ [11] (by decide +kernel) (by decide +kernel)
set_option maxRecDepth 20000 in
theorem gX4_setPosition_X4_positions : GoodIn wsX4_setPosition (va_wsS RX4 49 yX4_positions wsX4_positions) := goodIn_app (goodIn_of _ (by decide +kernel)) ggX4_setPosition_X4_positions
set_option maxRecDepth 20000 in
theorem ggX4_setPosition_X4_in : GoodIn wsX4_setPosition wsX4_in := goodIn_r _ [8] (by decide +kernel) (by decide +kernel)
set_option maxRecDepth 20000 in
theorem gX4_setPosition_X4_in : GoodIn wsX4_setPosition (va_wsS RX4 34 yX4_in wsX4_in) := goodIn_app (goodIn_of _ (by decide +kernel)) ggX4_setPosition_X4_in
set_option maxRecDepth 20000 in
theorem ggX4_setPosition_X4_error : GoodIn wsX4_setPosition wsX4_error := goodIn_r _ [15, 16, 29, 30, 31, 32, 33, 34] (by decide +kernel) (by decide +kernel)
set_option maxRecDepth 20000 in
theorem gX4_setPosition_X4_error : GoodIn wsX4_setPosition (wsV RX4 42 RX4 yX4_error wsX4_error) := goodIn_app (goodIn_of _ (by decide +kernel)) ggX4_setPosition_X4_error
set_option maxRecDepth 20000 in
theorem ggX4_setPosition_X4_save : GoodIn wsX4_setPosition wsX4_save := goodIn_r _ [20, 21, 22, 1, 23, 24, 4, 25, 29, 30, 31, 32, 33, 34] (by decide +kernel) (by decide +kernel)
set_option maxRecDepth 20000 in
theorem gX4_setPosition_X4_save : GoodIn wsX4_setPosition (wsV RX4 46 RX4 yX4_save wsX4_save) := goodIn_app (goodIn_of _ (by decide +kernel)) ggX4_setPosition_X4_save
set_option maxRecDepth 20000 in
theorem ggX4_setPosition_X4_at : GoodIn wsX4_setPosition wsX4_at := goodIn_r _ [28] (by decide +kernel) (by decide +kernel)
set_option maxRecDepth 20000 in
theorem gX4_setPosition_X4_at : GoodIn wsX4_setPosition (va_wsS RX4 22 yX4_at wsX4_at) := goodIn_app (goodIn_of _ (by decide +kernel)) ggX4_setPosition_X4_at
theorem dX4_setPosition_0 : decode cX4_setPosition 0 = .ok (.iload_n 1, 1) := by decide +kernel
theorem dX4_setPosition_1 : decode cX4_setPosition 1 = .ok (.invokestatic 38, 3) := by decide +kernel
theorem dX4_setPosition_4 : decode cX4_setPosition 4 = .ok (.ifCond .eq 15, 3) := by decide +kernel
theorem dX4_setPosition_7 : decode cX4_setPosition 7 = .ok (.iload_n 2, 1) := by decide +kernel
theorem dX4_setPosition_8 : decode cX4_setPosition 8 = .ok (.iconst 1, 1) := by decide +kernel
theorem dX4_setPosition_9 : decode cX4_setPosition 9 = .ok (.iload_n 1, 1) := by decide +kernel
theorem dX4_setPosition_10 : decode cX4_setPosition 10 = .ok (.invokestatic 49, 3) := by decide +kernel
theorem dX4_setPosition_13 : decode cX4_setPosition 13 = .ok (.invokestatic 34, 3) := by decide +kernel
theorem dX4_setPosition_16 : decode cX4_setPosition 16 = .ok (.ifCond .ne 10, 3) := by decide +kernel
theorem dX4_setPosition_19 : decode cX4_setPosition 19 = .ok (.aload_n 0, 1) := by decide +kernel
theorem dX4_setPosition_20 : decode cX4_setPosition 20 = .ok (.bipush (-2), 2) := by decide +kernel
theorem dX4_setPosition_22 : decode cX4_setPosition 22 = .ok (.invokevirtual 42, 3) := by decide +kernel
theorem dX4_setPosition_25 : decode cX4_setPosition 25 = .ok (.ireturn, 1) := by decide +kernel
theorem dX4_setPosition_26 : decode cX4_setPosition 26 = .ok (.aload_n 0, 1) := by decide +kernel
theorem dX4_setPosition_27 : decode cX4_setPosition 27 = .ok (.invokevirtual 46, 3) := by decide +kernel
theorem dX4_setPosition_30 : decode cX4_setPosition 30 = .ok (.aload_n 0, 1) := by decide +kernel
theorem dX4_setPosition_31 : decode cX4_setPosition 31 = .ok (.getfield 7, 3) := by decide +kernel
theorem dX4_setPosition_34 : decode cX4_setPosition 34 = .ok (.iload_n 1, 1) := by decide +kernel
theorem dX4_setPosition_35 : decode cX4_setPosition 35 = .ok (.iconst 1, 1) := by decide +kernel
theorem dX4_setPosition_36 : decode cX4_setPosition 36 = .ok (.invokestatic 22, 3) := by decide +kernel
theorem dX4_setPosition_39 : decode cX4_setPosition 39 = .ok (.iaload, 1) := by decide +kernel
theorem dX4_setPosition_40 : decode cX4_setPosition 40 = .ok (.istore_n 3, 1) := by decide +kernel
theorem dX4_setPosition_41 : decode cX4_setPosition 41 = .ok (.aload_n 0, 1) := by decide +kernel
theorem dX4_setPosition_42 : decode cX4_setPosition 42 = .ok (.getfield 7, 3) := by decide +kernel
theorem dX4_setPosition_45 : decode cX4_setPosition 45 = .ok (.iload_n 1, 1) := by decide +kernel
theorem dX4_setPosition_46 : decode cX4_setPosition 46 = .ok (.iconst 1, 1) := by decide +kernel
theorem dX4_setPosition_47 : decode cX4_setPosition 47 = .ok (.invokestatic 22, 3) := by decide +kernel
theorem dX4_setPosition_50 : decode cX4_setPosition 50 = .ok (.iload_n 2, 1) := by decide +kernel
theorem dX4_setPosition_51 : decode cX4_setPosition 51 = .ok (.iastore, 1) := by decide +kernel
theorem dX4_setPosition_52 : decode cX4_setPosition 52 = .ok (.iload_n 3, 1) := by decide +kernel
theorem dX4_setPosition_53 : decode cX4_setPosition 53 = .ok (.ireturn, 1) := by decide +kernel
set_option maxRecDepth 20000 in
theorem ggX4_setSilence_X4_in : GoodIn wsX4_setSilence wsX4_in := goodIn_r _ [5] (by decide +kernel) (by decide +kernel)
set_option maxRecDepth 20000 in
theorem gX4_setSilence_X4_in : GoodIn wsX4_setSilence (va_wsS RX4 34 yX4_in wsX4_in) := goodIn_app (goodIn_of _ (by decide +kernel)) ggX4_setSilence_X4_in
set_option maxRecDepth 20000 in
theorem ggX4_setSilence_X4_error : GoodIn wsX4_setSilence wsX4_error := goodIn_r _ [9, 10, 20, 21, 22, 23, 24, 25] (by decide +kernel) (by decide +kernel)
set_option maxRecDepth 20000 in
theorem gX4_setSilence_X4_error : GoodIn wsX4_setSilence (wsV RX4 42 RX4 yX4_error wsX4_error) := goodIn_app (goodIn_of _ (by decide +kernel)) ggX4_setSilence_X4_error
set_option maxRecDepth 20000 in
theorem ggX4_setSilence_X4_save : GoodIn wsX4_setSilence wsX4_save := goodIn_r _ [14, 15, 16, 1, 17, 18, 4, 19, 20, 21, 22, 23, 24, 25] (by decide +kernel) (by decide +kernel)
set_option maxRecDepth 20000 in
theorem gX4_setSilence_X4_save : GoodIn wsX4_setSilence (wsV RX4 46 RX4 yX4_save wsX4_save) := goodIn_app (goodIn_of _ (by decide +kernel)) ggX4_setSilence_X4_save
theorem dX4_setSilence_0 : decode cX4_setSilence 0 = .ok (.iload_n 1, 1) := by decide +kernel
theorem dX4_setSilence_1 : decode cX4_setSilence 1 = .ok (.iconst 0, 1) := by decide +kernel
theorem dX4_setSilence_2 : decode cX4_setSilence 2 = .ok (.iconst 2, 1) := by decide +kernel
theorem dX4_setSilence_3 : decode cX4_setSilence 3 = .ok (.invokestatic 34, 3) := by decide +kernel
theorem dX4_setSilence_6 : decode cX4_setSilence 6 = .ok (.ifCond .eq 25, 3) := by decide +kernel
theorem dX4_setSilence_9 : decode cX4_setSilence 9 = .ok (.iload_n 2, 1) := by decide +kernel
theorem dX4_setSilence_10 : decode cX4_setSilence 10 = .ok (.iconst 0, 1) := by decide +kernel
theorem dX4_setSilence_11 : decode cX4_setSilence 11 = .ok (.sipush 1439, 3) := by decide +kernel
theorem dX4_setSilence_14 : decode cX4_setSilence 14 = .ok (.invokestatic 34, 3) := by decide +kernel
theorem dX4_setSilence_17 : decode cX4_setSilence 17 = .ok (.ifCond .eq 14, 3) := by decide +kernel
theorem dX4_setSilence_20 : decode cX4_setSilence 20 = .ok (.iload_n 3, 1) := by decide +kernel
theorem dX4_setSilence_21 : decode cX4_setSilence 21 = .ok (.iconst 0, 1) := by decide +kernel
theorem dX4_setSilence_22 : decode cX4_setSilence 22 = .ok (.sipush 1439, 3) := by decide +kernel
theorem dX4_setSilence_25 : decode cX4_setSilence 25 = .ok (.invokestatic 34, 3) := by decide +kernel
theorem dX4_setSilence_28 : decode cX4_setSilence 28 = .ok (.ifCond .ne 10, 3) := by decide +kernel
theorem dX4_setSilence_31 : decode cX4_setSilence 31 = .ok (.aload_n 0, 1) := by decide +kernel
theorem dX4_setSilence_32 : decode cX4_setSilence 32 = .ok (.bipush (-2), 2) := by decide +kernel
theorem dX4_setSilence_34 : decode cX4_setSilence 34 = .ok (.invokevirtual 42, 3) := by decide +kernel
theorem dX4_setSilence_37 : decode cX4_setSilence 37 = .ok (.ireturn, 1) := by decide +kernel
theorem dX4_setSilence_38 : decode cX4_setSilence 38 = .ok (.aload_n 0, 1) := by decide +kernel
theorem dX4_setSilence_39 : decode cX4_setSilence 39 = .ok (.invokevirtual 46, 3) := by decide +kernel
theorem dX4_setSilence_42 : decode cX4_setSilence 42 = .ok (.aload_n 0, 1) := by decide +kernel
theorem dX4_setSilence_43 : decode cX4_setSilence 43 = .ok (.getfield 7, 3) := by decide +kernel
theorem dX4_setSilence_46 : decode cX4_setSilence 46 = .ok (.iconst 1, 1) := by decide +kernel
theorem dX4_setSilence_47 : decode cX4_setSilence 47 = .ok (.iaload, 1) := by decide +kernel
theorem dX4_setSilence_48 : decode cX4_setSilence 48 = .ok (.istore 4, 2) := by decide +kernel
theorem dX4_setSilence_50 : decode cX4_setSilence 50 = .ok (.aload_n 0, 1) := by decide +kernel
theorem dX4_setSilence_51 : decode cX4_setSilence 51 = .ok (.getfield 7, 3) := by decide +kernel
theorem dX4_setSilence_54 : decode cX4_setSilence 54 = .ok (.iconst 1, 1) := by decide +kernel
theorem dX4_setSilence_55 : decode cX4_setSilence 55 = .ok (.iload_n 1, 1) := by decide +kernel
theorem dX4_setSilence_56 : decode cX4_setSilence 56 = .ok (.iastore, 1) := by decide +kernel
theorem dX4_setSilence_57 : decode cX4_setSilence 57 = .ok (.aload_n 0, 1) := by decide +kernel
theorem dX4_setSilence_58 : decode cX4_setSilence 58 = .ok (.getfield 7, 3) := by decide +kernel
theorem dX4_setSilence_61 : decode cX4_setSilence 61 = .ok (.iconst 2, 1) := by decide +kernel
theorem dX4_setSilence_62 : decode cX4_setSilence 62 = .ok (.iload_n 2, 1) := by decide +kernel
theorem dX4_setSilence_63 : decode cX4_setSilence 63 = .ok (.iastore, 1) := by decide +kernel
theorem dX4_setSilence_64 : decode cX4_setSilence 64 = .ok (.aload_n 0, 1) := by decide +kernel
theorem dX4_setSilence_65 : decode cX4_setSilence 65 = .ok (.getfield 7, 3) := by decide +kernel
theorem dX4_setSilence_68 : decode cX4_setSilence 68 = .ok (.iconst 3, 1) := by decide +kernel
theorem dX4_setSilence_69 : decode cX4_setSilence 69 = .ok (.iload_n 3, 1) := by decide +kernel
theorem dX4_setSilence_70 : decode cX4_setSilence 70 = .ok (.iastore, 1) := by decide +kernel
theorem dX4_setSilence_71 : decode cX4_setSilence 71 = .ok (.iload 4, 2) := by decide +kernel
theorem dX4_setSilence_73 : decode cX4_setSilence 73 = .ok (.ireturn, 1) := by decide +kernel
set_option maxRecDepth 20000 in
theorem ggX4_wind_X4_isTrain : GoodIn wsX4_wind wsX4_isTrain := goodIn_r _ [5, 6, 7, 4, 8] (by decide +kernel) (by decide +kernel)
set_option maxRecDepth 20000 in
theorem gX4_wind_X4_isTrain : GoodIn wsX4_wind (va_wsS RX4 38 yX4_isTrain wsX4_isTrain) := goodIn_app (goodIn_of _ (by decide +kernel)) ggX4_wind_X4_isTrain
set_option maxRecDepth 20000 in
theorem ggX4_wind_X4_in : GoodIn wsX4_wind wsX4_in := goodIn_r _ [8] (by decide +kernel) (by decide +kernel)
set_option maxRecDepth 20000 in
theorem gX4_wind_X4_in : GoodIn wsX4_wind (va_wsS RX4 34 yX4_in wsX4_in) := goodIn_app (goodIn_of _ (by decide +kernel)) ggX4_wind_X4_in
set_option maxRecDepth 20000 in
theorem ggX4_wind_X4_error : GoodIn wsX4_wind wsX4_error := goodIn_r _ [12, 13, 26, 27, 28, 29, 30, 31] (by decide +kernel) (by decide +kernel)
set_option maxRecDepth 20000 in
theorem gX4_wind_X4_error : GoodIn wsX4_wind (wsV RX4 42 RX4 yX4_error wsX4_error) := goodIn_app (goodIn_of _ (by decide +kernel)) ggX4_wind_X4_error
set_option maxRecDepth 20000 in
theorem ggX4_wind_X4_save : GoodIn wsX4_wind wsX4_save := goodIn_r _ [17, 18, 19, 1, 20, 21, 4, 22, 26, 27, 28, 29, 30, 31] (by decide +kernel) (by decide +kernel)
set_option maxRecDepth 20000 in
theorem gX4_wind_X4_save : GoodIn wsX4_wind (wsV RX4 46 RX4 yX4_save wsX4_save) := goodIn_app (goodIn_of _ (by decide +kernel)) ggX4_wind_X4_save
set_option maxRecDepth 20000 in
theorem ggX4_wind_X4_at : GoodIn wsX4_wind wsX4_at := goodIn_r _ [25] (by decide +kernel) (by decide +kernel)
set_option maxRecDepth 20000 in
theorem gX4_wind_X4_at : GoodIn wsX4_wind (va_wsS RX4 22 yX4_at wsX4_at) := goodIn_app (goodIn_of _ (by decide +kernel)) ggX4_wind_X4_at
theorem dX4_wind_0 : decode cX4_wind 0 = .ok (.iload_n 1, 1) := by decide +kernel
theorem dX4_wind_1 : decode cX4_wind 1 = .ok (.invokestatic 38, 3) := by decide +kernel
theorem dX4_wind_4 : decode cX4_wind 4 = .ok (.ifCond .eq 14, 3) := by decide +kernel
theorem dX4_wind_7 : decode cX4_wind 7 = .ok (.iload_n 2, 1) := by decide +kernel
theorem dX4_wind_8 : decode cX4_wind 8 = .ok (.iconst 1, 1) := by decide +kernel
theorem dX4_wind_9 : decode cX4_wind 9 = .ok (.sipush 2000, 3) := by decide +kernel
theorem dX4_wind_12 : decode cX4_wind 12 = .ok (.invokestatic 34, 3) := by decide +kernel
theorem dX4_wind_15 : decode cX4_wind 15 = .ok (.ifCond .ne 10, 3) := by decide +kernel
theorem dX4_wind_18 : decode cX4_wind 18 = .ok (.aload_n 0, 1) := by decide +kernel
theorem dX4_wind_19 : decode cX4_wind 19 = .ok (.bipush (-2), 2) := by decide +kernel
theorem dX4_wind_21 : decode cX4_wind 21 = .ok (.invokevirtual 42, 3) := by decide +kernel
theorem dX4_wind_24 : decode cX4_wind 24 = .ok (.ireturn, 1) := by decide +kernel
theorem dX4_wind_25 : decode cX4_wind 25 = .ok (.aload_n 0, 1) := by decide +kernel
theorem dX4_wind_26 : decode cX4_wind 26 = .ok (.invokevirtual 46, 3) := by decide +kernel
theorem dX4_wind_29 : decode cX4_wind 29 = .ok (.aload_n 0, 1) := by decide +kernel
theorem dX4_wind_30 : decode cX4_wind 30 = .ok (.getfield 7, 3) := by decide +kernel
theorem dX4_wind_33 : decode cX4_wind 33 = .ok (.iload_n 1, 1) := by decide +kernel
theorem dX4_wind_34 : decode cX4_wind 34 = .ok (.iconst 2, 1) := by decide +kernel
theorem dX4_wind_35 : decode cX4_wind 35 = .ok (.invokestatic 22, 3) := by decide +kernel
theorem dX4_wind_38 : decode cX4_wind 38 = .ok (.iaload, 1) := by decide +kernel
theorem dX4_wind_39 : decode cX4_wind 39 = .ok (.istore_n 3, 1) := by decide +kernel
theorem dX4_wind_40 : decode cX4_wind 40 = .ok (.iload_n 3, 1) := by decide +kernel
theorem dX4_wind_41 : decode cX4_wind 41 = .ok (.iload_n 2, 1) := by decide +kernel
theorem dX4_wind_42 : decode cX4_wind 42 = .ok (.iadd, 1) := by decide +kernel
theorem dX4_wind_43 : decode cX4_wind 43 = .ok (.sipush 2000, 3) := by decide +kernel
theorem dX4_wind_46 : decode cX4_wind 46 = .ok (.if_icmp .le 9, 3) := by decide +kernel
theorem dX4_wind_49 : decode cX4_wind 49 = .ok (.sipush 2000, 3) := by decide +kernel
theorem dX4_wind_52 : decode cX4_wind 52 = .ok (.goto 6, 3) := by decide +kernel
theorem dX4_wind_55 : decode cX4_wind 55 = .ok (.iload_n 3, 1) := by decide +kernel
theorem dX4_wind_56 : decode cX4_wind 56 = .ok (.iload_n 2, 1) := by decide +kernel
theorem dX4_wind_57 : decode cX4_wind 57 = .ok (.iadd, 1) := by decide +kernel
theorem dX4_wind_58 : decode cX4_wind 58 = .ok (.istore 4, 2) := by decide +kernel
theorem dX4_wind_60 : decode cX4_wind 60 = .ok (.aload_n 0, 1) := by decide +kernel
theorem dX4_wind_61 : decode cX4_wind 61 = .ok (.getfield 7, 3) := by decide +kernel
theorem dX4_wind_64 : decode cX4_wind 64 = .ok (.iload_n 1, 1) := by decide +kernel
theorem dX4_wind_65 : decode cX4_wind 65 = .ok (.iconst 2, 1) := by decide +kernel
theorem dX4_wind_66 : decode cX4_wind 66 = .ok (.invokestatic 22, 3) := by decide +kernel
theorem dX4_wind_69 : decode cX4_wind 69 = .ok (.iload 4, 2) := by decide +kernel
theorem dX4_wind_71 : decode cX4_wind 71 = .ok (.iastore, 1) := by decide +kernel
theorem dX4_wind_72 : decode cX4_wind 72 = .ok (.iload 4, 2) := by decide +kernel
theorem dX4_wind_74 : decode cX4_wind 74 = .ok (.iload_n 3, 1) := by decide +kernel
theorem dX4_wind_75 : decode cX4_wind 75 = .ok (.isub, 1) := by decide +kernel
theorem dX4_wind_76 : decode cX4_wind 76 = .ok (.ireturn, 1) := by decide +kernel
theorem dX4_silentAt_0 : decode cX4_silentAt 0 = .ok (.aload_n 0, 1) := by decide +kernel
theorem dX4_silentAt_1 : decode cX4_silentAt 1 = .ok (.getfield 7, 3) := by decide +kernel
theorem dX4_silentAt_4 : decode cX4_silentAt 4 = .ok (.iconst 2, 1) := by decide +kernel
theorem dX4_silentAt_5 : decode cX4_silentAt 5 = .ok (.iaload, 1) := by decide +kernel
theorem dX4_silentAt_6 : decode cX4_silentAt 6 = .ok (.istore_n 2, 1) := by decide +kernel
theorem dX4_silentAt_7 : decode cX4_silentAt 7 = .ok (.aload_n 0, 1) := by decide +kernel
theorem dX4_silentAt_8 : decode cX4_silentAt 8 = .ok (.getfield 7, 3) := by decide +kernel
theorem dX4_silentAt_11 : decode cX4_silentAt 11 = .ok (.iconst 3, 1) := by decide +kernel
theorem dX4_silentAt_12 : decode cX4_silentAt 12 = .ok (.iaload, 1) := by decide +kernel
theorem dX4_silentAt_13 : decode cX4_silentAt 13 = .ok (.istore_n 3, 1) := by decide +kernel
theorem dX4_silentAt_14 : decode cX4_silentAt 14 = .ok (.aload_n 0, 1) := by decide +kernel
theorem dX4_silentAt_15 : decode cX4_silentAt 15 = .ok (.getfield 7, 3) := by decide +kernel
theorem dX4_silentAt_18 : decode cX4_silentAt 18 = .ok (.iconst 1, 1) := by decide +kernel
theorem dX4_silentAt_19 : decode cX4_silentAt 19 = .ok (.iaload, 1) := by decide +kernel
theorem dX4_silentAt_20 : decode cX4_silentAt 20 = .ok (.ifCond .eq 8, 3) := by decide +kernel
theorem dX4_silentAt_23 : decode cX4_silentAt 23 = .ok (.iload_n 2, 1) := by decide +kernel
theorem dX4_silentAt_24 : decode cX4_silentAt 24 = .ok (.iload_n 3, 1) := by decide +kernel
theorem dX4_silentAt_25 : decode cX4_silentAt 25 = .ok (.if_icmp .ne 5, 3) := by decide +kernel
theorem dX4_silentAt_28 : decode cX4_silentAt 28 = .ok (.iconst 0, 1) := by decide +kernel
theorem dX4_silentAt_29 : decode cX4_silentAt 29 = .ok (.ireturn, 1) := by decide +kernel
theorem dX4_silentAt_30 : decode cX4_silentAt 30 = .ok (.iload_n 2, 1) := by decide +kernel
theorem dX4_silentAt_31 : decode cX4_silentAt 31 = .ok (.iload_n 3, 1) := by decide +kernel
theorem dX4_silentAt_32 : decode cX4_silentAt 32 = .ok (.if_icmp .ge 21, 3) := by decide +kernel
theorem dX4_silentAt_35 : decode cX4_silentAt 35 = .ok (.iload_n 1, 1) := by decide +kernel
theorem dX4_silentAt_36 : decode cX4_silentAt 36 = .ok (.iload_n 2, 1) := by decide +kernel
theorem dX4_silentAt_37 : decode cX4_silentAt 37 = .ok (.if_icmp .lt 12, 3) := by decide +kernel
theorem dX4_silentAt_40 : decode cX4_silentAt 40 = .ok (.iload_n 1, 1) := by decide +kernel
theorem dX4_silentAt_41 : decode cX4_silentAt 41 = .ok (.iload_n 3, 1) := by decide +kernel
theorem dX4_silentAt_42 : decode cX4_silentAt 42 = .ok (.if_icmp .ge 7, 3) := by decide +kernel
theorem dX4_silentAt_45 : decode cX4_silentAt 45 = .ok (.iconst 1, 1) := by decide +kernel
theorem dX4_silentAt_46 : decode cX4_silentAt 46 = .ok (.goto 22, 3) := by decide +kernel
theorem dX4_silentAt_49 : decode cX4_silentAt 49 = .ok (.iconst 0, 1) := by decide +kernel
theorem dX4_silentAt_50 : decode cX4_silentAt 50 = .ok (.goto 18, 3) := by decide +kernel
theorem dX4_silentAt_53 : decode cX4_silentAt 53 = .ok (.iload_n 1, 1) := by decide +kernel
theorem dX4_silentAt_54 : decode cX4_silentAt 54 = .ok (.iload_n 2, 1) := by decide +kernel
theorem dX4_silentAt_55 : decode cX4_silentAt 55 = .ok (.if_icmp .ge 8, 3) := by decide +kernel
theorem dX4_silentAt_58 : decode cX4_silentAt 58 = .ok (.iload_n 1, 1) := by decide +kernel
theorem dX4_silentAt_59 : decode cX4_silentAt 59 = .ok (.iload_n 3, 1) := by decide +kernel
theorem dX4_silentAt_60 : decode cX4_silentAt 60 = .ok (.if_icmp .ge 7, 3) := by decide +kernel
theorem dX4_silentAt_63 : decode cX4_silentAt 63 = .ok (.iconst 1, 1) := by decide +kernel
theorem dX4_silentAt_64 : decode cX4_silentAt 64 = .ok (.goto 4, 3) := by decide +kernel
theorem dX4_silentAt_67 : decode cX4_silentAt 67 = .ok (.iconst 0, 1) := by decide +kernel
theorem dX4_silentAt_68 : decode cX4_silentAt 68 = .ok (.ireturn, 1) := by decide +kernel
set_option maxRecDepth 20000 in
theorem ggX4_dueAfter_X4_positions : GoodIn wsX4_dueAfter wsX4_positions := goodIn_r _ [4] (by decide +kernel) (by decide +kernel)
set_option maxRecDepth 20000 in
theorem gX4_dueAfter_X4_positions : GoodIn wsX4_dueAfter (va_wsS RX4 49 yX4_positions wsX4_positions) := goodIn_app (goodIn_of _ (by decide +kernel)) ggX4_dueAfter_X4_positions
theorem dX4_dueAfter_0 : decode cX4_dueAfter 0 = .ok (.iload_n 0, 1) := by decide +kernel
theorem dX4_dueAfter_1 : decode cX4_dueAfter 1 = .ok (.ifCond .ne 8, 3) := by decide +kernel
theorem dX4_dueAfter_4 : decode cX4_dueAfter 4 = .ok (.bipush 60, 2) := by decide +kernel
theorem dX4_dueAfter_6 : decode cX4_dueAfter 6 = .ok (.goto 5, 3) := by decide +kernel
theorem dX4_dueAfter_9 : decode cX4_dueAfter 9 = .ok (.bipush 15, 2) := by decide +kernel
theorem dX4_dueAfter_11 : decode cX4_dueAfter 11 = .ok (.istore_n 2, 1) := by decide +kernel
theorem dX4_dueAfter_12 : decode cX4_dueAfter 12 = .ok (.iload_n 1, 1) := by decide +kernel
theorem dX4_dueAfter_13 : decode cX4_dueAfter 13 = .ok (.iload_n 2, 1) := by decide +kernel
theorem dX4_dueAfter_14 : decode cX4_dueAfter 14 = .ok (.idiv, 1) := by decide +kernel
theorem dX4_dueAfter_15 : decode cX4_dueAfter 15 = .ok (.iconst 1, 1) := by decide +kernel
theorem dX4_dueAfter_16 : decode cX4_dueAfter 16 = .ok (.iadd, 1) := by decide +kernel
theorem dX4_dueAfter_17 : decode cX4_dueAfter 17 = .ok (.iload_n 0, 1) := by decide +kernel
theorem dX4_dueAfter_18 : decode cX4_dueAfter 18 = .ok (.invokestatic 49, 3) := by decide +kernel
theorem dX4_dueAfter_21 : decode cX4_dueAfter 21 = .ok (.irem, 1) := by decide +kernel
theorem dX4_dueAfter_22 : decode cX4_dueAfter 22 = .ok (.istore_n 3, 1) := by decide +kernel
theorem dX4_dueAfter_23 : decode cX4_dueAfter 23 = .ok (.iload_n 3, 1) := by decide +kernel
theorem dX4_dueAfter_24 : decode cX4_dueAfter 24 = .ok (.ifCond .ne 10, 3) := by decide +kernel
theorem dX4_dueAfter_27 : decode cX4_dueAfter 27 = .ok (.iload_n 0, 1) := by decide +kernel
theorem dX4_dueAfter_28 : decode cX4_dueAfter 28 = .ok (.invokestatic 49, 3) := by decide +kernel
theorem dX4_dueAfter_31 : decode cX4_dueAfter 31 = .ok (.goto 4, 3) := by decide +kernel
theorem dX4_dueAfter_34 : decode cX4_dueAfter 34 = .ok (.iload_n 3, 1) := by decide +kernel
theorem dX4_dueAfter_35 : decode cX4_dueAfter 35 = .ok (.ireturn, 1) := by decide +kernel
theorem dX4_record_0 : decode cX4_record 0 = .ok (.bipush 23, 2) := by decide +kernel
theorem dX4_record_2 : decode cX4_record 2 = .ok (.istore_n 3, 1) := by decide +kernel
theorem dX4_record_3 : decode cX4_record 3 = .ok (.iload_n 3, 1) := by decide +kernel
theorem dX4_record_4 : decode cX4_record 4 = .ok (.iconst 4, 1) := by decide +kernel
theorem dX4_record_5 : decode cX4_record 5 = .ok (.if_icmp .lt 29, 3) := by decide +kernel
theorem dX4_record_8 : decode cX4_record 8 = .ok (.aload_n 0, 1) := by decide +kernel
theorem dX4_record_9 : decode cX4_record 9 = .ok (.getfield 7, 3) := by decide +kernel
theorem dX4_record_12 : decode cX4_record 12 = .ok (.bipush 15, 2) := by decide +kernel
theorem dX4_record_14 : decode cX4_record 14 = .ok (.iload_n 3, 1) := by decide +kernel
theorem dX4_record_15 : decode cX4_record 15 = .ok (.iadd, 1) := by decide +kernel
theorem dX4_record_16 : decode cX4_record 16 = .ok (.aload_n 0, 1) := by decide +kernel
theorem dX4_record_17 : decode cX4_record 17 = .ok (.getfield 7, 3) := by decide +kernel
theorem dX4_record_20 : decode cX4_record 20 = .ok (.bipush 15, 2) := by decide +kernel
theorem dX4_record_22 : decode cX4_record 22 = .ok (.iload_n 3, 1) := by decide +kernel
theorem dX4_record_23 : decode cX4_record 23 = .ok (.iadd, 1) := by decide +kernel
theorem dX4_record_24 : decode cX4_record 24 = .ok (.iconst 4, 1) := by decide +kernel
theorem dX4_record_25 : decode cX4_record 25 = .ok (.isub, 1) := by decide +kernel
theorem dX4_record_26 : decode cX4_record 26 = .ok (.iaload, 1) := by decide +kernel
theorem dX4_record_27 : decode cX4_record 27 = .ok (.iastore, 1) := by decide +kernel
theorem dX4_record_28 : decode cX4_record 28 = .ok (.iinc 3 (-1), 3) := by decide +kernel
theorem dX4_record_31 : decode cX4_record 31 = .ok (.goto (-28), 3) := by decide +kernel
theorem dX4_record_34 : decode cX4_record 34 = .ok (.aload_n 0, 1) := by decide +kernel
theorem dX4_record_35 : decode cX4_record 35 = .ok (.getfield 7, 3) := by decide +kernel
theorem dX4_record_38 : decode cX4_record 38 = .ok (.bipush 15, 2) := by decide +kernel
theorem dX4_record_40 : decode cX4_record 40 = .ok (.aload_n 0, 1) := by decide +kernel
theorem dX4_record_41 : decode cX4_record 41 = .ok (.getfield 7, 3) := by decide +kernel
theorem dX4_record_44 : decode cX4_record 44 = .ok (.iconst 0, 1) := by decide +kernel
theorem dX4_record_45 : decode cX4_record 45 = .ok (.iaload, 1) := by decide +kernel
theorem dX4_record_46 : decode cX4_record 46 = .ok (.iastore, 1) := by decide +kernel
theorem dX4_record_47 : decode cX4_record 47 = .ok (.aload_n 0, 1) := by decide +kernel
theorem dX4_record_48 : decode cX4_record 48 = .ok (.getfield 7, 3) := by decide +kernel
theorem dX4_record_51 : decode cX4_record 51 = .ok (.bipush 16, 2) := by decide +kernel
theorem dX4_record_53 : decode cX4_record 53 = .ok (.iload_n 1, 1) := by decide +kernel
theorem dX4_record_54 : decode cX4_record 54 = .ok (.iastore, 1) := by decide +kernel
theorem dX4_record_55 : decode cX4_record 55 = .ok (.aload_n 0, 1) := by decide +kernel
theorem dX4_record_56 : decode cX4_record 56 = .ok (.getfield 7, 3) := by decide +kernel
theorem dX4_record_59 : decode cX4_record 59 = .ok (.bipush 17, 2) := by decide +kernel
theorem dX4_record_61 : decode cX4_record 61 = .ok (.iload_n 2, 1) := by decide +kernel
theorem dX4_record_62 : decode cX4_record 62 = .ok (.iastore, 1) := by decide +kernel
theorem dX4_record_63 : decode cX4_record 63 = .ok (.aload_n 0, 1) := by decide +kernel
theorem dX4_record_64 : decode cX4_record 64 = .ok (.getfield 7, 3) := by decide +kernel
theorem dX4_record_67 : decode cX4_record 67 = .ok (.bipush 14, 2) := by decide +kernel
theorem dX4_record_69 : decode cX4_record 69 = .ok (.dup2, 1) := by decide +kernel
theorem dX4_record_70 : decode cX4_record 70 = .ok (.iaload, 1) := by decide +kernel
theorem dX4_record_71 : decode cX4_record 71 = .ok (.aload_n 0, 1) := by decide +kernel
theorem dX4_record_72 : decode cX4_record 72 = .ok (.getfield 7, 3) := by decide +kernel
theorem dX4_record_75 : decode cX4_record 75 = .ok (.bipush 14, 2) := by decide +kernel
theorem dX4_record_77 : decode cX4_record 77 = .ok (.iaload, 1) := by decide +kernel
theorem dX4_record_78 : decode cX4_record 78 = .ok (.bipush 6, 2) := by decide +kernel
theorem dX4_record_80 : decode cX4_record 80 = .ok (.if_icmp .ge 7, 3) := by decide +kernel
theorem dX4_record_83 : decode cX4_record 83 = .ok (.iconst 1, 1) := by decide +kernel
theorem dX4_record_84 : decode cX4_record 84 = .ok (.goto 4, 3) := by decide +kernel
theorem dX4_record_87 : decode cX4_record 87 = .ok (.iconst 0, 1) := by decide +kernel
theorem dX4_record_88 : decode cX4_record 88 = .ok (.iadd, 1) := by decide +kernel
theorem dX4_record_89 : decode cX4_record 89 = .ok (.iastore, 1) := by decide +kernel
theorem dX4_record_90 : decode cX4_record 90 = .ok (.return_, 1) := by decide +kernel
set_option maxRecDepth 20000 in
theorem ggX4_blowsOf_X4_at : GoodIn wsX4_blowsOf wsX4_at := goodIn_r _ [5] (by decide +kernel) (by decide +kernel)
end
section
set_option maxRecDepth 20000 in
theorem gX4_blowsOf_X4_at : GoodIn wsX4_blowsOf (va_wsS RX4 22 yX4_at wsX4_at) := goodIn_app (goodIn_of _ (by decide +kernel)) ggX4_blowsOf_X4_at
theorem dX4_blowsOf_0 : decode cX4_blowsOf 0 = .ok (.aload_n 0, 1) := by decide +kernel
theorem dX4_blowsOf_1 : decode cX4_blowsOf 1 = .ok (.getfield 7, 3) := by decide +kernel
theorem dX4_blowsOf_4 : decode cX4_blowsOf 4 = .ok (.iload_n 1, 1) := by decide +kernel
theorem dX4_blowsOf_5 : decode cX4_blowsOf 5 = .ok (.iconst 0, 1) := by decide +kernel
theorem dX4_blowsOf_6 : decode cX4_blowsOf 6 = .ok (.invokestatic 22, 3) := by decide +kernel
theorem dX4_blowsOf_9 : decode cX4_blowsOf 9 = .ok (.iaload, 1) := by decide +kernel
theorem dX4_blowsOf_10 : decode cX4_blowsOf 10 = .ok (.istore_n 3, 1) := by decide +kernel
theorem dX4_blowsOf_11 : decode cX4_blowsOf 11 = .ok (.iload_n 3, 1) := by decide +kernel
theorem dX4_blowsOf_12 : decode cX4_blowsOf 12 = .ok (.ifCond .ne 7, 3) := by decide +kernel
theorem dX4_blowsOf_15 : decode cX4_blowsOf 15 = .ok (.iconst 0, 1) := by decide +kernel
theorem dX4_blowsOf_16 : decode cX4_blowsOf 16 = .ok (.goto 22, 3) := by decide +kernel
theorem dX4_blowsOf_19 : decode cX4_blowsOf 19 = .ok (.iload_n 3, 1) := by decide +kernel
theorem dX4_blowsOf_20 : decode cX4_blowsOf 20 = .ok (.iconst 1, 1) := by decide +kernel
theorem dX4_blowsOf_21 : decode cX4_blowsOf 21 = .ok (.if_icmp .ne 16, 3) := by decide +kernel
theorem dX4_blowsOf_24 : decode cX4_blowsOf 24 = .ok (.aload_n 0, 1) := by decide +kernel
theorem dX4_blowsOf_25 : decode cX4_blowsOf 25 = .ok (.getfield 7, 3) := by decide +kernel
theorem dX4_blowsOf_28 : decode cX4_blowsOf 28 = .ok (.iload_n 1, 1) := by decide +kernel
theorem dX4_blowsOf_29 : decode cX4_blowsOf 29 = .ok (.iconst 1, 1) := by decide +kernel
theorem dX4_blowsOf_30 : decode cX4_blowsOf 30 = .ok (.invokestatic 22, 3) := by decide +kernel
theorem dX4_blowsOf_33 : decode cX4_blowsOf 33 = .ok (.iaload, 1) := by decide +kernel
theorem dX4_blowsOf_34 : decode cX4_blowsOf 34 = .ok (.goto 4, 3) := by decide +kernel
theorem dX4_blowsOf_37 : decode cX4_blowsOf 37 = .ok (.iload_n 2, 1) := by decide +kernel
theorem dX4_blowsOf_38 : decode cX4_blowsOf 38 = .ok (.ireturn, 1) := by decide +kernel
set_option maxRecDepth 20000 in
theorem ggX4_strike_X4_at : GoodIn wsX4_strike wsX4_at := goodIn_r _ [5] (by decide +kernel) (by decide +kernel)
set_option maxRecDepth 20000 in
theorem gX4_strike_X4_at : GoodIn wsX4_strike (va_wsS RX4 22 yX4_at wsX4_at) := goodIn_app (goodIn_of _ (by decide +kernel)) ggX4_strike_X4_at
set_option maxRecDepth 20000 in
theorem ggX4_strike_X4_positions : GoodIn wsX4_strike wsX4_positions := goodIn_r _ [8] (by decide +kernel) (by decide +kernel)
set_option maxRecDepth 20000 in
theorem gX4_strike_X4_positions : GoodIn wsX4_strike (va_wsS RX4 49 yX4_positions wsX4_positions) := goodIn_app (goodIn_of _ (by decide +kernel)) ggX4_strike_X4_positions
set_option maxRecDepth 20000 in
theorem ggX4_strike_X4_record : GoodIn wsX4_strike wsX4_record := goodIn_r _ [12, 1, 13, 14, 15, 16, 17, 18] (by decide +kernel) (by decide +kernel)
set_option maxRecDepth 20000 in
theorem gX4_strike_X4_record : GoodIn wsX4_strike (wsV RX4 52 RX4 yX4_record wsX4_record) := goodIn_app (goodIn_of _ (by decide +kernel)) ggX4_strike_X4_record
theorem dX4_strike_0 : decode cX4_strike 0 = .ok (.aload_n 0, 1) := by decide +kernel
theorem dX4_strike_1 : decode cX4_strike 1 = .ok (.getfield 7, 3) := by decide +kernel
theorem dX4_strike_4 : decode cX4_strike 4 = .ok (.iload_n 1, 1) := by decide +kernel
theorem dX4_strike_5 : decode cX4_strike 5 = .ok (.iconst 2, 1) := by decide +kernel
theorem dX4_strike_6 : decode cX4_strike 6 = .ok (.invokestatic 22, 3) := by decide +kernel
theorem dX4_strike_9 : decode cX4_strike 9 = .ok (.dup2, 1) := by decide +kernel
theorem dX4_strike_10 : decode cX4_strike 10 = .ok (.iaload, 1) := by decide +kernel
theorem dX4_strike_11 : decode cX4_strike 11 = .ok (.iload_n 2, 1) := by decide +kernel
theorem dX4_strike_12 : decode cX4_strike 12 = .ok (.isub, 1) := by decide +kernel
theorem dX4_strike_13 : decode cX4_strike 13 = .ok (.iastore, 1) := by decide +kernel
theorem dX4_strike_14 : decode cX4_strike 14 = .ok (.aload_n 0, 1) := by decide +kernel
theorem dX4_strike_15 : decode cX4_strike 15 = .ok (.getfield 7, 3) := by decide +kernel
theorem dX4_strike_18 : decode cX4_strike 18 = .ok (.iload_n 1, 1) := by decide +kernel
theorem dX4_strike_19 : decode cX4_strike 19 = .ok (.iconst 0, 1) := by decide +kernel
theorem dX4_strike_20 : decode cX4_strike 20 = .ok (.invokestatic 22, 3) := by decide +kernel
theorem dX4_strike_23 : decode cX4_strike 23 = .ok (.iaload, 1) := by decide +kernel
theorem dX4_strike_24 : decode cX4_strike 24 = .ok (.iconst 1, 1) := by decide +kernel
theorem dX4_strike_25 : decode cX4_strike 25 = .ok (.if_icmp .ne 30, 3) := by decide +kernel
theorem dX4_strike_28 : decode cX4_strike 28 = .ok (.aload_n 0, 1) := by decide +kernel
theorem dX4_strike_29 : decode cX4_strike 29 = .ok (.getfield 7, 3) := by decide +kernel
theorem dX4_strike_32 : decode cX4_strike 32 = .ok (.iload_n 1, 1) := by decide +kernel
theorem dX4_strike_33 : decode cX4_strike 33 = .ok (.iconst 1, 1) := by decide +kernel
theorem dX4_strike_34 : decode cX4_strike 34 = .ok (.invokestatic 22, 3) := by decide +kernel
theorem dX4_strike_37 : decode cX4_strike 37 = .ok (.aload_n 0, 1) := by decide +kernel
theorem dX4_strike_38 : decode cX4_strike 38 = .ok (.getfield 7, 3) := by decide +kernel
theorem dX4_strike_41 : decode cX4_strike 41 = .ok (.iload_n 1, 1) := by decide +kernel
theorem dX4_strike_42 : decode cX4_strike 42 = .ok (.iconst 1, 1) := by decide +kernel
theorem dX4_strike_43 : decode cX4_strike 43 = .ok (.invokestatic 22, 3) := by decide +kernel
theorem dX4_strike_46 : decode cX4_strike 46 = .ok (.iaload, 1) := by decide +kernel
theorem dX4_strike_47 : decode cX4_strike 47 = .ok (.iload_n 1, 1) := by decide +kernel
theorem dX4_strike_48 : decode cX4_strike 48 = .ok (.invokestatic 49, 3) := by decide +kernel
theorem dX4_strike_51 : decode cX4_strike 51 = .ok (.irem, 1) := by decide +kernel
theorem dX4_strike_52 : decode cX4_strike 52 = .ok (.iconst 1, 1) := by decide +kernel
theorem dX4_strike_53 : decode cX4_strike 53 = .ok (.iadd, 1) := by decide +kernel
theorem dX4_strike_54 : decode cX4_strike 54 = .ok (.iastore, 1) := by decide +kernel
theorem dX4_strike_55 : decode cX4_strike 55 = .ok (.aload_n 0, 1) := by decide +kernel
theorem dX4_strike_56 : decode cX4_strike 56 = .ok (.iload_n 1, 1) := by decide +kernel
theorem dX4_strike_57 : decode cX4_strike 57 = .ok (.iload_n 3, 1) := by decide +kernel
theorem dX4_strike_58 : decode cX4_strike 58 = .ok (.ifCond .eq 8, 3) := by decide +kernel
theorem dX4_strike_61 : decode cX4_strike 61 = .ok (.iload_n 2, 1) := by decide +kernel
theorem dX4_strike_62 : decode cX4_strike 62 = .ok (.ineg, 1) := by decide +kernel
theorem dX4_strike_63 : decode cX4_strike 63 = .ok (.goto 4, 3) := by decide +kernel
theorem dX4_strike_66 : decode cX4_strike 66 = .ok (.iload_n 2, 1) := by decide +kernel
theorem dX4_strike_67 : decode cX4_strike 67 = .ok (.invokevirtual 52, 3) := by decide +kernel
theorem dX4_strike_70 : decode cX4_strike 70 = .ok (.aload_n 0, 1) := by decide +kernel
theorem dX4_strike_71 : decode cX4_strike 71 = .ok (.getfield 7, 3) := by decide +kernel
theorem dX4_strike_74 : decode cX4_strike 74 = .ok (.iload_n 1, 1) := by decide +kernel
theorem dX4_strike_75 : decode cX4_strike 75 = .ok (.iconst 3, 1) := by decide +kernel
theorem dX4_strike_76 : decode cX4_strike 76 = .ok (.invokestatic 22, 3) := by decide +kernel
theorem dX4_strike_79 : decode cX4_strike 79 = .ok (.dup2, 1) := by decide +kernel
theorem dX4_strike_80 : decode cX4_strike 80 = .ok (.iaload, 1) := by decide +kernel
theorem dX4_strike_81 : decode cX4_strike 81 = .ok (.iload_n 3, 1) := by decide +kernel
theorem dX4_strike_82 : decode cX4_strike 82 = .ok (.ifCond .eq 7, 3) := by decide +kernel
theorem dX4_strike_85 : decode cX4_strike 85 = .ok (.iconst 0, 1) := by decide +kernel
theorem dX4_strike_86 : decode cX4_strike 86 = .ok (.goto 4, 3) := by decide +kernel
theorem dX4_strike_89 : decode cX4_strike 89 = .ok (.iload_n 2, 1) := by decide +kernel
theorem dX4_strike_90 : decode cX4_strike 90 = .ok (.iadd, 1) := by decide +kernel
theorem dX4_strike_91 : decode cX4_strike 91 = .ok (.iastore, 1) := by decide +kernel
theorem dX4_strike_92 : decode cX4_strike 92 = .ok (.iload_n 3, 1) := by decide +kernel
theorem dX4_strike_93 : decode cX4_strike 93 = .ok (.ifCond .eq 7, 3) := by decide +kernel
theorem dX4_strike_96 : decode cX4_strike 96 = .ok (.iconst 0, 1) := by decide +kernel
theorem dX4_strike_97 : decode cX4_strike 97 = .ok (.goto 4, 3) := by decide +kernel
theorem dX4_strike_100 : decode cX4_strike 100 = .ok (.iload_n 2, 1) := by decide +kernel
theorem dX4_strike_101 : decode cX4_strike 101 = .ok (.ireturn, 1) := by decide +kernel
set_option maxRecDepth 20000 in
theorem ggX4_release_X4_blowsOf : GoodIn wsX4_release wsX4_blowsOf := goodIn_r _ [6, 1, 7, 8, 5, 9, 21, 22, 23, 24, 25, 26] (by decide +kernel) (by decide +kernel)
set_option maxRecDepth 20000 in
theorem gX4_release_X4_blowsOf : GoodIn wsX4_release (wsV RX4 56 RX4 yX4_blowsOf wsX4_blowsOf) := goodIn_app (goodIn_of _ (by decide +kernel)) ggX4_release_X4_blowsOf
set_option maxRecDepth 20000 in
theorem ggX4_release_X4_at : GoodIn wsX4_release wsX4_at := goodIn_r _ [9] (by decide +kernel) (by decide +kernel)
set_option maxRecDepth 20000 in
theorem gX4_release_X4_at : GoodIn wsX4_release (va_wsS RX4 22 yX4_at wsX4_at) := goodIn_app (goodIn_of _ (by decide +kernel)) ggX4_release_X4_at
set_option maxRecDepth 20000 in
theorem ggX4_release_X4_strike : GoodIn wsX4_release wsX4_strike := goodIn_r _ [13, 1, 7, 8, 5, 9, 14, 15, 16, 17, 18, 19, 20, 21, 22, 23, 24, 25, 26] (by decide +kernel) (by decide +kernel)
set_option maxRecDepth 20000 in
theorem gX4_release_X4_strike : GoodIn wsX4_release (wsV RX4 59 RX4 yX4_strike wsX4_strike) := goodIn_app (goodIn_of _ (by decide +kernel)) ggX4_release_X4_strike
theorem dX4_release_0 : decode cX4_release 0 = .ok (.aload_n 0, 1) := by decide +kernel
theorem dX4_release_1 : decode cX4_release 1 = .ok (.iload_n 1, 1) := by decide +kernel
theorem dX4_release_2 : decode cX4_release 2 = .ok (.iload_n 2, 1) := by decide +kernel
theorem dX4_release_3 : decode cX4_release 3 = .ok (.invokevirtual 56, 3) := by decide +kernel
theorem dX4_release_6 : decode cX4_release 6 = .ok (.istore 4, 2) := by decide +kernel
theorem dX4_release_8 : decode cX4_release 8 = .ok (.aload_n 0, 1) := by decide +kernel
theorem dX4_release_9 : decode cX4_release 9 = .ok (.getfield 7, 3) := by decide +kernel
theorem dX4_release_12 : decode cX4_release 12 = .ok (.iload_n 1, 1) := by decide +kernel
theorem dX4_release_13 : decode cX4_release 13 = .ok (.iconst 2, 1) := by decide +kernel
theorem dX4_release_14 : decode cX4_release 14 = .ok (.invokestatic 22, 3) := by decide +kernel
theorem dX4_release_17 : decode cX4_release 17 = .ok (.iaload, 1) := by decide +kernel
theorem dX4_release_18 : decode cX4_release 18 = .ok (.iload 4, 2) := by decide +kernel
theorem dX4_release_20 : decode cX4_release 20 = .ok (.if_icmp .ge 19, 3) := by decide +kernel
theorem dX4_release_23 : decode cX4_release 23 = .ok (.aload_n 0, 1) := by decide +kernel
theorem dX4_release_24 : decode cX4_release 24 = .ok (.getfield 7, 3) := by decide +kernel
theorem dX4_release_27 : decode cX4_release 27 = .ok (.iload_n 1, 1) := by decide +kernel
theorem dX4_release_28 : decode cX4_release 28 = .ok (.iconst 4, 1) := by decide +kernel
theorem dX4_release_29 : decode cX4_release 29 = .ok (.invokestatic 22, 3) := by decide +kernel
theorem dX4_release_32 : decode cX4_release 32 = .ok (.dup2, 1) := by decide +kernel
theorem dX4_release_33 : decode cX4_release 33 = .ok (.iaload, 1) := by decide +kernel
theorem dX4_release_34 : decode cX4_release 34 = .ok (.iconst 1, 1) := by decide +kernel
theorem dX4_release_35 : decode cX4_release 35 = .ok (.iadd, 1) := by decide +kernel
theorem dX4_release_36 : decode cX4_release 36 = .ok (.iastore, 1) := by decide +kernel
theorem dX4_release_37 : decode cX4_release 37 = .ok (.iconst 0, 1) := by decide +kernel
theorem dX4_release_38 : decode cX4_release 38 = .ok (.ireturn, 1) := by decide +kernel
theorem dX4_release_39 : decode cX4_release 39 = .ok (.iload 4, 2) := by decide +kernel
theorem dX4_release_41 : decode cX4_release 41 = .ok (.ifCond .ne 7, 3) := by decide +kernel
theorem dX4_release_44 : decode cX4_release 44 = .ok (.iconst 0, 1) := by decide +kernel
theorem dX4_release_45 : decode cX4_release 45 = .ok (.goto 11, 3) := by decide +kernel
theorem dX4_release_48 : decode cX4_release 48 = .ok (.aload_n 0, 1) := by decide +kernel
theorem dX4_release_49 : decode cX4_release 49 = .ok (.iload_n 1, 1) := by decide +kernel
theorem dX4_release_50 : decode cX4_release 50 = .ok (.iload 4, 2) := by decide +kernel
theorem dX4_release_52 : decode cX4_release 52 = .ok (.iload_n 3, 1) := by decide +kernel
theorem dX4_release_53 : decode cX4_release 53 = .ok (.invokevirtual 59, 3) := by decide +kernel
theorem dX4_release_56 : decode cX4_release 56 = .ok (.ireturn, 1) := by decide +kernel
set_option maxRecDepth 20000 in
theorem ggX4_tick_X4_silentAt : GoodIn wsX4_tick wsX4_silentAt := goodIn_r _ [6, 1, 32, 33, 34, 35, 36, 37] (by decide +kernel) (by decide +kernel)
set_option maxRecDepth 20000 in
theorem gX4_tick_X4_silentAt : GoodIn wsX4_tick (wsV RX4 63 RX4 yX4_silentAt wsX4_silentAt) := goodIn_app (goodIn_of _ (by decide +kernel)) ggX4_tick_X4_silentAt
set_option maxRecDepth 20000 in
theorem ggX4_tick_X4_dueAfter : GoodIn wsX4_tick wsX4_dueAfter := goodIn_r _ [9, 10, 11, 5, 12] (by decide +kernel) (by decide +kernel)
set_option maxRecDepth 20000 in
theorem gX4_tick_X4_dueAfter : GoodIn wsX4_tick (va_wsS RX4 66 yX4_dueAfter wsX4_dueAfter) := goodIn_app (goodIn_of _ (by decide +kernel)) ggX4_tick_X4_dueAfter
set_option maxRecDepth 20000 in
theorem ggX4_tick_X4_release : GoodIn wsX4_tick wsX4_release := goodIn_r _ [16, 1, 17, 18, 19, 5, 20, 21, 22, 23, 24, 25, 26, 27, 10, 11, 12, 28, 29, 30, 31, 32, 33, 34, 35, 36, 37] (by decide +kernel) (by decide +kernel)
set_option maxRecDepth 20000 in
theorem gX4_tick_X4_release : GoodIn wsX4_tick (wsV RX4 69 RX4 yX4_release wsX4_release) := goodIn_app (goodIn_of _ (by decide +kernel)) ggX4_tick_X4_release
theorem dX4_tick_0 : decode cX4_tick 0 = .ok (.aload_n 0, 1) := by decide +kernel
theorem dX4_tick_1 : decode cX4_tick 1 = .ok (.getfield 7, 3) := by decide +kernel
theorem dX4_tick_4 : decode cX4_tick 4 = .ok (.iconst 0, 1) := by decide +kernel
theorem dX4_tick_5 : decode cX4_tick 5 = .ok (.iaload, 1) := by decide +kernel
theorem dX4_tick_6 : decode cX4_tick 6 = .ok (.istore_n 1, 1) := by decide +kernel
theorem dX4_tick_7 : decode cX4_tick 7 = .ok (.aload_n 0, 1) := by decide +kernel
theorem dX4_tick_8 : decode cX4_tick 8 = .ok (.getfield 7, 3) := by decide +kernel
theorem dX4_tick_11 : decode cX4_tick 11 = .ok (.iconst 0, 1) := by decide +kernel
theorem dX4_tick_12 : decode cX4_tick 12 = .ok (.iload_n 1, 1) := by decide +kernel
theorem dX4_tick_13 : decode cX4_tick 13 = .ok (.iconst 1, 1) := by decide +kernel
theorem dX4_tick_14 : decode cX4_tick 14 = .ok (.iadd, 1) := by decide +kernel
theorem dX4_tick_15 : decode cX4_tick 15 = .ok (.sipush 1440, 3) := by decide +kernel
theorem dX4_tick_18 : decode cX4_tick 18 = .ok (.irem, 1) := by decide +kernel
theorem dX4_tick_19 : decode cX4_tick 19 = .ok (.iastore, 1) := by decide +kernel
theorem dX4_tick_20 : decode cX4_tick 20 = .ok (.aload_n 0, 1) := by decide +kernel
theorem dX4_tick_21 : decode cX4_tick 21 = .ok (.getfield 7, 3) := by decide +kernel
theorem dX4_tick_24 : decode cX4_tick 24 = .ok (.iconst 0, 1) := by decide +kernel
theorem dX4_tick_25 : decode cX4_tick 25 = .ok (.iaload, 1) := by decide +kernel
theorem dX4_tick_26 : decode cX4_tick 26 = .ok (.istore_n 2, 1) := by decide +kernel
theorem dX4_tick_27 : decode cX4_tick 27 = .ok (.aload_n 0, 1) := by decide +kernel
theorem dX4_tick_28 : decode cX4_tick 28 = .ok (.iload_n 2, 1) := by decide +kernel
theorem dX4_tick_29 : decode cX4_tick 29 = .ok (.invokevirtual 63, 3) := by decide +kernel
theorem dX4_tick_32 : decode cX4_tick 32 = .ok (.istore_n 3, 1) := by decide +kernel
theorem dX4_tick_33 : decode cX4_tick 33 = .ok (.iload_n 2, 1) := by decide +kernel
theorem dX4_tick_34 : decode cX4_tick 34 = .ok (.bipush 15, 2) := by decide +kernel
theorem dX4_tick_36 : decode cX4_tick 36 = .ok (.irem, 1) := by decide +kernel
theorem dX4_tick_37 : decode cX4_tick 37 = .ok (.ifCond .ne 17, 3) := by decide +kernel
theorem dX4_tick_40 : decode cX4_tick 40 = .ok (.iload_n 3, 1) := by decide +kernel
theorem dX4_tick_41 : decode cX4_tick 41 = .ok (.ifCond .eq 15, 3) := by decide +kernel
theorem dX4_tick_44 : decode cX4_tick 44 = .ok (.aload_n 0, 1) := by decide +kernel
theorem dX4_tick_45 : decode cX4_tick 45 = .ok (.getfield 7, 3) := by decide +kernel
theorem dX4_tick_48 : decode cX4_tick 48 = .ok (.iconst 1, 1) := by decide +kernel
theorem dX4_tick_49 : decode cX4_tick 49 = .ok (.iaload, 1) := by decide +kernel
theorem dX4_tick_50 : decode cX4_tick 50 = .ok (.iconst 1, 1) := by decide +kernel
theorem dX4_tick_51 : decode cX4_tick 51 = .ok (.if_icmp .ne 5, 3) := by decide +kernel
theorem dX4_tick_54 : decode cX4_tick 54 = .ok (.iconst 0, 1) := by decide +kernel
theorem dX4_tick_55 : decode cX4_tick 55 = .ok (.ireturn, 1) := by decide +kernel
theorem dX4_tick_56 : decode cX4_tick 56 = .ok (.aload_n 0, 1) := by decide +kernel
theorem dX4_tick_57 : decode cX4_tick 57 = .ok (.iconst 1, 1) := by decide +kernel
theorem dX4_tick_58 : decode cX4_tick 58 = .ok (.iconst 1, 1) := by decide +kernel
theorem dX4_tick_59 : decode cX4_tick 59 = .ok (.iload_n 1, 1) := by decide +kernel
theorem dX4_tick_60 : decode cX4_tick 60 = .ok (.invokestatic 66, 3) := by decide +kernel
theorem dX4_tick_63 : decode cX4_tick 63 = .ok (.iload_n 3, 1) := by decide +kernel
theorem dX4_tick_64 : decode cX4_tick 64 = .ok (.invokevirtual 69, 3) := by decide +kernel
theorem dX4_tick_67 : decode cX4_tick 67 = .ok (.istore 4, 2) := by decide +kernel
theorem dX4_tick_69 : decode cX4_tick 69 = .ok (.iload_n 2, 1) := by decide +kernel
theorem dX4_tick_70 : decode cX4_tick 70 = .ok (.bipush 60, 2) := by decide +kernel
theorem dX4_tick_72 : decode cX4_tick 72 = .ok (.irem, 1) := by decide +kernel
theorem dX4_tick_73 : decode cX4_tick 73 = .ok (.ifCond .ne 20, 3) := by decide +kernel
theorem dX4_tick_76 : decode cX4_tick 76 = .ok (.iload 4, 2) := by decide +kernel
theorem dX4_tick_78 : decode cX4_tick 78 = .ok (.aload_n 0, 1) := by decide +kernel
theorem dX4_tick_79 : decode cX4_tick 79 = .ok (.iconst 0, 1) := by decide +kernel
theorem dX4_tick_80 : decode cX4_tick 80 = .ok (.iconst 0, 1) := by decide +kernel
theorem dX4_tick_81 : decode cX4_tick 81 = .ok (.iload_n 1, 1) := by decide +kernel
theorem dX4_tick_82 : decode cX4_tick 82 = .ok (.invokestatic 66, 3) := by decide +kernel
theorem dX4_tick_85 : decode cX4_tick 85 = .ok (.iload_n 3, 1) := by decide +kernel
theorem dX4_tick_86 : decode cX4_tick 86 = .ok (.invokevirtual 69, 3) := by decide +kernel
theorem dX4_tick_89 : decode cX4_tick 89 = .ok (.iadd, 1) := by decide +kernel
theorem dX4_tick_90 : decode cX4_tick 90 = .ok (.goto 5, 3) := by decide +kernel
theorem dX4_tick_93 : decode cX4_tick 93 = .ok (.iload 4, 2) := by decide +kernel
theorem dX4_tick_95 : decode cX4_tick 95 = .ok (.ireturn, 1) := by decide +kernel
set_option maxRecDepth 20000 in
theorem ggX4_run_X4_in : GoodIn wsX4_run wsX4_in := goodIn_r _ [4] (by decide +kernel) (by decide +kernel)
set_option maxRecDepth 20000 in
theorem gX4_run_X4_in : GoodIn wsX4_run (va_wsS RX4 34 yX4_in wsX4_in) := goodIn_app (goodIn_of _ (by decide +kernel)) ggX4_run_X4_in
set_option maxRecDepth 20000 in
theorem ggX4_run_X4_error : GoodIn wsX4_run wsX4_error := goodIn_r _ [8, 9, 53, 54, 55, 56, 57, 58] (by decide +kernel) (by decide +kernel)
set_option maxRecDepth 20000 in
theorem gX4_run_X4_error : GoodIn wsX4_run (wsV RX4 42 RX4 yX4_error wsX4_error) := goodIn_app (goodIn_of _ (by decide +kernel)) ggX4_run_X4_error
set_option maxRecDepth 20000 in
theorem ggX4_run_X4_save : GoodIn wsX4_run wsX4_save := goodIn_r _ [13, 14, 15, 16, 17, 18, 3, 19, 53, 54, 55, 56, 57, 58] (by decide +kernel) (by decide +kernel)
set_option maxRecDepth 20000 in
theorem gX4_run_X4_save : GoodIn wsX4_run (wsV RX4 46 RX4 yX4_save wsX4_save) := goodIn_app (goodIn_of _ (by decide +kernel)) ggX4_run_X4_save
set_option maxRecDepth 20000 in
theorem ggX4_run_X4_tick : GoodIn wsX4_run wsX4_tick := goodIn_r _ [23, 16, 24, 25, 26, 3, 27, 28, 29, 30, 31, 32, 33, 34, 35, 36, 37, 38, 39, 40, 41, 42, 43, 44, 45, 46, 47, 48, 49, 50, 51, 52, 53, 54, 55, 56, 57, 58] (by decide +kernel) (by decide +kernel)
set_option maxRecDepth 20000 in
theorem gX4_run_X4_tick : GoodIn wsX4_run (wsV RX4 72 RX4 yX4_tick wsX4_tick) := goodIn_app (goodIn_of _ (by decide +kernel)) ggX4_run_X4_tick
theorem dX4_run_0 : decode cX4_run 0 = .ok (.iload_n 1, 1) := by decide +kernel
theorem dX4_run_1 : decode cX4_run 1 = .ok (.iconst 0, 1) := by decide +kernel
theorem dX4_run_2 : decode cX4_run 2 = .ok (.sipush 1440, 3) := by decide +kernel
theorem dX4_run_5 : decode cX4_run 5 = .ok (.invokestatic 34, 3) := by decide +kernel
theorem dX4_run_8 : decode cX4_run 8 = .ok (.ifCond .ne 10, 3) := by decide +kernel
theorem dX4_run_11 : decode cX4_run 11 = .ok (.aload_n 0, 1) := by decide +kernel
theorem dX4_run_12 : decode cX4_run 12 = .ok (.bipush (-2), 2) := by decide +kernel
theorem dX4_run_14 : decode cX4_run 14 = .ok (.invokevirtual 42, 3) := by decide +kernel
theorem dX4_run_17 : decode cX4_run 17 = .ok (.ireturn, 1) := by decide +kernel
theorem dX4_run_18 : decode cX4_run 18 = .ok (.aload_n 0, 1) := by decide +kernel
theorem dX4_run_19 : decode cX4_run 19 = .ok (.invokevirtual 46, 3) := by decide +kernel
theorem dX4_run_22 : decode cX4_run 22 = .ok (.iconst 0, 1) := by decide +kernel
theorem dX4_run_23 : decode cX4_run 23 = .ok (.istore_n 2, 1) := by decide +kernel
theorem dX4_run_24 : decode cX4_run 24 = .ok (.iconst 0, 1) := by decide +kernel
theorem dX4_run_25 : decode cX4_run 25 = .ok (.istore_n 3, 1) := by decide +kernel
theorem dX4_run_26 : decode cX4_run 26 = .ok (.iload_n 3, 1) := by decide +kernel
theorem dX4_run_27 : decode cX4_run 27 = .ok (.iload_n 1, 1) := by decide +kernel
theorem dX4_run_28 : decode cX4_run 28 = .ok (.if_icmp .ge 16, 3) := by decide +kernel
theorem dX4_run_31 : decode cX4_run 31 = .ok (.iload_n 2, 1) := by decide +kernel
theorem dX4_run_32 : decode cX4_run 32 = .ok (.aload_n 0, 1) := by decide +kernel
theorem dX4_run_33 : decode cX4_run 33 = .ok (.invokevirtual 72, 3) := by decide +kernel
theorem dX4_run_36 : decode cX4_run 36 = .ok (.iadd, 1) := by decide +kernel
theorem dX4_run_37 : decode cX4_run 37 = .ok (.istore_n 2, 1) := by decide +kernel
theorem dX4_run_38 : decode cX4_run 38 = .ok (.iinc 3 1, 3) := by decide +kernel
theorem dX4_run_41 : decode cX4_run 41 = .ok (.goto (-15), 3) := by decide +kernel
theorem dX4_run_44 : decode cX4_run 44 = .ok (.iload_n 2, 1) := by decide +kernel
theorem dX4_run_45 : decode cX4_run 45 = .ok (.ireturn, 1) := by decide +kernel
set_option maxRecDepth 20000 in
theorem ggX4_setHands_X4_in : GoodIn wsX4_setHands wsX4_in := goodIn_r _ [5] (by decide +kernel) (by decide +kernel)
set_option maxRecDepth 20000 in
theorem gX4_setHands_X4_in : GoodIn wsX4_setHands (va_wsS RX4 34 yX4_in wsX4_in) := goodIn_app (goodIn_of _ (by decide +kernel)) ggX4_setHands_X4_in
set_option maxRecDepth 20000 in
theorem ggX4_setHands_X4_error : GoodIn wsX4_setHands wsX4_error := goodIn_r _ [9, 10, 20, 21, 22, 23, 24, 25] (by decide +kernel) (by decide +kernel)
set_option maxRecDepth 20000 in
theorem gX4_setHands_X4_error : GoodIn wsX4_setHands (wsV RX4 42 RX4 yX4_error wsX4_error) := goodIn_app (goodIn_of _ (by decide +kernel)) ggX4_setHands_X4_error
set_option maxRecDepth 20000 in
theorem ggX4_setHands_X4_save : GoodIn wsX4_setHands wsX4_save := goodIn_r _ [14, 15, 16, 1, 17, 18, 4, 19, 20, 21, 22, 23, 24, 25] (by decide +kernel) (by decide +kernel)
set_option maxRecDepth 20000 in
theorem gX4_setHands_X4_save : GoodIn wsX4_setHands (wsV RX4 46 RX4 yX4_save wsX4_save) := goodIn_app (goodIn_of _ (by decide +kernel)) ggX4_setHands_X4_save
theorem dX4_setHands_0 : decode cX4_setHands 0 = .ok (.iload_n 1, 1) := by decide +kernel
theorem dX4_setHands_1 : decode cX4_setHands 1 = .ok (.iconst 0, 1) := by decide +kernel
theorem dX4_setHands_2 : decode cX4_setHands 2 = .ok (.sipush 1439, 3) := by decide +kernel
theorem dX4_setHands_5 : decode cX4_setHands 5 = .ok (.invokestatic 34, 3) := by decide +kernel
theorem dX4_setHands_8 : decode cX4_setHands 8 = .ok (.ifCond .ne 10, 3) := by decide +kernel
theorem dX4_setHands_11 : decode cX4_setHands 11 = .ok (.aload_n 0, 1) := by decide +kernel
theorem dX4_setHands_12 : decode cX4_setHands 12 = .ok (.bipush (-2), 2) := by decide +kernel
theorem dX4_setHands_14 : decode cX4_setHands 14 = .ok (.invokevirtual 42, 3) := by decide +kernel
theorem dX4_setHands_17 : decode cX4_setHands 17 = .ok (.ireturn, 1) := by decide +kernel
theorem dX4_setHands_18 : decode cX4_setHands 18 = .ok (.aload_n 0, 1) := by decide +kernel
theorem dX4_setHands_19 : decode cX4_setHands 19 = .ok (.invokevirtual 46, 3) := by decide +kernel
theorem dX4_setHands_22 : decode cX4_setHands 22 = .ok (.aload_n 0, 1) := by decide +kernel
theorem dX4_setHands_23 : decode cX4_setHands 23 = .ok (.getfield 7, 3) := by decide +kernel
theorem dX4_setHands_26 : decode cX4_setHands 26 = .ok (.iconst 0, 1) := by decide +kernel
theorem dX4_setHands_27 : decode cX4_setHands 27 = .ok (.iaload, 1) := by decide +kernel
theorem dX4_setHands_28 : decode cX4_setHands 28 = .ok (.istore_n 2, 1) := by decide +kernel
theorem dX4_setHands_29 : decode cX4_setHands 29 = .ok (.aload_n 0, 1) := by decide +kernel
theorem dX4_setHands_30 : decode cX4_setHands 30 = .ok (.getfield 7, 3) := by decide +kernel
theorem dX4_setHands_33 : decode cX4_setHands 33 = .ok (.iconst 0, 1) := by decide +kernel
theorem dX4_setHands_34 : decode cX4_setHands 34 = .ok (.iload_n 1, 1) := by decide +kernel
theorem dX4_setHands_35 : decode cX4_setHands 35 = .ok (.iastore, 1) := by decide +kernel
theorem dX4_setHands_36 : decode cX4_setHands 36 = .ok (.iload_n 2, 1) := by decide +kernel
theorem dX4_setHands_37 : decode cX4_setHands 37 = .ok (.ireturn, 1) := by decide +kernel
set_option maxRecDepth 20000 in
theorem ggX4_trip_X4_isTrain : GoodIn wsX4_trip wsX4_isTrain := goodIn_r _ [5, 6, 7, 4, 8] (by decide +kernel) (by decide +kernel)
set_option maxRecDepth 20000 in
theorem gX4_trip_X4_isTrain : GoodIn wsX4_trip (va_wsS RX4 38 yX4_isTrain wsX4_isTrain) := goodIn_app (goodIn_of _ (by decide +kernel)) ggX4_trip_X4_isTrain
set_option maxRecDepth 20000 in
theorem ggX4_trip_X4_error : GoodIn wsX4_trip wsX4_error := goodIn_r _ [12, 13, 44, 45, 46, 47, 48, 49] (by decide +kernel) (by decide +kernel)
set_option maxRecDepth 20000 in
theorem gX4_trip_X4_error : GoodIn wsX4_trip (wsV RX4 42 RX4 yX4_error wsX4_error) := goodIn_app (goodIn_of _ (by decide +kernel)) ggX4_trip_X4_error
set_option maxRecDepth 20000 in
theorem ggX4_trip_X4_dueAfter : GoodIn wsX4_trip wsX4_dueAfter := goodIn_r _ [16, 17, 18, 4, 19] (by decide +kernel) (by decide +kernel)
set_option maxRecDepth 20000 in
theorem gX4_trip_X4_dueAfter : GoodIn wsX4_trip (va_wsS RX4 66 yX4_dueAfter wsX4_dueAfter) := goodIn_app (goodIn_of _ (by decide +kernel)) ggX4_trip_X4_dueAfter
set_option maxRecDepth 20000 in
theorem ggX4_trip_X4_blowsOf : GoodIn wsX4_trip wsX4_blowsOf := goodIn_r _ [23, 1, 24, 25, 4, 26, 44, 45, 46, 47, 48, 49] (by decide +kernel) (by decide +kernel)
set_option maxRecDepth 20000 in
theorem gX4_trip_X4_blowsOf : GoodIn wsX4_trip (wsV RX4 56 RX4 yX4_blowsOf wsX4_blowsOf) := goodIn_app (goodIn_of _ (by decide +kernel)) ggX4_trip_X4_blowsOf
set_option maxRecDepth 20000 in
theorem ggX4_trip_X4_at : GoodIn wsX4_trip wsX4_at := goodIn_r _ [26] (by decide +kernel) (by decide +kernel)
set_option maxRecDepth 20000 in
theorem gX4_trip_X4_at : GoodIn wsX4_trip (va_wsS RX4 22 yX4_at wsX4_at) := goodIn_app (goodIn_of _ (by decide +kernel)) ggX4_trip_X4_at
set_option maxRecDepth 20000 in
theorem ggX4_trip_X4_save : GoodIn wsX4_trip wsX4_save := goodIn_r _ [30, 31, 32, 1, 33, 34, 4, 35, 44, 45, 46, 47, 48, 49] (by decide +kernel) (by decide +kernel)
set_option maxRecDepth 20000 in
theorem gX4_trip_X4_save : GoodIn wsX4_trip (wsV RX4 46 RX4 yX4_save wsX4_save) := goodIn_app (goodIn_of _ (by decide +kernel)) ggX4_trip_X4_save
set_option maxRecDepth 20000 in
theorem ggX4_trip_X4_strike : GoodIn wsX4_trip wsX4_strike := goodIn_r _ [39, 1, 24, 25, 4, 26, 17, 18, 19, 40, 41, 42, 43, 44, 45, 46, 47, 48, 49] (by decide +kernel) (by decide +kernel)
set_option maxRecDepth 20000 in
theorem gX4_trip_X4_strike : GoodIn wsX4_trip (wsV RX4 59 RX4 yX4_strike wsX4_strike) := goodIn_app (goodIn_of _ (by decide +kernel)) ggX4_trip_X4_strike
theorem dX4_trip_0 : decode cX4_trip 0 = .ok (.iload_n 1, 1) := by decide +kernel
theorem dX4_trip_1 : decode cX4_trip 1 = .ok (.invokestatic 38, 3) := by decide +kernel
theorem dX4_trip_4 : decode cX4_trip 4 = .ok (.ifCond .ne 10, 3) := by decide +kernel
theorem dX4_trip_7 : decode cX4_trip 7 = .ok (.aload_n 0, 1) := by decide +kernel
theorem dX4_trip_8 : decode cX4_trip 8 = .ok (.bipush (-2), 2) := by decide +kernel
theorem dX4_trip_10 : decode cX4_trip 10 = .ok (.invokevirtual 42, 3) := by decide +kernel
theorem dX4_trip_13 : decode cX4_trip 13 = .ok (.ireturn, 1) := by decide +kernel
theorem dX4_trip_14 : decode cX4_trip 14 = .ok (.aload_n 0, 1) := by decide +kernel
theorem dX4_trip_15 : decode cX4_trip 15 = .ok (.iload_n 1, 1) := by decide +kernel
theorem dX4_trip_16 : decode cX4_trip 16 = .ok (.iload_n 1, 1) := by decide +kernel
theorem dX4_trip_17 : decode cX4_trip 17 = .ok (.aload_n 0, 1) := by decide +kernel
theorem dX4_trip_18 : decode cX4_trip 18 = .ok (.getfield 7, 3) := by decide +kernel
theorem dX4_trip_21 : decode cX4_trip 21 = .ok (.iconst 0, 1) := by decide +kernel
theorem dX4_trip_22 : decode cX4_trip 22 = .ok (.iaload, 1) := by decide +kernel
theorem dX4_trip_23 : decode cX4_trip 23 = .ok (.invokestatic 66, 3) := by decide +kernel
theorem dX4_trip_26 : decode cX4_trip 26 = .ok (.invokevirtual 56, 3) := by decide +kernel
theorem dX4_trip_29 : decode cX4_trip 29 = .ok (.istore_n 2, 1) := by decide +kernel
theorem dX4_trip_30 : decode cX4_trip 30 = .ok (.iload_n 2, 1) := by decide +kernel
theorem dX4_trip_31 : decode cX4_trip 31 = .ok (.ifCond .eq 17, 3) := by decide +kernel
theorem dX4_trip_34 : decode cX4_trip 34 = .ok (.aload_n 0, 1) := by decide +kernel
theorem dX4_trip_35 : decode cX4_trip 35 = .ok (.getfield 7, 3) := by decide +kernel
theorem dX4_trip_38 : decode cX4_trip 38 = .ok (.iload_n 1, 1) := by decide +kernel
theorem dX4_trip_39 : decode cX4_trip 39 = .ok (.iconst 2, 1) := by decide +kernel
theorem dX4_trip_40 : decode cX4_trip 40 = .ok (.invokestatic 22, 3) := by decide +kernel
theorem dX4_trip_43 : decode cX4_trip 43 = .ok (.iaload, 1) := by decide +kernel
theorem dX4_trip_44 : decode cX4_trip 44 = .ok (.iload_n 2, 1) := by decide +kernel
theorem dX4_trip_45 : decode cX4_trip 45 = .ok (.if_icmp .ge 10, 3) := by decide +kernel
theorem dX4_trip_48 : decode cX4_trip 48 = .ok (.aload_n 0, 1) := by decide +kernel
theorem dX4_trip_49 : decode cX4_trip 49 = .ok (.bipush (-3), 2) := by decide +kernel
theorem dX4_trip_51 : decode cX4_trip 51 = .ok (.invokevirtual 42, 3) := by decide +kernel
theorem dX4_trip_54 : decode cX4_trip 54 = .ok (.ireturn, 1) := by decide +kernel
theorem dX4_trip_55 : decode cX4_trip 55 = .ok (.aload_n 0, 1) := by decide +kernel
theorem dX4_trip_56 : decode cX4_trip 56 = .ok (.invokevirtual 46, 3) := by decide +kernel
theorem dX4_trip_59 : decode cX4_trip 59 = .ok (.aload_n 0, 1) := by decide +kernel
theorem dX4_trip_60 : decode cX4_trip 60 = .ok (.iload_n 1, 1) := by decide +kernel
theorem dX4_trip_61 : decode cX4_trip 61 = .ok (.iload_n 2, 1) := by decide +kernel
theorem dX4_trip_62 : decode cX4_trip 62 = .ok (.iconst 0, 1) := by decide +kernel
theorem dX4_trip_63 : decode cX4_trip 63 = .ok (.invokevirtual 59, 3) := by decide +kernel
theorem dX4_trip_66 : decode cX4_trip 66 = .ok (.ireturn, 1) := by decide +kernel
set_option maxRecDepth 20000 in
theorem ggX4_lagAt_X4_at : GoodIn wsX4_lagAt wsX4_at := goodIn_r _ [5] (by decide +kernel) (by decide +kernel)
set_option maxRecDepth 20000 in
theorem gX4_lagAt_X4_at : GoodIn wsX4_lagAt (va_wsS RX4 22 yX4_at wsX4_at) := goodIn_app (goodIn_of _ (by decide +kernel)) ggX4_lagAt_X4_at
set_option maxRecDepth 20000 in
theorem ggX4_lagAt_X4_positions : GoodIn wsX4_lagAt wsX4_positions := goodIn_r _ [8] (by decide +kernel) (by decide +kernel)
set_option maxRecDepth 20000 in
theorem gX4_lagAt_X4_positions : GoodIn wsX4_lagAt (va_wsS RX4 49 yX4_positions wsX4_positions) := goodIn_app (goodIn_of _ (by decide +kernel)) ggX4_lagAt_X4_positions
set_option maxRecDepth 20000 in
theorem ggX4_lagAt_X4_dueAfter : GoodIn wsX4_lagAt wsX4_dueAfter := goodIn_r _ [11, 6, 7, 4, 8] (by decide +kernel) (by decide +kernel)
set_option maxRecDepth 20000 in
theorem gX4_lagAt_X4_dueAfter : GoodIn wsX4_lagAt (va_wsS RX4 66 yX4_dueAfter wsX4_dueAfter) := goodIn_app (goodIn_of _ (by decide +kernel)) ggX4_lagAt_X4_dueAfter
theorem dX4_lagAt_0 : decode cX4_lagAt 0 = .ok (.aload_n 0, 1) := by decide +kernel
theorem dX4_lagAt_1 : decode cX4_lagAt 1 = .ok (.getfield 7, 3) := by decide +kernel
theorem dX4_lagAt_4 : decode cX4_lagAt 4 = .ok (.iload_n 1, 1) := by decide +kernel
theorem dX4_lagAt_5 : decode cX4_lagAt 5 = .ok (.iconst 0, 1) := by decide +kernel
theorem dX4_lagAt_6 : decode cX4_lagAt 6 = .ok (.invokestatic 22, 3) := by decide +kernel
theorem dX4_lagAt_9 : decode cX4_lagAt 9 = .ok (.iaload, 1) := by decide +kernel
theorem dX4_lagAt_10 : decode cX4_lagAt 10 = .ok (.iconst 1, 1) := by decide +kernel
theorem dX4_lagAt_11 : decode cX4_lagAt 11 = .ok (.if_icmp .eq 5, 3) := by decide +kernel
theorem dX4_lagAt_14 : decode cX4_lagAt 14 = .ok (.iconst 0, 1) := by decide +kernel
theorem dX4_lagAt_15 : decode cX4_lagAt 15 = .ok (.ireturn, 1) := by decide +kernel
theorem dX4_lagAt_16 : decode cX4_lagAt 16 = .ok (.iload_n 1, 1) := by decide +kernel
theorem dX4_lagAt_17 : decode cX4_lagAt 17 = .ok (.invokestatic 49, 3) := by decide +kernel
theorem dX4_lagAt_20 : decode cX4_lagAt 20 = .ok (.istore_n 3, 1) := by decide +kernel
theorem dX4_lagAt_21 : decode cX4_lagAt 21 = .ok (.iload_n 1, 1) := by decide +kernel
theorem dX4_lagAt_22 : decode cX4_lagAt 22 = .ok (.iload_n 2, 1) := by decide +kernel
theorem dX4_lagAt_23 : decode cX4_lagAt 23 = .ok (.invokestatic 66, 3) := by decide +kernel
theorem dX4_lagAt_26 : decode cX4_lagAt 26 = .ok (.aload_n 0, 1) := by decide +kernel
theorem dX4_lagAt_27 : decode cX4_lagAt 27 = .ok (.getfield 7, 3) := by decide +kernel
theorem dX4_lagAt_30 : decode cX4_lagAt 30 = .ok (.iload_n 1, 1) := by decide +kernel
theorem dX4_lagAt_31 : decode cX4_lagAt 31 = .ok (.iconst 1, 1) := by decide +kernel
theorem dX4_lagAt_32 : decode cX4_lagAt 32 = .ok (.invokestatic 22, 3) := by decide +kernel
theorem dX4_lagAt_35 : decode cX4_lagAt 35 = .ok (.iaload, 1) := by decide +kernel
theorem dX4_lagAt_36 : decode cX4_lagAt 36 = .ok (.isub, 1) := by decide +kernel
theorem dX4_lagAt_37 : decode cX4_lagAt 37 = .ok (.iload_n 3, 1) := by decide +kernel
theorem dX4_lagAt_38 : decode cX4_lagAt 38 = .ok (.iadd, 1) := by decide +kernel
theorem dX4_lagAt_39 : decode cX4_lagAt 39 = .ok (.iload_n 3, 1) := by decide +kernel
theorem dX4_lagAt_40 : decode cX4_lagAt 40 = .ok (.irem, 1) := by decide +kernel
theorem dX4_lagAt_41 : decode cX4_lagAt 41 = .ok (.ireturn, 1) := by decide +kernel
set_option maxRecDepth 20000 in
theorem ggX4_nextDue_X4_isTrain : GoodIn wsX4_nextDue wsX4_isTrain := goodIn_r _ [5, 6, 7, 4, 8] (by decide +kernel) (by decide +kernel)
set_option maxRecDepth 20000 in
theorem gX4_nextDue_X4_isTrain : GoodIn wsX4_nextDue (va_wsS RX4 38 yX4_isTrain wsX4_isTrain) := goodIn_app (goodIn_of _ (by decide +kernel)) ggX4_nextDue_X4_isTrain
set_option maxRecDepth 20000 in
theorem ggX4_nextDue_X4_dueAfter : GoodIn wsX4_nextDue wsX4_dueAfter := goodIn_r _ [11, 12, 13, 4, 14] (by decide +kernel) (by decide +kernel)
set_option maxRecDepth 20000 in
theorem gX4_nextDue_X4_dueAfter : GoodIn wsX4_nextDue (va_wsS RX4 66 yX4_dueAfter wsX4_dueAfter) := goodIn_app (goodIn_of _ (by decide +kernel)) ggX4_nextDue_X4_dueAfter
set_option maxRecDepth 20000 in
theorem ggX4_nextDue_X4_error : GoodIn wsX4_nextDue wsX4_error := goodIn_r _ [18, 19, 20, 21, 22, 23, 24, 25] (by decide +kernel) (by decide +kernel)
set_option maxRecDepth 20000 in
theorem gX4_nextDue_X4_error : GoodIn wsX4_nextDue (wsV RX4 42 RX4 yX4_error wsX4_error) := goodIn_app (goodIn_of _ (by decide +kernel)) ggX4_nextDue_X4_error
theorem dX4_nextDue_0 : decode cX4_nextDue 0 = .ok (.iload_n 1, 1) := by decide +kernel
theorem dX4_nextDue_1 : decode cX4_nextDue 1 = .ok (.invokestatic 38, 3) := by decide +kernel
theorem dX4_nextDue_4 : decode cX4_nextDue 4 = .ok (.ifCond .eq 16, 3) := by decide +kernel
theorem dX4_nextDue_7 : decode cX4_nextDue 7 = .ok (.iload_n 1, 1) := by decide +kernel
theorem dX4_nextDue_8 : decode cX4_nextDue 8 = .ok (.aload_n 0, 1) := by decide +kernel
theorem dX4_nextDue_9 : decode cX4_nextDue 9 = .ok (.getfield 7, 3) := by decide +kernel
theorem dX4_nextDue_12 : decode cX4_nextDue 12 = .ok (.iconst 0, 1) := by decide +kernel
theorem dX4_nextDue_13 : decode cX4_nextDue 13 = .ok (.iaload, 1) := by decide +kernel
theorem dX4_nextDue_14 : decode cX4_nextDue 14 = .ok (.invokestatic 66, 3) := by decide +kernel
theorem dX4_nextDue_17 : decode cX4_nextDue 17 = .ok (.goto 9, 3) := by decide +kernel
theorem dX4_nextDue_20 : decode cX4_nextDue 20 = .ok (.aload_n 0, 1) := by decide +kernel
theorem dX4_nextDue_21 : decode cX4_nextDue 21 = .ok (.bipush (-2), 2) := by decide +kernel
theorem dX4_nextDue_23 : decode cX4_nextDue 23 = .ok (.invokevirtual 42, 3) := by decide +kernel
theorem dX4_nextDue_26 : decode cX4_nextDue 26 = .ok (.ireturn, 1) := by decide +kernel
set_option maxRecDepth 20000 in
theorem ggX4_lag_X4_isTrain : GoodIn wsX4_lag wsX4_isTrain := goodIn_r _ [5, 6, 7, 4, 8] (by decide +kernel) (by decide +kernel)
set_option maxRecDepth 20000 in
theorem gX4_lag_X4_isTrain : GoodIn wsX4_lag (va_wsS RX4 38 yX4_isTrain wsX4_isTrain) := goodIn_app (goodIn_of _ (by decide +kernel)) ggX4_lag_X4_isTrain
set_option maxRecDepth 20000 in
theorem ggX4_lag_X4_lagAt : GoodIn wsX4_lag wsX4_lagAt := goodIn_r _ [12, 1, 13, 14, 4, 15, 16, 17, 18, 19, 20, 21, 27, 28, 29, 30, 31, 32] (by decide +kernel) (by decide +kernel)
set_option maxRecDepth 20000 in
theorem gX4_lag_X4_lagAt : GoodIn wsX4_lag (wsV RX4 76 RX4 yX4_lagAt wsX4_lagAt) := goodIn_app (goodIn_of _ (by decide +kernel)) ggX4_lag_X4_lagAt
set_option maxRecDepth 20000 in
theorem ggX4_lag_X4_error : GoodIn wsX4_lag wsX4_error := goodIn_r _ [25, 26, 27, 28, 29, 30, 31, 32] (by decide +kernel) (by decide +kernel)
set_option maxRecDepth 20000 in
theorem gX4_lag_X4_error : GoodIn wsX4_lag (wsV RX4 42 RX4 yX4_error wsX4_error) := goodIn_app (goodIn_of _ (by decide +kernel)) ggX4_lag_X4_error
theorem dX4_lag_0 : decode cX4_lag 0 = .ok (.iload_n 1, 1) := by decide +kernel
theorem dX4_lag_1 : decode cX4_lag 1 = .ok (.invokestatic 38, 3) := by decide +kernel
theorem dX4_lag_4 : decode cX4_lag 4 = .ok (.ifCond .eq 17, 3) := by decide +kernel
theorem dX4_lag_7 : decode cX4_lag 7 = .ok (.aload_n 0, 1) := by decide +kernel
theorem dX4_lag_8 : decode cX4_lag 8 = .ok (.iload_n 1, 1) := by decide +kernel
theorem dX4_lag_9 : decode cX4_lag 9 = .ok (.aload_n 0, 1) := by decide +kernel
theorem dX4_lag_10 : decode cX4_lag 10 = .ok (.getfield 7, 3) := by decide +kernel
theorem dX4_lag_13 : decode cX4_lag 13 = .ok (.iconst 0, 1) := by decide +kernel
theorem dX4_lag_14 : decode cX4_lag 14 = .ok (.iaload, 1) := by decide +kernel
theorem dX4_lag_15 : decode cX4_lag 15 = .ok (.invokevirtual 76, 3) := by decide +kernel
theorem dX4_lag_18 : decode cX4_lag 18 = .ok (.goto 9, 3) := by decide +kernel
theorem dX4_lag_21 : decode cX4_lag 21 = .ok (.aload_n 0, 1) := by decide +kernel
theorem dX4_lag_22 : decode cX4_lag 22 = .ok (.bipush (-2), 2) := by decide +kernel
theorem dX4_lag_24 : decode cX4_lag 24 = .ok (.invokevirtual 42, 3) := by decide +kernel
theorem dX4_lag_27 : decode cX4_lag 27 = .ok (.ireturn, 1) := by decide +kernel
set_option maxRecDepth 20000 in
theorem ggX4_blowsToCorrect_X4_isTrain : GoodIn wsX4_blowsToCorrect wsX4_isTrain := goodIn_r _ [5, 6, 7, 4, 8] (by decide +kernel) (by decide +kernel)
set_option maxRecDepth 20000 in
theorem gX4_blowsToCorrect_X4_isTrain : GoodIn wsX4_blowsToCorrect (va_wsS RX4 38 yX4_isTrain wsX4_isTrain) := goodIn_app (goodIn_of _ (by decide +kernel)) ggX4_blowsToCorrect_X4_isTrain
set_option maxRecDepth 20000 in
theorem ggX4_blowsToCorrect_X4_error : GoodIn wsX4_blowsToCorrect wsX4_error := goodIn_r _ [12, 13, 27, 28, 29, 30, 31, 32] (by decide +kernel) (by decide +kernel)
set_option maxRecDepth 20000 in
theorem gX4_blowsToCorrect_X4_error : GoodIn wsX4_blowsToCorrect (wsV RX4 42 RX4 yX4_error wsX4_error) := goodIn_app (goodIn_of _ (by decide +kernel)) ggX4_blowsToCorrect_X4_error
set_option maxRecDepth 20000 in
theorem ggX4_blowsToCorrect_X4_at : GoodIn wsX4_blowsToCorrect wsX4_at := goodIn_r _ [16] (by decide +kernel) (by decide +kernel)
set_option maxRecDepth 20000 in
theorem gX4_blowsToCorrect_X4_at : GoodIn wsX4_blowsToCorrect (va_wsS RX4 22 yX4_at wsX4_at) := goodIn_app (goodIn_of _ (by decide +kernel)) ggX4_blowsToCorrect_X4_at
set_option maxRecDepth 20000 in
theorem ggX4_blowsToCorrect_X4_lagAt : GoodIn wsX4_blowsToCorrect wsX4_lagAt := goodIn_r _ [20, 1, 14, 15, 4, 16, 21, 22, 23, 24, 25, 26, 27, 28, 29, 30, 31, 32] (by decide +kernel) (by decide +kernel)
set_option maxRecDepth 20000 in
theorem gX4_blowsToCorrect_X4_lagAt : GoodIn wsX4_blowsToCorrect (wsV RX4 76 RX4 yX4_lagAt wsX4_lagAt) := goodIn_app (goodIn_of _ (by decide +kernel)) ggX4_blowsToCorrect_X4_lagAt
set_option maxRecDepth 20000 in
theorem ggX4_blowsToCorrect_X4_positions : GoodIn wsX4_blowsToCorrect wsX4_positions := goodIn_r _ [23] (by decide +kernel) (by decide +kernel)
set_option maxRecDepth 20000 in
theorem gX4_blowsToCorrect_X4_positions : GoodIn wsX4_blowsToCorrect (va_wsS RX4 49 yX4_positions wsX4_positions) := goodIn_app (goodIn_of _ (by decide +kernel)) ggX4_blowsToCorrect_X4_positions
theorem dX4_blowsToCorrect_0 : decode cX4_blowsToCorrect 0 = .ok (.iload_n 1, 1) := by decide +kernel
theorem dX4_blowsToCorrect_1 : decode cX4_blowsToCorrect 1 = .ok (.invokestatic 38, 3) := by decide +kernel
theorem dX4_blowsToCorrect_4 : decode cX4_blowsToCorrect 4 = .ok (.ifCond .ne 10, 3) := by decide +kernel
theorem dX4_blowsToCorrect_7 : decode cX4_blowsToCorrect 7 = .ok (.aload_n 0, 1) := by decide +kernel
theorem dX4_blowsToCorrect_8 : decode cX4_blowsToCorrect 8 = .ok (.bipush (-2), 2) := by decide +kernel
theorem dX4_blowsToCorrect_10 : decode cX4_blowsToCorrect 10 = .ok (.invokevirtual 42, 3) := by decide +kernel
theorem dX4_blowsToCorrect_13 : decode cX4_blowsToCorrect 13 = .ok (.ireturn, 1) := by decide +kernel
theorem dX4_blowsToCorrect_14 : decode cX4_blowsToCorrect 14 = .ok (.aload_n 0, 1) := by decide +kernel
theorem dX4_blowsToCorrect_15 : decode cX4_blowsToCorrect 15 = .ok (.getfield 7, 3) := by decide +kernel
theorem dX4_blowsToCorrect_18 : decode cX4_blowsToCorrect 18 = .ok (.iload_n 1, 1) := by decide +kernel
theorem dX4_blowsToCorrect_19 : decode cX4_blowsToCorrect 19 = .ok (.iconst 1, 1) := by decide +kernel
theorem dX4_blowsToCorrect_20 : decode cX4_blowsToCorrect 20 = .ok (.invokestatic 22, 3) := by decide +kernel
theorem dX4_blowsToCorrect_23 : decode cX4_blowsToCorrect 23 = .ok (.iaload, 1) := by decide +kernel
theorem dX4_blowsToCorrect_24 : decode cX4_blowsToCorrect 24 = .ok (.istore_n 2, 1) := by decide +kernel
theorem dX4_blowsToCorrect_25 : decode cX4_blowsToCorrect 25 = .ok (.iconst 0, 1) := by decide +kernel
theorem dX4_blowsToCorrect_26 : decode cX4_blowsToCorrect 26 = .ok (.istore_n 3, 1) := by decide +kernel
theorem dX4_blowsToCorrect_27 : decode cX4_blowsToCorrect 27 = .ok (.aload_n 0, 1) := by decide +kernel
theorem dX4_blowsToCorrect_28 : decode cX4_blowsToCorrect 28 = .ok (.iload_n 1, 1) := by decide +kernel
theorem dX4_blowsToCorrect_29 : decode cX4_blowsToCorrect 29 = .ok (.aload_n 0, 1) := by decide +kernel
theorem dX4_blowsToCorrect_30 : decode cX4_blowsToCorrect 30 = .ok (.getfield 7, 3) := by decide +kernel
theorem dX4_blowsToCorrect_33 : decode cX4_blowsToCorrect 33 = .ok (.iconst 0, 1) := by decide +kernel
theorem dX4_blowsToCorrect_34 : decode cX4_blowsToCorrect 34 = .ok (.iaload, 1) := by decide +kernel
theorem dX4_blowsToCorrect_35 : decode cX4_blowsToCorrect 35 = .ok (.invokevirtual 76, 3) := by decide +kernel
theorem dX4_blowsToCorrect_38 : decode cX4_blowsToCorrect 38 = .ok (.istore 4, 2) := by decide +kernel
theorem dX4_blowsToCorrect_40 : decode cX4_blowsToCorrect 40 = .ok (.iload 4, 2) := by decide +kernel
theorem dX4_blowsToCorrect_42 : decode cX4_blowsToCorrect 42 = .ok (.ifCond .le 22, 3) := by decide +kernel
theorem dX4_blowsToCorrect_45 : decode cX4_blowsToCorrect 45 = .ok (.iload_n 3, 1) := by decide +kernel
theorem dX4_blowsToCorrect_46 : decode cX4_blowsToCorrect 46 = .ok (.iload_n 2, 1) := by decide +kernel
theorem dX4_blowsToCorrect_47 : decode cX4_blowsToCorrect 47 = .ok (.iadd, 1) := by decide +kernel
theorem dX4_blowsToCorrect_48 : decode cX4_blowsToCorrect 48 = .ok (.istore_n 3, 1) := by decide +kernel
theorem dX4_blowsToCorrect_49 : decode cX4_blowsToCorrect 49 = .ok (.iload_n 2, 1) := by decide +kernel
theorem dX4_blowsToCorrect_50 : decode cX4_blowsToCorrect 50 = .ok (.iload_n 1, 1) := by decide +kernel
theorem dX4_blowsToCorrect_51 : decode cX4_blowsToCorrect 51 = .ok (.invokestatic 49, 3) := by decide +kernel
theorem dX4_blowsToCorrect_54 : decode cX4_blowsToCorrect 54 = .ok (.irem, 1) := by decide +kernel
theorem dX4_blowsToCorrect_55 : decode cX4_blowsToCorrect 55 = .ok (.iconst 1, 1) := by decide +kernel
theorem dX4_blowsToCorrect_56 : decode cX4_blowsToCorrect 56 = .ok (.iadd, 1) := by decide +kernel
theorem dX4_blowsToCorrect_57 : decode cX4_blowsToCorrect 57 = .ok (.istore_n 2, 1) := by decide +kernel
theorem dX4_blowsToCorrect_58 : decode cX4_blowsToCorrect 58 = .ok (.iinc 4 (-1), 3) := by decide +kernel
theorem dX4_blowsToCorrect_61 : decode cX4_blowsToCorrect 61 = .ok (.goto (-21), 3) := by decide +kernel
theorem dX4_blowsToCorrect_64 : decode cX4_blowsToCorrect 64 = .ok (.iload_n 3, 1) := by decide +kernel
theorem dX4_blowsToCorrect_65 : decode cX4_blowsToCorrect 65 = .ok (.ireturn, 1) := by decide +kernel
set_option maxRecDepth 20000 in
theorem ggX4_handsToCorrect_X4_isTrain : GoodIn wsX4_handsToCorrect wsX4_isTrain := goodIn_r _ [5, 6, 7, 4, 8] (by decide +kernel) (by decide +kernel)
set_option maxRecDepth 20000 in
theorem gX4_handsToCorrect_X4_isTrain : GoodIn wsX4_handsToCorrect (va_wsS RX4 38 yX4_isTrain wsX4_isTrain) := goodIn_app (goodIn_of _ (by decide +kernel)) ggX4_handsToCorrect_X4_isTrain
set_option maxRecDepth 20000 in
theorem ggX4_handsToCorrect_X4_error : GoodIn wsX4_handsToCorrect wsX4_error := goodIn_r _ [12, 13, 27, 28, 29, 30, 31, 32] (by decide +kernel) (by decide +kernel)
set_option maxRecDepth 20000 in
theorem gX4_handsToCorrect_X4_error : GoodIn wsX4_handsToCorrect (wsV RX4 42 RX4 yX4_error wsX4_error) := goodIn_app (goodIn_of _ (by decide +kernel)) ggX4_handsToCorrect_X4_error
set_option maxRecDepth 20000 in
theorem ggX4_handsToCorrect_X4_lagAt : GoodIn wsX4_handsToCorrect wsX4_lagAt := goodIn_r _ [17, 1, 18, 19, 4, 20, 21, 22, 23, 24, 25, 26, 27, 28, 29, 30, 31, 32] (by decide +kernel) (by decide +kernel)
set_option maxRecDepth 20000 in
theorem gX4_handsToCorrect_X4_lagAt : GoodIn wsX4_handsToCorrect (wsV RX4 76 RX4 yX4_lagAt wsX4_lagAt) := goodIn_app (goodIn_of _ (by decide +kernel)) ggX4_handsToCorrect_X4_lagAt
theorem dX4_handsToCorrect_0 : decode cX4_handsToCorrect 0 = .ok (.iload_n 1, 1) := by decide +kernel
theorem dX4_handsToCorrect_1 : decode cX4_handsToCorrect 1 = .ok (.invokestatic 38, 3) := by decide +kernel
theorem dX4_handsToCorrect_4 : decode cX4_handsToCorrect 4 = .ok (.ifCond .ne 10, 3) := by decide +kernel
theorem dX4_handsToCorrect_7 : decode cX4_handsToCorrect 7 = .ok (.aload_n 0, 1) := by decide +kernel
theorem dX4_handsToCorrect_8 : decode cX4_handsToCorrect 8 = .ok (.bipush (-2), 2) := by decide +kernel
theorem dX4_handsToCorrect_10 : decode cX4_handsToCorrect 10 = .ok (.invokevirtual 42, 3) := by decide +kernel
theorem dX4_handsToCorrect_13 : decode cX4_handsToCorrect 13 = .ok (.ireturn, 1) := by decide +kernel
theorem dX4_handsToCorrect_14 : decode cX4_handsToCorrect 14 = .ok (.aload_n 0, 1) := by decide +kernel
theorem dX4_handsToCorrect_15 : decode cX4_handsToCorrect 15 = .ok (.getfield 7, 3) := by decide +kernel
theorem dX4_handsToCorrect_18 : decode cX4_handsToCorrect 18 = .ok (.iconst 0, 1) := by decide +kernel
theorem dX4_handsToCorrect_19 : decode cX4_handsToCorrect 19 = .ok (.iaload, 1) := by decide +kernel
theorem dX4_handsToCorrect_20 : decode cX4_handsToCorrect 20 = .ok (.istore_n 2, 1) := by decide +kernel
theorem dX4_handsToCorrect_21 : decode cX4_handsToCorrect 21 = .ok (.aload_n 0, 1) := by decide +kernel
theorem dX4_handsToCorrect_22 : decode cX4_handsToCorrect 22 = .ok (.iload_n 1, 1) := by decide +kernel
theorem dX4_handsToCorrect_23 : decode cX4_handsToCorrect 23 = .ok (.iload_n 2, 1) := by decide +kernel
theorem dX4_handsToCorrect_24 : decode cX4_handsToCorrect 24 = .ok (.invokevirtual 76, 3) := by decide +kernel
theorem dX4_handsToCorrect_27 : decode cX4_handsToCorrect 27 = .ok (.ifCond .eq 14, 3) := by decide +kernel
theorem dX4_handsToCorrect_30 : decode cX4_handsToCorrect 30 = .ok (.iload_n 2, 1) := by decide +kernel
theorem dX4_handsToCorrect_31 : decode cX4_handsToCorrect 31 = .ok (.iconst 1, 1) := by decide +kernel
theorem dX4_handsToCorrect_32 : decode cX4_handsToCorrect 32 = .ok (.iadd, 1) := by decide +kernel
theorem dX4_handsToCorrect_33 : decode cX4_handsToCorrect 33 = .ok (.sipush 1440, 3) := by decide +kernel
theorem dX4_handsToCorrect_36 : decode cX4_handsToCorrect 36 = .ok (.irem, 1) := by decide +kernel
theorem dX4_handsToCorrect_37 : decode cX4_handsToCorrect 37 = .ok (.istore_n 2, 1) := by decide +kernel
theorem dX4_handsToCorrect_38 : decode cX4_handsToCorrect 38 = .ok (.goto (-17), 3) := by decide +kernel
theorem dX4_handsToCorrect_41 : decode cX4_handsToCorrect 41 = .ok (.iload_n 2, 1) := by decide +kernel
theorem dX4_handsToCorrect_42 : decode cX4_handsToCorrect 42 = .ok (.ireturn, 1) := by decide +kernel
set_option maxRecDepth 20000 in
theorem ggX4_minutesToMiss_X4_isTrain : GoodIn wsX4_minutesToMiss wsX4_isTrain := goodIn_r _ [6, 7, 8, 5, 9] (by decide +kernel) (by decide +kernel)
set_option maxRecDepth 20000 in
theorem gX4_minutesToMiss_X4_isTrain : GoodIn wsX4_minutesToMiss (va_wsS RX4 38 yX4_isTrain wsX4_isTrain) := goodIn_app (goodIn_of _ (by decide +kernel)) ggX4_minutesToMiss_X4_isTrain
set_option maxRecDepth 20000 in
theorem ggX4_minutesToMiss_X4_error : GoodIn wsX4_minutesToMiss wsX4_error := goodIn_r _ [13, 14, 51, 52, 53, 54, 55, 56] (by decide +kernel) (by decide +kernel)
set_option maxRecDepth 20000 in
theorem gX4_minutesToMiss_X4_error : GoodIn wsX4_minutesToMiss (wsV RX4 42 RX4 yX4_error wsX4_error) := goodIn_app (goodIn_of _ (by decide +kernel)) ggX4_minutesToMiss_X4_error
set_option maxRecDepth 20000 in
theorem ggX4_minutesToMiss_X4_copy : GoodIn wsX4_minutesToMiss wsX4_copy := goodIn_r _ [17] (by decide +kernel) (by decide +kernel)
set_option maxRecDepth 20000 in
theorem gX4_minutesToMiss_X4_copy : GoodIn wsX4_minutesToMiss (va_wsS RX4 30 yX4_copy wsX4_copy) := goodIn_app (goodIn_of _ (by decide +kernel)) ggX4_minutesToMiss_X4_copy
set_option maxRecDepth 20000 in
theorem ggX4_minutesToMiss_X4_at : GoodIn wsX4_minutesToMiss wsX4_at := goodIn_r _ [20] (by decide +kernel) (by decide +kernel)
set_option maxRecDepth 20000 in
theorem gX4_minutesToMiss_X4_at : GoodIn wsX4_minutesToMiss (va_wsS RX4 22 yX4_at wsX4_at) := goodIn_app (goodIn_of _ (by decide +kernel)) ggX4_minutesToMiss_X4_at
set_option maxRecDepth 20000 in
theorem ggX4_minutesToMiss_X4_tick : GoodIn wsX4_minutesToMiss wsX4_tick := goodIn_r _ [24, 1, 25, 26, 27, 5, 28, 29, 30, 31, 32, 33, 34, 35, 36, 37, 38, 39, 40, 41, 42, 18, 19, 20, 43, 44, 45, 46, 47, 48, 49, 50, 51, 52, 53, 54, 55, 56] (by decide +kernel) (by decide +kernel)
set_option maxRecDepth 20000 in
theorem gX4_minutesToMiss_X4_tick : GoodIn wsX4_minutesToMiss (wsV RX4 72 RX4 yX4_tick wsX4_tick) := goodIn_app (goodIn_of _ (by decide +kernel)) ggX4_minutesToMiss_X4_tick
theorem dX4_minutesToMiss_0 : decode cX4_minutesToMiss 0 = .ok (.iload_n 1, 1) := by decide +kernel
theorem dX4_minutesToMiss_1 : decode cX4_minutesToMiss 1 = .ok (.invokestatic 38, 3) := by decide +kernel
theorem dX4_minutesToMiss_4 : decode cX4_minutesToMiss 4 = .ok (.ifCond .ne 10, 3) := by decide +kernel
theorem dX4_minutesToMiss_7 : decode cX4_minutesToMiss 7 = .ok (.aload_n 0, 1) := by decide +kernel
theorem dX4_minutesToMiss_8 : decode cX4_minutesToMiss 8 = .ok (.bipush (-2), 2) := by decide +kernel
theorem dX4_minutesToMiss_10 : decode cX4_minutesToMiss 10 = .ok (.invokevirtual 42, 3) := by decide +kernel
theorem dX4_minutesToMiss_13 : decode cX4_minutesToMiss 13 = .ok (.ireturn, 1) := by decide +kernel
theorem dX4_minutesToMiss_14 : decode cX4_minutesToMiss 14 = .ok (.aload_n 0, 1) := by decide +kernel
theorem dX4_minutesToMiss_15 : decode cX4_minutesToMiss 15 = .ok (.getfield 7, 3) := by decide +kernel
theorem dX4_minutesToMiss_18 : decode cX4_minutesToMiss 18 = .ok (.iconst 0, 1) := by decide +kernel
theorem dX4_minutesToMiss_19 : decode cX4_minutesToMiss 19 = .ok (.aload_n 0, 1) := by decide +kernel
theorem dX4_minutesToMiss_20 : decode cX4_minutesToMiss 20 = .ok (.getfield 13, 3) := by decide +kernel
theorem dX4_minutesToMiss_23 : decode cX4_minutesToMiss 23 = .ok (.iconst 0, 1) := by decide +kernel
theorem dX4_minutesToMiss_24 : decode cX4_minutesToMiss 24 = .ok (.invokestatic 30, 3) := by decide +kernel
theorem dX4_minutesToMiss_27 : decode cX4_minutesToMiss 27 = .ok (.iload_n 1, 1) := by decide +kernel
theorem dX4_minutesToMiss_28 : decode cX4_minutesToMiss 28 = .ok (.iconst 4, 1) := by decide +kernel
theorem dX4_minutesToMiss_29 : decode cX4_minutesToMiss 29 = .ok (.invokestatic 22, 3) := by decide +kernel
theorem dX4_minutesToMiss_32 : decode cX4_minutesToMiss 32 = .ok (.istore_n 2, 1) := by decide +kernel
theorem dX4_minutesToMiss_33 : decode cX4_minutesToMiss 33 = .ok (.iconst (-1), 1) := by decide +kernel
theorem dX4_minutesToMiss_34 : decode cX4_minutesToMiss 34 = .ok (.istore_n 3, 1) := by decide +kernel
theorem dX4_minutesToMiss_35 : decode cX4_minutesToMiss 35 = .ok (.iconst 1, 1) := by decide +kernel
theorem dX4_minutesToMiss_36 : decode cX4_minutesToMiss 36 = .ok (.istore 4, 2) := by decide +kernel
theorem dX4_minutesToMiss_38 : decode cX4_minutesToMiss 38 = .ok (.iload 4, 2) := by decide +kernel
theorem dX4_minutesToMiss_40 : decode cX4_minutesToMiss 40 = .ok (.sipush 20000, 3) := by decide +kernel
theorem dX4_minutesToMiss_43 : decode cX4_minutesToMiss 43 = .ok (.if_icmp .gt 42, 3) := by decide +kernel
theorem dX4_minutesToMiss_46 : decode cX4_minutesToMiss 46 = .ok (.iload_n 3, 1) := by decide +kernel
theorem dX4_minutesToMiss_47 : decode cX4_minutesToMiss 47 = .ok (.iconst (-1), 1) := by decide +kernel
theorem dX4_minutesToMiss_48 : decode cX4_minutesToMiss 48 = .ok (.if_icmp .ne 37, 3) := by decide +kernel
theorem dX4_minutesToMiss_51 : decode cX4_minutesToMiss 51 = .ok (.aload_n 0, 1) := by decide +kernel
theorem dX4_minutesToMiss_52 : decode cX4_minutesToMiss 52 = .ok (.invokevirtual 72, 3) := by decide +kernel
theorem dX4_minutesToMiss_55 : decode cX4_minutesToMiss 55 = .ok (.istore 5, 2) := by decide +kernel
theorem dX4_minutesToMiss_57 : decode cX4_minutesToMiss 57 = .ok (.aload_n 0, 1) := by decide +kernel
theorem dX4_minutesToMiss_58 : decode cX4_minutesToMiss 58 = .ok (.getfield 7, 3) := by decide +kernel
theorem dX4_minutesToMiss_61 : decode cX4_minutesToMiss 61 = .ok (.iload_n 2, 1) := by decide +kernel
theorem dX4_minutesToMiss_62 : decode cX4_minutesToMiss 62 = .ok (.iaload, 1) := by decide +kernel
theorem dX4_minutesToMiss_63 : decode cX4_minutesToMiss 63 = .ok (.aload_n 0, 1) := by decide +kernel
theorem dX4_minutesToMiss_64 : decode cX4_minutesToMiss 64 = .ok (.getfield 13, 3) := by decide +kernel
theorem dX4_minutesToMiss_67 : decode cX4_minutesToMiss 67 = .ok (.iload_n 2, 1) := by decide +kernel
theorem dX4_minutesToMiss_68 : decode cX4_minutesToMiss 68 = .ok (.iaload, 1) := by decide +kernel
theorem dX4_minutesToMiss_69 : decode cX4_minutesToMiss 69 = .ok (.if_icmp .le 8, 3) := by decide +kernel
theorem dX4_minutesToMiss_72 : decode cX4_minutesToMiss 72 = .ok (.iload 4, 2) := by decide +kernel
theorem dX4_minutesToMiss_74 : decode cX4_minutesToMiss 74 = .ok (.goto 4, 3) := by decide +kernel
theorem dX4_minutesToMiss_77 : decode cX4_minutesToMiss 77 = .ok (.iconst (-1), 1) := by decide +kernel
theorem dX4_minutesToMiss_78 : decode cX4_minutesToMiss 78 = .ok (.istore_n 3, 1) := by decide +kernel
theorem dX4_minutesToMiss_79 : decode cX4_minutesToMiss 79 = .ok (.iinc 4 1, 3) := by decide +kernel
theorem dX4_minutesToMiss_82 : decode cX4_minutesToMiss 82 = .ok (.goto (-44), 3) := by decide +kernel
theorem dX4_minutesToMiss_85 : decode cX4_minutesToMiss 85 = .ok (.aload_n 0, 1) := by decide +kernel
theorem dX4_minutesToMiss_86 : decode cX4_minutesToMiss 86 = .ok (.getfield 13, 3) := by decide +kernel
theorem dX4_minutesToMiss_89 : decode cX4_minutesToMiss 89 = .ok (.iconst 0, 1) := by decide +kernel
theorem dX4_minutesToMiss_90 : decode cX4_minutesToMiss 90 = .ok (.aload_n 0, 1) := by decide +kernel
theorem dX4_minutesToMiss_91 : decode cX4_minutesToMiss 91 = .ok (.getfield 7, 3) := by decide +kernel
theorem dX4_minutesToMiss_94 : decode cX4_minutesToMiss 94 = .ok (.iconst 0, 1) := by decide +kernel
theorem dX4_minutesToMiss_95 : decode cX4_minutesToMiss 95 = .ok (.invokestatic 30, 3) := by decide +kernel
theorem dX4_minutesToMiss_98 : decode cX4_minutesToMiss 98 = .ok (.iload_n 3, 1) := by decide +kernel
theorem dX4_minutesToMiss_99 : decode cX4_minutesToMiss 99 = .ok (.ireturn, 1) := by decide +kernel
theorem dX4_minute_0 : decode cX4_minute 0 = .ok (.aload_n 0, 1) := by decide +kernel
theorem dX4_minute_1 : decode cX4_minute 1 = .ok (.getfield 7, 3) := by decide +kernel
theorem dX4_minute_4 : decode cX4_minute 4 = .ok (.iconst 0, 1) := by decide +kernel
theorem dX4_minute_5 : decode cX4_minute 5 = .ok (.iaload, 1) := by decide +kernel
theorem dX4_minute_6 : decode cX4_minute 6 = .ok (.ireturn, 1) := by decide +kernel
set_option maxRecDepth 20000 in
theorem ggX4_valueOf_X4_isTrain : GoodIn wsX4_valueOf wsX4_isTrain := goodIn_r _ [5, 6, 7, 4, 8] (by decide +kernel) (by decide +kernel)
set_option maxRecDepth 20000 in
theorem gX4_valueOf_X4_isTrain : GoodIn wsX4_valueOf (va_wsS RX4 38 yX4_isTrain wsX4_isTrain) := goodIn_app (goodIn_of _ (by decide +kernel)) ggX4_valueOf_X4_isTrain
set_option maxRecDepth 20000 in
theorem ggX4_valueOf_X4_at : GoodIn wsX4_valueOf wsX4_at := goodIn_r _ [11] (by decide +kernel) (by decide +kernel)
set_option maxRecDepth 20000 in
theorem gX4_valueOf_X4_at : GoodIn wsX4_valueOf (va_wsS RX4 22 yX4_at wsX4_at) := goodIn_app (goodIn_of _ (by decide +kernel)) ggX4_valueOf_X4_at
set_option maxRecDepth 20000 in
theorem ggX4_valueOf_X4_error : GoodIn wsX4_valueOf wsX4_error := goodIn_r _ [15, 16, 17, 18, 19, 20, 21, 22] (by decide +kernel) (by decide +kernel)
set_option maxRecDepth 20000 in
theorem gX4_valueOf_X4_error : GoodIn wsX4_valueOf (wsV RX4 42 RX4 yX4_error wsX4_error) := goodIn_app (goodIn_of _ (by decide +kernel)) ggX4_valueOf_X4_error
theorem dX4_valueOf_0 : decode cX4_valueOf 0 = .ok (.iload_n 1, 1) := by decide +kernel
theorem dX4_valueOf_1 : decode cX4_valueOf 1 = .ok (.invokestatic 38, 3) := by decide +kernel
theorem dX4_valueOf_4 : decode cX4_valueOf 4 = .ok (.ifCond .eq 16, 3) := by decide +kernel
theorem dX4_valueOf_7 : decode cX4_valueOf 7 = .ok (.aload_n 0, 1) := by decide +kernel
theorem dX4_valueOf_8 : decode cX4_valueOf 8 = .ok (.getfield 7, 3) := by decide +kernel
theorem dX4_valueOf_11 : decode cX4_valueOf 11 = .ok (.iload_n 1, 1) := by decide +kernel
theorem dX4_valueOf_12 : decode cX4_valueOf 12 = .ok (.iload_n 2, 1) := by decide +kernel
theorem dX4_valueOf_13 : decode cX4_valueOf 13 = .ok (.invokestatic 22, 3) := by decide +kernel
theorem dX4_valueOf_16 : decode cX4_valueOf 16 = .ok (.iaload, 1) := by decide +kernel
theorem dX4_valueOf_17 : decode cX4_valueOf 17 = .ok (.goto 9, 3) := by decide +kernel
theorem dX4_valueOf_20 : decode cX4_valueOf 20 = .ok (.aload_n 0, 1) := by decide +kernel
theorem dX4_valueOf_21 : decode cX4_valueOf 21 = .ok (.bipush (-2), 2) := by decide +kernel
theorem dX4_valueOf_23 : decode cX4_valueOf 23 = .ok (.invokevirtual 42, 3) := by decide +kernel
theorem dX4_valueOf_26 : decode cX4_valueOf 26 = .ok (.ireturn, 1) := by decide +kernel
set_option maxRecDepth 20000 in
theorem ggX4_position_X4_valueOf : GoodIn wsX4_position wsX4_valueOf := goodIn_r _ [5, 6, 7, 8, 4, 9, 10, 11, 12, 13, 14, 15, 16, 17, 18, 19, 20, 21, 22, 23, 24, 25, 26] (by decide +kernel) (by decide +kernel)
set_option maxRecDepth 20000 in
theorem gX4_position_X4_valueOf : GoodIn wsX4_position (wsV RX4 79 RX4 yX4_valueOf wsX4_valueOf) := goodIn_app (goodIn_of _ (by decide +kernel)) ggX4_position_X4_valueOf
theorem dX4_position_0 : decode cX4_position 0 = .ok (.aload_n 0, 1) := by decide +kernel
theorem dX4_position_1 : decode cX4_position 1 = .ok (.iload_n 1, 1) := by decide +kernel
theorem dX4_position_2 : decode cX4_position 2 = .ok (.iconst 1, 1) := by decide +kernel
theorem dX4_position_3 : decode cX4_position 3 = .ok (.invokevirtual 79, 3) := by decide +kernel
theorem dX4_position_6 : decode cX4_position 6 = .ok (.ireturn, 1) := by decide +kernel
set_option maxRecDepth 20000 in
theorem ggX4_weight_X4_valueOf : GoodIn wsX4_weight wsX4_valueOf := goodIn_r _ [5, 6, 7, 8, 4, 9, 10, 11, 12, 13, 14, 15, 16, 17, 18, 19, 20, 21, 22, 23, 24, 25, 26] (by decide +kernel) (by decide +kernel)
set_option maxRecDepth 20000 in
theorem gX4_weight_X4_valueOf : GoodIn wsX4_weight (wsV RX4 79 RX4 yX4_valueOf wsX4_valueOf) := goodIn_app (goodIn_of _ (by decide +kernel)) ggX4_weight_X4_valueOf
theorem dX4_weight_0 : decode cX4_weight 0 = .ok (.aload_n 0, 1) := by decide +kernel
theorem dX4_weight_1 : decode cX4_weight 1 = .ok (.iload_n 1, 1) := by decide +kernel
theorem dX4_weight_2 : decode cX4_weight 2 = .ok (.iconst 2, 1) := by decide +kernel
theorem dX4_weight_3 : decode cX4_weight 3 = .ok (.invokevirtual 79, 3) := by decide +kernel
theorem dX4_weight_6 : decode cX4_weight 6 = .ok (.ireturn, 1) := by decide +kernel
set_option maxRecDepth 20000 in
theorem ggX4_sounded_X4_valueOf : GoodIn wsX4_sounded wsX4_valueOf := goodIn_r _ [5, 6, 7, 8, 4, 9, 10, 11, 12, 13, 14, 15, 16, 17, 18, 19, 20, 21, 22, 23, 24, 25, 26] (by decide +kernel) (by decide +kernel)
set_option maxRecDepth 20000 in
theorem gX4_sounded_X4_valueOf : GoodIn wsX4_sounded (wsV RX4 79 RX4 yX4_valueOf wsX4_valueOf) := goodIn_app (goodIn_of _ (by decide +kernel)) ggX4_sounded_X4_valueOf
theorem dX4_sounded_0 : decode cX4_sounded 0 = .ok (.aload_n 0, 1) := by decide +kernel
theorem dX4_sounded_1 : decode cX4_sounded 1 = .ok (.iload_n 1, 1) := by decide +kernel
theorem dX4_sounded_2 : decode cX4_sounded 2 = .ok (.iconst 3, 1) := by decide +kernel
theorem dX4_sounded_3 : decode cX4_sounded 3 = .ok (.invokevirtual 79, 3) := by decide +kernel
theorem dX4_sounded_6 : decode cX4_sounded 6 = .ok (.ireturn, 1) := by decide +kernel
set_option maxRecDepth 20000 in
theorem ggX4_missed_X4_valueOf : GoodIn wsX4_missed wsX4_valueOf := goodIn_r _ [5, 6, 7, 8, 4, 9, 10, 11, 12, 13, 14, 15, 16, 17, 18, 19, 20, 21, 22, 23, 24, 25, 26] (by decide +kernel) (by decide +kernel)
set_option maxRecDepth 20000 in
theorem gX4_missed_X4_valueOf : GoodIn wsX4_missed (wsV RX4 79 RX4 yX4_valueOf wsX4_valueOf) := goodIn_app (goodIn_of _ (by decide +kernel)) ggX4_missed_X4_valueOf
theorem dX4_missed_0 : decode cX4_missed 0 = .ok (.aload_n 0, 1) := by decide +kernel
theorem dX4_missed_1 : decode cX4_missed 1 = .ok (.iload_n 1, 1) := by decide +kernel
theorem dX4_missed_2 : decode cX4_missed 2 = .ok (.iconst 4, 1) := by decide +kernel
theorem dX4_missed_3 : decode cX4_missed 3 = .ok (.invokevirtual 79, 3) := by decide +kernel
theorem dX4_missed_6 : decode cX4_missed 6 = .ok (.ireturn, 1) := by decide +kernel
set_option maxRecDepth 20000 in
theorem ggX4_isSilent_X4_in : GoodIn wsX4_isSilent wsX4_in := goodIn_r _ [4] (by decide +kernel) (by decide +kernel)
set_option maxRecDepth 20000 in
theorem gX4_isSilent_X4_in : GoodIn wsX4_isSilent (va_wsS RX4 34 yX4_in wsX4_in) := goodIn_app (goodIn_of _ (by decide +kernel)) ggX4_isSilent_X4_in
set_option maxRecDepth 20000 in
theorem ggX4_isSilent_X4_error : GoodIn wsX4_isSilent wsX4_error := goodIn_r _ [8, 9, 15, 16, 17, 18, 19, 20] (by decide +kernel) (by decide +kernel)
set_option maxRecDepth 20000 in
theorem gX4_isSilent_X4_error : GoodIn wsX4_isSilent (wsV RX4 42 RX4 yX4_error wsX4_error) := goodIn_app (goodIn_of _ (by decide +kernel)) ggX4_isSilent_X4_error
set_option maxRecDepth 20000 in
theorem ggX4_isSilent_X4_silentAt : GoodIn wsX4_isSilent wsX4_silentAt := goodIn_r _ [13, 14, 15, 16, 17, 18, 19, 20] (by decide +kernel) (by decide +kernel)
set_option maxRecDepth 20000 in
theorem gX4_isSilent_X4_silentAt : GoodIn wsX4_isSilent (wsV RX4 63 RX4 yX4_silentAt wsX4_silentAt) := goodIn_app (goodIn_of _ (by decide +kernel)) ggX4_isSilent_X4_silentAt
theorem dX4_isSilent_0 : decode cX4_isSilent 0 = .ok (.iload_n 1, 1) := by decide +kernel
theorem dX4_isSilent_1 : decode cX4_isSilent 1 = .ok (.iconst 0, 1) := by decide +kernel
theorem dX4_isSilent_2 : decode cX4_isSilent 2 = .ok (.sipush 1439, 3) := by decide +kernel
theorem dX4_isSilent_5 : decode cX4_isSilent 5 = .ok (.invokestatic 34, 3) := by decide +kernel
theorem dX4_isSilent_8 : decode cX4_isSilent 8 = .ok (.ifCond .ne 12, 3) := by decide +kernel
theorem dX4_isSilent_11 : decode cX4_isSilent 11 = .ok (.aload_n 0, 1) := by decide +kernel
theorem dX4_isSilent_12 : decode cX4_isSilent 12 = .ok (.bipush (-2), 2) := by decide +kernel
theorem dX4_isSilent_14 : decode cX4_isSilent 14 = .ok (.invokevirtual 42, 3) := by decide +kernel
theorem dX4_isSilent_17 : decode cX4_isSilent 17 = .ok (.goto 16, 3) := by decide +kernel
theorem dX4_isSilent_20 : decode cX4_isSilent 20 = .ok (.aload_n 0, 1) := by decide +kernel
theorem dX4_isSilent_21 : decode cX4_isSilent 21 = .ok (.iload_n 1, 1) := by decide +kernel
theorem dX4_isSilent_22 : decode cX4_isSilent 22 = .ok (.invokevirtual 63, 3) := by decide +kernel
theorem dX4_isSilent_25 : decode cX4_isSilent 25 = .ok (.ifCond .eq 7, 3) := by decide +kernel
theorem dX4_isSilent_28 : decode cX4_isSilent 28 = .ok (.iconst 1, 1) := by decide +kernel
theorem dX4_isSilent_29 : decode cX4_isSilent 29 = .ok (.goto 4, 3) := by decide +kernel
theorem dX4_isSilent_32 : decode cX4_isSilent 32 = .ok (.iconst 0, 1) := by decide +kernel
theorem dX4_isSilent_33 : decode cX4_isSilent 33 = .ok (.ireturn, 1) := by decide +kernel
set_option maxRecDepth 20000 in
theorem ggX4_entry_X4_error : GoodIn wsX4_entry wsX4_error := goodIn_r _ [6, 7, 8, 9, 10, 11, 12, 13] (by decide +kernel) (by decide +kernel)
set_option maxRecDepth 20000 in
theorem gX4_entry_X4_error : GoodIn wsX4_entry (wsV RX4 42 RX4 yX4_error wsX4_error) := goodIn_app (goodIn_of _ (by decide +kernel)) ggX4_entry_X4_error
theorem dX4_entry_0 : decode cX4_entry 0 = .ok (.iload_n 1, 1) := by decide +kernel
theorem dX4_entry_1 : decode cX4_entry 1 = .ok (.ifCond .ge 10, 3) := by decide +kernel
theorem dX4_entry_4 : decode cX4_entry 4 = .ok (.aload_n 0, 1) := by decide +kernel
theorem dX4_entry_5 : decode cX4_entry 5 = .ok (.bipush (-2), 2) := by decide +kernel
theorem dX4_entry_7 : decode cX4_entry 7 = .ok (.invokevirtual 42, 3) := by decide +kernel
theorem dX4_entry_10 : decode cX4_entry 10 = .ok (.ireturn, 1) := by decide +kernel
theorem dX4_entry_11 : decode cX4_entry 11 = .ok (.iload_n 1, 1) := by decide +kernel
theorem dX4_entry_12 : decode cX4_entry 12 = .ok (.aload_n 0, 1) := by decide +kernel
theorem dX4_entry_13 : decode cX4_entry 13 = .ok (.getfield 7, 3) := by decide +kernel
theorem dX4_entry_16 : decode cX4_entry 16 = .ok (.bipush 14, 2) := by decide +kernel
theorem dX4_entry_18 : decode cX4_entry 18 = .ok (.iaload, 1) := by decide +kernel
theorem dX4_entry_19 : decode cX4_entry 19 = .ok (.if_icmp .ge 19, 3) := by decide +kernel
theorem dX4_entry_22 : decode cX4_entry 22 = .ok (.aload_n 0, 1) := by decide +kernel
theorem dX4_entry_23 : decode cX4_entry 23 = .ok (.getfield 7, 3) := by decide +kernel
theorem dX4_entry_26 : decode cX4_entry 26 = .ok (.bipush 15, 2) := by decide +kernel
theorem dX4_entry_28 : decode cX4_entry 28 = .ok (.iconst 4, 1) := by decide +kernel
theorem dX4_entry_29 : decode cX4_entry 29 = .ok (.iload_n 1, 1) := by decide +kernel
theorem dX4_entry_30 : decode cX4_entry 30 = .ok (.imul, 1) := by decide +kernel
theorem dX4_entry_31 : decode cX4_entry 31 = .ok (.iadd, 1) := by decide +kernel
theorem dX4_entry_32 : decode cX4_entry 32 = .ok (.iload_n 2, 1) := by decide +kernel
theorem dX4_entry_33 : decode cX4_entry 33 = .ok (.iadd, 1) := by decide +kernel
theorem dX4_entry_34 : decode cX4_entry 34 = .ok (.iaload, 1) := by decide +kernel
theorem dX4_entry_35 : decode cX4_entry 35 = .ok (.goto 4, 3) := by decide +kernel
theorem dX4_entry_38 : decode cX4_entry 38 = .ok (.iload_n 3, 1) := by decide +kernel
theorem dX4_entry_39 : decode cX4_entry 39 = .ok (.ireturn, 1) := by decide +kernel
set_option maxRecDepth 20000 in
theorem ggX4_strikeMinute_X4_entry : GoodIn wsX4_strikeMinute wsX4_entry := goodIn_r _ [5, 6, 7, 8, 9, 4, 10, 11, 12, 13, 14, 15, 16, 17] (by decide +kernel) (by decide +kernel)
set_option maxRecDepth 20000 in
theorem gX4_strikeMinute_X4_entry : GoodIn wsX4_strikeMinute (wsV RX4 82 RX4 yX4_entry wsX4_entry) := goodIn_app (goodIn_of _ (by decide +kernel)) ggX4_strikeMinute_X4_entry
theorem dX4_strikeMinute_0 : decode cX4_strikeMinute 0 = .ok (.aload_n 0, 1) := by decide +kernel
theorem dX4_strikeMinute_1 : decode cX4_strikeMinute 1 = .ok (.iload_n 1, 1) := by decide +kernel
theorem dX4_strikeMinute_2 : decode cX4_strikeMinute 2 = .ok (.iconst 0, 1) := by decide +kernel
theorem dX4_strikeMinute_3 : decode cX4_strikeMinute 3 = .ok (.iconst (-1), 1) := by decide +kernel
theorem dX4_strikeMinute_4 : decode cX4_strikeMinute 4 = .ok (.invokevirtual 82, 3) := by decide +kernel
theorem dX4_strikeMinute_7 : decode cX4_strikeMinute 7 = .ok (.ireturn, 1) := by decide +kernel
set_option maxRecDepth 20000 in
theorem ggX4_strikeTrain_X4_entry : GoodIn wsX4_strikeTrain wsX4_entry := goodIn_r _ [5, 6, 7, 8, 9, 4, 10, 11, 12, 13, 14, 15, 16, 17] (by decide +kernel) (by decide +kernel)
set_option maxRecDepth 20000 in
theorem gX4_strikeTrain_X4_entry : GoodIn wsX4_strikeTrain (wsV RX4 82 RX4 yX4_entry wsX4_entry) := goodIn_app (goodIn_of _ (by decide +kernel)) ggX4_strikeTrain_X4_entry
theorem dX4_strikeTrain_0 : decode cX4_strikeTrain 0 = .ok (.aload_n 0, 1) := by decide +kernel
theorem dX4_strikeTrain_1 : decode cX4_strikeTrain 1 = .ok (.iload_n 1, 1) := by decide +kernel
theorem dX4_strikeTrain_2 : decode cX4_strikeTrain 2 = .ok (.iconst 1, 1) := by decide +kernel
theorem dX4_strikeTrain_3 : decode cX4_strikeTrain 3 = .ok (.iconst (-1), 1) := by decide +kernel
theorem dX4_strikeTrain_4 : decode cX4_strikeTrain 4 = .ok (.invokevirtual 82, 3) := by decide +kernel
theorem dX4_strikeTrain_7 : decode cX4_strikeTrain 7 = .ok (.ireturn, 1) := by decide +kernel
set_option maxRecDepth 20000 in
theorem ggX4_strikeBlows_X4_entry : GoodIn wsX4_strikeBlows wsX4_entry := goodIn_r _ [5, 6, 7, 8, 9, 4, 10, 11, 12, 13, 14, 15, 16, 17] (by decide +kernel) (by decide +kernel)
set_option maxRecDepth 20000 in
theorem gX4_strikeBlows_X4_entry : GoodIn wsX4_strikeBlows (wsV RX4 82 RX4 yX4_entry wsX4_entry) := goodIn_app (goodIn_of _ (by decide +kernel)) ggX4_strikeBlows_X4_entry
theorem dX4_strikeBlows_0 : decode cX4_strikeBlows 0 = .ok (.aload_n 0, 1) := by decide +kernel
theorem dX4_strikeBlows_1 : decode cX4_strikeBlows 1 = .ok (.iload_n 1, 1) := by decide +kernel
theorem dX4_strikeBlows_2 : decode cX4_strikeBlows 2 = .ok (.iconst 2, 1) := by decide +kernel
theorem dX4_strikeBlows_3 : decode cX4_strikeBlows 3 = .ok (.iconst 0, 1) := by decide +kernel
theorem dX4_strikeBlows_4 : decode cX4_strikeBlows 4 = .ok (.invokevirtual 82, 3) := by decide +kernel
theorem dX4_strikeBlows_7 : decode cX4_strikeBlows 7 = .ok (.ireturn, 1) := by decide +kernel
set_option maxRecDepth 20000 in
theorem ggX4_undo_X4_error : GoodIn wsX4_undo wsX4_error := goodIn_r _ [8, 9, 13, 14, 15, 16, 17, 18] (by decide +kernel) (by decide +kernel)
set_option maxRecDepth 20000 in
theorem gX4_undo_X4_error : GoodIn wsX4_undo (wsV RX4 42 RX4 yX4_error wsX4_error) := goodIn_app (goodIn_of _ (by decide +kernel)) ggX4_undo_X4_error
set_option maxRecDepth 20000 in
theorem ggX4_undo_X4_copy : GoodIn wsX4_undo wsX4_copy := goodIn_r _ [12] (by decide +kernel) (by decide +kernel)
set_option maxRecDepth 20000 in
theorem gX4_undo_X4_copy : GoodIn wsX4_undo (va_wsS RX4 30 yX4_copy wsX4_copy) := goodIn_app (goodIn_of _ (by decide +kernel)) ggX4_undo_X4_copy
theorem dX4_undo_0 : decode cX4_undo 0 = .ok (.aload_n 0, 1) := by decide +kernel
theorem dX4_undo_1 : decode cX4_undo 1 = .ok (.getfield 26, 3) := by decide +kernel
theorem dX4_undo_4 : decode cX4_undo 4 = .ok (.ifCond .ne 10, 3) := by decide +kernel
theorem dX4_undo_7 : decode cX4_undo 7 = .ok (.aload_n 0, 1) := by decide +kernel
end
section
theorem dX4_undo_8 : decode cX4_undo 8 = .ok (.bipush (-4), 2) := by decide +kernel
theorem dX4_undo_10 : decode cX4_undo 10 = .ok (.invokevirtual 42, 3) := by decide +kernel
theorem dX4_undo_13 : decode cX4_undo 13 = .ok (.ireturn, 1) := by decide +kernel
theorem dX4_undo_14 : decode cX4_undo 14 = .ok (.aload_n 0, 1) := by decide +kernel
theorem dX4_undo_15 : decode cX4_undo 15 = .ok (.dup, 1) := by decide +kernel
theorem dX4_undo_16 : decode cX4_undo 16 = .ok (.getfield 26, 3) := by decide +kernel
theorem dX4_undo_19 : decode cX4_undo 19 = .ok (.iconst 1, 1) := by decide +kernel
theorem dX4_undo_20 : decode cX4_undo 20 = .ok (.isub, 1) := by decide +kernel
theorem dX4_undo_21 : decode cX4_undo 21 = .ok (.putfield 26, 3) := by decide +kernel
theorem dX4_undo_24 : decode cX4_undo 24 = .ok (.aload_n 0, 1) := by decide +kernel
theorem dX4_undo_25 : decode cX4_undo 25 = .ok (.getfield 16, 3) := by decide +kernel
theorem dX4_undo_28 : decode cX4_undo 28 = .ok (.bipush 39, 2) := by decide +kernel
theorem dX4_undo_30 : decode cX4_undo 30 = .ok (.aload_n 0, 1) := by decide +kernel
theorem dX4_undo_31 : decode cX4_undo 31 = .ok (.getfield 26, 3) := by decide +kernel
theorem dX4_undo_34 : decode cX4_undo 34 = .ok (.imul, 1) := by decide +kernel
theorem dX4_undo_35 : decode cX4_undo 35 = .ok (.aload_n 0, 1) := by decide +kernel
theorem dX4_undo_36 : decode cX4_undo 36 = .ok (.getfield 7, 3) := by decide +kernel
theorem dX4_undo_39 : decode cX4_undo 39 = .ok (.iconst 0, 1) := by decide +kernel
theorem dX4_undo_40 : decode cX4_undo 40 = .ok (.invokestatic 30, 3) := by decide +kernel
theorem dX4_undo_43 : decode cX4_undo 43 = .ok (.aload_n 0, 1) := by decide +kernel
theorem dX4_undo_44 : decode cX4_undo 44 = .ok (.getfield 26, 3) := by decide +kernel
theorem dX4_undo_47 : decode cX4_undo 47 = .ok (.ireturn, 1) := by decide +kernel
set_option maxRecDepth 20000 in
theorem ggX4_errorCount_X4_in : GoodIn wsX4_errorCount wsX4_in := goodIn_r _ [5] (by decide +kernel) (by decide +kernel)
set_option maxRecDepth 20000 in
theorem gX4_errorCount_X4_in : GoodIn wsX4_errorCount (va_wsS RX4 34 yX4_in wsX4_in) := goodIn_app (goodIn_of _ (by decide +kernel)) ggX4_errorCount_X4_in
set_option maxRecDepth 20000 in
theorem ggX4_errorCount_X4_error : GoodIn wsX4_errorCount wsX4_error := goodIn_r _ [9, 1, 10, 11, 12, 13, 14, 15] (by decide +kernel) (by decide +kernel)
set_option maxRecDepth 20000 in
theorem gX4_errorCount_X4_error : GoodIn wsX4_errorCount (wsV RX4 42 RX4 yX4_error wsX4_error) := goodIn_app (goodIn_of _ (by decide +kernel)) ggX4_errorCount_X4_error
theorem dX4_errorCount_0 : decode cX4_errorCount 0 = .ok (.iload_n 1, 1) := by decide +kernel
theorem dX4_errorCount_1 : decode cX4_errorCount 1 = .ok (.bipush (-4), 2) := by decide +kernel
theorem dX4_errorCount_3 : decode cX4_errorCount 3 = .ok (.bipush (-2), 2) := by decide +kernel
theorem dX4_errorCount_5 : decode cX4_errorCount 5 = .ok (.invokestatic 34, 3) := by decide +kernel
theorem dX4_errorCount_8 : decode cX4_errorCount 8 = .ok (.ifCond .eq 15, 3) := by decide +kernel
theorem dX4_errorCount_11 : decode cX4_errorCount 11 = .ok (.aload_n 0, 1) := by decide +kernel
theorem dX4_errorCount_12 : decode cX4_errorCount 12 = .ok (.getfield 19, 3) := by decide +kernel
theorem dX4_errorCount_15 : decode cX4_errorCount 15 = .ok (.bipush (-2), 2) := by decide +kernel
theorem dX4_errorCount_17 : decode cX4_errorCount 17 = .ok (.iload_n 1, 1) := by decide +kernel
theorem dX4_errorCount_18 : decode cX4_errorCount 18 = .ok (.isub, 1) := by decide +kernel
theorem dX4_errorCount_19 : decode cX4_errorCount 19 = .ok (.iaload, 1) := by decide +kernel
theorem dX4_errorCount_20 : decode cX4_errorCount 20 = .ok (.goto 9, 3) := by decide +kernel
theorem dX4_errorCount_23 : decode cX4_errorCount 23 = .ok (.aload_n 0, 1) := by decide +kernel
theorem dX4_errorCount_24 : decode cX4_errorCount 24 = .ok (.bipush (-2), 2) := by decide +kernel
theorem dX4_errorCount_26 : decode cX4_errorCount 26 = .ok (.invokevirtual 42, 3) := by decide +kernel
theorem dX4_errorCount_29 : decode cX4_errorCount 29 = .ok (.ireturn, 1) := by decide +kernel
theorem dX4_mix_0 : decode cX4_mix 0 = .ok (.aload_n 0, 1) := by decide +kernel
theorem dX4_mix_1 : decode cX4_mix 1 = .ok (.ldc2_w 86, 3) := by decide +kernel
theorem dX4_mix_4 : decode cX4_mix 4 = .ok (.aload_n 0, 1) := by decide +kernel
theorem dX4_mix_5 : decode cX4_mix 5 = .ok (.getfield 88, 3) := by decide +kernel
theorem dX4_mix_8 : decode cX4_mix 8 = .ok (.lmul, 1) := by decide +kernel
theorem dX4_mix_9 : decode cX4_mix 9 = .ok (.lload_n 1, 1) := by decide +kernel
theorem dX4_mix_10 : decode cX4_mix 10 = .ok (.ladd, 1) := by decide +kernel
theorem dX4_mix_11 : decode cX4_mix 11 = .ok (.putfield 88, 3) := by decide +kernel
theorem dX4_mix_14 : decode cX4_mix 14 = .ok (.return_, 1) := by decide +kernel
set_option maxRecDepth 20000 in
theorem ggX4_digest_X4_mix : GoodIn wsX4_digest wsX4_mix := goodIn_r _ [10, 11, 2, 25, 26, 27, 28, 29, 30] (by decide +kernel) (by decide +kernel)
set_option maxRecDepth 20000 in
theorem gX4_digest_X4_mix : GoodIn wsX4_digest (wsV RX4 94 RX4 yX4_mix wsX4_mix) := goodIn_app (goodIn_of _ (by decide +kernel)) ggX4_digest_X4_mix
set_option maxRecDepth 20000 in
theorem ggX4_digest_X4_at : GoodIn wsX4_digest wsX4_at := goodIn_r _ [14] (by decide +kernel) (by decide +kernel)
set_option maxRecDepth 20000 in
theorem gX4_digest_X4_at : GoodIn wsX4_digest (va_wsS RX4 22 yX4_at wsX4_at) := goodIn_app (goodIn_of _ (by decide +kernel)) ggX4_digest_X4_at
set_option maxRecDepth 20000 in
theorem ggX4_digest_X4_dueAfter : GoodIn wsX4_digest wsX4_dueAfter := goodIn_r _ [17, 18, 19, 9, 20] (by decide +kernel) (by decide +kernel)
set_option maxRecDepth 20000 in
theorem gX4_digest_X4_dueAfter : GoodIn wsX4_digest (va_wsS RX4 66 yX4_dueAfter wsX4_dueAfter) := goodIn_app (goodIn_of _ (by decide +kernel)) ggX4_digest_X4_dueAfter
set_option maxRecDepth 20000 in
theorem ggX4_digest_X4_lagAt : GoodIn wsX4_digest wsX4_lagAt := goodIn_r _ [24, 4, 12, 13, 9, 14, 18, 19, 20, 15, 16, 17, 25, 26, 27, 28, 29, 30] (by decide +kernel) (by decide +kernel)
set_option maxRecDepth 20000 in
theorem gX4_digest_X4_lagAt : GoodIn wsX4_digest (wsV RX4 76 RX4 yX4_lagAt wsX4_lagAt) := goodIn_app (goodIn_of _ (by decide +kernel)) ggX4_digest_X4_lagAt
theorem dX4_digest_0 : decode cX4_digest 0 = .ok (.aload_n 0, 1) := by decide +kernel
theorem dX4_digest_1 : decode cX4_digest 1 = .ok (.ldc2_w 92, 3) := by decide +kernel
theorem dX4_digest_4 : decode cX4_digest 4 = .ok (.putfield 88, 3) := by decide +kernel
theorem dX4_digest_7 : decode cX4_digest 7 = .ok (.iconst 0, 1) := by decide +kernel
theorem dX4_digest_8 : decode cX4_digest 8 = .ok (.istore_n 1, 1) := by decide +kernel
theorem dX4_digest_9 : decode cX4_digest 9 = .ok (.iload_n 1, 1) := by decide +kernel
theorem dX4_digest_10 : decode cX4_digest 10 = .ok (.iconst 3, 1) := by decide +kernel
theorem dX4_digest_11 : decode cX4_digest 11 = .ok (.if_icmp .ge 20, 3) := by decide +kernel
theorem dX4_digest_14 : decode cX4_digest 14 = .ok (.aload_n 0, 1) := by decide +kernel
theorem dX4_digest_15 : decode cX4_digest 15 = .ok (.aload_n 0, 1) := by decide +kernel
theorem dX4_digest_16 : decode cX4_digest 16 = .ok (.getfield 19, 3) := by decide +kernel
theorem dX4_digest_19 : decode cX4_digest 19 = .ok (.iload_n 1, 1) := by decide +kernel
theorem dX4_digest_20 : decode cX4_digest 20 = .ok (.iaload, 1) := by decide +kernel
theorem dX4_digest_21 : decode cX4_digest 21 = .ok (.i2l, 1) := by decide +kernel
theorem dX4_digest_22 : decode cX4_digest 22 = .ok (.invokevirtual 94, 3) := by decide +kernel
theorem dX4_digest_25 : decode cX4_digest 25 = .ok (.iinc 1 1, 3) := by decide +kernel
theorem dX4_digest_28 : decode cX4_digest 28 = .ok (.goto (-19), 3) := by decide +kernel
theorem dX4_digest_31 : decode cX4_digest 31 = .ok (.aload_n 0, 1) := by decide +kernel
theorem dX4_digest_32 : decode cX4_digest 32 = .ok (.aload_n 0, 1) := by decide +kernel
theorem dX4_digest_33 : decode cX4_digest 33 = .ok (.getfield 7, 3) := by decide +kernel
theorem dX4_digest_36 : decode cX4_digest 36 = .ok (.iconst 0, 1) := by decide +kernel
theorem dX4_digest_37 : decode cX4_digest 37 = .ok (.iaload, 1) := by decide +kernel
theorem dX4_digest_38 : decode cX4_digest 38 = .ok (.i2l, 1) := by decide +kernel
theorem dX4_digest_39 : decode cX4_digest 39 = .ok (.invokevirtual 94, 3) := by decide +kernel
theorem dX4_digest_42 : decode cX4_digest 42 = .ok (.iconst 0, 1) := by decide +kernel
theorem dX4_digest_43 : decode cX4_digest 43 = .ok (.istore_n 1, 1) := by decide +kernel
theorem dX4_digest_44 : decode cX4_digest 44 = .ok (.iload_n 1, 1) := by decide +kernel
theorem dX4_digest_45 : decode cX4_digest 45 = .ok (.iconst 2, 1) := by decide +kernel
theorem dX4_digest_46 : decode cX4_digest 46 = .ok (.if_icmp .ge 68, 3) := by decide +kernel
theorem dX4_digest_49 : decode cX4_digest 49 = .ok (.iconst 0, 1) := by decide +kernel
theorem dX4_digest_50 : decode cX4_digest 50 = .ok (.istore_n 2, 1) := by decide +kernel
theorem dX4_digest_51 : decode cX4_digest 51 = .ok (.iload_n 2, 1) := by decide +kernel
theorem dX4_digest_52 : decode cX4_digest 52 = .ok (.iconst 5, 1) := by decide +kernel
theorem dX4_digest_53 : decode cX4_digest 53 = .ok (.if_icmp .ge 24, 3) := by decide +kernel
theorem dX4_digest_56 : decode cX4_digest 56 = .ok (.aload_n 0, 1) := by decide +kernel
theorem dX4_digest_57 : decode cX4_digest 57 = .ok (.aload_n 0, 1) := by decide +kernel
theorem dX4_digest_58 : decode cX4_digest 58 = .ok (.getfield 7, 3) := by decide +kernel
theorem dX4_digest_61 : decode cX4_digest 61 = .ok (.iload_n 1, 1) := by decide +kernel
theorem dX4_digest_62 : decode cX4_digest 62 = .ok (.iload_n 2, 1) := by decide +kernel
theorem dX4_digest_63 : decode cX4_digest 63 = .ok (.invokestatic 22, 3) := by decide +kernel
theorem dX4_digest_66 : decode cX4_digest 66 = .ok (.iaload, 1) := by decide +kernel
theorem dX4_digest_67 : decode cX4_digest 67 = .ok (.i2l, 1) := by decide +kernel
theorem dX4_digest_68 : decode cX4_digest 68 = .ok (.invokevirtual 94, 3) := by decide +kernel
theorem dX4_digest_71 : decode cX4_digest 71 = .ok (.iinc 2 1, 3) := by decide +kernel
theorem dX4_digest_74 : decode cX4_digest 74 = .ok (.goto (-23), 3) := by decide +kernel
theorem dX4_digest_77 : decode cX4_digest 77 = .ok (.aload_n 0, 1) := by decide +kernel
theorem dX4_digest_78 : decode cX4_digest 78 = .ok (.iload_n 1, 1) := by decide +kernel
theorem dX4_digest_79 : decode cX4_digest 79 = .ok (.aload_n 0, 1) := by decide +kernel
theorem dX4_digest_80 : decode cX4_digest 80 = .ok (.getfield 7, 3) := by decide +kernel
theorem dX4_digest_83 : decode cX4_digest 83 = .ok (.iconst 0, 1) := by decide +kernel
theorem dX4_digest_84 : decode cX4_digest 84 = .ok (.iaload, 1) := by decide +kernel
theorem dX4_digest_85 : decode cX4_digest 85 = .ok (.invokestatic 66, 3) := by decide +kernel
theorem dX4_digest_88 : decode cX4_digest 88 = .ok (.i2l, 1) := by decide +kernel
theorem dX4_digest_89 : decode cX4_digest 89 = .ok (.invokevirtual 94, 3) := by decide +kernel
theorem dX4_digest_92 : decode cX4_digest 92 = .ok (.aload_n 0, 1) := by decide +kernel
theorem dX4_digest_93 : decode cX4_digest 93 = .ok (.aload_n 0, 1) := by decide +kernel
theorem dX4_digest_94 : decode cX4_digest 94 = .ok (.iload_n 1, 1) := by decide +kernel
theorem dX4_digest_95 : decode cX4_digest 95 = .ok (.aload_n 0, 1) := by decide +kernel
theorem dX4_digest_96 : decode cX4_digest 96 = .ok (.getfield 7, 3) := by decide +kernel
theorem dX4_digest_99 : decode cX4_digest 99 = .ok (.iconst 0, 1) := by decide +kernel
theorem dX4_digest_100 : decode cX4_digest 100 = .ok (.iaload, 1) := by decide +kernel
theorem dX4_digest_101 : decode cX4_digest 101 = .ok (.invokevirtual 76, 3) := by decide +kernel
theorem dX4_digest_104 : decode cX4_digest 104 = .ok (.i2l, 1) := by decide +kernel
theorem dX4_digest_105 : decode cX4_digest 105 = .ok (.invokevirtual 94, 3) := by decide +kernel
theorem dX4_digest_108 : decode cX4_digest 108 = .ok (.iinc 1 1, 3) := by decide +kernel
theorem dX4_digest_111 : decode cX4_digest 111 = .ok (.goto (-67), 3) := by decide +kernel
theorem dX4_digest_114 : decode cX4_digest 114 = .ok (.aload_n 0, 1) := by decide +kernel
theorem dX4_digest_115 : decode cX4_digest 115 = .ok (.aload_n 0, 1) := by decide +kernel
theorem dX4_digest_116 : decode cX4_digest 116 = .ok (.getfield 7, 3) := by decide +kernel
theorem dX4_digest_119 : decode cX4_digest 119 = .ok (.iconst 1, 1) := by decide +kernel
theorem dX4_digest_120 : decode cX4_digest 120 = .ok (.iaload, 1) := by decide +kernel
theorem dX4_digest_121 : decode cX4_digest 121 = .ok (.i2l, 1) := by decide +kernel
theorem dX4_digest_122 : decode cX4_digest 122 = .ok (.invokevirtual 94, 3) := by decide +kernel
theorem dX4_digest_125 : decode cX4_digest 125 = .ok (.aload_n 0, 1) := by decide +kernel
theorem dX4_digest_126 : decode cX4_digest 126 = .ok (.aload_n 0, 1) := by decide +kernel
theorem dX4_digest_127 : decode cX4_digest 127 = .ok (.getfield 7, 3) := by decide +kernel
theorem dX4_digest_130 : decode cX4_digest 130 = .ok (.iconst 2, 1) := by decide +kernel
theorem dX4_digest_131 : decode cX4_digest 131 = .ok (.iaload, 1) := by decide +kernel
theorem dX4_digest_132 : decode cX4_digest 132 = .ok (.i2l, 1) := by decide +kernel
theorem dX4_digest_133 : decode cX4_digest 133 = .ok (.invokevirtual 94, 3) := by decide +kernel
theorem dX4_digest_136 : decode cX4_digest 136 = .ok (.aload_n 0, 1) := by decide +kernel
theorem dX4_digest_137 : decode cX4_digest 137 = .ok (.aload_n 0, 1) := by decide +kernel
theorem dX4_digest_138 : decode cX4_digest 138 = .ok (.getfield 7, 3) := by decide +kernel
theorem dX4_digest_141 : decode cX4_digest 141 = .ok (.iconst 3, 1) := by decide +kernel
theorem dX4_digest_142 : decode cX4_digest 142 = .ok (.iaload, 1) := by decide +kernel
theorem dX4_digest_143 : decode cX4_digest 143 = .ok (.i2l, 1) := by decide +kernel
theorem dX4_digest_144 : decode cX4_digest 144 = .ok (.invokevirtual 94, 3) := by decide +kernel
theorem dX4_digest_147 : decode cX4_digest 147 = .ok (.aload_n 0, 1) := by decide +kernel
theorem dX4_digest_148 : decode cX4_digest 148 = .ok (.aload_n 0, 1) := by decide +kernel
theorem dX4_digest_149 : decode cX4_digest 149 = .ok (.getfield 7, 3) := by decide +kernel
theorem dX4_digest_152 : decode cX4_digest 152 = .ok (.bipush 14, 2) := by decide +kernel
theorem dX4_digest_154 : decode cX4_digest 154 = .ok (.iaload, 1) := by decide +kernel
theorem dX4_digest_155 : decode cX4_digest 155 = .ok (.i2l, 1) := by decide +kernel
theorem dX4_digest_156 : decode cX4_digest 156 = .ok (.invokevirtual 94, 3) := by decide +kernel
theorem dX4_digest_159 : decode cX4_digest 159 = .ok (.iconst 0, 1) := by decide +kernel
theorem dX4_digest_160 : decode cX4_digest 160 = .ok (.istore_n 1, 1) := by decide +kernel
theorem dX4_digest_161 : decode cX4_digest 161 = .ok (.iload_n 1, 1) := by decide +kernel
theorem dX4_digest_162 : decode cX4_digest 162 = .ok (.aload_n 0, 1) := by decide +kernel
theorem dX4_digest_163 : decode cX4_digest 163 = .ok (.getfield 7, 3) := by decide +kernel
theorem dX4_digest_166 : decode cX4_digest 166 = .ok (.bipush 14, 2) := by decide +kernel
theorem dX4_digest_168 : decode cX4_digest 168 = .ok (.iaload, 1) := by decide +kernel
theorem dX4_digest_169 : decode cX4_digest 169 = .ok (.if_icmp .ge 40, 3) := by decide +kernel
theorem dX4_digest_172 : decode cX4_digest 172 = .ok (.iconst 0, 1) := by decide +kernel
theorem dX4_digest_173 : decode cX4_digest 173 = .ok (.istore_n 2, 1) := by decide +kernel
theorem dX4_digest_174 : decode cX4_digest 174 = .ok (.iload_n 2, 1) := by decide +kernel
theorem dX4_digest_175 : decode cX4_digest 175 = .ok (.iconst 3, 1) := by decide +kernel
theorem dX4_digest_176 : decode cX4_digest 176 = .ok (.if_icmp .ge 27, 3) := by decide +kernel
theorem dX4_digest_179 : decode cX4_digest 179 = .ok (.aload_n 0, 1) := by decide +kernel
theorem dX4_digest_180 : decode cX4_digest 180 = .ok (.aload_n 0, 1) := by decide +kernel
theorem dX4_digest_181 : decode cX4_digest 181 = .ok (.getfield 7, 3) := by decide +kernel
theorem dX4_digest_184 : decode cX4_digest 184 = .ok (.bipush 15, 2) := by decide +kernel
theorem dX4_digest_186 : decode cX4_digest 186 = .ok (.iconst 4, 1) := by decide +kernel
theorem dX4_digest_187 : decode cX4_digest 187 = .ok (.iload_n 1, 1) := by decide +kernel
theorem dX4_digest_188 : decode cX4_digest 188 = .ok (.imul, 1) := by decide +kernel
theorem dX4_digest_189 : decode cX4_digest 189 = .ok (.iadd, 1) := by decide +kernel
theorem dX4_digest_190 : decode cX4_digest 190 = .ok (.iload_n 2, 1) := by decide +kernel
theorem dX4_digest_191 : decode cX4_digest 191 = .ok (.iadd, 1) := by decide +kernel
theorem dX4_digest_192 : decode cX4_digest 192 = .ok (.iaload, 1) := by decide +kernel
theorem dX4_digest_193 : decode cX4_digest 193 = .ok (.i2l, 1) := by decide +kernel
theorem dX4_digest_194 : decode cX4_digest 194 = .ok (.invokevirtual 94, 3) := by decide +kernel
theorem dX4_digest_197 : decode cX4_digest 197 = .ok (.iinc 2 1, 3) := by decide +kernel
theorem dX4_digest_200 : decode cX4_digest 200 = .ok (.goto (-26), 3) := by decide +kernel
theorem dX4_digest_203 : decode cX4_digest 203 = .ok (.iinc 1 1, 3) := by decide +kernel
theorem dX4_digest_206 : decode cX4_digest 206 = .ok (.goto (-45), 3) := by decide +kernel
theorem dX4_digest_209 : decode cX4_digest 209 = .ok (.aload_n 0, 1) := by decide +kernel
theorem dX4_digest_210 : decode cX4_digest 210 = .ok (.aload_n 0, 1) := by decide +kernel
theorem dX4_digest_211 : decode cX4_digest 211 = .ok (.getfield 26, 3) := by decide +kernel
theorem dX4_digest_214 : decode cX4_digest 214 = .ok (.i2l, 1) := by decide +kernel
theorem dX4_digest_215 : decode cX4_digest 215 = .ok (.invokevirtual 94, 3) := by decide +kernel
theorem dX4_digest_218 : decode cX4_digest 218 = .ok (.aload_n 0, 1) := by decide +kernel
theorem dX4_digest_219 : decode cX4_digest 219 = .ok (.getfield 88, 3) := by decide +kernel
theorem dX4_digest_222 : decode cX4_digest 222 = .ok (.lreturn, 1) := by decide +kernel
theorem dJ9_min_7cf53_0 : decode cJ9_min_7cf53 0 = .ok (.iload_n 0, 1) := by decide +kernel
theorem dJ9_min_7cf53_1 : decode cJ9_min_7cf53 1 = .ok (.iload_n 1, 1) := by decide +kernel
theorem dJ9_min_7cf53_2 : decode cJ9_min_7cf53 2 = .ok (.if_icmp .gt 7, 3) := by decide +kernel
theorem dJ9_min_7cf53_5 : decode cJ9_min_7cf53 5 = .ok (.iload_n 0, 1) := by decide +kernel
theorem dJ9_min_7cf53_6 : decode cJ9_min_7cf53 6 = .ok (.goto 4, 3) := by decide +kernel
theorem dJ9_min_7cf53_9 : decode cJ9_min_7cf53 9 = .ok (.iload_n 1, 1) := by decide +kernel
theorem dJ9_min_7cf53_10 : decode cJ9_min_7cf53 10 = .ok (.ireturn, 1) := by decide +kernel
set_option maxRecDepth 20000 in
theorem ggL_law_X3_init : GoodIn wsL_law wsX3_init := goodIn_r _ [8, 9, 10, 11, 12, 13, 14, 15, 16, 17, 18, 19, 20, 21, 22, 23, 24, 25, 26, 27, 28, 29, 30, 31, 32, 33, 34, 35, 36, 37, 38, 39, 40, 41, 42, 43, 44, 45, 46, 47, 48, 49, 50, 51, 52, 53, 54, 55, 487, 488, 489, 490, 491, 492, 493, 476, 477, 478, 479, 480, 494, 495, 496, 497, 498, 499, 500, 501, 502, 503] (by decide +kernel) (by decide +kernel)
set_option maxRecDepth 20000 in
theorem gL_law_X3_init : GoodIn wsL_law (wsX3_init) := ggL_law_X3_init
set_option maxRecDepth 20000 in
theorem ggL_law_X4_init : GoodIn wsL_law wsX4_init := goodIn_r _ [58, 59, 10, 11, 21, 60, 61, 62, 63, 64, 65, 5, 66, 481, 482, 483, 484, 485, 486] (by decide +kernel) (by decide +kernel)
set_option maxRecDepth 20000 in
theorem gL_law_X4_init : GoodIn wsL_law (wsX4_init) := ggL_law_X4_init
set_option maxRecDepth 20000 in
theorem ggL_law_X3_setMechanism : GoodIn wsL_law wsX3_setMechanism := goodIn_r _ [70, 15, 71, 72, 73, 2, 74, 75, 76, 77, 78, 22, 79, 80, 81, 82, 83, 84, 85, 23, 16, 86, 87, 88, 89, 90, 91, 92, 14, 93, 28, 29, 33, 34, 35, 36, 37, 94, 95, 96, 19, 97, 47, 42, 43, 44, 45, 46, 98, 99, 100, 32, 101, 51, 52, 53, 54, 102, 103, 104, 105, 476, 477, 478, 479, 480, 494, 495, 496, 497, 498, 499, 487, 488, 489, 490, 491, 492, 493, 500, 501, 502, 503] (by decide +kernel) (by decide +kernel)
set_option maxRecDepth 20000 in
theorem gL_law_X3_setMechanism : GoodIn wsL_law (wsV RL 13 RX3 yX3_setMechanism wsX3_setMechanism) := goodIn_app (goodIn_of _ (by decide +kernel)) ggL_law_X3_setMechanism
set_option maxRecDepth 20000 in
theorem ggL_law_X4_setMechanism : GoodIn wsL_law wsX4_setMechanism := goodIn_r _ [109, 60, 110, 111, 5, 112, 113, 114, 115, 116, 117, 118, 119, 63, 120, 121, 122, 123, 124, 62, 125, 126, 127, 64, 65, 66, 481, 482, 483, 484, 485, 486] (by decide +kernel) (by decide +kernel)
set_option maxRecDepth 20000 in
theorem gL_law_X4_setMechanism : GoodIn wsL_law (wsV RL 17 RX4 yX4_setMechanism wsX4_setMechanism) := goodIn_app (goodIn_of _ (by decide +kernel)) ggL_law_X4_setMechanism
set_option maxRecDepth 20000 in
theorem ggL_law_X3_setPosition : GoodIn wsL_law wsX3_setPosition := goodIn_r _ [131, 15, 132, 72, 73, 2, 74, 102, 103, 104, 14, 105, 28, 29, 133, 134, 135, 19, 136, 47, 75, 76, 77, 78, 22, 79, 80, 81, 82, 83, 84, 85, 23, 16, 86, 87, 88, 89, 90, 91, 92, 93, 33, 34, 35, 36, 37, 94, 95, 96, 97, 42, 43, 44, 45, 46, 98, 99, 100, 32, 101, 51, 52, 53, 54, 476, 477, 478, 479, 480, 494, 495, 496, 497, 498, 499, 487, 488, 489, 490, 491, 492, 493, 500, 501, 502, 503] (by decide +kernel) (by decide +kernel)
set_option maxRecDepth 20000 in
theorem gL_law_X3_setPosition : GoodIn wsL_law (wsV RL 18 RX3 yX3_setPosition wsX3_setPosition) := goodIn_app (goodIn_of _ (by decide +kernel)) ggL_law_X3_setPosition
set_option maxRecDepth 20000 in
theorem ggL_law_X4_setPosition : GoodIn wsL_law wsX4_setPosition := goodIn_r _ [140, 60, 110, 111, 5, 112, 113, 114, 115, 141, 142, 143, 116, 117, 118, 119, 63, 120, 121, 122, 123, 124, 62, 125, 126, 127, 64, 65, 66, 481, 482, 483, 484, 485, 486] (by decide +kernel) (by decide +kernel)
set_option maxRecDepth 20000 in
theorem gL_law_X4_setPosition : GoodIn wsL_law (wsV RL 21 RX4 yX4_setPosition wsX4_setPosition) := goodIn_app (goodIn_of _ (by decide +kernel)) ggL_law_X4_setPosition
set_option maxRecDepth 20000 in
theorem ggL_law_X3_setSilence : GoodIn wsL_law wsX3_setSilence := goodIn_r _ [147, 15, 148, 149, 150, 151, 152, 2, 153, 75, 76, 77, 78, 22, 79, 80, 81, 82, 83, 84, 85, 23, 16, 86, 87, 88, 89, 90, 91, 92, 14, 93, 28, 29, 33, 34, 35, 36, 37, 94, 95, 96, 19, 97, 47, 42, 43, 44, 45, 46, 98, 99, 100, 32, 101, 51, 52, 53, 54, 476, 477, 478, 479, 480, 487, 488, 489, 490, 491, 492, 493, 494, 495, 496, 497, 498, 499, 500, 501, 502, 503] (by decide +kernel) (by decide +kernel)
set_option maxRecDepth 20000 in
theorem gL_law_X3_setSilence : GoodIn wsL_law (wsV RL 22 RX3 yX3_setSilence wsX3_setSilence) := goodIn_app (goodIn_of _ (by decide +kernel)) ggL_law_X3_setSilence
set_option maxRecDepth 20000 in
theorem ggL_law_X4_setSilence : GoodIn wsL_law wsX4_setSilence := goodIn_r _ [157, 60, 113, 114, 5, 115, 116, 117, 118, 119, 63, 120, 121, 122, 123, 124, 62, 125, 126, 127, 481, 482, 483, 484, 485, 486] (by decide +kernel) (by decide +kernel)
set_option maxRecDepth 20000 in
theorem gL_law_X4_setSilence : GoodIn wsL_law (wsV RL 26 RX4 yX4_setSilence wsX4_setSilence) := goodIn_app (goodIn_of _ (by decide +kernel)) ggL_law_X4_setSilence
set_option maxRecDepth 20000 in
theorem ggL_law_X3_wind : GoodIn wsL_law wsX3_wind := goodIn_r _ [161, 15, 162, 163, 164, 165, 166, 72, 73, 2, 74, 75, 76, 77, 78, 22, 79, 80, 81, 82, 83, 84, 85, 23, 16, 86, 87, 88, 89, 90, 91, 92, 14, 93, 28, 29, 33, 34, 35, 36, 37, 94, 95, 96, 19, 97, 47, 42, 43, 44, 45, 46, 98, 99, 100, 32, 101, 51, 52, 53, 54, 102, 103, 104, 105, 476, 477, 478, 479, 480, 494, 495, 496, 497, 498, 499, 487, 488, 489, 490, 491, 492, 493, 500, 501, 502, 503] (by decide +kernel) (by decide +kernel)
set_option maxRecDepth 20000 in
theorem gL_law_X3_wind : GoodIn wsL_law (wsV RL 27 RX3 yX3_wind wsX3_wind) := goodIn_app (goodIn_of _ (by decide +kernel)) ggL_law_X3_wind
set_option maxRecDepth 20000 in
theorem ggL_law_X4_wind : GoodIn wsL_law wsX4_wind := goodIn_r _ [170, 60, 110, 111, 5, 112, 113, 114, 115, 116, 117, 118, 119, 63, 120, 121, 122, 123, 124, 62, 125, 126, 127, 64, 65, 66, 481, 482, 483, 484, 485, 486] (by decide +kernel) (by decide +kernel)
set_option maxRecDepth 20000 in
theorem gL_law_X4_wind : GoodIn wsL_law (wsV RL 30 RX4 yX4_wind wsX4_wind) := goodIn_app (goodIn_of _ (by decide +kernel)) ggL_law_X4_wind
set_option maxRecDepth 20000 in
theorem ggL_law_X3_run : GoodIn wsL_law wsX3_run := goodIn_r _ [174, 15, 175, 75, 76, 77, 2, 78, 22, 79, 80, 81, 82, 83, 84, 85, 23, 16, 86, 87, 88, 89, 90, 91, 92, 14, 93, 28, 29, 33, 34, 35, 36, 37, 94, 95, 96, 19, 97, 47, 42, 43, 44, 45, 46, 98, 99, 100, 32, 101, 51, 52, 53, 54, 176, 177, 178, 179, 180, 181, 182, 183, 184, 185, 186, 187, 188, 189, 190, 191, 192, 193, 194, 195, 134, 135, 136, 196, 197, 198, 199, 200, 201, 202, 203, 204, 205, 206, 207, 208, 209, 210, 211, 212, 213, 214, 215, 216, 217, 218, 219, 220, 221, 222, 223, 164, 165, 166, 224, 225, 226, 227, 228, 229, 230, 231, 476, 477, 478, 479, 480, 487, 488, 489, 490, 491, 492, 493, 494, 495, 496, 497, 498, 499, 500, 501, 502, 503] (by decide +kernel) (by decide +kernel)
set_option maxRecDepth 20000 in
theorem gL_law_X3_run : GoodIn wsL_law (wsV RL 31 RX3 yX3_run wsX3_run) := goodIn_app (goodIn_of _ (by decide +kernel)) ggL_law_X3_run
set_option maxRecDepth 20000 in
theorem ggL_law_X4_run : GoodIn wsL_law wsX4_run := goodIn_r _ [235, 113, 114, 5, 115, 116, 117, 118, 119, 63, 120, 121, 122, 123, 124, 62, 60, 125, 126, 127, 236, 237, 238, 239, 240, 241, 242, 243, 244, 245, 246, 141, 142, 143, 247, 248, 249, 250, 251, 252, 253, 254, 64, 65, 66, 255, 256, 257, 258, 259, 260, 261, 262, 481, 482, 483, 484, 485, 486] (by decide +kernel) (by decide +kernel)
set_option maxRecDepth 20000 in
theorem gL_law_X4_run : GoodIn wsL_law (wsV RL 35 RX4 yX4_run wsX4_run) := goodIn_app (goodIn_of _ (by decide +kernel)) ggL_law_X4_run
set_option maxRecDepth 20000 in
theorem ggL_law_X3_setHands : GoodIn wsL_law wsX3_setHands := goodIn_r _ [266, 15, 175, 151, 152, 2, 153, 75, 76, 77, 78, 22, 79, 80, 81, 82, 83, 84, 85, 23, 16, 86, 87, 88, 89, 90, 91, 92, 14, 93, 28, 29, 33, 34, 35, 36, 37, 94, 95, 96, 19, 97, 47, 42, 43, 44, 45, 46, 98, 99, 100, 32, 101, 51, 52, 53, 54, 476, 477, 478, 479, 480, 487, 488, 489, 490, 491, 492, 493, 494, 495, 496, 497, 498, 499, 500, 501, 502, 503] (by decide +kernel) (by decide +kernel)
set_option maxRecDepth 20000 in
theorem gL_law_X3_setHands : GoodIn wsL_law (wsV RL 36 RX3 yX3_setHands wsX3_setHands) := goodIn_app (goodIn_of _ (by decide +kernel)) ggL_law_X3_setHands
set_option maxRecDepth 20000 in
theorem ggL_law_X4_setHands : GoodIn wsL_law wsX4_setHands := goodIn_r _ [270, 60, 113, 114, 5, 115, 116, 117, 118, 119, 63, 120, 121, 122, 123, 124, 62, 125, 126, 127, 481, 482, 483, 484, 485, 486] (by decide +kernel) (by decide +kernel)
set_option maxRecDepth 20000 in
theorem gL_law_X4_setHands : GoodIn wsL_law (wsV RL 39 RX4 yX4_setHands wsX4_setHands) := goodIn_app (goodIn_of _ (by decide +kernel)) ggL_law_X4_setHands
set_option maxRecDepth 20000 in
theorem ggL_law_X3_trip : GoodIn wsL_law wsX3_trip := goodIn_r _ [274, 15, 175, 72, 73, 2, 74, 75, 76, 77, 78, 22, 79, 80, 81, 102, 103, 104, 14, 105, 28, 29, 275, 276, 277, 19, 278, 279, 280, 281, 282, 47, 283, 192, 193, 194, 195, 134, 135, 136, 284, 208, 209, 210, 42, 44, 211, 212, 213, 214, 43, 82, 83, 84, 85, 23, 16, 86, 87, 88, 89, 90, 91, 92, 93, 33, 34, 35, 36, 37, 94, 95, 96, 97, 45, 46, 98, 99, 100, 32, 101, 51, 52, 53, 54, 196, 197, 198, 199, 200, 201, 202, 203, 204, 205, 206, 207, 215, 216, 217, 218, 219, 220, 221, 222, 223, 164, 165, 166, 476, 477, 478, 479, 480, 487, 488, 489, 490, 491, 492, 493, 494, 495, 496, 497, 498, 499, 500, 501, 502, 503] (by decide +kernel) (by decide +kernel)
set_option maxRecDepth 20000 in
theorem gL_law_X3_trip : GoodIn wsL_law (wsV RL 40 RX3 yX3_trip wsX3_trip) := goodIn_app (goodIn_of _ (by decide +kernel)) ggL_law_X3_trip
set_option maxRecDepth 20000 in
theorem ggL_law_X4_trip : GoodIn wsL_law wsX4_trip := goodIn_r _ [288, 60, 110, 111, 5, 112, 113, 114, 115, 116, 117, 118, 119, 63, 244, 245, 246, 141, 142, 143, 251, 252, 253, 254, 64, 65, 66, 120, 121, 122, 123, 124, 62, 125, 126, 127, 255, 256, 257, 258, 259, 260, 261, 262, 481, 482, 483, 484, 485, 486] (by decide +kernel) (by decide +kernel)
set_option maxRecDepth 20000 in
theorem gL_law_X4_trip : GoodIn wsL_law (wsV RL 43 RX4 yX4_trip wsX4_trip) := goodIn_app (goodIn_of _ (by decide +kernel)) ggL_law_X4_trip
set_option maxRecDepth 20000 in
theorem ggL_law_X3_nextDue : GoodIn wsL_law wsX3_nextDue := goodIn_r _ [292, 15, 175, 72, 73, 2, 74, 102, 103, 104, 14, 105, 28, 29, 275, 276, 277, 19, 278, 279, 280, 281, 282, 47, 283, 192, 193, 194, 195, 134, 135, 136, 75, 76, 77, 78, 22, 79, 80, 81, 476, 477, 478, 479, 480, 487, 488, 489, 490, 491, 492, 493, 494, 495, 496, 497, 498, 499] (by decide +kernel) (by decide +kernel)
set_option maxRecDepth 20000 in
theorem gL_law_X3_nextDue : GoodIn wsL_law (wsV RL 44 RX3 yX3_nextDue wsX3_nextDue) := goodIn_app (goodIn_of _ (by decide +kernel)) ggL_law_X3_nextDue
set_option maxRecDepth 20000 in
theorem ggL_law_X4_nextDue : GoodIn wsL_law wsX4_nextDue := goodIn_r _ [296, 60, 110, 111, 5, 112, 113, 114, 115, 244, 245, 246, 141, 142, 143, 116, 117, 118, 119, 63, 481, 482, 483, 484, 485, 486] (by decide +kernel) (by decide +kernel)
set_option maxRecDepth 20000 in
theorem gL_law_X4_nextDue : GoodIn wsL_law (wsV RL 47 RX4 yX4_nextDue wsX4_nextDue) := goodIn_app (goodIn_of _ (by decide +kernel)) ggL_law_X4_nextDue
set_option maxRecDepth 20000 in
theorem ggL_law_X3_lag : GoodIn wsL_law wsX3_lag := goodIn_r _ [300, 15, 175, 72, 73, 2, 74, 102, 103, 104, 14, 105, 28, 29, 301, 302, 303, 19, 304, 42, 43, 305, 276, 277, 278, 279, 280, 281, 282, 47, 283, 192, 193, 194, 195, 134, 135, 136, 75, 76, 77, 78, 22, 79, 80, 81, 476, 477, 478, 479, 480, 487, 488, 489, 490, 491, 492, 493, 494, 495, 496, 497, 498, 499] (by decide +kernel) (by decide +kernel)
set_option maxRecDepth 20000 in
theorem gL_law_X3_lag : GoodIn wsL_law (wsV RL 48 RX3 yX3_lag wsX3_lag) := goodIn_app (goodIn_of _ (by decide +kernel)) ggL_law_X3_lag
set_option maxRecDepth 20000 in
theorem ggL_law_X4_lag : GoodIn wsL_law wsX4_lag := goodIn_r _ [309, 60, 110, 111, 5, 112, 113, 114, 115, 310, 311, 312, 313, 64, 65, 66, 141, 142, 143, 244, 245, 246, 116, 117, 118, 119, 63, 481, 482, 483, 484, 485, 486] (by decide +kernel) (by decide +kernel)
set_option maxRecDepth 20000 in
theorem gL_law_X4_lag : GoodIn wsL_law (wsV RL 51 RX4 yX4_lag wsX4_lag) := goodIn_app (goodIn_of _ (by decide +kernel)) ggL_law_X4_lag
set_option maxRecDepth 20000 in
theorem ggL_law_X3_blowsToCorrect : GoodIn wsL_law wsX3_blowsToCorrect := goodIn_r _ [317, 15, 175, 132, 72, 73, 2, 74, 75, 76, 77, 78, 22, 79, 80, 81, 102, 103, 104, 14, 105, 28, 29, 301, 302, 303, 19, 304, 42, 43, 305, 276, 277, 278, 279, 280, 281, 282, 47, 283, 192, 193, 194, 195, 134, 135, 136, 318, 216, 217, 218, 476, 477, 478, 479, 480, 487, 488, 489, 490, 491, 492, 493, 494, 495, 496, 497, 498, 499] (by decide +kernel) (by decide +kernel)
set_option maxRecDepth 20000 in
theorem gL_law_X3_blowsToCorrect : GoodIn wsL_law (wsV RL 52 RX3 yX3_blowsToCorrect wsX3_blowsToCorrect) := goodIn_app (goodIn_of _ (by decide +kernel)) ggL_law_X3_blowsToCorrect
set_option maxRecDepth 20000 in
theorem ggL_law_X4_blowsToCorrect : GoodIn wsL_law wsX4_blowsToCorrect := goodIn_r _ [322, 60, 110, 111, 5, 112, 113, 114, 115, 116, 117, 118, 119, 63, 64, 65, 66, 310, 311, 312, 313, 141, 142, 143, 244, 245, 246, 481, 482, 483, 484, 485, 486] (by decide +kernel) (by decide +kernel)
set_option maxRecDepth 20000 in
theorem gL_law_X4_blowsToCorrect : GoodIn wsL_law (wsV RL 55 RX4 yX4_blowsToCorrect wsX4_blowsToCorrect) := goodIn_app (goodIn_of _ (by decide +kernel)) ggL_law_X4_blowsToCorrect
set_option maxRecDepth 20000 in
theorem ggL_law_X3_handsToCorrect : GoodIn wsL_law wsX3_handsToCorrect := goodIn_r _ [326, 15, 175, 72, 73, 2, 74, 75, 76, 77, 78, 22, 79, 80, 81, 102, 103, 104, 14, 105, 28, 29, 301, 302, 303, 19, 304, 42, 43, 305, 276, 277, 278, 279, 280, 281, 282, 47, 283, 192, 193, 194, 195, 134, 135, 136, 133, 327, 229, 230, 231, 328, 476, 477, 478, 479, 480, 487, 488, 489, 490, 491, 492, 493, 494, 495, 496, 497, 498, 499] (by decide +kernel) (by decide +kernel)
set_option maxRecDepth 20000 in
theorem gL_law_X3_handsToCorrect : GoodIn wsL_law (wsV RL 56 RX3 yX3_handsToCorrect wsX3_handsToCorrect) := goodIn_app (goodIn_of _ (by decide +kernel)) ggL_law_X3_handsToCorrect
set_option maxRecDepth 20000 in
theorem ggL_law_X4_handsToCorrect : GoodIn wsL_law wsX4_handsToCorrect := goodIn_r _ [332, 60, 110, 111, 5, 112, 113, 114, 115, 116, 117, 118, 119, 63, 310, 311, 312, 313, 64, 65, 66, 141, 142, 143, 244, 245, 246, 481, 482, 483, 484, 485, 486] (by decide +kernel) (by decide +kernel)
set_option maxRecDepth 20000 in
theorem gL_law_X4_handsToCorrect : GoodIn wsL_law (wsV RL 59 RX4 yX4_handsToCorrect wsX4_handsToCorrect) := goodIn_app (goodIn_of _ (by decide +kernel)) ggL_law_X4_handsToCorrect
set_option maxRecDepth 20000 in
theorem ggL_law_X3_minutesToMiss : GoodIn wsL_law wsX3_minutesToMiss := goodIn_r _ [336, 20, 15, 337, 175, 72, 73, 2, 74, 75, 76, 77, 78, 22, 79, 80, 81, 102, 103, 104, 14, 105, 28, 29, 338, 95, 96, 19, 97, 47, 42, 43, 44, 45, 46, 224, 225, 226, 227, 228, 229, 230, 231, 182, 183, 184, 185, 35, 186, 187, 188, 189, 36, 37, 191, 192, 193, 194, 195, 134, 135, 136, 203, 204, 205, 206, 207, 208, 209, 210, 211, 212, 213, 214, 215, 216, 217, 218, 476, 477, 478, 479, 480, 494, 495, 496, 497, 498, 499, 487, 488, 489, 490, 491, 492, 493] (by decide +kernel) (by decide +kernel)
set_option maxRecDepth 20000 in
theorem gL_law_X3_minutesToMiss : GoodIn wsL_law (wsV RL 60 RX3 yX3_minutesToMiss wsX3_minutesToMiss) := goodIn_app (goodIn_of _ (by decide +kernel)) ggL_law_X3_minutesToMiss
set_option maxRecDepth 20000 in
theorem ggL_law_X4_minutesToMiss : GoodIn wsL_law wsX4_minutesToMiss := goodIn_r _ [342, 60, 61, 110, 111, 5, 112, 113, 114, 115, 116, 117, 118, 119, 63, 125, 126, 127, 64, 65, 66, 236, 237, 238, 239, 240, 241, 242, 243, 244, 245, 246, 141, 142, 143, 247, 248, 249, 250, 251, 252, 253, 254, 255, 256, 257, 258, 259, 260, 261, 262, 481, 482, 483, 484, 485, 486] (by decide +kernel) (by decide +kernel)
set_option maxRecDepth 20000 in
theorem gL_law_X4_minutesToMiss : GoodIn wsL_law (wsV RL 63 RX4 yX4_minutesToMiss wsX4_minutesToMiss) := goodIn_app (goodIn_of _ (by decide +kernel)) ggL_law_X4_minutesToMiss
set_option maxRecDepth 20000 in
theorem ggL_law_X3_minute : GoodIn wsL_law wsX3_minute := goodIn_r _ [346, 15, 175, 476, 477, 478, 479, 480, 487, 488, 489, 490, 491, 492, 493] (by decide +kernel) (by decide +kernel)
set_option maxRecDepth 20000 in
theorem gL_law_X3_minute : GoodIn wsL_law (wsV RL 64 RX3 yX3_minute wsX3_minute) := goodIn_app (goodIn_of _ (by decide +kernel)) ggL_law_X3_minute
set_option maxRecDepth 20000 in
theorem ggL_law_X4_minute : GoodIn wsL_law wsX4_minute := goodIn_r _ [350, 60, 481, 482, 483, 484, 485, 486] (by decide +kernel) (by decide +kernel)
set_option maxRecDepth 20000 in
theorem gL_law_X4_minute : GoodIn wsL_law (wsV RL 68 RX4 yX4_minute wsX4_minute) := goodIn_app (goodIn_of _ (by decide +kernel)) ggL_law_X4_minute
set_option maxRecDepth 20000 in
theorem ggL_law_X3_position : GoodIn wsL_law wsX3_position := goodIn_r _ [354, 15, 132, 72, 73, 2, 74, 102, 103, 104, 14, 105, 28, 29, 75, 76, 77, 78, 22, 79, 80, 81, 476, 477, 478, 479, 480, 494, 495, 496, 497, 498, 499, 487, 488, 489, 490, 491, 492, 493] (by decide +kernel) (by decide +kernel)
set_option maxRecDepth 20000 in
theorem gL_law_X3_position : GoodIn wsL_law (wsV RL 69 RX3 yX3_position wsX3_position) := goodIn_app (goodIn_of _ (by decide +kernel)) ggL_law_X3_position
set_option maxRecDepth 20000 in
theorem ggL_law_X4_position : GoodIn wsL_law wsX4_position := goodIn_r _ [358, 359, 360, 361, 5, 362, 60, 110, 111, 112, 113, 114, 115, 64, 65, 66, 116, 117, 118, 119, 63, 481, 482, 483, 484, 485, 486] (by decide +kernel) (by decide +kernel)
set_option maxRecDepth 20000 in
theorem gL_law_X4_position : GoodIn wsL_law (wsV RL 72 RX4 yX4_position wsX4_position) := goodIn_app (goodIn_of _ (by decide +kernel)) ggL_law_X4_position
set_option maxRecDepth 20000 in
theorem ggL_law_X3_weight : GoodIn wsL_law wsX3_weight := goodIn_r _ [366, 15, 162, 72, 73, 2, 74, 102, 103, 104, 14, 105, 28, 29, 75, 76, 77, 78, 22, 79, 80, 81, 476, 477, 478, 479, 480, 494, 495, 496, 497, 498, 499, 487, 488, 489, 490, 491, 492, 493] (by decide +kernel) (by decide +kernel)
set_option maxRecDepth 20000 in
theorem gL_law_X3_weight : GoodIn wsL_law (wsV RL 73 RX3 yX3_weight wsX3_weight) := goodIn_app (goodIn_of _ (by decide +kernel)) ggL_law_X3_weight
set_option maxRecDepth 20000 in
theorem ggL_law_X4_weight : GoodIn wsL_law wsX4_weight := goodIn_r _ [370, 359, 360, 361, 5, 362, 60, 110, 111, 112, 113, 114, 115, 64, 65, 66, 116, 117, 118, 119, 63, 481, 482, 483, 484, 485, 486] (by decide +kernel) (by decide +kernel)
set_option maxRecDepth 20000 in
theorem gL_law_X4_weight : GoodIn wsL_law (wsV RL 76 RX4 yX4_weight wsX4_weight) := goodIn_app (goodIn_of _ (by decide +kernel)) ggL_law_X4_weight
set_option maxRecDepth 20000 in
theorem ggL_law_X3_sounded : GoodIn wsL_law wsX3_sounded := goodIn_r _ [374, 15, 202, 72, 73, 2, 74, 102, 103, 104, 14, 105, 28, 29, 75, 76, 77, 78, 22, 79, 80, 81, 476, 477, 478, 479, 480, 494, 495, 496, 497, 498, 499, 487, 488, 489, 490, 491, 492, 493] (by decide +kernel) (by decide +kernel)
set_option maxRecDepth 20000 in
theorem gL_law_X3_sounded : GoodIn wsL_law (wsV RL 77 RX3 yX3_sounded wsX3_sounded) := goodIn_app (goodIn_of _ (by decide +kernel)) ggL_law_X3_sounded
set_option maxRecDepth 20000 in
theorem ggL_law_X4_sounded : GoodIn wsL_law wsX4_sounded := goodIn_r _ [378, 359, 360, 361, 5, 362, 60, 110, 111, 112, 113, 114, 115, 64, 65, 66, 116, 117, 118, 119, 63, 481, 482, 483, 484, 485, 486] (by decide +kernel) (by decide +kernel)
set_option maxRecDepth 20000 in
theorem gL_law_X4_sounded : GoodIn wsL_law (wsV RL 80 RX4 yX4_sounded wsX4_sounded) := goodIn_app (goodIn_of _ (by decide +kernel)) ggL_law_X4_sounded
set_option maxRecDepth 20000 in
theorem ggL_law_X3_missed : GoodIn wsL_law wsX3_missed := goodIn_r _ [382, 15, 337, 72, 73, 2, 74, 102, 103, 104, 14, 105, 28, 29, 75, 76, 77, 78, 22, 79, 80, 81, 476, 477, 478, 479, 480, 494, 495, 496, 497, 498, 499, 487, 488, 489, 490, 491, 492, 493] (by decide +kernel) (by decide +kernel)
set_option maxRecDepth 20000 in
theorem gL_law_X3_missed : GoodIn wsL_law (wsV RL 81 RX3 yX3_missed wsX3_missed) := goodIn_app (goodIn_of _ (by decide +kernel)) ggL_law_X3_missed
set_option maxRecDepth 20000 in
theorem ggL_law_X4_missed : GoodIn wsL_law wsX4_missed := goodIn_r _ [386, 359, 360, 361, 5, 362, 60, 110, 111, 112, 113, 114, 115, 64, 65, 66, 116, 117, 118, 119, 63, 481, 482, 483, 484, 485, 486] (by decide +kernel) (by decide +kernel)
set_option maxRecDepth 20000 in
theorem gL_law_X4_missed : GoodIn wsL_law (wsV RL 84 RX4 yX4_missed wsX4_missed) := goodIn_app (goodIn_of _ (by decide +kernel)) ggL_law_X4_missed
set_option maxRecDepth 20000 in
theorem ggL_law_X3_isSilent : GoodIn wsL_law wsX3_isSilent := goodIn_r _ [390, 15, 151, 152, 2, 153, 75, 76, 77, 78, 22, 79, 80, 81, 190, 187, 188, 14, 189, 35, 36, 37, 476, 477, 478, 479, 480, 487, 488, 489, 490, 491, 492, 493] (by decide +kernel) (by decide +kernel)
set_option maxRecDepth 20000 in
theorem gL_law_X3_isSilent : GoodIn wsL_law (wsV RL 85 RX3 yX3_isSilent wsX3_isSilent) := goodIn_app (goodIn_of _ (by decide +kernel)) ggL_law_X3_isSilent
set_option maxRecDepth 20000 in
theorem ggL_law_X4_isSilent : GoodIn wsL_law wsX4_isSilent := goodIn_r _ [394, 113, 114, 5, 115, 116, 117, 118, 119, 63, 240, 241, 242, 243, 60, 481, 482, 483, 484, 485, 486] (by decide +kernel) (by decide +kernel)
set_option maxRecDepth 20000 in
theorem gL_law_X4_isSilent : GoodIn wsL_law (wsV RL 88 RX4 yX4_isSilent wsX4_isSilent) := goodIn_app (goodIn_of _ (by decide +kernel)) ggL_law_X4_isSilent
set_option maxRecDepth 20000 in
theorem ggL_law_X3_strikeMinute : GoodIn wsL_law wsX3_strikeMinute := goodIn_r _ [398, 15, 200, 399, 400, 75, 76, 77, 2, 78, 22, 79, 80, 81, 476, 477, 478, 479, 480, 487, 488, 489, 490, 491, 492, 493, 500, 501, 502, 503] (by decide +kernel) (by decide +kernel)
set_option maxRecDepth 20000 in
theorem gL_law_X3_strikeMinute : GoodIn wsL_law (wsV RL 89 RX3 yX3_strikeMinute wsX3_strikeMinute) := goodIn_app (goodIn_of _ (by decide +kernel)) ggL_law_X3_strikeMinute
set_option maxRecDepth 20000 in
theorem ggL_law_X4_strikeMinute : GoodIn wsL_law wsX4_strikeMinute := goodIn_r _ [404, 405, 406, 407, 5, 408, 60, 116, 117, 118, 119, 63, 481, 482, 483, 484, 485, 486] (by decide +kernel) (by decide +kernel)
set_option maxRecDepth 20000 in
theorem gL_law_X4_strikeMinute : GoodIn wsL_law (wsV RL 92 RX4 yX4_strikeMinute wsX4_strikeMinute) := goodIn_app (goodIn_of _ (by decide +kernel)) ggL_law_X4_strikeMinute
set_option maxRecDepth 20000 in
theorem ggL_law_X3_strikeTrain : GoodIn wsL_law wsX3_strikeTrain := goodIn_r _ [412, 15, 200, 399, 413, 75, 76, 77, 2, 78, 22, 79, 80, 81, 476, 477, 478, 479, 480, 487, 488, 489, 490, 491, 492, 493, 500, 501, 502, 503] (by decide +kernel) (by decide +kernel)
set_option maxRecDepth 20000 in
theorem gL_law_X3_strikeTrain : GoodIn wsL_law (wsV RL 93 RX3 yX3_strikeTrain wsX3_strikeTrain) := goodIn_app (goodIn_of _ (by decide +kernel)) ggL_law_X3_strikeTrain
set_option maxRecDepth 20000 in
theorem ggL_law_X4_strikeTrain : GoodIn wsL_law wsX4_strikeTrain := goodIn_r _ [417, 405, 406, 407, 5, 408, 60, 116, 117, 118, 119, 63, 481, 482, 483, 484, 485, 486] (by decide +kernel) (by decide +kernel)
set_option maxRecDepth 20000 in
theorem gL_law_X4_strikeTrain : GoodIn wsL_law (wsV RL 96 RX4 yX4_strikeTrain wsX4_strikeTrain) := goodIn_app (goodIn_of _ (by decide +kernel)) ggL_law_X4_strikeTrain
set_option maxRecDepth 20000 in
theorem ggL_law_X3_strikeBlows : GoodIn wsL_law wsX3_strikeBlows := goodIn_r _ [421, 15, 200, 399, 422, 75, 76, 77, 2, 78, 22, 79, 80, 81, 476, 477, 478, 479, 480, 487, 488, 489, 490, 491, 492, 493, 500, 501, 502, 503] (by decide +kernel) (by decide +kernel)
set_option maxRecDepth 20000 in
theorem gL_law_X3_strikeBlows : GoodIn wsL_law (wsV RL 97 RX3 yX3_strikeBlows wsX3_strikeBlows) := goodIn_app (goodIn_of _ (by decide +kernel)) ggL_law_X3_strikeBlows
set_option maxRecDepth 20000 in
theorem ggL_law_X4_strikeBlows : GoodIn wsL_law wsX4_strikeBlows := goodIn_r _ [426, 405, 406, 407, 5, 408, 60, 116, 117, 118, 119, 63, 481, 482, 483, 484, 485, 486] (by decide +kernel) (by decide +kernel)
set_option maxRecDepth 20000 in
theorem gL_law_X4_strikeBlows : GoodIn wsL_law (wsV RL 100 RX4 yX4_strikeBlows wsX4_strikeBlows) := goodIn_app (goodIn_of _ (by decide +kernel)) ggL_law_X4_strikeBlows
set_option maxRecDepth 20000 in
theorem ggL_law_X3_undo : GoodIn wsL_law wsX3_undo := goodIn_r _ [430, 23, 15, 16, 75, 76, 77, 2, 78, 22, 79, 80, 81, 90, 91, 92, 14, 93, 28, 29, 33, 34, 35, 36, 37, 94, 95, 96, 19, 97, 47, 42, 43, 44, 45, 46, 98, 99, 100, 32, 101, 51, 52, 53, 54, 476, 477, 478, 479, 480, 487, 488, 489, 490, 491, 492, 493, 494, 495, 496, 497, 498, 499, 500, 501, 502, 503] (by decide +kernel) (by decide +kernel)
set_option maxRecDepth 20000 in
theorem gL_law_X3_undo : GoodIn wsL_law (wsV RL 101 RX3 yX3_undo wsX3_undo) := goodIn_app (goodIn_of _ (by decide +kernel)) ggL_law_X3_undo
set_option maxRecDepth 20000 in
theorem ggL_law_X4_undo : GoodIn wsL_law wsX4_undo := goodIn_r _ [434, 124, 62, 60, 116, 117, 118, 5, 119, 63, 125, 126, 127, 481, 482, 483, 484, 485, 486] (by decide +kernel) (by decide +kernel)
set_option maxRecDepth 20000 in
theorem gL_law_X4_undo : GoodIn wsL_law (wsV RL 104 RX4 yX4_undo wsX4_undo) := goodIn_app (goodIn_of _ (by decide +kernel)) ggL_law_X4_undo
set_option maxRecDepth 20000 in
theorem ggL_law_X3_errorCount : GoodIn wsL_law wsX3_errorCount := goodIn_r _ [438, 22, 75, 76, 77, 2, 78, 79, 80, 81, 476, 477, 478, 479, 480] (by decide +kernel) (by decide +kernel)
set_option maxRecDepth 20000 in
theorem gL_law_X3_errorCount : GoodIn wsL_law (wsV RL 105 RX3 yX3_errorCount wsX3_errorCount) := goodIn_app (goodIn_of _ (by decide +kernel)) ggL_law_X3_errorCount
set_option maxRecDepth 20000 in
theorem ggL_law_X4_errorCount : GoodIn wsL_law wsX4_errorCount := goodIn_r _ [442, 63, 113, 114, 5, 115, 116, 117, 118, 119, 481, 482, 483, 484, 485, 486] (by decide +kernel) (by decide +kernel)
set_option maxRecDepth 20000 in
theorem gL_law_X4_errorCount : GoodIn wsL_law (wsV RL 108 RX4 yX4_errorCount wsX4_errorCount) := goodIn_app (goodIn_of _ (by decide +kernel)) ggL_law_X4_errorCount
set_option maxRecDepth 20000 in
theorem ggL_law_X3_digest : GoodIn wsL_law wsX3_digest := goodIn_r _ [446, 447, 448, 22, 15, 23, 449, 450, 451, 14, 452, 453, 34, 28, 29, 35, 36, 37, 33, 454, 455, 456, 19, 457, 458, 42, 43, 44, 45, 46, 305, 276, 277, 278, 279, 280, 281, 282, 47, 283, 192, 193, 194, 195, 134, 135, 136, 459, 302, 303, 304, 460, 461, 462, 32, 463, 464, 54, 51, 52, 53, 476, 477, 478, 479, 480, 487, 488, 489, 490, 491, 492, 493, 494, 495, 496, 497, 498, 499, 500, 501, 502, 503] (by decide +kernel) (by decide +kernel)
set_option maxRecDepth 20000 in
theorem gL_law_X3_digest : GoodIn wsL_law (wsV RL 109 RX3 yX3_digest wsX3_digest) := goodIn_app (goodIn_of _ (by decide +kernel)) ggL_law_X3_digest
set_option maxRecDepth 20000 in
theorem ggL_law_X4_digest : GoodIn wsL_law wsX4_digest := goodIn_r _ [468, 469, 470, 63, 60, 124, 471, 472, 473, 5, 474, 475, 64, 65, 66, 244, 245, 246, 141, 142, 143, 310, 311, 312, 313, 481, 482, 483, 484, 485, 486] (by decide +kernel) (by decide +kernel)
set_option maxRecDepth 20000 in
theorem gL_law_X4_digest : GoodIn wsL_law (wsV RL 113 RX4 yX4_digest wsX4_digest) := goodIn_app (goodIn_of _ (by decide +kernel)) ggL_law_X4_digest
theorem dL_law_0 : decode cL_law 0 = .ok (.new 7, 3) := by decide +kernel
theorem dL_law_3 : decode cL_law 3 = .ok (.dup, 1) := by decide +kernel
theorem dL_law_4 : decode cL_law 4 = .ok (.invokespecial 9, 3) := by decide +kernel
theorem dL_law_7 : decode cL_law 7 = .ok (.astore_n 1, 1) := by decide +kernel
theorem dL_law_8 : decode cL_law 8 = .ok (.new 10, 3) := by decide +kernel
theorem dL_law_11 : decode cL_law 11 = .ok (.dup, 1) := by decide +kernel
theorem dL_law_12 : decode cL_law 12 = .ok (.invokespecial 12, 3) := by decide +kernel
theorem dL_law_15 : decode cL_law 15 = .ok (.astore_n 2, 1) := by decide +kernel
theorem dL_law_16 : decode cL_law 16 = .ok (.iconst 0, 1) := by decide +kernel
theorem dL_law_17 : decode cL_law 17 = .ok (.istore_n 3, 1) := by decide +kernel
theorem dL_law_18 : decode cL_law 18 = .ok (.iload_n 3, 1) := by decide +kernel
theorem dL_law_19 : decode cL_law 19 = .ok (.aload_n 0, 1) := by decide +kernel
theorem dL_law_20 : decode cL_law 20 = .ok (.arraylength, 1) := by decide +kernel
theorem dL_law_21 : decode cL_law 21 = .ok (.iconst 4, 1) := by decide +kernel
theorem dL_law_22 : decode cL_law 22 = .ok (.isub, 1) := by decide +kernel
theorem dL_law_23 : decode cL_law 23 = .ok (.if_icmp .gt 700, 3) := by decide +kernel
theorem dL_law_26 : decode cL_law 26 = .ok (.aload_n 0, 1) := by decide +kernel
theorem dL_law_27 : decode cL_law 27 = .ok (.iload_n 3, 1) := by decide +kernel
theorem dL_law_28 : decode cL_law 28 = .ok (.iaload, 1) := by decide +kernel
theorem dL_law_29 : decode cL_law 29 = .ok (.bipush 31, 2) := by decide +kernel
theorem dL_law_31 : decode cL_law 31 = .ok (.iand, 1) := by decide +kernel
theorem dL_law_32 : decode cL_law 32 = .ok (.tableswitch 685 0 23 #[112, 145, 178, 221, 254, 277, 300, 323, 346, 369, 392, 415, 438, 451, 474, 497, 520, 543, 566, 589, 612, 635, 648, 671], 112) := by decide +kernel
theorem dL_law_144 : decode cL_law 144 = .ok (.aload_n 1, 1) := by decide +kernel
theorem dL_law_145 : decode cL_law 145 = .ok (.aload_n 0, 1) := by decide +kernel
theorem dL_law_146 : decode cL_law 146 = .ok (.iload_n 3, 1) := by decide +kernel
theorem dL_law_147 : decode cL_law 147 = .ok (.iconst 1, 1) := by decide +kernel
theorem dL_law_148 : decode cL_law 148 = .ok (.iadd, 1) := by decide +kernel
theorem dL_law_149 : decode cL_law 149 = .ok (.iaload, 1) := by decide +kernel
theorem dL_law_150 : decode cL_law 150 = .ok (.aload_n 0, 1) := by decide +kernel
theorem dL_law_151 : decode cL_law 151 = .ok (.iload_n 3, 1) := by decide +kernel
theorem dL_law_152 : decode cL_law 152 = .ok (.iconst 2, 1) := by decide +kernel
theorem dL_law_153 : decode cL_law 153 = .ok (.iadd, 1) := by decide +kernel
theorem dL_law_154 : decode cL_law 154 = .ok (.iaload, 1) := by decide +kernel
theorem dL_law_155 : decode cL_law 155 = .ok (.invokevirtual 13, 3) := by decide +kernel
theorem dL_law_158 : decode cL_law 158 = .ok (.aload_n 2, 1) := by decide +kernel
theorem dL_law_159 : decode cL_law 159 = .ok (.aload_n 0, 1) := by decide +kernel
theorem dL_law_160 : decode cL_law 160 = .ok (.iload_n 3, 1) := by decide +kernel
theorem dL_law_161 : decode cL_law 161 = .ok (.iconst 1, 1) := by decide +kernel
theorem dL_law_162 : decode cL_law 162 = .ok (.iadd, 1) := by decide +kernel
theorem dL_law_163 : decode cL_law 163 = .ok (.iaload, 1) := by decide +kernel
theorem dL_law_164 : decode cL_law 164 = .ok (.aload_n 0, 1) := by decide +kernel
theorem dL_law_165 : decode cL_law 165 = .ok (.iload_n 3, 1) := by decide +kernel
theorem dL_law_166 : decode cL_law 166 = .ok (.iconst 2, 1) := by decide +kernel
theorem dL_law_167 : decode cL_law 167 = .ok (.iadd, 1) := by decide +kernel
theorem dL_law_168 : decode cL_law 168 = .ok (.iaload, 1) := by decide +kernel
theorem dL_law_169 : decode cL_law 169 = .ok (.invokevirtual 17, 3) := by decide +kernel
theorem dL_law_172 : decode cL_law 172 = .ok (.if_icmp .eq 545, 3) := by decide +kernel
theorem dL_law_175 : decode cL_law 175 = .ok (.iconst 0, 1) := by decide +kernel
theorem dL_law_176 : decode cL_law 176 = .ok (.ireturn, 1) := by decide +kernel
theorem dL_law_177 : decode cL_law 177 = .ok (.aload_n 1, 1) := by decide +kernel
theorem dL_law_178 : decode cL_law 178 = .ok (.aload_n 0, 1) := by decide +kernel
theorem dL_law_179 : decode cL_law 179 = .ok (.iload_n 3, 1) := by decide +kernel
theorem dL_law_180 : decode cL_law 180 = .ok (.iconst 1, 1) := by decide +kernel
theorem dL_law_181 : decode cL_law 181 = .ok (.iadd, 1) := by decide +kernel
theorem dL_law_182 : decode cL_law 182 = .ok (.iaload, 1) := by decide +kernel
theorem dL_law_183 : decode cL_law 183 = .ok (.aload_n 0, 1) := by decide +kernel
theorem dL_law_184 : decode cL_law 184 = .ok (.iload_n 3, 1) := by decide +kernel
theorem dL_law_185 : decode cL_law 185 = .ok (.iconst 2, 1) := by decide +kernel
theorem dL_law_186 : decode cL_law 186 = .ok (.iadd, 1) := by decide +kernel
theorem dL_law_187 : decode cL_law 187 = .ok (.iaload, 1) := by decide +kernel
theorem dL_law_188 : decode cL_law 188 = .ok (.invokevirtual 18, 3) := by decide +kernel
theorem dL_law_191 : decode cL_law 191 = .ok (.aload_n 2, 1) := by decide +kernel
theorem dL_law_192 : decode cL_law 192 = .ok (.aload_n 0, 1) := by decide +kernel
theorem dL_law_193 : decode cL_law 193 = .ok (.iload_n 3, 1) := by decide +kernel
theorem dL_law_194 : decode cL_law 194 = .ok (.iconst 1, 1) := by decide +kernel
theorem dL_law_195 : decode cL_law 195 = .ok (.iadd, 1) := by decide +kernel
theorem dL_law_196 : decode cL_law 196 = .ok (.iaload, 1) := by decide +kernel
theorem dL_law_197 : decode cL_law 197 = .ok (.aload_n 0, 1) := by decide +kernel
theorem dL_law_198 : decode cL_law 198 = .ok (.iload_n 3, 1) := by decide +kernel
theorem dL_law_199 : decode cL_law 199 = .ok (.iconst 2, 1) := by decide +kernel
theorem dL_law_200 : decode cL_law 200 = .ok (.iadd, 1) := by decide +kernel
theorem dL_law_201 : decode cL_law 201 = .ok (.iaload, 1) := by decide +kernel
theorem dL_law_202 : decode cL_law 202 = .ok (.invokevirtual 21, 3) := by decide +kernel
theorem dL_law_205 : decode cL_law 205 = .ok (.if_icmp .eq 512, 3) := by decide +kernel
theorem dL_law_208 : decode cL_law 208 = .ok (.iconst 0, 1) := by decide +kernel
theorem dL_law_209 : decode cL_law 209 = .ok (.ireturn, 1) := by decide +kernel
theorem dL_law_210 : decode cL_law 210 = .ok (.aload_n 1, 1) := by decide +kernel
theorem dL_law_211 : decode cL_law 211 = .ok (.aload_n 0, 1) := by decide +kernel
theorem dL_law_212 : decode cL_law 212 = .ok (.iload_n 3, 1) := by decide +kernel
theorem dL_law_213 : decode cL_law 213 = .ok (.iconst 1, 1) := by decide +kernel
theorem dL_law_214 : decode cL_law 214 = .ok (.iadd, 1) := by decide +kernel
theorem dL_law_215 : decode cL_law 215 = .ok (.iaload, 1) := by decide +kernel
theorem dL_law_216 : decode cL_law 216 = .ok (.aload_n 0, 1) := by decide +kernel
theorem dL_law_217 : decode cL_law 217 = .ok (.iload_n 3, 1) := by decide +kernel
theorem dL_law_218 : decode cL_law 218 = .ok (.iconst 2, 1) := by decide +kernel
theorem dL_law_219 : decode cL_law 219 = .ok (.iadd, 1) := by decide +kernel
theorem dL_law_220 : decode cL_law 220 = .ok (.iaload, 1) := by decide +kernel
theorem dL_law_221 : decode cL_law 221 = .ok (.aload_n 0, 1) := by decide +kernel
theorem dL_law_222 : decode cL_law 222 = .ok (.iload_n 3, 1) := by decide +kernel
theorem dL_law_223 : decode cL_law 223 = .ok (.iconst 3, 1) := by decide +kernel
theorem dL_law_224 : decode cL_law 224 = .ok (.iadd, 1) := by decide +kernel
theorem dL_law_225 : decode cL_law 225 = .ok (.iaload, 1) := by decide +kernel
theorem dL_law_226 : decode cL_law 226 = .ok (.invokevirtual 22, 3) := by decide +kernel
theorem dL_law_229 : decode cL_law 229 = .ok (.aload_n 2, 1) := by decide +kernel
theorem dL_law_230 : decode cL_law 230 = .ok (.aload_n 0, 1) := by decide +kernel
theorem dL_law_231 : decode cL_law 231 = .ok (.iload_n 3, 1) := by decide +kernel
theorem dL_law_232 : decode cL_law 232 = .ok (.iconst 1, 1) := by decide +kernel
theorem dL_law_233 : decode cL_law 233 = .ok (.iadd, 1) := by decide +kernel
theorem dL_law_234 : decode cL_law 234 = .ok (.iaload, 1) := by decide +kernel
theorem dL_law_235 : decode cL_law 235 = .ok (.aload_n 0, 1) := by decide +kernel
theorem dL_law_236 : decode cL_law 236 = .ok (.iload_n 3, 1) := by decide +kernel
theorem dL_law_237 : decode cL_law 237 = .ok (.iconst 2, 1) := by decide +kernel
theorem dL_law_238 : decode cL_law 238 = .ok (.iadd, 1) := by decide +kernel
theorem dL_law_239 : decode cL_law 239 = .ok (.iaload, 1) := by decide +kernel
theorem dL_law_240 : decode cL_law 240 = .ok (.aload_n 0, 1) := by decide +kernel
theorem dL_law_241 : decode cL_law 241 = .ok (.iload_n 3, 1) := by decide +kernel
theorem dL_law_242 : decode cL_law 242 = .ok (.iconst 3, 1) := by decide +kernel
theorem dL_law_243 : decode cL_law 243 = .ok (.iadd, 1) := by decide +kernel
theorem dL_law_244 : decode cL_law 244 = .ok (.iaload, 1) := by decide +kernel
theorem dL_law_245 : decode cL_law 245 = .ok (.invokevirtual 26, 3) := by decide +kernel
theorem dL_law_248 : decode cL_law 248 = .ok (.if_icmp .eq 469, 3) := by decide +kernel
theorem dL_law_251 : decode cL_law 251 = .ok (.iconst 0, 1) := by decide +kernel
theorem dL_law_252 : decode cL_law 252 = .ok (.ireturn, 1) := by decide +kernel
theorem dL_law_253 : decode cL_law 253 = .ok (.aload_n 1, 1) := by decide +kernel
theorem dL_law_254 : decode cL_law 254 = .ok (.aload_n 0, 1) := by decide +kernel
theorem dL_law_255 : decode cL_law 255 = .ok (.iload_n 3, 1) := by decide +kernel
theorem dL_law_256 : decode cL_law 256 = .ok (.iconst 1, 1) := by decide +kernel
theorem dL_law_257 : decode cL_law 257 = .ok (.iadd, 1) := by decide +kernel
theorem dL_law_258 : decode cL_law 258 = .ok (.iaload, 1) := by decide +kernel
theorem dL_law_259 : decode cL_law 259 = .ok (.aload_n 0, 1) := by decide +kernel
theorem dL_law_260 : decode cL_law 260 = .ok (.iload_n 3, 1) := by decide +kernel
theorem dL_law_261 : decode cL_law 261 = .ok (.iconst 2, 1) := by decide +kernel
theorem dL_law_262 : decode cL_law 262 = .ok (.iadd, 1) := by decide +kernel
theorem dL_law_263 : decode cL_law 263 = .ok (.iaload, 1) := by decide +kernel
theorem dL_law_264 : decode cL_law 264 = .ok (.invokevirtual 27, 3) := by decide +kernel
theorem dL_law_267 : decode cL_law 267 = .ok (.aload_n 2, 1) := by decide +kernel
theorem dL_law_268 : decode cL_law 268 = .ok (.aload_n 0, 1) := by decide +kernel
theorem dL_law_269 : decode cL_law 269 = .ok (.iload_n 3, 1) := by decide +kernel
theorem dL_law_270 : decode cL_law 270 = .ok (.iconst 1, 1) := by decide +kernel
theorem dL_law_271 : decode cL_law 271 = .ok (.iadd, 1) := by decide +kernel
theorem dL_law_272 : decode cL_law 272 = .ok (.iaload, 1) := by decide +kernel
theorem dL_law_273 : decode cL_law 273 = .ok (.aload_n 0, 1) := by decide +kernel
theorem dL_law_274 : decode cL_law 274 = .ok (.iload_n 3, 1) := by decide +kernel
theorem dL_law_275 : decode cL_law 275 = .ok (.iconst 2, 1) := by decide +kernel
theorem dL_law_276 : decode cL_law 276 = .ok (.iadd, 1) := by decide +kernel
theorem dL_law_277 : decode cL_law 277 = .ok (.iaload, 1) := by decide +kernel
theorem dL_law_278 : decode cL_law 278 = .ok (.invokevirtual 30, 3) := by decide +kernel
theorem dL_law_281 : decode cL_law 281 = .ok (.if_icmp .eq 436, 3) := by decide +kernel
theorem dL_law_284 : decode cL_law 284 = .ok (.iconst 0, 1) := by decide +kernel
theorem dL_law_285 : decode cL_law 285 = .ok (.ireturn, 1) := by decide +kernel
theorem dL_law_286 : decode cL_law 286 = .ok (.aload_n 1, 1) := by decide +kernel
theorem dL_law_287 : decode cL_law 287 = .ok (.aload_n 0, 1) := by decide +kernel
theorem dL_law_288 : decode cL_law 288 = .ok (.iload_n 3, 1) := by decide +kernel
theorem dL_law_289 : decode cL_law 289 = .ok (.iconst 1, 1) := by decide +kernel
theorem dL_law_290 : decode cL_law 290 = .ok (.iadd, 1) := by decide +kernel
theorem dL_law_291 : decode cL_law 291 = .ok (.iaload, 1) := by decide +kernel
theorem dL_law_292 : decode cL_law 292 = .ok (.invokevirtual 31, 3) := by decide +kernel
theorem dL_law_295 : decode cL_law 295 = .ok (.aload_n 2, 1) := by decide +kernel
theorem dL_law_296 : decode cL_law 296 = .ok (.aload_n 0, 1) := by decide +kernel
theorem dL_law_297 : decode cL_law 297 = .ok (.iload_n 3, 1) := by decide +kernel
theorem dL_law_298 : decode cL_law 298 = .ok (.iconst 1, 1) := by decide +kernel
theorem dL_law_299 : decode cL_law 299 = .ok (.iadd, 1) := by decide +kernel
theorem dL_law_300 : decode cL_law 300 = .ok (.iaload, 1) := by decide +kernel
theorem dL_law_301 : decode cL_law 301 = .ok (.invokevirtual 35, 3) := by decide +kernel
theorem dL_law_304 : decode cL_law 304 = .ok (.if_icmp .eq 413, 3) := by decide +kernel
theorem dL_law_307 : decode cL_law 307 = .ok (.iconst 0, 1) := by decide +kernel
theorem dL_law_308 : decode cL_law 308 = .ok (.ireturn, 1) := by decide +kernel
theorem dL_law_309 : decode cL_law 309 = .ok (.aload_n 1, 1) := by decide +kernel
theorem dL_law_310 : decode cL_law 310 = .ok (.aload_n 0, 1) := by decide +kernel
theorem dL_law_311 : decode cL_law 311 = .ok (.iload_n 3, 1) := by decide +kernel
theorem dL_law_312 : decode cL_law 312 = .ok (.iconst 1, 1) := by decide +kernel
theorem dL_law_313 : decode cL_law 313 = .ok (.iadd, 1) := by decide +kernel
theorem dL_law_314 : decode cL_law 314 = .ok (.iaload, 1) := by decide +kernel
theorem dL_law_315 : decode cL_law 315 = .ok (.invokevirtual 36, 3) := by decide +kernel
theorem dL_law_318 : decode cL_law 318 = .ok (.aload_n 2, 1) := by decide +kernel
theorem dL_law_319 : decode cL_law 319 = .ok (.aload_n 0, 1) := by decide +kernel
theorem dL_law_320 : decode cL_law 320 = .ok (.iload_n 3, 1) := by decide +kernel
theorem dL_law_321 : decode cL_law 321 = .ok (.iconst 1, 1) := by decide +kernel
theorem dL_law_322 : decode cL_law 322 = .ok (.iadd, 1) := by decide +kernel
theorem dL_law_323 : decode cL_law 323 = .ok (.iaload, 1) := by decide +kernel
theorem dL_law_324 : decode cL_law 324 = .ok (.invokevirtual 39, 3) := by decide +kernel
theorem dL_law_327 : decode cL_law 327 = .ok (.if_icmp .eq 390, 3) := by decide +kernel
theorem dL_law_330 : decode cL_law 330 = .ok (.iconst 0, 1) := by decide +kernel
theorem dL_law_331 : decode cL_law 331 = .ok (.ireturn, 1) := by decide +kernel
theorem dL_law_332 : decode cL_law 332 = .ok (.aload_n 1, 1) := by decide +kernel
theorem dL_law_333 : decode cL_law 333 = .ok (.aload_n 0, 1) := by decide +kernel
theorem dL_law_334 : decode cL_law 334 = .ok (.iload_n 3, 1) := by decide +kernel
theorem dL_law_335 : decode cL_law 335 = .ok (.iconst 1, 1) := by decide +kernel
theorem dL_law_336 : decode cL_law 336 = .ok (.iadd, 1) := by decide +kernel
theorem dL_law_337 : decode cL_law 337 = .ok (.iaload, 1) := by decide +kernel
theorem dL_law_338 : decode cL_law 338 = .ok (.invokevirtual 40, 3) := by decide +kernel
theorem dL_law_341 : decode cL_law 341 = .ok (.aload_n 2, 1) := by decide +kernel
theorem dL_law_342 : decode cL_law 342 = .ok (.aload_n 0, 1) := by decide +kernel
theorem dL_law_343 : decode cL_law 343 = .ok (.iload_n 3, 1) := by decide +kernel
theorem dL_law_344 : decode cL_law 344 = .ok (.iconst 1, 1) := by decide +kernel
theorem dL_law_345 : decode cL_law 345 = .ok (.iadd, 1) := by decide +kernel
theorem dL_law_346 : decode cL_law 346 = .ok (.iaload, 1) := by decide +kernel
theorem dL_law_347 : decode cL_law 347 = .ok (.invokevirtual 43, 3) := by decide +kernel
theorem dL_law_350 : decode cL_law 350 = .ok (.if_icmp .eq 367, 3) := by decide +kernel
theorem dL_law_353 : decode cL_law 353 = .ok (.iconst 0, 1) := by decide +kernel
theorem dL_law_354 : decode cL_law 354 = .ok (.ireturn, 1) := by decide +kernel
theorem dL_law_355 : decode cL_law 355 = .ok (.aload_n 1, 1) := by decide +kernel
theorem dL_law_356 : decode cL_law 356 = .ok (.aload_n 0, 1) := by decide +kernel
theorem dL_law_357 : decode cL_law 357 = .ok (.iload_n 3, 1) := by decide +kernel
theorem dL_law_358 : decode cL_law 358 = .ok (.iconst 1, 1) := by decide +kernel
theorem dL_law_359 : decode cL_law 359 = .ok (.iadd, 1) := by decide +kernel
theorem dL_law_360 : decode cL_law 360 = .ok (.iaload, 1) := by decide +kernel
theorem dL_law_361 : decode cL_law 361 = .ok (.invokevirtual 44, 3) := by decide +kernel
theorem dL_law_364 : decode cL_law 364 = .ok (.aload_n 2, 1) := by decide +kernel
theorem dL_law_365 : decode cL_law 365 = .ok (.aload_n 0, 1) := by decide +kernel
theorem dL_law_366 : decode cL_law 366 = .ok (.iload_n 3, 1) := by decide +kernel
theorem dL_law_367 : decode cL_law 367 = .ok (.iconst 1, 1) := by decide +kernel
theorem dL_law_368 : decode cL_law 368 = .ok (.iadd, 1) := by decide +kernel
theorem dL_law_369 : decode cL_law 369 = .ok (.iaload, 1) := by decide +kernel
theorem dL_law_370 : decode cL_law 370 = .ok (.invokevirtual 47, 3) := by decide +kernel
theorem dL_law_373 : decode cL_law 373 = .ok (.if_icmp .eq 344, 3) := by decide +kernel
theorem dL_law_376 : decode cL_law 376 = .ok (.iconst 0, 1) := by decide +kernel
theorem dL_law_377 : decode cL_law 377 = .ok (.ireturn, 1) := by decide +kernel
theorem dL_law_378 : decode cL_law 378 = .ok (.aload_n 1, 1) := by decide +kernel
theorem dL_law_379 : decode cL_law 379 = .ok (.aload_n 0, 1) := by decide +kernel
theorem dL_law_380 : decode cL_law 380 = .ok (.iload_n 3, 1) := by decide +kernel
theorem dL_law_381 : decode cL_law 381 = .ok (.iconst 1, 1) := by decide +kernel
theorem dL_law_382 : decode cL_law 382 = .ok (.iadd, 1) := by decide +kernel
theorem dL_law_383 : decode cL_law 383 = .ok (.iaload, 1) := by decide +kernel
theorem dL_law_384 : decode cL_law 384 = .ok (.invokevirtual 48, 3) := by decide +kernel
theorem dL_law_387 : decode cL_law 387 = .ok (.aload_n 2, 1) := by decide +kernel
theorem dL_law_388 : decode cL_law 388 = .ok (.aload_n 0, 1) := by decide +kernel
theorem dL_law_389 : decode cL_law 389 = .ok (.iload_n 3, 1) := by decide +kernel
theorem dL_law_390 : decode cL_law 390 = .ok (.iconst 1, 1) := by decide +kernel
theorem dL_law_391 : decode cL_law 391 = .ok (.iadd, 1) := by decide +kernel
theorem dL_law_392 : decode cL_law 392 = .ok (.iaload, 1) := by decide +kernel
theorem dL_law_393 : decode cL_law 393 = .ok (.invokevirtual 51, 3) := by decide +kernel
theorem dL_law_396 : decode cL_law 396 = .ok (.if_icmp .eq 321, 3) := by decide +kernel
theorem dL_law_399 : decode cL_law 399 = .ok (.iconst 0, 1) := by decide +kernel
theorem dL_law_400 : decode cL_law 400 = .ok (.ireturn, 1) := by decide +kernel
theorem dL_law_401 : decode cL_law 401 = .ok (.aload_n 1, 1) := by decide +kernel
theorem dL_law_402 : decode cL_law 402 = .ok (.aload_n 0, 1) := by decide +kernel
theorem dL_law_403 : decode cL_law 403 = .ok (.iload_n 3, 1) := by decide +kernel
theorem dL_law_404 : decode cL_law 404 = .ok (.iconst 1, 1) := by decide +kernel
theorem dL_law_405 : decode cL_law 405 = .ok (.iadd, 1) := by decide +kernel
theorem dL_law_406 : decode cL_law 406 = .ok (.iaload, 1) := by decide +kernel
theorem dL_law_407 : decode cL_law 407 = .ok (.invokevirtual 52, 3) := by decide +kernel
theorem dL_law_410 : decode cL_law 410 = .ok (.aload_n 2, 1) := by decide +kernel
theorem dL_law_411 : decode cL_law 411 = .ok (.aload_n 0, 1) := by decide +kernel
theorem dL_law_412 : decode cL_law 412 = .ok (.iload_n 3, 1) := by decide +kernel
theorem dL_law_413 : decode cL_law 413 = .ok (.iconst 1, 1) := by decide +kernel
theorem dL_law_414 : decode cL_law 414 = .ok (.iadd, 1) := by decide +kernel
theorem dL_law_415 : decode cL_law 415 = .ok (.iaload, 1) := by decide +kernel
theorem dL_law_416 : decode cL_law 416 = .ok (.invokevirtual 55, 3) := by decide +kernel
theorem dL_law_419 : decode cL_law 419 = .ok (.if_icmp .eq 298, 3) := by decide +kernel
theorem dL_law_422 : decode cL_law 422 = .ok (.iconst 0, 1) := by decide +kernel
theorem dL_law_423 : decode cL_law 423 = .ok (.ireturn, 1) := by decide +kernel
theorem dL_law_424 : decode cL_law 424 = .ok (.aload_n 1, 1) := by decide +kernel
theorem dL_law_425 : decode cL_law 425 = .ok (.aload_n 0, 1) := by decide +kernel
theorem dL_law_426 : decode cL_law 426 = .ok (.iload_n 3, 1) := by decide +kernel
theorem dL_law_427 : decode cL_law 427 = .ok (.iconst 1, 1) := by decide +kernel
theorem dL_law_428 : decode cL_law 428 = .ok (.iadd, 1) := by decide +kernel
theorem dL_law_429 : decode cL_law 429 = .ok (.iaload, 1) := by decide +kernel
theorem dL_law_430 : decode cL_law 430 = .ok (.invokevirtual 56, 3) := by decide +kernel
theorem dL_law_433 : decode cL_law 433 = .ok (.aload_n 2, 1) := by decide +kernel
theorem dL_law_434 : decode cL_law 434 = .ok (.aload_n 0, 1) := by decide +kernel
theorem dL_law_435 : decode cL_law 435 = .ok (.iload_n 3, 1) := by decide +kernel
theorem dL_law_436 : decode cL_law 436 = .ok (.iconst 1, 1) := by decide +kernel
theorem dL_law_437 : decode cL_law 437 = .ok (.iadd, 1) := by decide +kernel
theorem dL_law_438 : decode cL_law 438 = .ok (.iaload, 1) := by decide +kernel
theorem dL_law_439 : decode cL_law 439 = .ok (.invokevirtual 59, 3) := by decide +kernel
theorem dL_law_442 : decode cL_law 442 = .ok (.if_icmp .eq 275, 3) := by decide +kernel
theorem dL_law_445 : decode cL_law 445 = .ok (.iconst 0, 1) := by decide +kernel
theorem dL_law_446 : decode cL_law 446 = .ok (.ireturn, 1) := by decide +kernel
theorem dL_law_447 : decode cL_law 447 = .ok (.aload_n 1, 1) := by decide +kernel
theorem dL_law_448 : decode cL_law 448 = .ok (.aload_n 0, 1) := by decide +kernel
theorem dL_law_449 : decode cL_law 449 = .ok (.iload_n 3, 1) := by decide +kernel
theorem dL_law_450 : decode cL_law 450 = .ok (.iconst 1, 1) := by decide +kernel
theorem dL_law_451 : decode cL_law 451 = .ok (.iadd, 1) := by decide +kernel
theorem dL_law_452 : decode cL_law 452 = .ok (.iaload, 1) := by decide +kernel
theorem dL_law_453 : decode cL_law 453 = .ok (.invokevirtual 60, 3) := by decide +kernel
theorem dL_law_456 : decode cL_law 456 = .ok (.aload_n 2, 1) := by decide +kernel
theorem dL_law_457 : decode cL_law 457 = .ok (.aload_n 0, 1) := by decide +kernel
theorem dL_law_458 : decode cL_law 458 = .ok (.iload_n 3, 1) := by decide +kernel
theorem dL_law_459 : decode cL_law 459 = .ok (.iconst 1, 1) := by decide +kernel
theorem dL_law_460 : decode cL_law 460 = .ok (.iadd, 1) := by decide +kernel
theorem dL_law_461 : decode cL_law 461 = .ok (.iaload, 1) := by decide +kernel
theorem dL_law_462 : decode cL_law 462 = .ok (.invokevirtual 63, 3) := by decide +kernel
theorem dL_law_465 : decode cL_law 465 = .ok (.if_icmp .eq 252, 3) := by decide +kernel
theorem dL_law_468 : decode cL_law 468 = .ok (.iconst 0, 1) := by decide +kernel
theorem dL_law_469 : decode cL_law 469 = .ok (.ireturn, 1) := by decide +kernel
theorem dL_law_470 : decode cL_law 470 = .ok (.aload_n 1, 1) := by decide +kernel
theorem dL_law_471 : decode cL_law 471 = .ok (.invokevirtual 64, 3) := by decide +kernel
theorem dL_law_474 : decode cL_law 474 = .ok (.aload_n 2, 1) := by decide +kernel
theorem dL_law_475 : decode cL_law 475 = .ok (.invokevirtual 68, 3) := by decide +kernel
theorem dL_law_478 : decode cL_law 478 = .ok (.if_icmp .eq 239, 3) := by decide +kernel
theorem dL_law_481 : decode cL_law 481 = .ok (.iconst 0, 1) := by decide +kernel
theorem dL_law_482 : decode cL_law 482 = .ok (.ireturn, 1) := by decide +kernel
theorem dL_law_483 : decode cL_law 483 = .ok (.aload_n 1, 1) := by decide +kernel
theorem dL_law_484 : decode cL_law 484 = .ok (.aload_n 0, 1) := by decide +kernel
theorem dL_law_485 : decode cL_law 485 = .ok (.iload_n 3, 1) := by decide +kernel
theorem dL_law_486 : decode cL_law 486 = .ok (.iconst 1, 1) := by decide +kernel
theorem dL_law_487 : decode cL_law 487 = .ok (.iadd, 1) := by decide +kernel
theorem dL_law_488 : decode cL_law 488 = .ok (.iaload, 1) := by decide +kernel
theorem dL_law_489 : decode cL_law 489 = .ok (.invokevirtual 69, 3) := by decide +kernel
theorem dL_law_492 : decode cL_law 492 = .ok (.aload_n 2, 1) := by decide +kernel
theorem dL_law_493 : decode cL_law 493 = .ok (.aload_n 0, 1) := by decide +kernel
theorem dL_law_494 : decode cL_law 494 = .ok (.iload_n 3, 1) := by decide +kernel
theorem dL_law_495 : decode cL_law 495 = .ok (.iconst 1, 1) := by decide +kernel
theorem dL_law_496 : decode cL_law 496 = .ok (.iadd, 1) := by decide +kernel
theorem dL_law_497 : decode cL_law 497 = .ok (.iaload, 1) := by decide +kernel
theorem dL_law_498 : decode cL_law 498 = .ok (.invokevirtual 72, 3) := by decide +kernel
theorem dL_law_501 : decode cL_law 501 = .ok (.if_icmp .eq 216, 3) := by decide +kernel
theorem dL_law_504 : decode cL_law 504 = .ok (.iconst 0, 1) := by decide +kernel
theorem dL_law_505 : decode cL_law 505 = .ok (.ireturn, 1) := by decide +kernel
theorem dL_law_506 : decode cL_law 506 = .ok (.aload_n 1, 1) := by decide +kernel
theorem dL_law_507 : decode cL_law 507 = .ok (.aload_n 0, 1) := by decide +kernel
theorem dL_law_508 : decode cL_law 508 = .ok (.iload_n 3, 1) := by decide +kernel
theorem dL_law_509 : decode cL_law 509 = .ok (.iconst 1, 1) := by decide +kernel
theorem dL_law_510 : decode cL_law 510 = .ok (.iadd, 1) := by decide +kernel
theorem dL_law_511 : decode cL_law 511 = .ok (.iaload, 1) := by decide +kernel
theorem dL_law_512 : decode cL_law 512 = .ok (.invokevirtual 73, 3) := by decide +kernel
theorem dL_law_515 : decode cL_law 515 = .ok (.aload_n 2, 1) := by decide +kernel
theorem dL_law_516 : decode cL_law 516 = .ok (.aload_n 0, 1) := by decide +kernel
theorem dL_law_517 : decode cL_law 517 = .ok (.iload_n 3, 1) := by decide +kernel
theorem dL_law_518 : decode cL_law 518 = .ok (.iconst 1, 1) := by decide +kernel
theorem dL_law_519 : decode cL_law 519 = .ok (.iadd, 1) := by decide +kernel
theorem dL_law_520 : decode cL_law 520 = .ok (.iaload, 1) := by decide +kernel
theorem dL_law_521 : decode cL_law 521 = .ok (.invokevirtual 76, 3) := by decide +kernel
theorem dL_law_524 : decode cL_law 524 = .ok (.if_icmp .eq 193, 3) := by decide +kernel
theorem dL_law_527 : decode cL_law 527 = .ok (.iconst 0, 1) := by decide +kernel
theorem dL_law_528 : decode cL_law 528 = .ok (.ireturn, 1) := by decide +kernel
theorem dL_law_529 : decode cL_law 529 = .ok (.aload_n 1, 1) := by decide +kernel
theorem dL_law_530 : decode cL_law 530 = .ok (.aload_n 0, 1) := by decide +kernel
theorem dL_law_531 : decode cL_law 531 = .ok (.iload_n 3, 1) := by decide +kernel
theorem dL_law_532 : decode cL_law 532 = .ok (.iconst 1, 1) := by decide +kernel
theorem dL_law_533 : decode cL_law 533 = .ok (.iadd, 1) := by decide +kernel
theorem dL_law_534 : decode cL_law 534 = .ok (.iaload, 1) := by decide +kernel
theorem dL_law_535 : decode cL_law 535 = .ok (.invokevirtual 77, 3) := by decide +kernel
theorem dL_law_538 : decode cL_law 538 = .ok (.aload_n 2, 1) := by decide +kernel
theorem dL_law_539 : decode cL_law 539 = .ok (.aload_n 0, 1) := by decide +kernel
theorem dL_law_540 : decode cL_law 540 = .ok (.iload_n 3, 1) := by decide +kernel
theorem dL_law_541 : decode cL_law 541 = .ok (.iconst 1, 1) := by decide +kernel
theorem dL_law_542 : decode cL_law 542 = .ok (.iadd, 1) := by decide +kernel
theorem dL_law_543 : decode cL_law 543 = .ok (.iaload, 1) := by decide +kernel
theorem dL_law_544 : decode cL_law 544 = .ok (.invokevirtual 80, 3) := by decide +kernel
theorem dL_law_547 : decode cL_law 547 = .ok (.if_icmp .eq 170, 3) := by decide +kernel
theorem dL_law_550 : decode cL_law 550 = .ok (.iconst 0, 1) := by decide +kernel
theorem dL_law_551 : decode cL_law 551 = .ok (.ireturn, 1) := by decide +kernel
theorem dL_law_552 : decode cL_law 552 = .ok (.aload_n 1, 1) := by decide +kernel
theorem dL_law_553 : decode cL_law 553 = .ok (.aload_n 0, 1) := by decide +kernel
theorem dL_law_554 : decode cL_law 554 = .ok (.iload_n 3, 1) := by decide +kernel
theorem dL_law_555 : decode cL_law 555 = .ok (.iconst 1, 1) := by decide +kernel
theorem dL_law_556 : decode cL_law 556 = .ok (.iadd, 1) := by decide +kernel
theorem dL_law_557 : decode cL_law 557 = .ok (.iaload, 1) := by decide +kernel
theorem dL_law_558 : decode cL_law 558 = .ok (.invokevirtual 81, 3) := by decide +kernel
theorem dL_law_561 : decode cL_law 561 = .ok (.aload_n 2, 1) := by decide +kernel
theorem dL_law_562 : decode cL_law 562 = .ok (.aload_n 0, 1) := by decide +kernel
theorem dL_law_563 : decode cL_law 563 = .ok (.iload_n 3, 1) := by decide +kernel
theorem dL_law_564 : decode cL_law 564 = .ok (.iconst 1, 1) := by decide +kernel
theorem dL_law_565 : decode cL_law 565 = .ok (.iadd, 1) := by decide +kernel
theorem dL_law_566 : decode cL_law 566 = .ok (.iaload, 1) := by decide +kernel
theorem dL_law_567 : decode cL_law 567 = .ok (.invokevirtual 84, 3) := by decide +kernel
theorem dL_law_570 : decode cL_law 570 = .ok (.if_icmp .eq 147, 3) := by decide +kernel
theorem dL_law_573 : decode cL_law 573 = .ok (.iconst 0, 1) := by decide +kernel
theorem dL_law_574 : decode cL_law 574 = .ok (.ireturn, 1) := by decide +kernel
theorem dL_law_575 : decode cL_law 575 = .ok (.aload_n 1, 1) := by decide +kernel
theorem dL_law_576 : decode cL_law 576 = .ok (.aload_n 0, 1) := by decide +kernel
theorem dL_law_577 : decode cL_law 577 = .ok (.iload_n 3, 1) := by decide +kernel
theorem dL_law_578 : decode cL_law 578 = .ok (.iconst 1, 1) := by decide +kernel
theorem dL_law_579 : decode cL_law 579 = .ok (.iadd, 1) := by decide +kernel
theorem dL_law_580 : decode cL_law 580 = .ok (.iaload, 1) := by decide +kernel
theorem dL_law_581 : decode cL_law 581 = .ok (.invokevirtual 85, 3) := by decide +kernel
theorem dL_law_584 : decode cL_law 584 = .ok (.aload_n 2, 1) := by decide +kernel
theorem dL_law_585 : decode cL_law 585 = .ok (.aload_n 0, 1) := by decide +kernel
theorem dL_law_586 : decode cL_law 586 = .ok (.iload_n 3, 1) := by decide +kernel
theorem dL_law_587 : decode cL_law 587 = .ok (.iconst 1, 1) := by decide +kernel
theorem dL_law_588 : decode cL_law 588 = .ok (.iadd, 1) := by decide +kernel
theorem dL_law_589 : decode cL_law 589 = .ok (.iaload, 1) := by decide +kernel
theorem dL_law_590 : decode cL_law 590 = .ok (.invokevirtual 88, 3) := by decide +kernel
theorem dL_law_593 : decode cL_law 593 = .ok (.if_icmp .eq 124, 3) := by decide +kernel
theorem dL_law_596 : decode cL_law 596 = .ok (.iconst 0, 1) := by decide +kernel
theorem dL_law_597 : decode cL_law 597 = .ok (.ireturn, 1) := by decide +kernel
theorem dL_law_598 : decode cL_law 598 = .ok (.aload_n 1, 1) := by decide +kernel
theorem dL_law_599 : decode cL_law 599 = .ok (.aload_n 0, 1) := by decide +kernel
theorem dL_law_600 : decode cL_law 600 = .ok (.iload_n 3, 1) := by decide +kernel
theorem dL_law_601 : decode cL_law 601 = .ok (.iconst 1, 1) := by decide +kernel
theorem dL_law_602 : decode cL_law 602 = .ok (.iadd, 1) := by decide +kernel
theorem dL_law_603 : decode cL_law 603 = .ok (.iaload, 1) := by decide +kernel
theorem dL_law_604 : decode cL_law 604 = .ok (.invokevirtual 89, 3) := by decide +kernel
theorem dL_law_607 : decode cL_law 607 = .ok (.aload_n 2, 1) := by decide +kernel
theorem dL_law_608 : decode cL_law 608 = .ok (.aload_n 0, 1) := by decide +kernel
theorem dL_law_609 : decode cL_law 609 = .ok (.iload_n 3, 1) := by decide +kernel
theorem dL_law_610 : decode cL_law 610 = .ok (.iconst 1, 1) := by decide +kernel
theorem dL_law_611 : decode cL_law 611 = .ok (.iadd, 1) := by decide +kernel
theorem dL_law_612 : decode cL_law 612 = .ok (.iaload, 1) := by decide +kernel
theorem dL_law_613 : decode cL_law 613 = .ok (.invokevirtual 92, 3) := by decide +kernel
theorem dL_law_616 : decode cL_law 616 = .ok (.if_icmp .eq 101, 3) := by decide +kernel
theorem dL_law_619 : decode cL_law 619 = .ok (.iconst 0, 1) := by decide +kernel
theorem dL_law_620 : decode cL_law 620 = .ok (.ireturn, 1) := by decide +kernel
theorem dL_law_621 : decode cL_law 621 = .ok (.aload_n 1, 1) := by decide +kernel
theorem dL_law_622 : decode cL_law 622 = .ok (.aload_n 0, 1) := by decide +kernel
theorem dL_law_623 : decode cL_law 623 = .ok (.iload_n 3, 1) := by decide +kernel
theorem dL_law_624 : decode cL_law 624 = .ok (.iconst 1, 1) := by decide +kernel
theorem dL_law_625 : decode cL_law 625 = .ok (.iadd, 1) := by decide +kernel
end
section
theorem dL_law_626 : decode cL_law 626 = .ok (.iaload, 1) := by decide +kernel
theorem dL_law_627 : decode cL_law 627 = .ok (.invokevirtual 93, 3) := by decide +kernel
theorem dL_law_630 : decode cL_law 630 = .ok (.aload_n 2, 1) := by decide +kernel
theorem dL_law_631 : decode cL_law 631 = .ok (.aload_n 0, 1) := by decide +kernel
theorem dL_law_632 : decode cL_law 632 = .ok (.iload_n 3, 1) := by decide +kernel
theorem dL_law_633 : decode cL_law 633 = .ok (.iconst 1, 1) := by decide +kernel
theorem dL_law_634 : decode cL_law 634 = .ok (.iadd, 1) := by decide +kernel
theorem dL_law_635 : decode cL_law 635 = .ok (.iaload, 1) := by decide +kernel
theorem dL_law_636 : decode cL_law 636 = .ok (.invokevirtual 96, 3) := by decide +kernel
theorem dL_law_639 : decode cL_law 639 = .ok (.if_icmp .eq 78, 3) := by decide +kernel
theorem dL_law_642 : decode cL_law 642 = .ok (.iconst 0, 1) := by decide +kernel
theorem dL_law_643 : decode cL_law 643 = .ok (.ireturn, 1) := by decide +kernel
theorem dL_law_644 : decode cL_law 644 = .ok (.aload_n 1, 1) := by decide +kernel
theorem dL_law_645 : decode cL_law 645 = .ok (.aload_n 0, 1) := by decide +kernel
theorem dL_law_646 : decode cL_law 646 = .ok (.iload_n 3, 1) := by decide +kernel
theorem dL_law_647 : decode cL_law 647 = .ok (.iconst 1, 1) := by decide +kernel
theorem dL_law_648 : decode cL_law 648 = .ok (.iadd, 1) := by decide +kernel
theorem dL_law_649 : decode cL_law 649 = .ok (.iaload, 1) := by decide +kernel
theorem dL_law_650 : decode cL_law 650 = .ok (.invokevirtual 97, 3) := by decide +kernel
theorem dL_law_653 : decode cL_law 653 = .ok (.aload_n 2, 1) := by decide +kernel
theorem dL_law_654 : decode cL_law 654 = .ok (.aload_n 0, 1) := by decide +kernel
theorem dL_law_655 : decode cL_law 655 = .ok (.iload_n 3, 1) := by decide +kernel
theorem dL_law_656 : decode cL_law 656 = .ok (.iconst 1, 1) := by decide +kernel
theorem dL_law_657 : decode cL_law 657 = .ok (.iadd, 1) := by decide +kernel
theorem dL_law_658 : decode cL_law 658 = .ok (.iaload, 1) := by decide +kernel
theorem dL_law_659 : decode cL_law 659 = .ok (.invokevirtual 100, 3) := by decide +kernel
theorem dL_law_662 : decode cL_law 662 = .ok (.if_icmp .eq 55, 3) := by decide +kernel
theorem dL_law_665 : decode cL_law 665 = .ok (.iconst 0, 1) := by decide +kernel
theorem dL_law_666 : decode cL_law 666 = .ok (.ireturn, 1) := by decide +kernel
theorem dL_law_667 : decode cL_law 667 = .ok (.aload_n 1, 1) := by decide +kernel
theorem dL_law_668 : decode cL_law 668 = .ok (.invokevirtual 101, 3) := by decide +kernel
theorem dL_law_671 : decode cL_law 671 = .ok (.aload_n 2, 1) := by decide +kernel
theorem dL_law_672 : decode cL_law 672 = .ok (.invokevirtual 104, 3) := by decide +kernel
theorem dL_law_675 : decode cL_law 675 = .ok (.if_icmp .eq 42, 3) := by decide +kernel
theorem dL_law_678 : decode cL_law 678 = .ok (.iconst 0, 1) := by decide +kernel
theorem dL_law_679 : decode cL_law 679 = .ok (.ireturn, 1) := by decide +kernel
theorem dL_law_680 : decode cL_law 680 = .ok (.aload_n 1, 1) := by decide +kernel
theorem dL_law_681 : decode cL_law 681 = .ok (.aload_n 0, 1) := by decide +kernel
theorem dL_law_682 : decode cL_law 682 = .ok (.iload_n 3, 1) := by decide +kernel
theorem dL_law_683 : decode cL_law 683 = .ok (.iconst 1, 1) := by decide +kernel
theorem dL_law_684 : decode cL_law 684 = .ok (.iadd, 1) := by decide +kernel
theorem dL_law_685 : decode cL_law 685 = .ok (.iaload, 1) := by decide +kernel
theorem dL_law_686 : decode cL_law 686 = .ok (.invokevirtual 105, 3) := by decide +kernel
theorem dL_law_689 : decode cL_law 689 = .ok (.aload_n 2, 1) := by decide +kernel
theorem dL_law_690 : decode cL_law 690 = .ok (.aload_n 0, 1) := by decide +kernel
theorem dL_law_691 : decode cL_law 691 = .ok (.iload_n 3, 1) := by decide +kernel
theorem dL_law_692 : decode cL_law 692 = .ok (.iconst 1, 1) := by decide +kernel
theorem dL_law_693 : decode cL_law 693 = .ok (.iadd, 1) := by decide +kernel
theorem dL_law_694 : decode cL_law 694 = .ok (.iaload, 1) := by decide +kernel
theorem dL_law_695 : decode cL_law 695 = .ok (.invokevirtual 108, 3) := by decide +kernel
theorem dL_law_698 : decode cL_law 698 = .ok (.if_icmp .eq 19, 3) := by decide +kernel
theorem dL_law_701 : decode cL_law 701 = .ok (.iconst 0, 1) := by decide +kernel
theorem dL_law_702 : decode cL_law 702 = .ok (.ireturn, 1) := by decide +kernel
theorem dL_law_703 : decode cL_law 703 = .ok (.aload_n 1, 1) := by decide +kernel
theorem dL_law_704 : decode cL_law 704 = .ok (.invokevirtual 109, 3) := by decide +kernel
theorem dL_law_707 : decode cL_law 707 = .ok (.aload_n 2, 1) := by decide +kernel
theorem dL_law_708 : decode cL_law 708 = .ok (.invokevirtual 113, 3) := by decide +kernel
theorem dL_law_711 : decode cL_law 711 = .ok (.lcmp, 1) := by decide +kernel
theorem dL_law_712 : decode cL_law 712 = .ok (.ifCond .eq 5, 3) := by decide +kernel
theorem dL_law_715 : decode cL_law 715 = .ok (.iconst 0, 1) := by decide +kernel
theorem dL_law_716 : decode cL_law 716 = .ok (.ireturn, 1) := by decide +kernel
theorem dL_law_717 : decode cL_law 717 = .ok (.iinc 3 4, 3) := by decide +kernel
theorem dL_law_720 : decode cL_law 720 = .ok (.goto (-702), 3) := by decide +kernel
theorem dL_law_723 : decode cL_law 723 = .ok (.iconst 1, 1) := by decide +kernel
theorem dL_law_724 : decode cL_law 724 = .ok (.ireturn, 1) := by decide +kernel
end
section
/-! words for the state -/
abbrev tyL (cI cS : ClassId) : List (ClassId × FieldType) := [(cI, .int), (cS, .object "StrikingWork$State")]
abbrev irem (x y : Int32) : Int32 := x - x / y * y
def e3 (f g h : Nat → Int32) : Nat → Nat → Int32 := fun w => if w = 0 then f else if w = 1 then g else h
/-- a State of the class: its seven cells at a 0 .. a 6, its numbers r 0 .. r 14, its rows e 0, e 1, e 2 -/
def stW (cI : ClassId) (a : Nat → Nat) (r : Nat → Int32) (e : Nat → Nat → Int32) (X : va_W) : va_W :=
  (a 0, .inr (0, [.ref (a 1), .ref (a 2), .ref (a 3), .int (r 0), .int (r 1), .int (r 2), .int (r 3)])) ::
  (a 1, .inr (2, [.int 0, .int (r 4), .int (r 5), .int (r 6), .int (r 7), .int (r 8)])) ::
  (a 2, .inr (2, [.int 1, .int (r 9), .int (r 10), .int (r 11), .int (r 12), .int (r 13)])) ::
  (a 3, .inr (1, [.ref (a 4), .ref (a 5), .ref (a 6), .int (r 14)])) ::
  (a 4, .inl (cI, 6, .inl (e 0))) :: (a 5, .inl (cI, 6, .inl (e 1))) :: (a 6, .inl (cI, 6, .inl (e 2))) :: X
/-- the five saved States -/
def svW (cI : ClassId) (sa : Nat → Nat → Nat) (sr : Nat → Nat → Int32) (se : Nat → Nat → Nat → Int32) (X : va_W) : va_W :=
  stW cI (sa 0) (sr 0) (se 0) (stW cI (sa 1) (sr 1) (se 1) (stW cI (sa 2) (sr 2) (se 2) (stW cI (sa 3) (sr 3) (se 3) (stW cI (sa 4) (sr 4) (se 4) X))))
/-! ===== my own layer: a world held in one hypothesis, contracts that name the answer and the world behind ===== -/
/-- a method's standing world: the tables, the cells, apart, nothing else changed since H0 -/
def Gd (D : va_G) (tys : List (ClassId × FieldType)) (A : Nat → Prop) (H0 : Heap) (s : State) (ws : va_W) (H : Heap) (locs : List Loc) : Prop :=
  va_K D vwCl tys s ∧ va_P D vwCl ws H ∧ va_D A ws ∧ va_S A H0 H locs ∧ ∀ q, H0.size ≤ q → A q
/-- cells put at places -/
def puts (ws : va_W) : List Nat → va_W → va_W
  | i :: is, e :: es => puts (ws.set i e) is es
  | _, _ => ws
theorem puts_key : ∀ (is : List Nat) (W1 ws : va_W) (k : Nat) (q : Nat × va_E), is.length = W1.length → (puts ws is W1)[k]? = some q → (∃ j : Nat, is[j]? = some k ∧ W1[j]? = some q) ∨ (k ∉ is ∧ ws[k]? = some q)
  | [], [], _, _, _, _, h => Or.inr ⟨List.not_mem_nil, h⟩
  | i :: is, e :: W1, ws, k, q, hl, h => by
    rcases puts_key is W1 (ws.set i e) k q (by simpa using hl) h with ⟨j, h1, h2⟩ | ⟨h1, h2⟩
    · exact Or.inl ⟨j + 1, by simpa using h1, by simpa using h2⟩
    · by_cases hk : k = i
      · subst hk
        have hlt : k < ws.length := by
          have := (List.getElem?_eq_some_iff.mp h2).1
          simpa using this
        rw [List.getElem?_set_self hlt] at h2
        cases h2
        exact Or.inl ⟨0, rfl, rfl⟩
      · rw [List.getElem?_set_ne (Ne.symm hk)] at h2
        exact Or.inr ⟨fun hm => by
          rcases List.mem_cons.mp hm with h | h
          · exact hk h
          · exact h1 h, h2⟩
theorem map_get {is : List Nat} {ws W0 : va_W} (hC : is.map (fun i => ws[i]?) = W0.map some) {j : Nat} {q : Nat × va_E} (h : W0[j]? = some q) : ∃ i : Nat, is[j]? = some i ∧ ws[i]? = some q := by
  have h1 : (is.map (fun i => ws[i]?))[j]? = some (some q) := by rw [hC, List.getElem?_map, h]; rfl
  rw [List.getElem?_map] at h1
  cases hi : is[j]? with
  | none => rw [hi] at h1; cases h1
  | some i => rw [hi] at h1; exact ⟨i, rfl, Option.some.inj h1⟩
theorem puts_old {A : Nat → Prop} {is : List Nat} {ws W0 W1 : va_W} (hC : is.map (fun i => ws[i]?) = W0.map some) (hf : W1.map Prod.fst = W0.map Prod.fst) {k : Nat} {q : Nat × va_E} (h : (puts ws is W1)[k]? = some q) : ∃ q0, ws[k]? = some q0 ∧ q0.1 = q.1 := by
  have hl : is.length = W1.length := by
    have e1 := congrArg List.length hC
    have e2 := congrArg List.length hf
    simp at e1 e2
    omega
  rcases puts_key is W1 ws k q hl h with ⟨j, h1, h2⟩ | ⟨-, h2⟩
  · have hlt : j < W0.length := by
      have e1 := (List.getElem?_eq_some_iff.mp h2).1
      have e2 := congrArg List.length hf
      simp at e2
      omega
    obtain ⟨q0, hq0⟩ : ∃ q0, W0[j]? = some q0 := ⟨_, List.getElem?_eq_getElem hlt⟩
    obtain ⟨i, g1, g2⟩ := map_get hC hq0
    have hik : i = k := Option.some.inj (g1.symm.trans h1)
    subst hik
    refine ⟨q0, g2, ?_⟩
    have e : (W1.map Prod.fst)[j]? = (W0.map Prod.fst)[j]? := by rw [hf]
    rw [List.getElem?_map, List.getElem?_map, h2, hq0] at e
    exact (Option.some.inj e).symm
  · exact ⟨q, h2, rfl⟩
theorem puts_D {A : Nat → Prop} {is : List Nat} {ws W0 W1 : va_W} (hD : va_D A ws) (hC : is.map (fun i => ws[i]?) = W0.map some) (hf : W1.map Prod.fst = W0.map Prod.fst) : va_D A (puts ws is W1) := by
  refine ⟨fun i j x y hx hy hxy => ?_, fun k q hk => ?_⟩
  · obtain ⟨x0, g1, g2⟩ := puts_old (A := A) hC hf hx
    obtain ⟨y0, g3, g4⟩ := puts_old (A := A) hC hf hy
    exact hD.1 i j x0 y0 g1 g3 (g2.trans (hxy.trans g4.symm))
  · obtain ⟨q0, g1, g2⟩ := puts_old (A := A) hC hf hk
    rw [← g2]
    exact hD.2 k q0 g1
theorem puts_P {A : Nat → Prop} {D : va_G} {cl : List vw_C} {is : List Nat} {ws W0 W1 : va_W} {H H1 : Heap} (hP : va_P D cl ws H) (hD : va_D A ws) (hC : is.map (fun i => ws[i]?) = W0.map some) (hf : W1.map Prod.fst = W0.map Prod.fst)
    (hk : ∀ q : Nat, q < H.size → ¬ va_A W0 H.size q → H1[q]? = H[q]?) (hP1 : va_P D cl W1 H1) : va_P D cl (puts ws is W1) H1 := by
  have hl : is.length = W1.length := by
    have e1 := congrArg List.length hC
    have e2 := congrArg List.length hf
    simp at e1 e2
    omega
  intro k q h
  rcases puts_key is W1 ws k q hl h with ⟨j, h1, h2⟩ | ⟨h1, h2⟩
  · exact hP1 j q h2
  · refine (hP k q h2).kept (hk q.1 (hP k q h2).lt (fun z => ?_))
    rcases z with ⟨k2, e, z⟩ | z
    · obtain ⟨i, g1, g2⟩ := map_get hC z
      have hki := hD.1 k i q (q.1, e) h2 g2 rfl
      subst hki
      exact h1 (List.mem_of_getElem? g1)
    · have := (hP k q h2).lt
      omega
/-- a contract's start, and its end: the world by its name -/
def kPre (D : va_G) (tys : List (ClassId × FieldType)) (W0 : va_W) (sz : Nat) : State → Prop := fun U => U.heap.size = sz ∧ va_P D vwCl W0 U.heap ∧ va_K D vwCl tys U ∧ va_D (fun _ => True) W0
def kPost (D : va_G) (tys : List (ClassId × FieldType)) (A : Nat → Prop) (W1 : va_W) (v : Option Value) (st : State) (o : Outcome) (t : State) : Prop := o = .returned v ∧ va_P D vwCl W1 t.heap ∧ va_K D vwCl tys t ∧ va_D A W1 ∧ va_F A st t
/-- THE CONTRACT: from any heap with the world W0, method y with arguments av returns v, and the heap holds W1 -/
def Ct (l : Launch) (y : MethodName) (wc : List Cond) (rm : Room) (D : va_G) (tys : List (ClassId × FieldType)) (av : List Value) (W0 : va_W) (v : Option Value) (W1 : va_W) : Prop :=
  ∀ sz, Met l y wc rm (va_Pc av (kPre D tys W0 sz)) (fun _ st o t => kPost D tys (va_A W0 sz) W1 v st o t) 0 0 (va_A W0 sz)
def QE (below : List Frame) (args : Array Value) (s : State) (D : va_G) (tys : List (ClassId × FieldType)) (A : Nat → Prop) (v : Option Value) (W1 : va_W) : State → Prop :=
  MQ below (fun _ st o t => kPost D tys A W1 v st o t) args s 0 0 A
theorem kPre_blind {D : va_G} {tys : List (ClassId × FieldType)} {W0 : va_W} {sz : Nat} {av : List Value} : FrameBlind (va_Pc av (kPre D tys W0 sz)) := by
  intro a U g mk q
  obtain ⟨q0, q1, qP, qK, qD⟩ := q
  exact ⟨q0, q1, qP, va_K.moved (u := U) (U := U.calling g mk a) (Vm.Alike.refl U.vm) qK, qD⟩
/-- a method's body, from its entry -/
theorem Ct.of {l : Launch} {y : MethodName} {wc wc' : List Cond} {rm : Room} {D : va_G} {tys : List (ClassId × FieldType)} {av : List Value} {W0 W1 : va_W} {v : Option Value} {cc : ByteArray} {maxL : Nat} {ret : Option FieldType}
    (hy : plainName y.cls = true) (hw : wc = Cond.code y cc maxL ret :: wc') (hav : (lg_sl av).length ≤ maxL)
    (body : ∀ (p : Program) (e : Env) (s : State) (m : MethodId) (args : Array Value) (below : List Frame) (meth : Method) (c : Code) (A : Nat → Prop) (ls : Array Slot), CallFix p m c cc maxL s args wc y.cls → meth.sig.returnType = ret → meth.locks = false → Gd D tys A s.heap s W0 s.heap [] → lv_has ls maxL (lv_args 0 av) →
      W p l e rm s m args below meth c s.heap [] 0 0 (QE below args s D tys A v W1) (F0 m 0 ls [])) : Ct l y wc rm D tys av W0 v W1 := by
  intro sz
  refine Met.ofW (cc := cc) (maxL := maxL) (ret := ret) hy hw ?_
  intro p e s m args below meth c s₁ B hml hv
  obtain ⟨rfl, hsz, hP, hK, hD0⟩ := hv
  have hts := atoms_spec (ws := wc) B.pre
  have hown : s.vm.findClass y.cls = some m.cls := findClass_of_methodNamed B.named
  subst hsz
  have hD := hD0.self (sz := s.heap.size)
  rw [lg_entry_eq]
  exact body p e s m av.toArray below meth c (va_A W0 s.heap.size) _ ⟨B.exec, B.bytes, hml, hown, hts⟩ B.returns B.notSynchronized ⟨hK, hP, hD, va_S.rf, fun q h => Or.inr h⟩ (lv_entry av hav)
section KB
variable {p : Program} {l : Launch} {e : Env} {R : Room} {s : State} {m : MethodId} {args : Array Value} {below : List Frame} {meth : Method} {c : Code} {H : Heap} {locs : List Loc} {cells slots : Nat} {Q : State → Prop}
variable {cc : ByteArray} {pc nL : Nat} {ls : Array Slot} {rest : List Value} {D : va_G} {A : Nat → Prop} {a : Nat} {tys : List (ClassId × FieldType)} {ws ws1 : va_W} {H0 : Heap} {Ts : List Cond} {own : String}
theorem Gd.eq (G : Gd D tys A H0 s ws H locs) (h : ws = ws1) : Gd D tys A H0 s ws1 H locs := h ▸ G
theorem k_get (S : CallFix p m c cc nL s args Ts own) (G : Gd D tys A H0 s ws H locs) (q0 : Nat) {ci : Nat} {fs : List Value} (he : ws[q0]? = some (a, .inr (ci, fs))) {C : String} {T : u_T} {N : Nat} (hc : vwCl[ci]? = some (C, T, N)) (hin : ∀ w ∈ u_ws C T N, w ∈ Ts) (k : Nat) (hk : k < N) {index : Nat} (hlink : (Cond.fieldLink own index (T k).1 (T k).2.1 (T k).2.2.1).before args s = true) {v : Value} (hv : fs[k]? = some v) (hdg : decode cc pc = .ok (.getfield index, 3))
    (kk : W p l e R s m args below meth c H locs cells slots Q (F0 m (pc + 3) ls (v :: rest))) : W p l e R s m args below meth c H locs cells slots Q (F0 m pc ls (.ref a :: rest)) :=
  va_get S.1 S.2.1 S.2.2.2.2 hin S.2.2.2.1 G.1 G.2.1 q0 he hc k hk hlink (fun _ h => h) hv hdg kk
theorem k_put (S : CallFix p m c cc nL s args Ts own) (G : Gd D tys A H0 s ws H locs) (q0 : Nat) {ci : Nat} {fs : List Value} (he : ws[q0]? = some (a, .inr (ci, fs))) {C : String} {T : u_T} {N : Nat} (hc : vwCl[ci]? = some (C, T, N)) (hin : ∀ w ∈ u_ws C T N, w ∈ Ts) (ty0 : Nat → FieldType) (hty : ∀ k, k < N → parseFieldDescriptor (T k).2.2.1 = some (ty0 k)) (hnm : ∀ a, a < N → ∀ b, b < N → a ≠ b → (T a).2.1 ≠ (T b).2.1) (k : Nat) (hk : k < N) {index : Nat} (hlink : (Cond.fieldLink own index (T k).1 (T k).2.1 (T k).2.2.1).before args s = true) (hfin : (T k).2.2.2 = false) {v : Value} (hn : narrow (ty0 k) v = v) (hfit : fits (ty0 k) v = true) (hl : k < fs.length) (hdg : decode cc pc = .ok (.putfield index, 3))
    (hw : ws.set q0 (a, .inr (ci, fs.set k v)) = ws1) (kk : ∀ (H1 : Heap) (locs1 : List Loc), Gd D tys A H0 s ws1 H1 locs1 → W p l e R s m args below meth c H1 locs1 cells slots Q (F0 m (pc + 3) ls rest)) : W p l e R s m args below meth c H locs cells slots Q (F0 m pc ls (v :: .ref a :: rest)) := by
  subst hw
  exact va_put S.1 S.2.1 S.2.2.2.2 hin ty0 hty hnm S.2.2.2.1 G.1 G.2.1 G.2.2.1 G.2.2.2.1 q0 he hc k hk hlink (fun _ h => h) hfin (hty k hk) hn hfit hl hdg (fun H1 locs1 hP hD hS => kk H1 locs1 ⟨G.1, hP, hD, hS, G.2.2.2.2⟩)
theorem k_iald (S : CallFix p m c cc nL s args Ts own) (G : Gd D tys A H0 s ws H locs) (q0 t0 : Nat) {cA : ClassId} {n : Nat} {f : Nat → Int32} (ha : ws[q0]? = some (a, .inl (cA, n, .inl f))) (ht : tys[t0]? = some (cA, .int)) {i : Int32} (hin : vp_in i n) {x : Int32} (hx : f i.toNatClampNeg = x) (hdg : decode cc pc = .ok (.iaload, 1))
    (kk : W p l e R s m args below meth c H locs cells slots Q (F0 m (pc + 1) ls (.int x :: rest))) : W p l e R s m args below meth c H locs cells slots Q (F0 m pc ls (.int i :: .ref a :: rest)) := by
  subst hx
  exact va_iald S.1 S.2.1 G.1 G.2.1 q0 t0 ha ht hin hdg kk
theorem k_iast (S : CallFix p m c cc nL s args Ts own) (G : Gd D tys A H0 s ws H locs) (q0 t0 : Nat) {cA : ClassId} {n : Nat} {f : Nat → Int32} (ha : ws[q0]? = some (a, .inl (cA, n, .inl f))) (ht : tys[t0]? = some (cA, .int)) {i x : Int32} (hin : vp_in i n) (hdg : decode cc pc = .ok (.iastore, 1))
    (hw : ws.set q0 (a, .inl (cA, n, .inl (upd f i.toNatClampNeg x))) = ws1) (kk : ∀ (H1 : Heap) (locs1 : List Loc), Gd D tys A H0 s ws1 H1 locs1 → W p l e R s m args below meth c H1 locs1 cells slots Q (F0 m (pc + 1) ls rest)) : W p l e R s m args below meth c H locs cells slots Q (F0 m pc ls (.int x :: .int i :: .ref a :: rest)) := by
  subst hw
  exact va_iast S.1 S.2.1 G.1 G.2.1 G.2.2.1 G.2.2.2.1 q0 t0 ha ht hin hdg (fun H1 locs1 hP hD hS => kk H1 locs1 ⟨G.1, hP, hD, hS, G.2.2.2.2⟩)
theorem k_aald (S : CallFix p m c cc nL s args Ts own) (G : Gd D tys A H0 s ws H locs) (q0 t0 : Nat) {cA : ClassId} {C : String} {n : Nat} {f : Nat → Option Nat} (ha : ws[q0]? = some (a, .inl (cA, n, .inr (.inr (.inr (.inr f)))))) (ht : tys[t0]? = some (cA, .object C)) {i : Int32} (hin : vp_in i n) {x : Nat} (hx : f i.toNatClampNeg = some x) (hdg : decode cc pc = .ok (.aaload, 1))
    (kk : W p l e R s m args below meth c H locs cells slots Q (F0 m (pc + 1) ls (.ref x :: rest))) : W p l e R s m args below meth c H locs cells slots Q (F0 m pc ls (.int i :: .ref a :: rest)) := by
  refine va_aldq S.1 S.2.1 G.1 G.2.1 q0 t0 ha ht hin hdg ?_
  rw [hx]
  exact kk
theorem k_aast (S : CallFix p m c cc nL s args Ts own) (G : Gd D tys A H0 s ws H locs) (q0 t0 qk ci : Nat) {cA : ClassId} {r : vw_C} {n v : Nat} {vs : List Value} {f : Nat → Option Nat} (ha : ws[q0]? = some (a, .inl (cA, n, .inr (.inr (.inr (.inr f)))))) (ht : tys[t0]? = some (cA, .object r.1)) (hv : ws[qk]? = some (v, .inr (ci, vs))) (hc : vwCl[ci]? = some r) {i : Int32} (hin : vp_in i n) (hdg : decode cc pc = .ok (.aastore, 1))
    (hw : ws.set q0 (a, .inl (cA, n, .inr (.inr (.inr (.inr (va_up f i.toNatClampNeg (some v))))))) = ws1) (kk : ∀ (H1 : Heap) (locs1 : List Loc), Gd D tys A H0 s ws1 H1 locs1 → W p l e R s m args below meth c H1 locs1 cells slots Q (F0 m (pc + 1) ls rest)) : W p l e R s m args below meth c H locs cells slots Q (F0 m pc ls (.ref v :: .int i :: .ref a :: rest)) := by
  subst hw
  exact va_astq S.1 S.2.1 G.1 G.2.1 G.2.2.1 G.2.2.2.1 q0 t0 qk ci ha ht hv hc hin hdg (fun H1 locs1 hP hD hS => kk H1 locs1 ⟨G.1, hP, hD, hS, G.2.2.2.2⟩)
/-- another function for an array's contents, alike below its length -/
theorem Gd.arr (G : Gd D tys A H0 s ws H locs) (q0 : Nat) {cA : ClassId} {n : Nat} {f : Nat → Int32} (g : Nat → Int32) (ha : ws[q0]? = some (a, .inl (cA, n, .inl f))) (hfg : ∀ i, i < n → f i = g i) (hw : ws.set q0 (a, .inl (cA, n, .inl g)) = ws1) : Gd D tys A H0 s ws1 H locs := by
  subst hw
  refine ⟨G.1, ?_, G.2.2.1.set ha, G.2.2.2.1, G.2.2.2.2⟩
  refine G.2.1.set G.2.2.1 ha ?_ (fun _ _ => rfl)
  have h0 : H[a]? = some (vp_cell cA (n, .inl f)) := G.2.1 q0 _ ha
  show H[a]? = some (vp_cell cA (n, .inl g))
  rw [h0, vp_cell_i, vp_cell_i]
  congr 1
  unfold arrV
  congr 2
  funext j
  show Value.int (f j.val) = Value.int (g j.val)
  rw [hfg j.val j.isLt]
/-- the same world, its cells in another order or fewer -/
theorem Gd.sub (G : Gd D tys A H0 s ws H locs) (is : List Nat) (hn : va_nd is = true) (hs : is.map (fun i => ws[i]?) = ws1.map some) : Gd D tys A H0 s ws1 H locs := by
  refine ⟨G.1, fun k q hk => ?_, G.2.2.1.sub is hn hs, G.2.2.2.1, G.2.2.2.2⟩
  obtain ⟨i, -, h2⟩ := map_get hs hk
  exact G.2.1 i q h2
/-- behind a call -/
theorem k_call {st0 st1 : List Value} {W0 W1 : va_W} {v : Option Value} (G : Gd D tys A H0 s ws H locs) (is : List Nat) (hC : is.map (fun i => ws[i]?) = W0.map some) (hf : W1.map Prod.fst = W0.map Prod.fst)
    (hr : va_Run p l e R s m args below meth c H locs cells slots 0 0 (F0 m pc ls st0) rest (fun st o t => kPost D tys (va_A W0 H.size) W1 v st o t) (va_A W0 H.size)) (hst : v.toList ++ rest = st1) (hw : puts ws is W1 = ws1)
    (kk : ∀ (H1 : Heap) (locs1 : List Loc), Gd D tys A H0 s ws1 H1 locs1 → W p l e R s m args below meth c H1 locs1 cells slots Q (F0 m (pc + 3) ls st1)) : W p l e R s m args below meth c H locs cells slots Q (F0 m pc ls st0) := by
  subst hst
  subst hw
  have hFc : ∀ q, va_A W0 H.size q → A q := va_free G.2.2.1 G.2.2.2.1 G.2.2.2.2 is hC
  have hS := G.2.2.2.1
  intro T hT X
  obtain ⟨v', st₀, t, T', L, h0, X', hL, e1, e2, ⟨hv, hP1, -, -, hz, hk⟩, st⟩ := hr T hT X
  cases hv
  rw [h0] at hz hk
  rw [← e1] at hP1 hz hk
  have G1 : Gd D tys A H0 s (puts ws is W1) T'.heap (locs ++ L) := by
    refine ⟨G.1, puts_P G.2.1 G.2.2.1 hC hf hk hP1, puts_D G.2.2.1 hC hf, ⟨Nat.le_trans hS.1 hz, fun q h1 h2 => ?_, fun q hq => ?_⟩, G.2.2.2.2⟩
    · rw [hk q (Nat.lt_of_lt_of_le h1 hS.1) (fun z => h2 (hFc q z))]
      exact hS.2.1 q h1 h2
    · rcases List.mem_append.mp hq with h | h
      · exact hS.2.2 q h
      · exact hFc _ (hL q h)
  obtain ⟨t2, a1, b1⟩ := kk T'.heap (locs ++ L) G1 T' rfl X'
  exact ⟨t2, st t2 a1, b1⟩
theorem kPre_of (G : Gd D tys A H0 s ws H locs) {W0 : va_W} {is : List Nat} (hn : va_nd is = true) (hC : is.map (fun i => ws[i]?) = W0.map some) {av : List Value} (U : State) (hU : U.heap = H) (hW : s.WarmedH U.vm) : va_Pc av (kPre D tys W0 H.size) av.toArray U := by
  refine ⟨rfl, by rw [hU], fun k q hk => ?_, va_K.moved hW.alike G.1, (G.2.2.1.sub is hn hC).weaken (fun _ _ _ _ => trivial)⟩
  obtain ⟨i, -, h2⟩ := map_get hC hk
  rw [hU]
  exact G.2.1 i q h2
theorem k_callV {y : MethodName} {wc wc' : List Cond} {rm : Room} {W0 W1 : va_W} {v : Option Value} {bytes : ByteArray} {maxL n index b ci N : Nat} {ret : Option FieldType} {C : String} {T : u_T} {fs : List Value} {As st0 st1 : List Value}
    (S : CallFix p m c cc nL s args Ts own) (G : Gd D tys A H0 s ws H locs) (hM : Ct l y wc rm D tys (.ref b :: As) W0 v W1) (hg : GoodIn Ts (wsV own index C y wc)) (hwc : wc = Cond.code y bytes maxL ret :: wc') (hd : y.cls = C ∧ y.cls ≠ "java/lang/invoke/MethodHandle" ∧ y.cls ≠ "java/lang/invoke/VarHandle" ∧ (parseMethodDescriptor y.desc).map (fun d => d.parameters.length) = some n) (hR : (rm.cells = 0 ∧ rm.slots = 0) ∧ rm.frames + 1 ≤ R.frames ∧ 8 + (maxL + 11) + rm.locals ≤ R.locals)
    (is : List Nat) (hn : va_nd is = true) (hC : is.map (fun i => ws[i]?) = W0.map some) (L : List Nat) (hf1 : W1.map Prod.fst = L) (hf0 : W0.map Prod.fst = L) (q0 : Nat) (he : ws[q0]? = some (b, .inr (ci, fs))) (hc : vwCl[ci]? = some (C, T, N)) (hlen : As.length = n) (hls : ls.size = nL) (hst0 : st0 = As.reverse ++ .ref b :: rest) (hrest : (rest.map fun v => v.category).sum ≤ 8) (hz : cells ≤ R.cells ∧ slots ≤ R.slots) (hdg : decode cc pc = .ok (.invokevirtual index, 3))
    (hst : v.toList ++ rest = st1) (hw : puts ws is W1 = ws1)
    (kk : ∀ (H1 : Heap) (locs1 : List Loc), Gd D tys A H0 s ws1 H1 locs1 → W p l e R s m args below meth c H1 locs1 cells slots Q (F0 m (pc + 3) ls st1)) : W p l e R s m args below meth c H locs cells slots Q (F0 m pc ls st0) :=
  k_call G is hC (hf1.trans hf0.symm) (va_runV (As := As) (rest := rest) S (hM H.size) (cwV n S.2.2.2.2 hg hwc hR.1.1 hR.1.2 hd hR.2) ⟨kPre_blind, va_recv G.1 G.2.1 hc he, fun U hU hW => kPre_of G hn hC U hU hW⟩ rfl hlen hls hst0 (lv_room hrest) hdg hz) hst hw kk
theorem k_callS {y : MethodName} {wc wc' : List Cond} {rm : Room} {W0 W1 : va_W} {v : Option Value} {bytes : ByteArray} {maxL n index : Nat} {ret : Option FieldType} {As st0 st1 : List Value}
    (S : CallFix p m c cc nL s args Ts own) (G : Gd D tys A H0 s ws H locs) (hM : Ct l y wc rm D tys As W0 v W1) (hg : GoodIn Ts (wsS own index y wc)) (hwc : wc = Cond.code y bytes maxL ret :: wc') (hd : y.cls = own ∧ y.cls ≠ "java/lang/invoke/MethodHandle" ∧ y.cls ≠ "java/lang/invoke/VarHandle" ∧ (parseMethodDescriptor y.desc).map (fun d => d.parameters.length) = some n) (hR : (rm.cells = 0 ∧ rm.slots = 0) ∧ rm.frames + 1 ≤ R.frames ∧ 8 + (maxL + 11) + rm.locals ≤ R.locals)
    (is : List Nat) (hn : va_nd is = true) (hC : is.map (fun i => ws[i]?) = W0.map some) (L : List Nat) (hf1 : W1.map Prod.fst = L) (hf0 : W0.map Prod.fst = L) (hlen : As.length = n) (hls : ls.size = nL) (hst0 : st0 = As.reverse ++ rest) (hrest : (rest.map fun v => v.category).sum ≤ 8) (hz : cells ≤ R.cells ∧ slots ≤ R.slots) (hdg : decode cc pc = .ok (.invokestatic index, 3))
    (hst : v.toList ++ rest = st1) (hw : puts ws is W1 = ws1)
    (kk : ∀ (H1 : Heap) (locs1 : List Loc), Gd D tys A H0 s ws1 H1 locs1 → W p l e R s m args below meth c H1 locs1 cells slots Q (F0 m (pc + 3) ls st1)) : W p l e R s m args below meth c H locs cells slots Q (F0 m pc ls st0) :=
  k_call G is hC (hf1.trans hf0.symm) (va_runS (As := As) (rest := rest) S (hM H.size) (cwS n S.2.2.2.2 hg hwc hR.1.1 hR.1.2 hd hR.2) ⟨kPre_blind, fun U hU hW => kPre_of G hn hC U hU hW⟩ rfl hlen hls hst0 (lv_room hrest) hdg hz) hst hw kk
theorem k_post {W1 : va_W} {v : Option Value} {t : State} (G : Gd D tys A s.heap s ws H locs) (hw : ws = W1) (ht : t.heap = H) (hW : s.WarmedH t.vm) : kPost D tys A W1 v s (.returned v) t := by
  subst hw
  exact ⟨rfl, by rw [ht]; exact G.2.1, va_K.moved hW.alike G.1, G.2.2.1, G.2.2.2.1.F ht⟩
theorem k_iret {W1 : va_W} {x r : Int32} (S : CallFix p m c cc nL s args Ts own) (G : Gd D tys A s.heap s ws H locs) (hr : meth.sig.returnType = some .int) (hlk : meth.locks = false) (hdg : decode cc pc = .ok (.ireturn, 1)) (hx : x = r) (hw : ws = W1) : W p l e R s m args below meth c H locs 0 0 (QE below args s D tys A (some (.int r)) W1) (F0 m pc ls [.int x]) := by
  subst hx
  exact W.iret (v := x) S.1 S.2.1 hr (fun t ht hW => k_post G hw ht hW) G.2.2.2.1.2.2 hdg hlk
theorem k_zret {W1 : va_W} {x r : Int32} (S : CallFix p m c cc nL s args Ts own) (G : Gd D tys A s.heap s ws H locs) (hr : meth.sig.returnType = some .boolean) (hlk : meth.locks = false) (hdg : decode cc pc = .ok (.ireturn, 1)) (hn : x = 0 ∨ x = 1) (hx : x = r) (hw : ws = W1) : W p l e R s m args below meth c H locs 0 0 (QE below args s D tys A (some (.int r)) W1) (F0 m pc ls [.int x]) := by
  subst hx
  exact W.zret (v := x) S.1 S.2.1 hr (by rcases hn with h | h <;> subst h <;> rfl) (fun t ht hW => k_post G hw ht hW) G.2.2.2.1.2.2 hdg hlk
theorem k_lret {W1 : va_W} {x r : Int64} (S : CallFix p m c cc nL s args Ts own) (G : Gd D tys A s.heap s ws H locs) (hr : meth.sig.returnType = some .long) (hlk : meth.locks = false) (hdg : decode cc pc = .ok (.lreturn, 1)) (hx : x = r) (hw : ws = W1) : W p l e R s m args below meth c H locs 0 0 (QE below args s D tys A (some (.long r)) W1) (F0 m pc ls [.long x]) := by
  subst hx
  exact W.lret (v := x) S.1 S.2.1 hr (fun t ht hW => k_post G hw ht hW) G.2.2.2.1.2.2 hdg hlk
theorem k_vret {W1 : va_W} (S : CallFix p m c cc nL s args Ts own) (G : Gd D tys A s.heap s ws H locs) (hr : meth.sig.returnType = none) (hlk : meth.locks = false) (hdg : decode cc pc = .ok (.return_, 1)) (hw : ws = W1) : W p l e R s m args below meth c H locs 0 0 (QE below args s D tys A none W1) (F0 m pc ls []) :=
  W.vret S.1 S.2.1 hr (fun t ht hW => k_post G hw ht hW) G.2.2.2.1.2.2 hdg hlk
theorem k_aret {W1 : va_W} {x r : Nat} {C : String} (S : CallFix p m c cc nL s args Ts own) (G : Gd D tys A s.heap s ws H locs) (hr : meth.sig.returnType = some (.object C)) (hlk : meth.locks = false) (hdg : decode cc pc = .ok (.areturn, 1)) (hx : x = r) (hw : ws = W1) : W p l e R s m args below meth c H locs 0 0 (QE below args s D tys A (some (.ref r)) W1) (F0 m pc ls [.ref x]) := by
  subst hx
  exact W.aret (v := .ref x) S.1 S.2.1 hr (Or.inl ⟨_, rfl⟩) (Or.inr ⟨_, rfl⟩) (fun t ht hW => k_post G hw ht hW) G.2.2.2.1.2.2 hdg hlk
theorem k_mmin (S : CallFix p m c cc nL s args Ts own) (hls : ls.size = nL) {index : Nat} (hlink : (Cond.methodLink own index Lib.Math.min.name).before args s = true) (hstat : (Cond.static Lib.Math.min.name).before args s = true) (hini : (Cond.initialized "java/lang/Math").before args s = true) (hcode : (Cond.code Lib.Math.min.name Lib.Math.min.code 2 (some .int)).before args s = true)
    (hframes : 1 ≤ R.frames) (hlocals : (rest.map fun v => v.category).sum + 13 ≤ R.locals) (hz : cells ≤ R.cells ∧ slots ≤ R.slots) {x y : Int32} (hdg : decode cc pc = .ok (.invokestatic index, 3))
    (kk : W p l e R s m args below meth c H locs cells slots Q (F0 m (pc + 3) ls (.int (if y < x then y else x) :: rest))) : W p l e R s m args below meth c H locs cells slots Q (F0 m pc ls (.int y :: .int x :: rest)) :=
  va_mmin S.1 S.2.1 (S.2.2.1.trans hls.symm) S.2.2.2.1 hlink hstat hini hcode hframes hlocals hz.1 hz.2 hdg kk
theorem lv_lit {x v : Int32} (h : x = v) (k : W p l e R s m args below meth c H locs cells slots Q (F0 m pc ls (.int v :: rest))) : W p l e R s m args below meth c H locs cells slots Q (F0 m pc ls (.int x :: rest)) := h ▸ k
/-- a call whose world is the whole of the caller's -/
theorem k_callA {y : MethodName} {wc wc' : List Cond} {rm : Room} {W1 : va_W} {v : Option Value} {bytes : ByteArray} {maxL n index b ci N : Nat} {ret : Option FieldType} {C : String} {T : u_T} {fs : List Value} {As st0 st1 : List Value}
    (S : CallFix p m c cc nL s args Ts own) (G : Gd D tys A H0 s ws H locs) (hM : Ct l y wc rm D tys (.ref b :: As) ws v W1) (hg : GoodIn Ts (wsV own index C y wc)) (hwc : wc = Cond.code y bytes maxL ret :: wc') (hd : y.cls = C ∧ y.cls ≠ "java/lang/invoke/MethodHandle" ∧ y.cls ≠ "java/lang/invoke/VarHandle" ∧ (parseMethodDescriptor y.desc).map (fun d => d.parameters.length) = some n) (hR : (rm.cells = 0 ∧ rm.slots = 0) ∧ rm.frames + 1 ≤ R.frames ∧ 8 + (maxL + 11) + rm.locals ≤ R.locals)
    (q0 : Nat) (he : ws[q0]? = some (b, .inr (ci, fs))) (hc : vwCl[ci]? = some (C, T, N)) (hlen : As.length = n) (hls : ls.size = nL) (hst0 : st0 = As.reverse ++ .ref b :: rest) (hrest : (rest.map fun v => v.category).sum ≤ 8) (hz : cells ≤ R.cells ∧ slots ≤ R.slots) (hdg : decode cc pc = .ok (.invokevirtual index, 3))
    (hst : v.toList ++ rest = st1) (hw : W1 = ws1)
    (kk : ∀ (H1 : Heap) (locs1 : List Loc), Gd D tys A H0 s ws1 H1 locs1 → W p l e R s m args below meth c H1 locs1 cells slots Q (F0 m (pc + 3) ls st1)) : W p l e R s m args below meth c H locs cells slots Q (F0 m pc ls st0) := by
  subst hst
  subst hw
  have hFc : ∀ q, va_A ws H.size q → A q := by
    intro q h
    rcases h with ⟨k, e, h⟩ | h
    · exact G.2.2.1.2 k (q, e) h
    · exact G.2.2.2.2 q (Nat.le_trans G.2.2.2.1.1 h)
  have hS := G.2.2.2.1
  have hr := va_runV (e := e) (below := below) (meth := meth) (locs := locs) (cells := cells) (slots := slots) (g := F0 m pc ls st0) (As := As) (rest := rest) S (hM H.size) (cwV n S.2.2.2.2 hg hwc hR.1.1 hR.1.2 hd hR.2) ⟨kPre_blind, va_recv G.1 G.2.1 hc he, fun U hU hW => ⟨rfl, by rw [hU], by rw [hU]; exact G.2.1, va_K.moved hW.alike G.1, G.2.2.1.weaken (fun _ _ _ _ => trivial)⟩⟩ rfl hlen hls hst0 (lv_room hrest) hdg hz
  intro T hT X
  obtain ⟨v', st₀, t, T', L, h0, X', hL, e1, e2, ⟨hv, hP1, -, hD1, hz1, hk⟩, st⟩ := hr T hT X
  cases hv
  rw [h0] at hz1 hk
  rw [← e1] at hP1 hz1 hk
  have G1 : Gd D tys A H0 s W1 T'.heap (locs ++ L) := by
    refine ⟨G.1, hP1, hD1.weaken (fun _ _ _ h => hFc _ h), ⟨Nat.le_trans hS.1 hz1, fun q h1 h2 => ?_, fun q hq => ?_⟩, G.2.2.2.2⟩
    · rw [hk q (Nat.lt_of_lt_of_le h1 hS.1) (fun z => h2 (hFc q z))]
      exact hS.2.1 q h1 h2
    · rcases List.mem_append.mp hq with h | h
      · exact hS.2.2 q h
      · exact hFc _ (hL q h)
  obtain ⟨t2, a1, b1⟩ := kk T'.heap (locs ++ L) G1 T' rfl X'
  exact ⟨t2, st t2 a1, b1⟩
end KB
end
section
def s_X2_lastPosition (n : Int32) : Int32 := (if n = 0 then 12 else 4)
set_option maxHeartbeats 4000000 in
set_option maxRecDepth 100000 in
theorem c_X2_lastPosition (l : Launch) (D : va_G) (cI cS : ClassId) (t : Nat) (n : Int32) (mm : Int32) (pp : Int32) (wt : Int32) (sd : Int32) (ms : Int32) : Ct l yX2_lastPosition wsX2_lastPosition ({ frames := 0, cells := 0, slots := 0, locals := 0 }) D (tyL cI cS) [.ref t] [(t, .inr (2, [.int n, .int mm, .int pp, .int wt, .int sd, .int ms]))] (some (.int (s_X2_lastPosition n))) [(t, .inr (2, [.int n, .int mm, .int pp, .int wt, .int sd, .int ms]))] := by
  refine Ct.of (cc := cX2_lastPosition) (maxL := 1) (ret := (some .int)) (by decide) rfl (Nat.le_of_ble_eq_true rfl) ?_
  intro p ev s m args below meth c A ls S hr hlk G hl
  have hx := S.1
  have hb := S.2.1
  have hown : s.vm.findClass RX2 = some m.cls := S.2.2.2.1
  have hts := S.2.2.2.2
  have hl : lv_has ls 1 [(0, .ref t)] := hl
  have hiX2 : ∀ w ∈ wsX20, w ∈ wsX2_lastPosition := by decide +kernel
  have hf27 := hts (.fieldLink RX2 27 "StrikingWork$Train" "number" "I") (by decide +kernel)
  refine lv_aload_n hx hb dX2_lastPosition_0 rfl (lv_at hl 0 rfl) ?_
  refine k_get (v := .int n) S G 0 rfl rfl hiX2 0 (by decide) hf27 rfl dX2_lastPosition_1 ?_
  refine lv_if_ne (tgt := 12) hx hb dX2_lastPosition_4 (by decide) (fun c_1 => ?_) (fun c_1 => ?_)
  · skip
    refine lv_iconst (v := 4) hx hb dX2_lastPosition_12 (by decide) ?_
    have es : (s_X2_lastPosition n) = 4 := by rw [s_X2_lastPosition, if_neg c_1]
    exact k_iret S G hr hlk dX2_lastPosition_13 (by first | (rw [es]; done) | (rw [es]; rfl) | (simp only [es]; done) | (simp only [es]; rfl)) rfl
  · skip
    refine lv_bipush (v := 12) hx hb dX2_lastPosition_7 (by decide) ?_
    refine lv_goto (tgt := 13) hx hb dX2_lastPosition_9 (by decide) ?_
    have es : (s_X2_lastPosition n) = 12 := by rw [s_X2_lastPosition, if_pos c_1]
    exact k_iret S G hr hlk dX2_lastPosition_13 (by first | (rw [es]; done) | (rw [es]; rfl) | (simp only [es]; done) | (simp only [es]; rfl)) rfl
def s_X2_period (n : Int32) : Int32 := (if n = 0 then 60 else 15)
set_option maxHeartbeats 4000000 in
set_option maxRecDepth 100000 in
theorem c_X2_period (l : Launch) (D : va_G) (cI cS : ClassId) (t : Nat) (n : Int32) (mm : Int32) (pp : Int32) (wt : Int32) (sd : Int32) (ms : Int32) : Ct l yX2_period wsX2_period ({ frames := 0, cells := 0, slots := 0, locals := 0 }) D (tyL cI cS) [.ref t] [(t, .inr (2, [.int n, .int mm, .int pp, .int wt, .int sd, .int ms]))] (some (.int (s_X2_period n))) [(t, .inr (2, [.int n, .int mm, .int pp, .int wt, .int sd, .int ms]))] := by
  refine Ct.of (cc := cX2_period) (maxL := 1) (ret := (some .int)) (by decide) rfl (Nat.le_of_ble_eq_true rfl) ?_
  intro p ev s m args below meth c A ls S hr hlk G hl
  have hx := S.1
  have hb := S.2.1
  have hown : s.vm.findClass RX2 = some m.cls := S.2.2.2.1
  have hts := S.2.2.2.2
  have hl : lv_has ls 1 [(0, .ref t)] := hl
  have hiX2 : ∀ w ∈ wsX20, w ∈ wsX2_period := by decide +kernel
  have hf27 := hts (.fieldLink RX2 27 "StrikingWork$Train" "number" "I") (by decide +kernel)
  refine lv_aload_n hx hb dX2_period_0 rfl (lv_at hl 0 rfl) ?_
  refine k_get (v := .int n) S G 0 rfl rfl hiX2 0 (by decide) hf27 rfl dX2_period_1 ?_
  refine lv_if_ne (tgt := 12) hx hb dX2_period_4 (by decide) (fun c_1 => ?_) (fun c_1 => ?_)
  · skip
    refine lv_bipush (v := 15) hx hb dX2_period_12 (by decide) ?_
    have es : (s_X2_period n) = 15 := by rw [s_X2_period, if_neg c_1]
    exact k_iret S G hr hlk dX2_period_14 (by first | (rw [es]; done) | (rw [es]; rfl) | (simp only [es]; done) | (simp only [es]; rfl)) rfl
  · skip
    refine lv_bipush (v := 60) hx hb dX2_period_7 (by decide) ?_
    refine lv_goto (tgt := 14) hx hb dX2_period_9 (by decide) ?_
    have es : (s_X2_period n) = 60 := by rw [s_X2_period, if_pos c_1]
    exact k_iret S G hr hlk dX2_period_14 (by first | (rw [es]; done) | (rw [es]; rfl) | (simp only [es]; done) | (simp only [es]; rfl)) rfl
def s_X2_lastReleaseUpTo (n : Int32) (q : Int32) : Int32 := (if n = 0 then (q - (irem q 60)) else (q - (irem q 15)))
set_option maxHeartbeats 4000000 in
set_option maxRecDepth 100000 in
theorem c_X2_lastReleaseUpTo (l : Launch) (D : va_G) (cI cS : ClassId) (t : Nat) (n : Int32) (mm : Int32) (pp : Int32) (wt : Int32) (sd : Int32) (ms : Int32) (q : Int32) : Ct l yX2_lastReleaseUpTo wsX2_lastReleaseUpTo ({ frames := 0, cells := 0, slots := 0, locals := 0 }) D (tyL cI cS) [.ref t, .int q] [(t, .inr (2, [.int n, .int mm, .int pp, .int wt, .int sd, .int ms]))] (some (.int (s_X2_lastReleaseUpTo n q))) [(t, .inr (2, [.int n, .int mm, .int pp, .int wt, .int sd, .int ms]))] := by
  refine Ct.of (cc := cX2_lastReleaseUpTo) (maxL := 2) (ret := (some .int)) (by decide) rfl (Nat.le_of_ble_eq_true rfl) ?_
  intro p ev s m args below meth c A ls S hr hlk G hl
  have hx := S.1
  have hb := S.2.1
  have hown : s.vm.findClass RX2 = some m.cls := S.2.2.2.1
  have hts := S.2.2.2.2
  have hl : lv_has ls 2 [(0, .ref t), (1, .int q)] := hl
  have hiX2 : ∀ w ∈ wsX20, w ∈ wsX2_lastReleaseUpTo := by decide +kernel
  have hf27 := hts (.fieldLink RX2 27 "StrikingWork$Train" "number" "I") (by decide +kernel)
  refine lv_aload_n hx hb dX2_lastReleaseUpTo_0 rfl (lv_at hl 0 rfl) ?_
  refine k_get (v := .int n) S G 0 rfl rfl hiX2 0 (by decide) hf27 rfl dX2_lastReleaseUpTo_1 ?_
  refine lv_if_ne (tgt := 16) hx hb dX2_lastReleaseUpTo_4 (by decide) (fun c_1 => ?_) (fun c_1 => ?_)
  · skip
    refine lv_iload_n hx hb dX2_lastReleaseUpTo_16 rfl (lv_at hl 1 rfl) ?_
    refine lv_iload_n hx hb dX2_lastReleaseUpTo_17 rfl (lv_at hl 1 rfl) ?_
    refine lv_bipush (v := 15) hx hb dX2_lastReleaseUpTo_18 (by decide) ?_
    refine lv_irem hx hb dX2_lastReleaseUpTo_20 (by decide) ?_
    refine lv_lit (v := (irem q 15)) rfl ?_
    refine lv_isub hx hb dX2_lastReleaseUpTo_21 ?_
    have es : (s_X2_lastReleaseUpTo n q) = (q - (irem q 15)) := by rw [s_X2_lastReleaseUpTo, if_neg c_1]
    exact k_iret S G hr hlk dX2_lastReleaseUpTo_22 (by first | (rw [es]; done) | (rw [es]; rfl) | (simp only [es]; done) | (simp only [es]; rfl)) rfl
  · skip
    refine lv_iload_n hx hb dX2_lastReleaseUpTo_7 rfl (lv_at hl 1 rfl) ?_
    refine lv_iload_n hx hb dX2_lastReleaseUpTo_8 rfl (lv_at hl 1 rfl) ?_
    refine lv_bipush (v := 60) hx hb dX2_lastReleaseUpTo_9 (by decide) ?_
    refine lv_irem hx hb dX2_lastReleaseUpTo_11 (by decide) ?_
    refine lv_lit (v := (irem q 60)) rfl ?_
    refine lv_isub hx hb dX2_lastReleaseUpTo_12 ?_
    refine lv_goto (tgt := 22) hx hb dX2_lastReleaseUpTo_13 (by decide) ?_
    have es : (s_X2_lastReleaseUpTo n q) = (q - (irem q 60)) := by rw [s_X2_lastReleaseUpTo, if_pos c_1]
    exact k_iret S G hr hlk dX2_lastReleaseUpTo_22 (by first | (rw [es]; done) | (rw [es]; rfl) | (simp only [es]; done) | (simp only [es]; rfl)) rfl
def s_X2_isReleasedAt (n : Int32) (q : Int32) : Int32 := (if (s_X2_lastReleaseUpTo n q) = q then 1 else 0)
set_option maxHeartbeats 4000000 in
set_option maxRecDepth 100000 in
theorem c_X2_isReleasedAt (l : Launch) (D : va_G) (cI cS : ClassId) (t : Nat) (n : Int32) (mm : Int32) (pp : Int32) (wt : Int32) (sd : Int32) (ms : Int32) (q : Int32) : Ct l yX2_isReleasedAt wsX2_isReleasedAt ({ frames := 1, cells := 0, slots := 0, locals := 21 }) D (tyL cI cS) [.ref t, .int q] [(t, .inr (2, [.int n, .int mm, .int pp, .int wt, .int sd, .int ms]))] (some (.int (s_X2_isReleasedAt n q))) [(t, .inr (2, [.int n, .int mm, .int pp, .int wt, .int sd, .int ms]))] := by
  refine Ct.of (cc := cX2_isReleasedAt) (maxL := 2) (ret := (some .boolean)) (by decide) rfl (Nat.le_of_ble_eq_true rfl) ?_
  intro p ev s m args below meth c A ls S hr hlk G hl
  have hx := S.1
  have hb := S.2.1
  have hown : s.vm.findClass RX2 = some m.cls := S.2.2.2.1
  have hts := S.2.2.2.2
  have hl : lv_has ls 2 [(0, .ref t), (1, .int q)] := hl
  refine lv_aload_n hx hb dX2_isReleasedAt_0 rfl (lv_at hl 0 rfl) ?_
  refine lv_iload_n hx hb dX2_isReleasedAt_1 rfl (lv_at hl 1 rfl) ?_
  refine k_callV (n := 1) (As := [.int q]) (rest := []) (st1 := [.int (s_X2_lastReleaseUpTo n q)]) (ws1 := [(t, .inr (2, [.int n, .int mm, .int pp, .int wt, .int sd, .int ms]))]) S G (c_X2_lastReleaseUpTo l D cI cS t n mm pp wt sd ms q) gX2_isReleasedAt_X2_lastReleaseUpTo rfl (by decide +kernel) ⟨⟨rfl, rfl⟩, Nat.le_of_ble_eq_true rfl, Nat.le_of_ble_eq_true rfl⟩ [0] (by decide) rfl [t] rfl rfl 0 rfl rfl rfl hl.1 rfl (Nat.le_of_ble_eq_true rfl) ⟨Nat.zero_le _, Nat.zero_le _⟩ dX2_isReleasedAt_2 rfl rfl (fun H locs G => ?_)
  refine lv_iload_n hx hb dX2_isReleasedAt_5 rfl (lv_at hl 1 rfl) ?_
  refine lv_icmp_ne (tgt := 13) hx hb dX2_isReleasedAt_6 (by decide) (fun c_1 => ?_) (fun c_1 => ?_)
  · skip
    refine lv_iconst (v := 0) hx hb dX2_isReleasedAt_13 (by decide) ?_
    have es : (s_X2_isReleasedAt n q) = 0 := by rw [s_X2_isReleasedAt, if_neg c_1]
    exact k_zret S G hr hlk dX2_isReleasedAt_14 (by decide) (by first | (rw [es]; done) | (rw [es]; rfl) | (simp only [es]; done) | (simp only [es]; rfl)) rfl
  · skip
    refine lv_iconst (v := 1) hx hb dX2_isReleasedAt_9 (by decide) ?_
    refine lv_goto (tgt := 14) hx hb dX2_isReleasedAt_10 (by decide) ?_
    have es : (s_X2_isReleasedAt n q) = 1 := by rw [s_X2_isReleasedAt, if_pos c_1]
    exact k_zret S G hr hlk dX2_isReleasedAt_14 (by decide) (by first | (rw [es]; done) | (rw [es]; rfl) | (simp only [es]; done) | (simp only [es]; rfl)) rfl
def s_X2_dueAt (n : Int32) (q : Int32) : Int32 := (if n = 0 then (if (irem (q / 60) 12) = 0 then (s_X2_lastPosition n) else (irem (q / 60) 12)) else (if (irem (q / 15) 4) = 0 then (s_X2_lastPosition n) else (irem (q / 15) 4)))
set_option maxHeartbeats 4000000 in
set_option maxRecDepth 100000 in
theorem c_X2_dueAt (l : Launch) (D : va_G) (cI cS : ClassId) (t : Nat) (n : Int32) (mm : Int32) (pp : Int32) (wt : Int32) (sd : Int32) (ms : Int32) (q : Int32) : Ct l yX2_dueAt wsX2_dueAt ({ frames := 1, cells := 0, slots := 0, locals := 20 }) D (tyL cI cS) [.ref t, .int q] [(t, .inr (2, [.int n, .int mm, .int pp, .int wt, .int sd, .int ms]))] (some (.int (s_X2_dueAt n q))) [(t, .inr (2, [.int n, .int mm, .int pp, .int wt, .int sd, .int ms]))] := by
  refine Ct.of (cc := cX2_dueAt) (maxL := 3) (ret := (some .int)) (by decide) rfl (Nat.le_of_ble_eq_true rfl) ?_
  intro p ev s m args below meth c A ls S hr hlk G hl
  have hx := S.1
  have hb := S.2.1
  have hown : s.vm.findClass RX2 = some m.cls := S.2.2.2.1
  have hts := S.2.2.2.2
  have hl : lv_has ls 3 [(0, .ref t), (1, .int q)] := hl
  have hiX2 : ∀ w ∈ wsX20, w ∈ wsX2_dueAt := by decide +kernel
  have hf27 := hts (.fieldLink RX2 27 "StrikingWork$Train" "number" "I") (by decide +kernel)
  refine lv_aload_n hx hb dX2_dueAt_0 rfl (lv_at hl 0 rfl) ?_
  refine k_get (v := .int n) S G 0 rfl rfl hiX2 0 (by decide) hf27 rfl dX2_dueAt_1 ?_
  refine lv_if_ne (tgt := 17) hx hb dX2_dueAt_4 (by decide) (fun c_1 => ?_) (fun c_1 => ?_)
  · skip
    refine lv_iload_n hx hb dX2_dueAt_17 rfl (lv_at hl 1 rfl) ?_
    refine lv_bipush (v := 15) hx hb dX2_dueAt_18 (by decide) ?_
    refine lv_idiv hx hb dX2_dueAt_20 (by decide) ?_
    refine lv_iconst (v := 4) hx hb dX2_dueAt_21 (by decide) ?_
    refine lv_irem hx hb dX2_dueAt_22 (by decide) ?_
    refine lv_lit (v := (irem (q / 15) 4)) rfl ?_
    refine lv_istore_n (lv' := [(2, .int (irem (q / 15) 4)), (0, .ref t), (1, .int q)]) hx hb dX2_dueAt_23 rfl hl (by decide) rfl (fun ls hl => ?_)
    refine lv_iload_n hx hb dX2_dueAt_24 rfl (lv_at hl 0 rfl) ?_
    refine lv_if_ne (tgt := 35) hx hb dX2_dueAt_25 (by decide) (fun c_2 => ?_) (fun c_2 => ?_)
    · skip
      refine lv_iload_n hx hb dX2_dueAt_35 rfl (lv_at hl 0 rfl) ?_
      have es : (s_X2_dueAt n q) = (irem (q / 15) 4) := by rw [s_X2_dueAt, if_neg c_1, if_neg c_2]
      exact k_iret S G hr hlk dX2_dueAt_36 (by first | (rw [es]; done) | (rw [es]; rfl) | (simp only [es]; done) | (simp only [es]; rfl)) rfl
    · skip
      refine lv_aload_n hx hb dX2_dueAt_28 rfl (lv_at hl 1 rfl) ?_
      refine k_callV (n := 0) (As := []) (rest := []) (st1 := [.int (s_X2_lastPosition n)]) (ws1 := [(t, .inr (2, [.int n, .int mm, .int pp, .int wt, .int sd, .int ms]))]) S G (c_X2_lastPosition l D cI cS t n mm pp wt sd ms) gX2_dueAt_X2_lastPosition rfl (by decide +kernel) ⟨⟨rfl, rfl⟩, Nat.le_of_ble_eq_true rfl, Nat.le_of_ble_eq_true rfl⟩ [0] (by decide) rfl [t] rfl rfl 0 rfl rfl rfl hl.1 rfl (Nat.le_of_ble_eq_true rfl) ⟨Nat.zero_le _, Nat.zero_le _⟩ dX2_dueAt_29 rfl rfl (fun H locs G => ?_)
      refine lv_goto (tgt := 36) hx hb dX2_dueAt_32 (by decide) ?_
      have es : (s_X2_dueAt n q) = (s_X2_lastPosition n) := by rw [s_X2_dueAt, if_neg c_1, if_pos c_2]
      exact k_iret S G hr hlk dX2_dueAt_36 (by first | (rw [es]; done) | (rw [es]; rfl) | (simp only [es]; done) | (simp only [es]; rfl)) rfl
  · skip
    refine lv_iload_n hx hb dX2_dueAt_7 rfl (lv_at hl 1 rfl) ?_
    refine lv_bipush (v := 60) hx hb dX2_dueAt_8 (by decide) ?_
    refine lv_idiv hx hb dX2_dueAt_10 (by decide) ?_
    refine lv_bipush (v := 12) hx hb dX2_dueAt_11 (by decide) ?_
    refine lv_irem hx hb dX2_dueAt_13 (by decide) ?_
    refine lv_lit (v := (irem (q / 60) 12)) rfl ?_
    refine lv_goto (tgt := 23) hx hb dX2_dueAt_14 (by decide) ?_
    refine lv_istore_n (lv' := [(2, .int (irem (q / 60) 12)), (0, .ref t), (1, .int q)]) hx hb dX2_dueAt_23 rfl hl (by decide) rfl (fun ls hl => ?_)
    refine lv_iload_n hx hb dX2_dueAt_24 rfl (lv_at hl 0 rfl) ?_
    refine lv_if_ne (tgt := 35) hx hb dX2_dueAt_25 (by decide) (fun c_3 => ?_) (fun c_3 => ?_)
    · skip
      refine lv_iload_n hx hb dX2_dueAt_35 rfl (lv_at hl 0 rfl) ?_
      have es : (s_X2_dueAt n q) = (irem (q / 60) 12) := by rw [s_X2_dueAt, if_pos c_1, if_neg c_3]
      exact k_iret S G hr hlk dX2_dueAt_36 (by first | (rw [es]; done) | (rw [es]; rfl) | (simp only [es]; done) | (simp only [es]; rfl)) rfl
    · skip
      refine lv_aload_n hx hb dX2_dueAt_28 rfl (lv_at hl 1 rfl) ?_
      refine k_callV (n := 0) (As := []) (rest := []) (st1 := [.int (s_X2_lastPosition n)]) (ws1 := [(t, .inr (2, [.int n, .int mm, .int pp, .int wt, .int sd, .int ms]))]) S G (c_X2_lastPosition l D cI cS t n mm pp wt sd ms) gX2_dueAt_X2_lastPosition rfl (by decide +kernel) ⟨⟨rfl, rfl⟩, Nat.le_of_ble_eq_true rfl, Nat.le_of_ble_eq_true rfl⟩ [0] (by decide) rfl [t] rfl rfl 0 rfl rfl rfl hl.1 rfl (Nat.le_of_ble_eq_true rfl) ⟨Nat.zero_le _, Nat.zero_le _⟩ dX2_dueAt_29 rfl rfl (fun H locs G => ?_)
      refine lv_goto (tgt := 36) hx hb dX2_dueAt_32 (by decide) ?_
      have es : (s_X2_dueAt n q) = (s_X2_lastPosition n) := by rw [s_X2_dueAt, if_pos c_1, if_pos c_3]
      exact k_iret S G hr hlk dX2_dueAt_36 (by first | (rw [es]; done) | (rw [es]; rfl) | (simp only [es]; done) | (simp only [es]; rfl)) rfl
def s_X2_dueAfter (n : Int32) (q : Int32) : Int32 := (s_X2_dueAt n (q + (s_X2_period n)))
set_option maxHeartbeats 4000000 in
set_option maxRecDepth 100000 in
theorem c_X2_dueAfter (l : Launch) (D : va_G) (cI cS : ClassId) (t : Nat) (n : Int32) (mm : Int32) (pp : Int32) (wt : Int32) (sd : Int32) (ms : Int32) (q : Int32) : Ct l yX2_dueAfter wsX2_dueAfter ({ frames := 2, cells := 0, slots := 0, locals := 42 }) D (tyL cI cS) [.ref t, .int q] [(t, .inr (2, [.int n, .int mm, .int pp, .int wt, .int sd, .int ms]))] (some (.int (s_X2_dueAfter n q))) [(t, .inr (2, [.int n, .int mm, .int pp, .int wt, .int sd, .int ms]))] := by
  refine Ct.of (cc := cX2_dueAfter) (maxL := 2) (ret := (some .int)) (by decide) rfl (Nat.le_of_ble_eq_true rfl) ?_
  intro p ev s m args below meth c A ls S hr hlk G hl
  have hx := S.1
  have hb := S.2.1
  have hown : s.vm.findClass RX2 = some m.cls := S.2.2.2.1
  have hts := S.2.2.2.2
  have hl : lv_has ls 2 [(0, .ref t), (1, .int q)] := hl
  refine lv_aload_n hx hb dX2_dueAfter_0 rfl (lv_at hl 0 rfl) ?_
  refine lv_iload_n hx hb dX2_dueAfter_1 rfl (lv_at hl 1 rfl) ?_
  refine lv_aload_n hx hb dX2_dueAfter_2 rfl (lv_at hl 0 rfl) ?_
  refine k_callV (n := 0) (As := []) (rest := [.int q, .ref t]) (st1 := [.int (s_X2_period n), .int q, .ref t]) (ws1 := [(t, .inr (2, [.int n, .int mm, .int pp, .int wt, .int sd, .int ms]))]) S G (c_X2_period l D cI cS t n mm pp wt sd ms) gX2_dueAfter_X2_period rfl (by decide +kernel) ⟨⟨rfl, rfl⟩, Nat.le_of_ble_eq_true rfl, Nat.le_of_ble_eq_true rfl⟩ [0] (by decide) rfl [t] rfl rfl 0 rfl rfl rfl hl.1 rfl (Nat.le_of_ble_eq_true rfl) ⟨Nat.zero_le _, Nat.zero_le _⟩ dX2_dueAfter_3 rfl rfl (fun H locs G => ?_)
  refine lv_iadd hx hb dX2_dueAfter_6 ?_
  refine k_callV (n := 1) (As := [.int (q + (s_X2_period n))]) (rest := []) (st1 := [.int (s_X2_dueAt n (q + (s_X2_period n)))]) (ws1 := [(t, .inr (2, [.int n, .int mm, .int pp, .int wt, .int sd, .int ms]))]) S G (c_X2_dueAt l D cI cS t n mm pp wt sd ms (q + (s_X2_period n))) gX2_dueAfter_X2_dueAt rfl (by decide +kernel) ⟨⟨rfl, rfl⟩, Nat.le_of_ble_eq_true rfl, Nat.le_of_ble_eq_true rfl⟩ [0] (by decide) rfl [t] rfl rfl 0 rfl rfl rfl hl.1 rfl (Nat.le_of_ble_eq_true rfl) ⟨Nat.zero_le _, Nat.zero_le _⟩ dX2_dueAfter_7 rfl rfl (fun H locs G => ?_)
  have es : (s_X2_dueAfter n q) = (s_X2_dueAt n (q + (s_X2_period n))) := rfl
  exact k_iret S G hr hlk dX2_dueAfter_10 (by first | (rw [es]; done) | (rw [es]; rfl) | (simp only [es]; done) | (simp only [es]; rfl)) rfl
def s_X2_positionAfter (n : Int32) (q : Int32) : Int32 := (if q = (s_X2_lastPosition n) then 1 else (q + 1))
set_option maxHeartbeats 4000000 in
set_option maxRecDepth 100000 in
theorem c_X2_positionAfter (l : Launch) (D : va_G) (cI cS : ClassId) (t : Nat) (n : Int32) (mm : Int32) (pp : Int32) (wt : Int32) (sd : Int32) (ms : Int32) (q : Int32) : Ct l yX2_positionAfter wsX2_positionAfter ({ frames := 1, cells := 0, slots := 0, locals := 20 }) D (tyL cI cS) [.ref t, .int q] [(t, .inr (2, [.int n, .int mm, .int pp, .int wt, .int sd, .int ms]))] (some (.int (s_X2_positionAfter n q))) [(t, .inr (2, [.int n, .int mm, .int pp, .int wt, .int sd, .int ms]))] := by
  refine Ct.of (cc := cX2_positionAfter) (maxL := 2) (ret := (some .int)) (by decide) rfl (Nat.le_of_ble_eq_true rfl) ?_
  intro p ev s m args below meth c A ls S hr hlk G hl
  have hx := S.1
  have hb := S.2.1
  have hown : s.vm.findClass RX2 = some m.cls := S.2.2.2.1
  have hts := S.2.2.2.2
  have hl : lv_has ls 2 [(0, .ref t), (1, .int q)] := hl
  refine lv_iload_n hx hb dX2_positionAfter_0 rfl (lv_at hl 1 rfl) ?_
  refine lv_aload_n hx hb dX2_positionAfter_1 rfl (lv_at hl 0 rfl) ?_
  refine k_callV (n := 0) (As := []) (rest := [.int q]) (st1 := [.int (s_X2_lastPosition n), .int q]) (ws1 := [(t, .inr (2, [.int n, .int mm, .int pp, .int wt, .int sd, .int ms]))]) S G (c_X2_lastPosition l D cI cS t n mm pp wt sd ms) gX2_positionAfter_X2_lastPosition rfl (by decide +kernel) ⟨⟨rfl, rfl⟩, Nat.le_of_ble_eq_true rfl, Nat.le_of_ble_eq_true rfl⟩ [0] (by decide) rfl [t] rfl rfl 0 rfl rfl rfl hl.1 rfl (Nat.le_of_ble_eq_true rfl) ⟨Nat.zero_le _, Nat.zero_le _⟩ dX2_positionAfter_2 rfl rfl (fun H locs G => ?_)
  refine lv_icmp_ne (tgt := 12) hx hb dX2_positionAfter_5 (by decide) (fun c_1 => ?_) (fun c_1 => ?_)
  · skip
    refine lv_iload_n hx hb dX2_positionAfter_12 rfl (lv_at hl 1 rfl) ?_
    refine lv_iconst (v := 1) hx hb dX2_positionAfter_13 (by decide) ?_
    refine lv_iadd hx hb dX2_positionAfter_14 ?_
    have es : (s_X2_positionAfter n q) = (q + 1) := by rw [s_X2_positionAfter, if_neg c_1]
    exact k_iret S G hr hlk dX2_positionAfter_15 (by first | (rw [es]; done) | (rw [es]; rfl) | (simp only [es]; done) | (simp only [es]; rfl)) rfl
  · skip
    refine lv_iconst (v := 1) hx hb dX2_positionAfter_8 (by decide) ?_
    refine lv_goto (tgt := 15) hx hb dX2_positionAfter_9 (by decide) ?_
    have es : (s_X2_positionAfter n q) = 1 := by rw [s_X2_positionAfter, if_pos c_1]
    exact k_iret S G hr hlk dX2_positionAfter_15 (by first | (rw [es]; done) | (rw [es]; rfl) | (simp only [es]; done) | (simp only [es]; rfl)) rfl
def s_X2_lagAt (n : Int32) (mm : Int32) (pp : Int32) (q : Int32) : Int32 := (if mm = 1 then (if 0 ≤ ((s_X2_dueAfter n q) - pp) then ((s_X2_dueAfter n q) - pp) else (((s_X2_dueAfter n q) - pp) + (s_X2_lastPosition n))) else 0)
set_option maxHeartbeats 4000000 in
set_option maxRecDepth 100000 in
theorem c_X2_lagAt (l : Launch) (D : va_G) (cI cS : ClassId) (t : Nat) (n : Int32) (mm : Int32) (pp : Int32) (wt : Int32) (sd : Int32) (ms : Int32) (q : Int32) : Ct l yX2_lagAt wsX2_lagAt ({ frames := 3, cells := 0, slots := 0, locals := 63 }) D (tyL cI cS) [.ref t, .int q] [(t, .inr (2, [.int n, .int mm, .int pp, .int wt, .int sd, .int ms]))] (some (.int (s_X2_lagAt n mm pp q))) [(t, .inr (2, [.int n, .int mm, .int pp, .int wt, .int sd, .int ms]))] := by
  refine Ct.of (cc := cX2_lagAt) (maxL := 3) (ret := (some .int)) (by decide) rfl (Nat.le_of_ble_eq_true rfl) ?_
  intro p ev s m args below meth c A ls S hr hlk G hl
  have hx := S.1
  have hb := S.2.1
  have hown : s.vm.findClass RX2 = some m.cls := S.2.2.2.1
  have hts := S.2.2.2.2
  have hl : lv_has ls 3 [(0, .ref t), (1, .int q)] := hl
  have hiX2 : ∀ w ∈ wsX20, w ∈ wsX2_lagAt := by decide +kernel
  have hf9 := hts (.fieldLink RX2 9 "StrikingWork$Train" "mechanism" "I") (by decide +kernel)
  have hf15 := hts (.fieldLink RX2 15 "StrikingWork$Train" "position" "I") (by decide +kernel)
  refine lv_aload_n hx hb dX2_lagAt_0 rfl (lv_at hl 0 rfl) ?_
  refine k_get (v := .int mm) S G 0 rfl rfl hiX2 1 (by decide) hf9 rfl dX2_lagAt_1 ?_
  refine lv_iconst (v := 1) hx hb dX2_lagAt_4 (by decide) ?_
  refine lv_icmp_eq (tgt := 10) hx hb dX2_lagAt_5 (by decide) (fun c_1 => ?_) (fun c_1 => ?_)
  · skip
    refine lv_aload_n hx hb dX2_lagAt_10 rfl (lv_at hl 0 rfl) ?_
    refine lv_iload_n hx hb dX2_lagAt_11 rfl (lv_at hl 1 rfl) ?_
    refine k_callV (n := 1) (As := [.int q]) (rest := []) (st1 := [.int (s_X2_dueAfter n q)]) (ws1 := [(t, .inr (2, [.int n, .int mm, .int pp, .int wt, .int sd, .int ms]))]) S G (c_X2_dueAfter l D cI cS t n mm pp wt sd ms q) gX2_lagAt_X2_dueAfter rfl (by decide +kernel) ⟨⟨rfl, rfl⟩, Nat.le_of_ble_eq_true rfl, Nat.le_of_ble_eq_true rfl⟩ [0] (by decide) rfl [t] rfl rfl 0 rfl rfl rfl hl.1 rfl (Nat.le_of_ble_eq_true rfl) ⟨Nat.zero_le _, Nat.zero_le _⟩ dX2_lagAt_12 rfl rfl (fun H locs G => ?_)
    refine lv_aload_n hx hb dX2_lagAt_15 rfl (lv_at hl 0 rfl) ?_
    refine k_get (v := .int pp) S G 0 rfl rfl hiX2 2 (by decide) hf15 rfl dX2_lagAt_16 ?_
    refine lv_isub hx hb dX2_lagAt_19 ?_
    refine lv_istore_n (lv' := [(2, .int ((s_X2_dueAfter n q) - pp)), (0, .ref t), (1, .int q)]) hx hb dX2_lagAt_20 rfl hl (by decide) rfl (fun ls hl => ?_)
    refine lv_iload_n hx hb dX2_lagAt_21 rfl (lv_at hl 0 rfl) ?_
    refine lv_if_ge (tgt := 34) hx hb dX2_lagAt_22 (by decide) (fun c_2 => ?_) (fun c_2 => ?_)
    · skip
      refine lv_iload_n hx hb dX2_lagAt_34 rfl (lv_at hl 0 rfl) ?_
      have es : (s_X2_lagAt n mm pp q) = ((s_X2_dueAfter n q) - pp) := by rw [s_X2_lagAt, if_pos c_1, if_pos c_2]
      exact k_iret S G hr hlk dX2_lagAt_35 (by first | (rw [es]; done) | (rw [es]; rfl) | (simp only [es]; done) | (simp only [es]; rfl)) rfl
    · skip
      refine lv_iload_n hx hb dX2_lagAt_25 rfl (lv_at hl 0 rfl) ?_
      refine lv_aload_n hx hb dX2_lagAt_26 rfl (lv_at hl 1 rfl) ?_
      refine k_callV (n := 0) (As := []) (rest := [.int ((s_X2_dueAfter n q) - pp)]) (st1 := [.int (s_X2_lastPosition n), .int ((s_X2_dueAfter n q) - pp)]) (ws1 := [(t, .inr (2, [.int n, .int mm, .int pp, .int wt, .int sd, .int ms]))]) S G (c_X2_lastPosition l D cI cS t n mm pp wt sd ms) gX2_lagAt_X2_lastPosition rfl (by decide +kernel) ⟨⟨rfl, rfl⟩, Nat.le_of_ble_eq_true rfl, Nat.le_of_ble_eq_true rfl⟩ [0] (by decide) rfl [t] rfl rfl 0 rfl rfl rfl hl.1 rfl (Nat.le_of_ble_eq_true rfl) ⟨Nat.zero_le _, Nat.zero_le _⟩ dX2_lagAt_27 rfl rfl (fun H locs G => ?_)
      refine lv_iadd hx hb dX2_lagAt_30 ?_
      refine lv_goto (tgt := 35) hx hb dX2_lagAt_31 (by decide) ?_
      have es : (s_X2_lagAt n mm pp q) = (((s_X2_dueAfter n q) - pp) + (s_X2_lastPosition n)) := by rw [s_X2_lagAt, if_pos c_1, if_neg c_2]
      exact k_iret S G hr hlk dX2_lagAt_35 (by first | (rw [es]; done) | (rw [es]; rfl) | (simp only [es]; done) | (simp only [es]; rfl)) rfl
  · skip
    refine lv_iconst (v := 0) hx hb dX2_lagAt_8 (by decide) ?_
    have es : (s_X2_lagAt n mm pp q) = 0 := by rw [s_X2_lagAt, if_neg c_1]
    exact k_iret S G hr hlk dX2_lagAt_9 (by first | (rw [es]; done) | (rw [es]; rfl) | (simp only [es]; done) | (simp only [es]; rfl)) rfl
def s_X2_blowsFor (mm : Int32) (pp : Int32) (q : Int32) : Int32 := (if mm = 1 then pp else q)
set_option maxHeartbeats 4000000 in
set_option maxRecDepth 100000 in
theorem c_X2_blowsFor (l : Launch) (D : va_G) (cI cS : ClassId) (t : Nat) (n : Int32) (mm : Int32) (pp : Int32) (wt : Int32) (sd : Int32) (ms : Int32) (q : Int32) : Ct l yX2_blowsFor wsX2_blowsFor ({ frames := 0, cells := 0, slots := 0, locals := 0 }) D (tyL cI cS) [.ref t, .int q] [(t, .inr (2, [.int n, .int mm, .int pp, .int wt, .int sd, .int ms]))] (some (.int (s_X2_blowsFor mm pp q))) [(t, .inr (2, [.int n, .int mm, .int pp, .int wt, .int sd, .int ms]))] := by
  refine Ct.of (cc := cX2_blowsFor) (maxL := 2) (ret := (some .int)) (by decide) rfl (Nat.le_of_ble_eq_true rfl) ?_
  intro p ev s m args below meth c A ls S hr hlk G hl
  have hx := S.1
  have hb := S.2.1
  have hown : s.vm.findClass RX2 = some m.cls := S.2.2.2.1
  have hts := S.2.2.2.2
  have hl : lv_has ls 2 [(0, .ref t), (1, .int q)] := hl
  have hiX2 : ∀ w ∈ wsX20, w ∈ wsX2_blowsFor := by decide +kernel
  have hf9 := hts (.fieldLink RX2 9 "StrikingWork$Train" "mechanism" "I") (by decide +kernel)
  have hf15 := hts (.fieldLink RX2 15 "StrikingWork$Train" "position" "I") (by decide +kernel)
  refine lv_aload_n hx hb dX2_blowsFor_0 rfl (lv_at hl 0 rfl) ?_
  refine k_get (v := .int mm) S G 0 rfl rfl hiX2 1 (by decide) hf9 rfl dX2_blowsFor_1 ?_
  refine lv_iconst (v := 1) hx hb dX2_blowsFor_4 (by decide) ?_
  refine lv_icmp_ne (tgt := 15) hx hb dX2_blowsFor_5 (by decide) (fun c_1 => ?_) (fun c_1 => ?_)
  · skip
    refine lv_iload_n hx hb dX2_blowsFor_15 rfl (lv_at hl 1 rfl) ?_
    have es : (s_X2_blowsFor mm pp q) = q := by rw [s_X2_blowsFor, if_neg c_1]
    exact k_iret S G hr hlk dX2_blowsFor_16 (by first | (rw [es]; done) | (rw [es]; rfl) | (simp only [es]; done) | (simp only [es]; rfl)) rfl
  · skip
    refine lv_aload_n hx hb dX2_blowsFor_8 rfl (lv_at hl 0 rfl) ?_
    refine k_get (v := .int pp) S G 0 rfl rfl hiX2 2 (by decide) hf15 rfl dX2_blowsFor_9 ?_
    refine lv_goto (tgt := 16) hx hb dX2_blowsFor_12 (by decide) ?_
    have es : (s_X2_blowsFor mm pp q) = pp := by rw [s_X2_blowsFor, if_pos c_1]
    exact k_iret S G hr hlk dX2_blowsFor_16 (by first | (rw [es]; done) | (rw [es]; rfl) | (simp only [es]; done) | (simp only [es]; rfl)) rfl
def s_X2_canStrike (mm : Int32) (pp : Int32) (wt : Int32) (q : Int32) : Int32 := (if mm = 0 then 0 else (if wt < (s_X2_blowsFor mm pp q) then 0 else 1))
set_option maxHeartbeats 4000000 in
set_option maxRecDepth 100000 in
theorem c_X2_canStrike (l : Launch) (D : va_G) (cI cS : ClassId) (t : Nat) (n : Int32) (mm : Int32) (pp : Int32) (wt : Int32) (sd : Int32) (ms : Int32) (q : Int32) : Ct l yX2_canStrike wsX2_canStrike ({ frames := 1, cells := 0, slots := 0, locals := 21 }) D (tyL cI cS) [.ref t, .int q] [(t, .inr (2, [.int n, .int mm, .int pp, .int wt, .int sd, .int ms]))] (some (.int (s_X2_canStrike mm pp wt q))) [(t, .inr (2, [.int n, .int mm, .int pp, .int wt, .int sd, .int ms]))] := by
  refine Ct.of (cc := cX2_canStrike) (maxL := 2) (ret := (some .boolean)) (by decide) rfl (Nat.le_of_ble_eq_true rfl) ?_
  intro p ev s m args below meth c A ls S hr hlk G hl
  have hx := S.1
  have hb := S.2.1
  have hown : s.vm.findClass RX2 = some m.cls := S.2.2.2.1
  have hts := S.2.2.2.2
  have hl : lv_has ls 2 [(0, .ref t), (1, .int q)] := hl
  have hiX2 : ∀ w ∈ wsX20, w ∈ wsX2_canStrike := by decide +kernel
  have hf9 := hts (.fieldLink RX2 9 "StrikingWork$Train" "mechanism" "I") (by decide +kernel)
  have hf18 := hts (.fieldLink RX2 18 "StrikingWork$Train" "weight" "I") (by decide +kernel)
  refine lv_aload_n hx hb dX2_canStrike_0 rfl (lv_at hl 0 rfl) ?_
  refine k_get (v := .int mm) S G 0 rfl rfl hiX2 1 (by decide) hf9 rfl dX2_canStrike_1 ?_
  refine lv_if_eq (tgt := 23) hx hb dX2_canStrike_4 (by decide) (fun c_1 => ?_) (fun c_1 => ?_)
  · skip
    refine lv_iconst (v := 0) hx hb dX2_canStrike_23 (by decide) ?_
    have es : (s_X2_canStrike mm pp wt q) = 0 := by rw [s_X2_canStrike, if_pos c_1]
    exact k_zret S G hr hlk dX2_canStrike_24 (by decide) (by first | (rw [es]; done) | (rw [es]; rfl) | (simp only [es]; done) | (simp only [es]; rfl)) rfl
  · skip
    refine lv_aload_n hx hb dX2_canStrike_7 rfl (lv_at hl 0 rfl) ?_
    refine k_get (v := .int wt) S G 0 rfl rfl hiX2 3 (by decide) hf18 rfl dX2_canStrike_8 ?_
    refine lv_aload_n hx hb dX2_canStrike_11 rfl (lv_at hl 0 rfl) ?_
    refine lv_iload_n hx hb dX2_canStrike_12 rfl (lv_at hl 1 rfl) ?_
    refine k_callV (n := 1) (As := [.int q]) (rest := [.int wt]) (st1 := [.int (s_X2_blowsFor mm pp q), .int wt]) (ws1 := [(t, .inr (2, [.int n, .int mm, .int pp, .int wt, .int sd, .int ms]))]) S G (c_X2_blowsFor l D cI cS t n mm pp wt sd ms q) gX2_canStrike_X2_blowsFor rfl (by decide +kernel) ⟨⟨rfl, rfl⟩, Nat.le_of_ble_eq_true rfl, Nat.le_of_ble_eq_true rfl⟩ [0] (by decide) rfl [t] rfl rfl 0 rfl rfl rfl hl.1 rfl (Nat.le_of_ble_eq_true rfl) ⟨Nat.zero_le _, Nat.zero_le _⟩ dX2_canStrike_13 rfl rfl (fun H locs G => ?_)
    refine lv_icmp_lt (tgt := 23) hx hb dX2_canStrike_16 (by decide) (fun c_2 => ?_) (fun c_2 => ?_)
    · skip
      refine lv_iconst (v := 0) hx hb dX2_canStrike_23 (by decide) ?_
      have es : (s_X2_canStrike mm pp wt q) = 0 := by rw [s_X2_canStrike, if_neg c_1, if_pos c_2]
      exact k_zret S G hr hlk dX2_canStrike_24 (by decide) (by first | (rw [es]; done) | (rw [es]; rfl) | (simp only [es]; done) | (simp only [es]; rfl)) rfl
    · skip
      refine lv_iconst (v := 1) hx hb dX2_canStrike_19 (by decide) ?_
      refine lv_goto (tgt := 24) hx hb dX2_canStrike_20 (by decide) ?_
      have es : (s_X2_canStrike mm pp wt q) = 1 := by rw [s_X2_canStrike, if_neg c_1, if_neg c_2]
      exact k_zret S G hr hlk dX2_canStrike_24 (by decide) (by first | (rw [es]; done) | (rw [es]; rfl) | (simp only [es]; done) | (simp only [es]; rfl)) rfl
def s_X2_releaseWith (n : Int32) (mm : Int32) (pp : Int32) (wt : Int32) (ms : Int32) (q : Int32) : Int32 × Int32 × Int32 × Int32 := (if mm = 0 then (0, pp, wt, ms) else (if (s_X2_canStrike mm pp wt q) = 0 then (0, pp, wt, (ms + 1)) else (if mm = 1 then ((s_X2_blowsFor mm pp q), (s_X2_positionAfter n pp), (wt - (s_X2_blowsFor mm pp q)), ms) else ((s_X2_blowsFor mm pp q), pp, (wt - (s_X2_blowsFor mm pp q)), ms))))
set_option maxHeartbeats 4000000 in
set_option maxRecDepth 100000 in
theorem c_X2_releaseWith (l : Launch) (D : va_G) (cI cS : ClassId) (t : Nat) (n : Int32) (mm : Int32) (pp : Int32) (wt : Int32) (sd : Int32) (ms : Int32) (q : Int32) : Ct l yX2_releaseWith wsX2_releaseWith ({ frames := 2, cells := 0, slots := 0, locals := 42 }) D (tyL cI cS) [.ref t, .int q] [(t, .inr (2, [.int n, .int mm, .int pp, .int wt, .int sd, .int ms]))] (some (.int ((s_X2_releaseWith n mm pp wt ms q).1))) [(t, .inr (2, [.int n, .int mm, .int ((s_X2_releaseWith n mm pp wt ms q).2.1), .int ((s_X2_releaseWith n mm pp wt ms q).2.2.1), .int sd, .int ((s_X2_releaseWith n mm pp wt ms q).2.2.2)]))] := by
  refine Ct.of (cc := cX2_releaseWith) (maxL := 3) (ret := (some .int)) (by decide) rfl (Nat.le_of_ble_eq_true rfl) ?_
  intro p ev s m args below meth c A ls S hr hlk G hl
  have hx := S.1
  have hb := S.2.1
  have hown : s.vm.findClass RX2 = some m.cls := S.2.2.2.1
  have hts := S.2.2.2.2
  have hl : lv_has ls 3 [(0, .ref t), (1, .int q)] := hl
  have hiX2 : ∀ w ∈ wsX20, w ∈ wsX2_releaseWith := by decide +kernel
  have hf9 := hts (.fieldLink RX2 9 "StrikingWork$Train" "mechanism" "I") (by decide +kernel)
  have hf15 := hts (.fieldLink RX2 15 "StrikingWork$Train" "position" "I") (by decide +kernel)
  have hf18 := hts (.fieldLink RX2 18 "StrikingWork$Train" "weight" "I") (by decide +kernel)
  have hf24 := hts (.fieldLink RX2 24 "StrikingWork$Train" "missed" "I") (by decide +kernel)
  refine lv_aload_n hx hb dX2_releaseWith_0 rfl (lv_at hl 0 rfl) ?_
  refine k_get (v := .int mm) S G 0 rfl rfl hiX2 1 (by decide) hf9 rfl dX2_releaseWith_1 ?_
  refine lv_if_ne (tgt := 9) hx hb dX2_releaseWith_4 (by decide) (fun c_1 => ?_) (fun c_1 => ?_)
  · skip
    refine lv_aload_n hx hb dX2_releaseWith_9 rfl (lv_at hl 0 rfl) ?_
    refine lv_iload_n hx hb dX2_releaseWith_10 rfl (lv_at hl 1 rfl) ?_
    refine k_callV (n := 1) (As := [.int q]) (rest := []) (st1 := [.int (s_X2_canStrike mm pp wt q)]) (ws1 := [(t, .inr (2, [.int n, .int mm, .int pp, .int wt, .int sd, .int ms]))]) S G (c_X2_canStrike l D cI cS t n mm pp wt sd ms q) gX2_releaseWith_X2_canStrike rfl (by decide +kernel) ⟨⟨rfl, rfl⟩, Nat.le_of_ble_eq_true rfl, Nat.le_of_ble_eq_true rfl⟩ [0] (by decide) rfl [t] rfl rfl 0 rfl rfl rfl hl.1 rfl (Nat.le_of_ble_eq_true rfl) ⟨Nat.zero_le _, Nat.zero_le _⟩ dX2_releaseWith_11 rfl rfl (fun H locs G => ?_)
    refine lv_if_ne (tgt := 29) hx hb dX2_releaseWith_14 (by decide) (fun c_2 => ?_) (fun c_2 => ?_)
    · skip
      refine lv_aload_n hx hb dX2_releaseWith_29 rfl (lv_at hl 0 rfl) ?_
      refine lv_iload_n hx hb dX2_releaseWith_30 rfl (lv_at hl 1 rfl) ?_
      refine k_callV (n := 1) (As := [.int q]) (rest := []) (st1 := [.int (s_X2_blowsFor mm pp q)]) (ws1 := [(t, .inr (2, [.int n, .int mm, .int pp, .int wt, .int sd, .int ms]))]) S G (c_X2_blowsFor l D cI cS t n mm pp wt sd ms q) gX2_releaseWith_X2_blowsFor rfl (by decide +kernel) ⟨⟨rfl, rfl⟩, Nat.le_of_ble_eq_true rfl, Nat.le_of_ble_eq_true rfl⟩ [0] (by decide) rfl [t] rfl rfl 0 rfl rfl rfl hl.1 rfl (Nat.le_of_ble_eq_true rfl) ⟨Nat.zero_le _, Nat.zero_le _⟩ dX2_releaseWith_31 rfl rfl (fun H locs G => ?_)
      refine lv_istore_n (lv' := [(2, .int (s_X2_blowsFor mm pp q)), (0, .ref t), (1, .int q)]) hx hb dX2_releaseWith_34 rfl hl (by decide) rfl (fun ls hl => ?_)
      refine lv_aload_n hx hb dX2_releaseWith_35 rfl (lv_at hl 1 rfl) ?_
      refine lv_dup hx hb dX2_releaseWith_36 rfl ?_
      refine k_get (v := .int wt) S G 0 rfl rfl hiX2 3 (by decide) hf18 rfl dX2_releaseWith_37 ?_
      refine lv_iload_n hx hb dX2_releaseWith_40 rfl (lv_at hl 0 rfl) ?_
      refine lv_isub hx hb dX2_releaseWith_41 ?_
      refine k_put (ws1 := [(t, .inr (2, [.int n, .int mm, .int pp, .int (wt - (s_X2_blowsFor mm pp q)), .int sd, .int ms]))]) S G 0 rfl rfl hiX2 tyX2 tyX2_ok nmX2 3 (by decide) hf18 rfl rfl rfl (Nat.le_of_ble_eq_true rfl) dX2_releaseWith_42 rfl (fun H locs G => ?_)
      refine lv_aload_n hx hb dX2_releaseWith_45 rfl (lv_at hl 1 rfl) ?_
      refine k_get (v := .int mm) S G 0 rfl rfl hiX2 1 (by decide) hf9 rfl dX2_releaseWith_46 ?_
      refine lv_iconst (v := 1) hx hb dX2_releaseWith_49 (by decide) ?_
      refine lv_icmp_ne (tgt := 65) hx hb dX2_releaseWith_50 (by decide) (fun c_3 => ?_) (fun c_3 => ?_)
      · skip
        refine lv_iload_n hx hb dX2_releaseWith_65 rfl (lv_at hl 0 rfl) ?_
        have es : (s_X2_releaseWith n mm pp wt ms q) = ((s_X2_blowsFor mm pp q), pp, (wt - (s_X2_blowsFor mm pp q)), ms) := by rw [s_X2_releaseWith, if_neg c_1, if_neg c_2, if_neg c_3]
        exact k_iret S G hr hlk dX2_releaseWith_66 (by first | (rw [es]; done) | (rw [es]; rfl) | (simp only [es]; done) | (simp only [es]; rfl)) (by first | (rw [es]; done) | (rw [es]; rfl) | (simp only [es]; done) | (simp only [es]; rfl))
      · skip
        refine lv_aload_n hx hb dX2_releaseWith_53 rfl (lv_at hl 1 rfl) ?_
        refine lv_aload_n hx hb dX2_releaseWith_54 rfl (lv_at hl 1 rfl) ?_
        refine lv_aload_n hx hb dX2_releaseWith_55 rfl (lv_at hl 1 rfl) ?_
        refine k_get (v := .int pp) S G 0 rfl rfl hiX2 2 (by decide) hf15 rfl dX2_releaseWith_56 ?_
        refine k_callV (n := 1) (As := [.int pp]) (rest := [.ref t]) (st1 := [.int (s_X2_positionAfter n pp), .ref t]) (ws1 := [(t, .inr (2, [.int n, .int mm, .int pp, .int (wt - (s_X2_blowsFor mm pp q)), .int sd, .int ms]))]) S G (c_X2_positionAfter l D cI cS t n mm pp (wt - (s_X2_blowsFor mm pp q)) sd ms pp) gX2_releaseWith_X2_positionAfter rfl (by decide +kernel) ⟨⟨rfl, rfl⟩, Nat.le_of_ble_eq_true rfl, Nat.le_of_ble_eq_true rfl⟩ [0] (by decide) rfl [t] rfl rfl 0 rfl rfl rfl hl.1 rfl (Nat.le_of_ble_eq_true rfl) ⟨Nat.zero_le _, Nat.zero_le _⟩ dX2_releaseWith_59 rfl rfl (fun H locs G => ?_)
        refine k_put (ws1 := [(t, .inr (2, [.int n, .int mm, .int (s_X2_positionAfter n pp), .int (wt - (s_X2_blowsFor mm pp q)), .int sd, .int ms]))]) S G 0 rfl rfl hiX2 tyX2 tyX2_ok nmX2 2 (by decide) hf15 rfl rfl rfl (Nat.le_of_ble_eq_true rfl) dX2_releaseWith_62 rfl (fun H locs G => ?_)
        refine lv_iload_n hx hb dX2_releaseWith_65 rfl (lv_at hl 0 rfl) ?_
        have es : (s_X2_releaseWith n mm pp wt ms q) = ((s_X2_blowsFor mm pp q), (s_X2_positionAfter n pp), (wt - (s_X2_blowsFor mm pp q)), ms) := by rw [s_X2_releaseWith, if_neg c_1, if_neg c_2, if_pos c_3]
        exact k_iret S G hr hlk dX2_releaseWith_66 (by first | (rw [es]; done) | (rw [es]; rfl) | (simp only [es]; done) | (simp only [es]; rfl)) (by first | (rw [es]; done) | (rw [es]; rfl) | (simp only [es]; done) | (simp only [es]; rfl))
    · skip
      refine lv_aload_n hx hb dX2_releaseWith_17 rfl (lv_at hl 0 rfl) ?_
      refine lv_dup hx hb dX2_releaseWith_18 rfl ?_
      refine k_get (v := .int ms) S G 0 rfl rfl hiX2 5 (by decide) hf24 rfl dX2_releaseWith_19 ?_
      refine lv_iconst (v := 1) hx hb dX2_releaseWith_22 (by decide) ?_
      refine lv_iadd hx hb dX2_releaseWith_23 ?_
      refine k_put (ws1 := [(t, .inr (2, [.int n, .int mm, .int pp, .int wt, .int sd, .int (ms + 1)]))]) S G 0 rfl rfl hiX2 tyX2 tyX2_ok nmX2 5 (by decide) hf24 rfl rfl rfl (Nat.le_of_ble_eq_true rfl) dX2_releaseWith_24 rfl (fun H locs G => ?_)
      refine lv_iconst (v := 0) hx hb dX2_releaseWith_27 (by decide) ?_
      have es : (s_X2_releaseWith n mm pp wt ms q) = (0, pp, wt, (ms + 1)) := by rw [s_X2_releaseWith, if_neg c_1, if_pos c_2]
      exact k_iret S G hr hlk dX2_releaseWith_28 (by first | (rw [es]; done) | (rw [es]; rfl) | (simp only [es]; done) | (simp only [es]; rfl)) (by first | (rw [es]; done) | (rw [es]; rfl) | (simp only [es]; done) | (simp only [es]; rfl))
  · skip
    refine lv_iconst (v := 0) hx hb dX2_releaseWith_7 (by decide) ?_
    have es : (s_X2_releaseWith n mm pp wt ms q) = (0, pp, wt, ms) := by rw [s_X2_releaseWith, if_pos c_1]
    exact k_iret S G hr hlk dX2_releaseWith_8 (by first | (rw [es]; done) | (rw [es]; rfl) | (simp only [es]; done) | (simp only [es]; rfl)) (by first | (rw [es]; done) | (rw [es]; rfl) | (simp only [es]; done) | (simp only [es]; rfl))
set_option maxHeartbeats 4000000 in
set_option maxRecDepth 100000 in
theorem c_X2_copyFrom (l : Launch) (D : va_G) (cI cS : ClassId) (t : Nat) (n : Int32) (mm : Int32) (pp : Int32) (wt : Int32) (sd : Int32) (ms : Int32) (o : Nat) (n2 : Int32) (m2 : Int32) (p2 : Int32) (w2 : Int32) (s2 : Int32) (f2 : Int32) : Ct l yX2_copyFrom wsX2_copyFrom ({ frames := 0, cells := 0, slots := 0, locals := 0 }) D (tyL cI cS) [.ref t, .ref o] [(t, .inr (2, [.int n, .int mm, .int pp, .int wt, .int sd, .int ms])), (o, .inr (2, [.int n2, .int m2, .int p2, .int w2, .int s2, .int f2]))] none [(t, .inr (2, [.int n2, .int m2, .int p2, .int w2, .int s2, .int f2])), (o, .inr (2, [.int n2, .int m2, .int p2, .int w2, .int s2, .int f2]))] := by
  refine Ct.of (cc := cX2_copyFrom) (maxL := 2) (ret := none) (by decide) rfl (Nat.le_of_ble_eq_true rfl) ?_
  intro p ev s m args below meth c A ls S hr hlk G hl
  have hx := S.1
  have hb := S.2.1
  have hown : s.vm.findClass RX2 = some m.cls := S.2.2.2.1
  have hts := S.2.2.2.2
  have hl : lv_has ls 2 [(0, .ref t), (1, .ref o)] := hl
  have hiX2 : ∀ w ∈ wsX20, w ∈ wsX2_copyFrom := by decide +kernel
  have hf9 := hts (.fieldLink RX2 9 "StrikingWork$Train" "mechanism" "I") (by decide +kernel)
  have hf15 := hts (.fieldLink RX2 15 "StrikingWork$Train" "position" "I") (by decide +kernel)
  have hf18 := hts (.fieldLink RX2 18 "StrikingWork$Train" "weight" "I") (by decide +kernel)
  have hf21 := hts (.fieldLink RX2 21 "StrikingWork$Train" "sounded" "I") (by decide +kernel)
  have hf24 := hts (.fieldLink RX2 24 "StrikingWork$Train" "missed" "I") (by decide +kernel)
  have hf27 := hts (.fieldLink RX2 27 "StrikingWork$Train" "number" "I") (by decide +kernel)
  refine lv_aload_n hx hb dX2_copyFrom_0 rfl (lv_at hl 0 rfl) ?_
  refine lv_aload_n hx hb dX2_copyFrom_1 rfl (lv_at hl 1 rfl) ?_
  refine k_get (v := .int n2) S G 1 rfl rfl hiX2 0 (by decide) hf27 rfl dX2_copyFrom_2 ?_
  refine k_put (ws1 := [(t, .inr (2, [.int n2, .int mm, .int pp, .int wt, .int sd, .int ms])), (o, .inr (2, [.int n2, .int m2, .int p2, .int w2, .int s2, .int f2]))]) S G 0 rfl rfl hiX2 tyX2 tyX2_ok nmX2 0 (by decide) hf27 rfl rfl rfl (Nat.le_of_ble_eq_true rfl) dX2_copyFrom_5 rfl (fun H locs G => ?_)
  refine lv_aload_n hx hb dX2_copyFrom_8 rfl (lv_at hl 0 rfl) ?_
  refine lv_aload_n hx hb dX2_copyFrom_9 rfl (lv_at hl 1 rfl) ?_
  refine k_get (v := .int m2) S G 1 rfl rfl hiX2 1 (by decide) hf9 rfl dX2_copyFrom_10 ?_
  refine k_put (ws1 := [(t, .inr (2, [.int n2, .int m2, .int pp, .int wt, .int sd, .int ms])), (o, .inr (2, [.int n2, .int m2, .int p2, .int w2, .int s2, .int f2]))]) S G 0 rfl rfl hiX2 tyX2 tyX2_ok nmX2 1 (by decide) hf9 rfl rfl rfl (Nat.le_of_ble_eq_true rfl) dX2_copyFrom_13 rfl (fun H locs G => ?_)
  refine lv_aload_n hx hb dX2_copyFrom_16 rfl (lv_at hl 0 rfl) ?_
  refine lv_aload_n hx hb dX2_copyFrom_17 rfl (lv_at hl 1 rfl) ?_
  refine k_get (v := .int p2) S G 1 rfl rfl hiX2 2 (by decide) hf15 rfl dX2_copyFrom_18 ?_
  refine k_put (ws1 := [(t, .inr (2, [.int n2, .int m2, .int p2, .int wt, .int sd, .int ms])), (o, .inr (2, [.int n2, .int m2, .int p2, .int w2, .int s2, .int f2]))]) S G 0 rfl rfl hiX2 tyX2 tyX2_ok nmX2 2 (by decide) hf15 rfl rfl rfl (Nat.le_of_ble_eq_true rfl) dX2_copyFrom_21 rfl (fun H locs G => ?_)
  refine lv_aload_n hx hb dX2_copyFrom_24 rfl (lv_at hl 0 rfl) ?_
  refine lv_aload_n hx hb dX2_copyFrom_25 rfl (lv_at hl 1 rfl) ?_
  refine k_get (v := .int w2) S G 1 rfl rfl hiX2 3 (by decide) hf18 rfl dX2_copyFrom_26 ?_
  refine k_put (ws1 := [(t, .inr (2, [.int n2, .int m2, .int p2, .int w2, .int sd, .int ms])), (o, .inr (2, [.int n2, .int m2, .int p2, .int w2, .int s2, .int f2]))]) S G 0 rfl rfl hiX2 tyX2 tyX2_ok nmX2 3 (by decide) hf18 rfl rfl rfl (Nat.le_of_ble_eq_true rfl) dX2_copyFrom_29 rfl (fun H locs G => ?_)
  refine lv_aload_n hx hb dX2_copyFrom_32 rfl (lv_at hl 0 rfl) ?_
  refine lv_aload_n hx hb dX2_copyFrom_33 rfl (lv_at hl 1 rfl) ?_
  refine k_get (v := .int s2) S G 1 rfl rfl hiX2 4 (by decide) hf21 rfl dX2_copyFrom_34 ?_
  refine k_put (ws1 := [(t, .inr (2, [.int n2, .int m2, .int p2, .int w2, .int s2, .int ms])), (o, .inr (2, [.int n2, .int m2, .int p2, .int w2, .int s2, .int f2]))]) S G 0 rfl rfl hiX2 tyX2 tyX2_ok nmX2 4 (by decide) hf21 rfl rfl rfl (Nat.le_of_ble_eq_true rfl) dX2_copyFrom_37 rfl (fun H locs G => ?_)
  refine lv_aload_n hx hb dX2_copyFrom_40 rfl (lv_at hl 0 rfl) ?_
  refine lv_aload_n hx hb dX2_copyFrom_41 rfl (lv_at hl 1 rfl) ?_
  refine k_get (v := .int f2) S G 1 rfl rfl hiX2 5 (by decide) hf24 rfl dX2_copyFrom_42 ?_
  refine k_put (ws1 := [(t, .inr (2, [.int n2, .int m2, .int p2, .int w2, .int s2, .int f2])), (o, .inr (2, [.int n2, .int m2, .int p2, .int w2, .int s2, .int f2]))]) S G 0 rfl rfl hiX2 tyX2 tyX2_ok nmX2 5 (by decide) hf24 rfl rfl rfl (Nat.le_of_ble_eq_true rfl) dX2_copyFrom_45 rfl (fun H locs G => ?_)
  exact k_vret S G hr hlk dX2_copyFrom_48 rfl
def s_X2_addToHash (n : Int32) (mm : Int32) (pp : Int32) (wt : Int32) (sd : Int32) (ms : Int32) (h : Int64) (q : Int32) : Int64 := ((31 * ((31 * ((31 * ((31 * ((31 * ((31 * ((31 * h) + mm.toInt64)) + pp.toInt64)) + wt.toInt64)) + sd.toInt64)) + ms.toInt64)) + (s_X2_dueAfter n q).toInt64)) + (s_X2_lagAt n mm pp q).toInt64)
set_option maxHeartbeats 4000000 in
set_option maxRecDepth 100000 in
theorem c_X2_addToHash (l : Launch) (D : va_G) (cI cS : ClassId) (t : Nat) (n : Int32) (mm : Int32) (pp : Int32) (wt : Int32) (sd : Int32) (ms : Int32) (h : Int64) (q : Int32) : Ct l yX2_addToHash wsX2_addToHash ({ frames := 4, cells := 0, slots := 0, locals := 85 }) D (tyL cI cS) [.ref t, .long h, .int q] [(t, .inr (2, [.int n, .int mm, .int pp, .int wt, .int sd, .int ms]))] (some (.long (s_X2_addToHash n mm pp wt sd ms h q))) [(t, .inr (2, [.int n, .int mm, .int pp, .int wt, .int sd, .int ms]))] := by
  refine Ct.of (cc := cX2_addToHash) (maxL := 6) (ret := (some .long)) (by decide) rfl (Nat.le_of_ble_eq_true rfl) ?_
  intro p ev s m args below meth c A ls S hr hlk G hl
  have hx := S.1
  have hb := S.2.1
  have hown : s.vm.findClass RX2 = some m.cls := S.2.2.2.1
  have hts := S.2.2.2.2
  have hl : lv_has ls 6 [(0, .ref t), (1, .long h), (3, .int q)] := hl
  have hiX2 : ∀ w ∈ wsX20, w ∈ wsX2_addToHash := by decide +kernel
  have hf9 := hts (.fieldLink RX2 9 "StrikingWork$Train" "mechanism" "I") (by decide +kernel)
  have hf15 := hts (.fieldLink RX2 15 "StrikingWork$Train" "position" "I") (by decide +kernel)
  have hf18 := hts (.fieldLink RX2 18 "StrikingWork$Train" "weight" "I") (by decide +kernel)
  have hf21 := hts (.fieldLink RX2 21 "StrikingWork$Train" "sounded" "I") (by decide +kernel)
  have hf24 := hts (.fieldLink RX2 24 "StrikingWork$Train" "missed" "I") (by decide +kernel)
  have hk57 := hts (.constantLong RX2 57 31) (by decide +kernel)
  refine lv_ldc2 (v := 31) hx hb hown hk57 dX2_addToHash_0 ?_
  refine lv_lload_n hx hb dX2_addToHash_3 rfl (lv_at hl 1 rfl) ?_
  refine lv_lmul hx hb dX2_addToHash_4 ?_
  refine lv_aload_n hx hb dX2_addToHash_5 rfl (lv_at hl 0 rfl) ?_
  refine k_get (v := .int mm) S G 0 rfl rfl hiX2 1 (by decide) hf9 rfl dX2_addToHash_6 ?_
  refine lv_i2l (v := mm.toInt64) hx hb dX2_addToHash_9 rfl ?_
  refine lv_ladd hx hb dX2_addToHash_10 ?_
  refine lv_lstore (lv' := [(4, .long ((31 * h) + mm.toInt64)), (0, .ref t), (1, .long h), (3, .int q)]) hx hb dX2_addToHash_11 hl (by decide) rfl (fun ls hl => ?_)
  refine lv_ldc2 (v := 31) hx hb hown hk57 dX2_addToHash_13 ?_
  refine lv_lload hx hb dX2_addToHash_16 (lv_at hl 0 rfl) ?_
  refine lv_lmul hx hb dX2_addToHash_18 ?_
  refine lv_aload_n hx hb dX2_addToHash_19 rfl (lv_at hl 1 rfl) ?_
  refine k_get (v := .int pp) S G 0 rfl rfl hiX2 2 (by decide) hf15 rfl dX2_addToHash_20 ?_
  refine lv_i2l (v := pp.toInt64) hx hb dX2_addToHash_23 rfl ?_
  refine lv_ladd hx hb dX2_addToHash_24 ?_
  refine lv_lstore (lv' := [(4, .long ((31 * ((31 * h) + mm.toInt64)) + pp.toInt64)), (0, .ref t), (1, .long h), (3, .int q)]) hx hb dX2_addToHash_25 hl (by decide) rfl (fun ls hl => ?_)
  refine lv_ldc2 (v := 31) hx hb hown hk57 dX2_addToHash_27 ?_
  refine lv_lload hx hb dX2_addToHash_30 (lv_at hl 0 rfl) ?_
  refine lv_lmul hx hb dX2_addToHash_32 ?_
  refine lv_aload_n hx hb dX2_addToHash_33 rfl (lv_at hl 1 rfl) ?_
  refine k_get (v := .int wt) S G 0 rfl rfl hiX2 3 (by decide) hf18 rfl dX2_addToHash_34 ?_
  refine lv_i2l (v := wt.toInt64) hx hb dX2_addToHash_37 rfl ?_
  refine lv_ladd hx hb dX2_addToHash_38 ?_
  refine lv_lstore (lv' := [(4, .long ((31 * ((31 * ((31 * h) + mm.toInt64)) + pp.toInt64)) + wt.toInt64)), (0, .ref t), (1, .long h), (3, .int q)]) hx hb dX2_addToHash_39 hl (by decide) rfl (fun ls hl => ?_)
  refine lv_ldc2 (v := 31) hx hb hown hk57 dX2_addToHash_41 ?_
  refine lv_lload hx hb dX2_addToHash_44 (lv_at hl 0 rfl) ?_
  refine lv_lmul hx hb dX2_addToHash_46 ?_
  refine lv_aload_n hx hb dX2_addToHash_47 rfl (lv_at hl 1 rfl) ?_
  refine k_get (v := .int sd) S G 0 rfl rfl hiX2 4 (by decide) hf21 rfl dX2_addToHash_48 ?_
  refine lv_i2l (v := sd.toInt64) hx hb dX2_addToHash_51 rfl ?_
  refine lv_ladd hx hb dX2_addToHash_52 ?_
  refine lv_lstore (lv' := [(4, .long ((31 * ((31 * ((31 * ((31 * h) + mm.toInt64)) + pp.toInt64)) + wt.toInt64)) + sd.toInt64)), (0, .ref t), (1, .long h), (3, .int q)]) hx hb dX2_addToHash_53 hl (by decide) rfl (fun ls hl => ?_)
  refine lv_ldc2 (v := 31) hx hb hown hk57 dX2_addToHash_55 ?_
  refine lv_lload hx hb dX2_addToHash_58 (lv_at hl 0 rfl) ?_
  refine lv_lmul hx hb dX2_addToHash_60 ?_
  refine lv_aload_n hx hb dX2_addToHash_61 rfl (lv_at hl 1 rfl) ?_
  refine k_get (v := .int ms) S G 0 rfl rfl hiX2 5 (by decide) hf24 rfl dX2_addToHash_62 ?_
  refine lv_i2l (v := ms.toInt64) hx hb dX2_addToHash_65 rfl ?_
  refine lv_ladd hx hb dX2_addToHash_66 ?_
  refine lv_lstore (lv' := [(4, .long ((31 * ((31 * ((31 * ((31 * ((31 * h) + mm.toInt64)) + pp.toInt64)) + wt.toInt64)) + sd.toInt64)) + ms.toInt64)), (0, .ref t), (1, .long h), (3, .int q)]) hx hb dX2_addToHash_67 hl (by decide) rfl (fun ls hl => ?_)
  refine lv_ldc2 (v := 31) hx hb hown hk57 dX2_addToHash_69 ?_
  refine lv_lload hx hb dX2_addToHash_72 (lv_at hl 0 rfl) ?_
  refine lv_lmul hx hb dX2_addToHash_74 ?_
  refine lv_aload_n hx hb dX2_addToHash_75 rfl (lv_at hl 1 rfl) ?_
  refine lv_iload_n hx hb dX2_addToHash_76 rfl (lv_at hl 3 rfl) ?_
  refine k_callV (n := 1) (As := [.int q]) (rest := [.long (31 * ((31 * ((31 * ((31 * ((31 * ((31 * h) + mm.toInt64)) + pp.toInt64)) + wt.toInt64)) + sd.toInt64)) + ms.toInt64))]) (st1 := [.int (s_X2_dueAfter n q), .long (31 * ((31 * ((31 * ((31 * ((31 * ((31 * h) + mm.toInt64)) + pp.toInt64)) + wt.toInt64)) + sd.toInt64)) + ms.toInt64))]) (ws1 := [(t, .inr (2, [.int n, .int mm, .int pp, .int wt, .int sd, .int ms]))]) S G (c_X2_dueAfter l D cI cS t n mm pp wt sd ms q) gX2_addToHash_X2_dueAfter rfl (by decide +kernel) ⟨⟨rfl, rfl⟩, Nat.le_of_ble_eq_true rfl, Nat.le_of_ble_eq_true rfl⟩ [0] (by decide) rfl [t] rfl rfl 0 rfl rfl rfl hl.1 rfl (Nat.le_of_ble_eq_true rfl) ⟨Nat.zero_le _, Nat.zero_le _⟩ dX2_addToHash_77 rfl rfl (fun H locs G => ?_)
  refine lv_i2l (v := (s_X2_dueAfter n q).toInt64) hx hb dX2_addToHash_80 rfl ?_
  refine lv_ladd hx hb dX2_addToHash_81 ?_
  refine lv_lstore (lv' := [(4, .long ((31 * ((31 * ((31 * ((31 * ((31 * ((31 * h) + mm.toInt64)) + pp.toInt64)) + wt.toInt64)) + sd.toInt64)) + ms.toInt64)) + (s_X2_dueAfter n q).toInt64)), (0, .ref t), (1, .long h), (3, .int q)]) hx hb dX2_addToHash_82 hl (by decide) rfl (fun ls hl => ?_)
  refine lv_ldc2 (v := 31) hx hb hown hk57 dX2_addToHash_84 ?_
  refine lv_lload hx hb dX2_addToHash_87 (lv_at hl 0 rfl) ?_
  refine lv_lmul hx hb dX2_addToHash_89 ?_
  refine lv_aload_n hx hb dX2_addToHash_90 rfl (lv_at hl 1 rfl) ?_
  refine lv_iload_n hx hb dX2_addToHash_91 rfl (lv_at hl 3 rfl) ?_
  refine k_callV (n := 1) (As := [.int q]) (rest := [.long (31 * ((31 * ((31 * ((31 * ((31 * ((31 * ((31 * h) + mm.toInt64)) + pp.toInt64)) + wt.toInt64)) + sd.toInt64)) + ms.toInt64)) + (s_X2_dueAfter n q).toInt64))]) (st1 := [.int (s_X2_lagAt n mm pp q), .long (31 * ((31 * ((31 * ((31 * ((31 * ((31 * ((31 * h) + mm.toInt64)) + pp.toInt64)) + wt.toInt64)) + sd.toInt64)) + ms.toInt64)) + (s_X2_dueAfter n q).toInt64))]) (ws1 := [(t, .inr (2, [.int n, .int mm, .int pp, .int wt, .int sd, .int ms]))]) S G (c_X2_lagAt l D cI cS t n mm pp wt sd ms q) gX2_addToHash_X2_lagAt rfl (by decide +kernel) ⟨⟨rfl, rfl⟩, Nat.le_of_ble_eq_true rfl, Nat.le_of_ble_eq_true rfl⟩ [0] (by decide) rfl [t] rfl rfl 0 rfl rfl rfl hl.1 rfl (Nat.le_of_ble_eq_true rfl) ⟨Nat.zero_le _, Nat.zero_le _⟩ dX2_addToHash_92 rfl rfl (fun H locs G => ?_)
  refine lv_i2l (v := (s_X2_lagAt n mm pp q).toInt64) hx hb dX2_addToHash_95 rfl ?_
  refine lv_ladd hx hb dX2_addToHash_96 ?_
  have es : (s_X2_addToHash n mm pp wt sd ms h q) = ((31 * ((31 * ((31 * ((31 * ((31 * ((31 * ((31 * h) + mm.toInt64)) + pp.toInt64)) + wt.toInt64)) + sd.toInt64)) + ms.toInt64)) + (s_X2_dueAfter n q).toInt64)) + (s_X2_lagAt n mm pp q).toInt64) := rfl
  exact k_lret S G hr hlk dX2_addToHash_97 (by first | (rw [es]; done) | (rw [es]; rfl) | (simp only [es]; done) | (simp only [es]; rfl)) rfl
end
section
def shf (x : Int32) (f : Nat → Int32) : Nat → Int32 := fun i => if i = 0 then x else f (i - 1)
set_option maxHeartbeats 4000000 in
set_option maxRecDepth 100000 in
theorem c_X1_put (l : Launch) (D : va_G) (cI cS : ClassId) (k : Nat) (km : Nat) (kt : Nat) (kb : Nat) (cn : Int32) (fm : Nat → Int32) (ft : Nat → Int32) (fb : Nat → Int32) (q : Int32) (tr : Int32) (sb : Int32) : Ct l yX1_put wsX1_put ({ frames := 1, cells := 0, slots := 0, locals := 14 }) D (tyL cI cS) [.ref k, .int q, .int tr, .int sb] [(k, .inr (1, [.ref km, .ref kt, .ref kb, .int cn])), (km, .inl (cI, 6, .inl fm)), (kt, .inl (cI, 6, .inl ft)), (kb, .inl (cI, 6, .inl fb))] none [(k, .inr (1, [.ref km, .ref kt, .ref kb, .int (if 6 < (cn + 1) then 6 else (cn + 1))])), (km, .inl (cI, 6, .inl (shf q fm))), (kt, .inl (cI, 6, .inl (shf tr ft))), (kb, .inl (cI, 6, .inl (shf sb fb)))] := by
  refine Ct.of (cc := cX1_put) (maxL := 5) (ret := none) (by decide) rfl (Nat.le_of_ble_eq_true rfl) ?_
  intro p ev s m args below meth c A ls S hr hlk G hl
  have hx := S.1
  have hb := S.2.1
  have hown : s.vm.findClass RX1 = some m.cls := S.2.2.2.1
  have hts := S.2.2.2.2
  have hl : lv_has ls 5 [(0, .ref k), (1, .int q), (2, .int tr), (3, .int sb)] := hl
  have hiX1 : ∀ w ∈ wsX10, w ∈ wsX1_put := by decide +kernel
  have hf9 := hts (.fieldLink RX1 9 "StrikingWork$Strikes" "minutes" "[I") (by decide +kernel)
  have hf15 := hts (.fieldLink RX1 15 "StrikingWork$Strikes" "trains" "[I") (by decide +kernel)
  have hf18 := hts (.fieldLink RX1 18 "StrikingWork$Strikes" "blows" "[I") (by decide +kernel)
  have hf21 := hts (.fieldLink RX1 21 "StrikingWork$Strikes" "count" "I") (by decide +kernel)
  have hmL := hts (.methodLink RX1 25 Lib.Math.min.name) (by decide +kernel)
  have hmS := hts (.static Lib.Math.min.name) (by decide +kernel)
  have hmI := hts (.initialized "java/lang/Math") (by decide +kernel)
  have hmC := hts (.code Lib.Math.min.name Lib.Math.min.code 2 (some .int)) (by decide +kernel)
  refine lv_iconst (v := 5) hx hb dX1_put_0 (by decide) ?_
  refine lv_istore (lv' := [(4, .int 5), (0, .ref k), (1, .int q), (2, .int tr), (3, .int sb)]) hx hb dX1_put_1 hl (by decide) rfl (fun ls hl => ?_)
  refine lv_iload hx hb dX1_put_3 (lv_at hl 0 rfl) ?_
  refine lv_if_le (tgt := 62) hx hb dX1_put_5 (by decide) (fun c_1 => absurd c_1 (by decide)) (fun c_1 => ?_)
  refine lv_aload_n hx hb dX1_put_8 rfl (lv_at hl 1 rfl) ?_
  refine k_get (v := .ref km) S G 0 rfl rfl hiX1 0 (by decide) hf9 rfl dX1_put_9 ?_
  refine lv_iload hx hb dX1_put_12 (lv_at hl 0 rfl) ?_
  refine lv_aload_n hx hb dX1_put_14 rfl (lv_at hl 1 rfl) ?_
  refine k_get (v := .ref km) S G 0 rfl rfl hiX1 0 (by decide) hf9 rfl dX1_put_15 ?_
  refine lv_iload hx hb dX1_put_18 (lv_at hl 0 rfl) ?_
  refine lv_iconst (v := 1) hx hb dX1_put_20 (by decide) ?_
  refine lv_isub hx hb dX1_put_21 ?_
  refine lv_lit (v := 4) (by decide) ?_
  refine k_iald (x := (fm 4)) S G 1 0 rfl rfl (by unfold vp_in; decide) rfl dX1_put_22 ?_
  refine k_iast (ws1 := [(k, .inr (1, [.ref km, .ref kt, .ref kb, .int cn])), (km, .inl (cI, 6, .inl (upd fm 5 (fm 4)))), (kt, .inl (cI, 6, .inl ft)), (kb, .inl (cI, 6, .inl fb))]) S G 1 0 rfl rfl (by unfold vp_in; decide) dX1_put_23 rfl (fun H locs G => ?_)
  refine lv_aload_n hx hb dX1_put_24 rfl (lv_at hl 1 rfl) ?_
  refine k_get (v := .ref kt) S G 0 rfl rfl hiX1 1 (by decide) hf15 rfl dX1_put_25 ?_
  refine lv_iload hx hb dX1_put_28 (lv_at hl 0 rfl) ?_
  refine lv_aload_n hx hb dX1_put_30 rfl (lv_at hl 1 rfl) ?_
  refine k_get (v := .ref kt) S G 0 rfl rfl hiX1 1 (by decide) hf15 rfl dX1_put_31 ?_
  refine lv_iload hx hb dX1_put_34 (lv_at hl 0 rfl) ?_
  refine lv_iconst (v := 1) hx hb dX1_put_36 (by decide) ?_
  refine lv_isub hx hb dX1_put_37 ?_
  refine lv_lit (v := 4) (by decide) ?_
  refine k_iald (x := (ft 4)) S G 2 0 rfl rfl (by unfold vp_in; decide) rfl dX1_put_38 ?_
  refine k_iast (ws1 := [(k, .inr (1, [.ref km, .ref kt, .ref kb, .int cn])), (km, .inl (cI, 6, .inl (upd fm 5 (fm 4)))), (kt, .inl (cI, 6, .inl (upd ft 5 (ft 4)))), (kb, .inl (cI, 6, .inl fb))]) S G 2 0 rfl rfl (by unfold vp_in; decide) dX1_put_39 rfl (fun H locs G => ?_)
  refine lv_aload_n hx hb dX1_put_40 rfl (lv_at hl 1 rfl) ?_
  refine k_get (v := .ref kb) S G 0 rfl rfl hiX1 2 (by decide) hf18 rfl dX1_put_41 ?_
  refine lv_iload hx hb dX1_put_44 (lv_at hl 0 rfl) ?_
  refine lv_aload_n hx hb dX1_put_46 rfl (lv_at hl 1 rfl) ?_
  refine k_get (v := .ref kb) S G 0 rfl rfl hiX1 2 (by decide) hf18 rfl dX1_put_47 ?_
  refine lv_iload hx hb dX1_put_50 (lv_at hl 0 rfl) ?_
  refine lv_iconst (v := 1) hx hb dX1_put_52 (by decide) ?_
  refine lv_isub hx hb dX1_put_53 ?_
  refine lv_lit (v := 4) (by decide) ?_
  refine k_iald (x := (fb 4)) S G 3 0 rfl rfl (by unfold vp_in; decide) rfl dX1_put_54 ?_
  refine k_iast (ws1 := [(k, .inr (1, [.ref km, .ref kt, .ref kb, .int cn])), (km, .inl (cI, 6, .inl (upd fm 5 (fm 4)))), (kt, .inl (cI, 6, .inl (upd ft 5 (ft 4)))), (kb, .inl (cI, 6, .inl (upd fb 5 (fb 4))))]) S G 3 0 rfl rfl (by unfold vp_in; decide) dX1_put_55 rfl (fun H locs G => ?_)
  refine lv_iinc (v := 4) (lv' := [(4, .int 4), (0, .ref k), (1, .int q), (2, .int tr), (3, .int sb)]) hx hb dX1_put_56 hl (k := 0) rfl (by decide) (by decide) rfl (fun ls hl => ?_)
  refine lv_goto (tgt := 3) hx hb dX1_put_59 (by decide) ?_
  refine lv_iload hx hb dX1_put_3 (lv_at hl 0 rfl) ?_
  refine lv_if_le (tgt := 62) hx hb dX1_put_5 (by decide) (fun c_2 => absurd c_2 (by decide)) (fun c_2 => ?_)
  refine lv_aload_n hx hb dX1_put_8 rfl (lv_at hl 1 rfl) ?_
  refine k_get (v := .ref km) S G 0 rfl rfl hiX1 0 (by decide) hf9 rfl dX1_put_9 ?_
  refine lv_iload hx hb dX1_put_12 (lv_at hl 0 rfl) ?_
  refine lv_aload_n hx hb dX1_put_14 rfl (lv_at hl 1 rfl) ?_
  refine k_get (v := .ref km) S G 0 rfl rfl hiX1 0 (by decide) hf9 rfl dX1_put_15 ?_
  refine lv_iload hx hb dX1_put_18 (lv_at hl 0 rfl) ?_
  refine lv_iconst (v := 1) hx hb dX1_put_20 (by decide) ?_
  refine lv_isub hx hb dX1_put_21 ?_
  refine lv_lit (v := 3) (by decide) ?_
  refine k_iald (x := (fm 3)) S G 1 0 rfl rfl (by unfold vp_in; decide) rfl dX1_put_22 ?_
  refine k_iast (ws1 := [(k, .inr (1, [.ref km, .ref kt, .ref kb, .int cn])), (km, .inl (cI, 6, .inl (upd (upd fm 5 (fm 4)) 4 (fm 3)))), (kt, .inl (cI, 6, .inl (upd ft 5 (ft 4)))), (kb, .inl (cI, 6, .inl (upd fb 5 (fb 4))))]) S G 1 0 rfl rfl (by unfold vp_in; decide) dX1_put_23 rfl (fun H locs G => ?_)
  refine lv_aload_n hx hb dX1_put_24 rfl (lv_at hl 1 rfl) ?_
  refine k_get (v := .ref kt) S G 0 rfl rfl hiX1 1 (by decide) hf15 rfl dX1_put_25 ?_
  refine lv_iload hx hb dX1_put_28 (lv_at hl 0 rfl) ?_
  refine lv_aload_n hx hb dX1_put_30 rfl (lv_at hl 1 rfl) ?_
  refine k_get (v := .ref kt) S G 0 rfl rfl hiX1 1 (by decide) hf15 rfl dX1_put_31 ?_
  refine lv_iload hx hb dX1_put_34 (lv_at hl 0 rfl) ?_
  refine lv_iconst (v := 1) hx hb dX1_put_36 (by decide) ?_
  refine lv_isub hx hb dX1_put_37 ?_
  refine lv_lit (v := 3) (by decide) ?_
  refine k_iald (x := (ft 3)) S G 2 0 rfl rfl (by unfold vp_in; decide) rfl dX1_put_38 ?_
  refine k_iast (ws1 := [(k, .inr (1, [.ref km, .ref kt, .ref kb, .int cn])), (km, .inl (cI, 6, .inl (upd (upd fm 5 (fm 4)) 4 (fm 3)))), (kt, .inl (cI, 6, .inl (upd (upd ft 5 (ft 4)) 4 (ft 3)))), (kb, .inl (cI, 6, .inl (upd fb 5 (fb 4))))]) S G 2 0 rfl rfl (by unfold vp_in; decide) dX1_put_39 rfl (fun H locs G => ?_)
  refine lv_aload_n hx hb dX1_put_40 rfl (lv_at hl 1 rfl) ?_
  refine k_get (v := .ref kb) S G 0 rfl rfl hiX1 2 (by decide) hf18 rfl dX1_put_41 ?_
  refine lv_iload hx hb dX1_put_44 (lv_at hl 0 rfl) ?_
  refine lv_aload_n hx hb dX1_put_46 rfl (lv_at hl 1 rfl) ?_
  refine k_get (v := .ref kb) S G 0 rfl rfl hiX1 2 (by decide) hf18 rfl dX1_put_47 ?_
  refine lv_iload hx hb dX1_put_50 (lv_at hl 0 rfl) ?_
  refine lv_iconst (v := 1) hx hb dX1_put_52 (by decide) ?_
  refine lv_isub hx hb dX1_put_53 ?_
  refine lv_lit (v := 3) (by decide) ?_
  refine k_iald (x := (fb 3)) S G 3 0 rfl rfl (by unfold vp_in; decide) rfl dX1_put_54 ?_
  refine k_iast (ws1 := [(k, .inr (1, [.ref km, .ref kt, .ref kb, .int cn])), (km, .inl (cI, 6, .inl (upd (upd fm 5 (fm 4)) 4 (fm 3)))), (kt, .inl (cI, 6, .inl (upd (upd ft 5 (ft 4)) 4 (ft 3)))), (kb, .inl (cI, 6, .inl (upd (upd fb 5 (fb 4)) 4 (fb 3))))]) S G 3 0 rfl rfl (by unfold vp_in; decide) dX1_put_55 rfl (fun H locs G => ?_)
  refine lv_iinc (v := 3) (lv' := [(4, .int 3), (0, .ref k), (1, .int q), (2, .int tr), (3, .int sb)]) hx hb dX1_put_56 hl (k := 0) rfl (by decide) (by decide) rfl (fun ls hl => ?_)
  refine lv_goto (tgt := 3) hx hb dX1_put_59 (by decide) ?_
  refine lv_iload hx hb dX1_put_3 (lv_at hl 0 rfl) ?_
  refine lv_if_le (tgt := 62) hx hb dX1_put_5 (by decide) (fun c_3 => absurd c_3 (by decide)) (fun c_3 => ?_)
  refine lv_aload_n hx hb dX1_put_8 rfl (lv_at hl 1 rfl) ?_
  refine k_get (v := .ref km) S G 0 rfl rfl hiX1 0 (by decide) hf9 rfl dX1_put_9 ?_
  refine lv_iload hx hb dX1_put_12 (lv_at hl 0 rfl) ?_
  refine lv_aload_n hx hb dX1_put_14 rfl (lv_at hl 1 rfl) ?_
  refine k_get (v := .ref km) S G 0 rfl rfl hiX1 0 (by decide) hf9 rfl dX1_put_15 ?_
  refine lv_iload hx hb dX1_put_18 (lv_at hl 0 rfl) ?_
  refine lv_iconst (v := 1) hx hb dX1_put_20 (by decide) ?_
  refine lv_isub hx hb dX1_put_21 ?_
  refine lv_lit (v := 2) (by decide) ?_
  refine k_iald (x := (fm 2)) S G 1 0 rfl rfl (by unfold vp_in; decide) rfl dX1_put_22 ?_
  refine k_iast (ws1 := [(k, .inr (1, [.ref km, .ref kt, .ref kb, .int cn])), (km, .inl (cI, 6, .inl (upd (upd (upd fm 5 (fm 4)) 4 (fm 3)) 3 (fm 2)))), (kt, .inl (cI, 6, .inl (upd (upd ft 5 (ft 4)) 4 (ft 3)))), (kb, .inl (cI, 6, .inl (upd (upd fb 5 (fb 4)) 4 (fb 3))))]) S G 1 0 rfl rfl (by unfold vp_in; decide) dX1_put_23 rfl (fun H locs G => ?_)
  refine lv_aload_n hx hb dX1_put_24 rfl (lv_at hl 1 rfl) ?_
  refine k_get (v := .ref kt) S G 0 rfl rfl hiX1 1 (by decide) hf15 rfl dX1_put_25 ?_
  refine lv_iload hx hb dX1_put_28 (lv_at hl 0 rfl) ?_
  refine lv_aload_n hx hb dX1_put_30 rfl (lv_at hl 1 rfl) ?_
  refine k_get (v := .ref kt) S G 0 rfl rfl hiX1 1 (by decide) hf15 rfl dX1_put_31 ?_
  refine lv_iload hx hb dX1_put_34 (lv_at hl 0 rfl) ?_
  refine lv_iconst (v := 1) hx hb dX1_put_36 (by decide) ?_
  refine lv_isub hx hb dX1_put_37 ?_
  refine lv_lit (v := 2) (by decide) ?_
  refine k_iald (x := (ft 2)) S G 2 0 rfl rfl (by unfold vp_in; decide) rfl dX1_put_38 ?_
  refine k_iast (ws1 := [(k, .inr (1, [.ref km, .ref kt, .ref kb, .int cn])), (km, .inl (cI, 6, .inl (upd (upd (upd fm 5 (fm 4)) 4 (fm 3)) 3 (fm 2)))), (kt, .inl (cI, 6, .inl (upd (upd (upd ft 5 (ft 4)) 4 (ft 3)) 3 (ft 2)))), (kb, .inl (cI, 6, .inl (upd (upd fb 5 (fb 4)) 4 (fb 3))))]) S G 2 0 rfl rfl (by unfold vp_in; decide) dX1_put_39 rfl (fun H locs G => ?_)
  refine lv_aload_n hx hb dX1_put_40 rfl (lv_at hl 1 rfl) ?_
  refine k_get (v := .ref kb) S G 0 rfl rfl hiX1 2 (by decide) hf18 rfl dX1_put_41 ?_
  refine lv_iload hx hb dX1_put_44 (lv_at hl 0 rfl) ?_
  refine lv_aload_n hx hb dX1_put_46 rfl (lv_at hl 1 rfl) ?_
  refine k_get (v := .ref kb) S G 0 rfl rfl hiX1 2 (by decide) hf18 rfl dX1_put_47 ?_
  refine lv_iload hx hb dX1_put_50 (lv_at hl 0 rfl) ?_
  refine lv_iconst (v := 1) hx hb dX1_put_52 (by decide) ?_
  refine lv_isub hx hb dX1_put_53 ?_
  refine lv_lit (v := 2) (by decide) ?_
  refine k_iald (x := (fb 2)) S G 3 0 rfl rfl (by unfold vp_in; decide) rfl dX1_put_54 ?_
  refine k_iast (ws1 := [(k, .inr (1, [.ref km, .ref kt, .ref kb, .int cn])), (km, .inl (cI, 6, .inl (upd (upd (upd fm 5 (fm 4)) 4 (fm 3)) 3 (fm 2)))), (kt, .inl (cI, 6, .inl (upd (upd (upd ft 5 (ft 4)) 4 (ft 3)) 3 (ft 2)))), (kb, .inl (cI, 6, .inl (upd (upd (upd fb 5 (fb 4)) 4 (fb 3)) 3 (fb 2))))]) S G 3 0 rfl rfl (by unfold vp_in; decide) dX1_put_55 rfl (fun H locs G => ?_)
  refine lv_iinc (v := 2) (lv' := [(4, .int 2), (0, .ref k), (1, .int q), (2, .int tr), (3, .int sb)]) hx hb dX1_put_56 hl (k := 0) rfl (by decide) (by decide) rfl (fun ls hl => ?_)
  refine lv_goto (tgt := 3) hx hb dX1_put_59 (by decide) ?_
  refine lv_iload hx hb dX1_put_3 (lv_at hl 0 rfl) ?_
  refine lv_if_le (tgt := 62) hx hb dX1_put_5 (by decide) (fun c_4 => absurd c_4 (by decide)) (fun c_4 => ?_)
  refine lv_aload_n hx hb dX1_put_8 rfl (lv_at hl 1 rfl) ?_
  refine k_get (v := .ref km) S G 0 rfl rfl hiX1 0 (by decide) hf9 rfl dX1_put_9 ?_
  refine lv_iload hx hb dX1_put_12 (lv_at hl 0 rfl) ?_
  refine lv_aload_n hx hb dX1_put_14 rfl (lv_at hl 1 rfl) ?_
  refine k_get (v := .ref km) S G 0 rfl rfl hiX1 0 (by decide) hf9 rfl dX1_put_15 ?_
  refine lv_iload hx hb dX1_put_18 (lv_at hl 0 rfl) ?_
  refine lv_iconst (v := 1) hx hb dX1_put_20 (by decide) ?_
  refine lv_isub hx hb dX1_put_21 ?_
  refine lv_lit (v := 1) (by decide) ?_
  refine k_iald (x := (fm 1)) S G 1 0 rfl rfl (by unfold vp_in; decide) rfl dX1_put_22 ?_
  refine k_iast (ws1 := [(k, .inr (1, [.ref km, .ref kt, .ref kb, .int cn])), (km, .inl (cI, 6, .inl (upd (upd (upd (upd fm 5 (fm 4)) 4 (fm 3)) 3 (fm 2)) 2 (fm 1)))), (kt, .inl (cI, 6, .inl (upd (upd (upd ft 5 (ft 4)) 4 (ft 3)) 3 (ft 2)))), (kb, .inl (cI, 6, .inl (upd (upd (upd fb 5 (fb 4)) 4 (fb 3)) 3 (fb 2))))]) S G 1 0 rfl rfl (by unfold vp_in; decide) dX1_put_23 rfl (fun H locs G => ?_)
  refine lv_aload_n hx hb dX1_put_24 rfl (lv_at hl 1 rfl) ?_
  refine k_get (v := .ref kt) S G 0 rfl rfl hiX1 1 (by decide) hf15 rfl dX1_put_25 ?_
  refine lv_iload hx hb dX1_put_28 (lv_at hl 0 rfl) ?_
  refine lv_aload_n hx hb dX1_put_30 rfl (lv_at hl 1 rfl) ?_
  refine k_get (v := .ref kt) S G 0 rfl rfl hiX1 1 (by decide) hf15 rfl dX1_put_31 ?_
  refine lv_iload hx hb dX1_put_34 (lv_at hl 0 rfl) ?_
  refine lv_iconst (v := 1) hx hb dX1_put_36 (by decide) ?_
  refine lv_isub hx hb dX1_put_37 ?_
  refine lv_lit (v := 1) (by decide) ?_
  refine k_iald (x := (ft 1)) S G 2 0 rfl rfl (by unfold vp_in; decide) rfl dX1_put_38 ?_
  refine k_iast (ws1 := [(k, .inr (1, [.ref km, .ref kt, .ref kb, .int cn])), (km, .inl (cI, 6, .inl (upd (upd (upd (upd fm 5 (fm 4)) 4 (fm 3)) 3 (fm 2)) 2 (fm 1)))), (kt, .inl (cI, 6, .inl (upd (upd (upd (upd ft 5 (ft 4)) 4 (ft 3)) 3 (ft 2)) 2 (ft 1)))), (kb, .inl (cI, 6, .inl (upd (upd (upd fb 5 (fb 4)) 4 (fb 3)) 3 (fb 2))))]) S G 2 0 rfl rfl (by unfold vp_in; decide) dX1_put_39 rfl (fun H locs G => ?_)
  refine lv_aload_n hx hb dX1_put_40 rfl (lv_at hl 1 rfl) ?_
  refine k_get (v := .ref kb) S G 0 rfl rfl hiX1 2 (by decide) hf18 rfl dX1_put_41 ?_
  refine lv_iload hx hb dX1_put_44 (lv_at hl 0 rfl) ?_
  refine lv_aload_n hx hb dX1_put_46 rfl (lv_at hl 1 rfl) ?_
  refine k_get (v := .ref kb) S G 0 rfl rfl hiX1 2 (by decide) hf18 rfl dX1_put_47 ?_
  refine lv_iload hx hb dX1_put_50 (lv_at hl 0 rfl) ?_
  refine lv_iconst (v := 1) hx hb dX1_put_52 (by decide) ?_
  refine lv_isub hx hb dX1_put_53 ?_
  refine lv_lit (v := 1) (by decide) ?_
  refine k_iald (x := (fb 1)) S G 3 0 rfl rfl (by unfold vp_in; decide) rfl dX1_put_54 ?_
  refine k_iast (ws1 := [(k, .inr (1, [.ref km, .ref kt, .ref kb, .int cn])), (km, .inl (cI, 6, .inl (upd (upd (upd (upd fm 5 (fm 4)) 4 (fm 3)) 3 (fm 2)) 2 (fm 1)))), (kt, .inl (cI, 6, .inl (upd (upd (upd (upd ft 5 (ft 4)) 4 (ft 3)) 3 (ft 2)) 2 (ft 1)))), (kb, .inl (cI, 6, .inl (upd (upd (upd (upd fb 5 (fb 4)) 4 (fb 3)) 3 (fb 2)) 2 (fb 1))))]) S G 3 0 rfl rfl (by unfold vp_in; decide) dX1_put_55 rfl (fun H locs G => ?_)
  refine lv_iinc (v := 1) (lv' := [(4, .int 1), (0, .ref k), (1, .int q), (2, .int tr), (3, .int sb)]) hx hb dX1_put_56 hl (k := 0) rfl (by decide) (by decide) rfl (fun ls hl => ?_)
  refine lv_goto (tgt := 3) hx hb dX1_put_59 (by decide) ?_
  refine lv_iload hx hb dX1_put_3 (lv_at hl 0 rfl) ?_
  refine lv_if_le (tgt := 62) hx hb dX1_put_5 (by decide) (fun c_5 => absurd c_5 (by decide)) (fun c_5 => ?_)
  refine lv_aload_n hx hb dX1_put_8 rfl (lv_at hl 1 rfl) ?_
  refine k_get (v := .ref km) S G 0 rfl rfl hiX1 0 (by decide) hf9 rfl dX1_put_9 ?_
  refine lv_iload hx hb dX1_put_12 (lv_at hl 0 rfl) ?_
  refine lv_aload_n hx hb dX1_put_14 rfl (lv_at hl 1 rfl) ?_
  refine k_get (v := .ref km) S G 0 rfl rfl hiX1 0 (by decide) hf9 rfl dX1_put_15 ?_
  refine lv_iload hx hb dX1_put_18 (lv_at hl 0 rfl) ?_
  refine lv_iconst (v := 1) hx hb dX1_put_20 (by decide) ?_
  refine lv_isub hx hb dX1_put_21 ?_
  refine lv_lit (v := 0) (by decide) ?_
  refine k_iald (x := (fm 0)) S G 1 0 rfl rfl (by unfold vp_in; decide) rfl dX1_put_22 ?_
  refine k_iast (ws1 := [(k, .inr (1, [.ref km, .ref kt, .ref kb, .int cn])), (km, .inl (cI, 6, .inl (upd (upd (upd (upd (upd fm 5 (fm 4)) 4 (fm 3)) 3 (fm 2)) 2 (fm 1)) 1 (fm 0)))), (kt, .inl (cI, 6, .inl (upd (upd (upd (upd ft 5 (ft 4)) 4 (ft 3)) 3 (ft 2)) 2 (ft 1)))), (kb, .inl (cI, 6, .inl (upd (upd (upd (upd fb 5 (fb 4)) 4 (fb 3)) 3 (fb 2)) 2 (fb 1))))]) S G 1 0 rfl rfl (by unfold vp_in; decide) dX1_put_23 rfl (fun H locs G => ?_)
  refine lv_aload_n hx hb dX1_put_24 rfl (lv_at hl 1 rfl) ?_
  refine k_get (v := .ref kt) S G 0 rfl rfl hiX1 1 (by decide) hf15 rfl dX1_put_25 ?_
  refine lv_iload hx hb dX1_put_28 (lv_at hl 0 rfl) ?_
  refine lv_aload_n hx hb dX1_put_30 rfl (lv_at hl 1 rfl) ?_
  refine k_get (v := .ref kt) S G 0 rfl rfl hiX1 1 (by decide) hf15 rfl dX1_put_31 ?_
  refine lv_iload hx hb dX1_put_34 (lv_at hl 0 rfl) ?_
  refine lv_iconst (v := 1) hx hb dX1_put_36 (by decide) ?_
  refine lv_isub hx hb dX1_put_37 ?_
  refine lv_lit (v := 0) (by decide) ?_
  refine k_iald (x := (ft 0)) S G 2 0 rfl rfl (by unfold vp_in; decide) rfl dX1_put_38 ?_
  refine k_iast (ws1 := [(k, .inr (1, [.ref km, .ref kt, .ref kb, .int cn])), (km, .inl (cI, 6, .inl (upd (upd (upd (upd (upd fm 5 (fm 4)) 4 (fm 3)) 3 (fm 2)) 2 (fm 1)) 1 (fm 0)))), (kt, .inl (cI, 6, .inl (upd (upd (upd (upd (upd ft 5 (ft 4)) 4 (ft 3)) 3 (ft 2)) 2 (ft 1)) 1 (ft 0)))), (kb, .inl (cI, 6, .inl (upd (upd (upd (upd fb 5 (fb 4)) 4 (fb 3)) 3 (fb 2)) 2 (fb 1))))]) S G 2 0 rfl rfl (by unfold vp_in; decide) dX1_put_39 rfl (fun H locs G => ?_)
  refine lv_aload_n hx hb dX1_put_40 rfl (lv_at hl 1 rfl) ?_
  refine k_get (v := .ref kb) S G 0 rfl rfl hiX1 2 (by decide) hf18 rfl dX1_put_41 ?_
  refine lv_iload hx hb dX1_put_44 (lv_at hl 0 rfl) ?_
  refine lv_aload_n hx hb dX1_put_46 rfl (lv_at hl 1 rfl) ?_
  refine k_get (v := .ref kb) S G 0 rfl rfl hiX1 2 (by decide) hf18 rfl dX1_put_47 ?_
  refine lv_iload hx hb dX1_put_50 (lv_at hl 0 rfl) ?_
  refine lv_iconst (v := 1) hx hb dX1_put_52 (by decide) ?_
  refine lv_isub hx hb dX1_put_53 ?_
  refine lv_lit (v := 0) (by decide) ?_
  refine k_iald (x := (fb 0)) S G 3 0 rfl rfl (by unfold vp_in; decide) rfl dX1_put_54 ?_
  refine k_iast (ws1 := [(k, .inr (1, [.ref km, .ref kt, .ref kb, .int cn])), (km, .inl (cI, 6, .inl (upd (upd (upd (upd (upd fm 5 (fm 4)) 4 (fm 3)) 3 (fm 2)) 2 (fm 1)) 1 (fm 0)))), (kt, .inl (cI, 6, .inl (upd (upd (upd (upd (upd ft 5 (ft 4)) 4 (ft 3)) 3 (ft 2)) 2 (ft 1)) 1 (ft 0)))), (kb, .inl (cI, 6, .inl (upd (upd (upd (upd (upd fb 5 (fb 4)) 4 (fb 3)) 3 (fb 2)) 2 (fb 1)) 1 (fb 0))))]) S G 3 0 rfl rfl (by unfold vp_in; decide) dX1_put_55 rfl (fun H locs G => ?_)
  refine lv_iinc (v := 0) (lv' := [(4, .int 0), (0, .ref k), (1, .int q), (2, .int tr), (3, .int sb)]) hx hb dX1_put_56 hl (k := 0) rfl (by decide) (by decide) rfl (fun ls hl => ?_)
  refine lv_goto (tgt := 3) hx hb dX1_put_59 (by decide) ?_
  refine lv_iload hx hb dX1_put_3 (lv_at hl 0 rfl) ?_
  refine lv_if_le (tgt := 62) hx hb dX1_put_5 (by decide) (fun c_6 => ?_) (fun c_6 => absurd c_6 (by decide))
  refine lv_aload_n hx hb dX1_put_62 rfl (lv_at hl 1 rfl) ?_
  refine k_get (v := .ref km) S G 0 rfl rfl hiX1 0 (by decide) hf9 rfl dX1_put_63 ?_
  refine lv_iconst (v := 0) hx hb dX1_put_66 (by decide) ?_
  refine lv_iload_n hx hb dX1_put_67 rfl (lv_at hl 2 rfl) ?_
  refine k_iast (ws1 := [(k, .inr (1, [.ref km, .ref kt, .ref kb, .int cn])), (km, .inl (cI, 6, .inl (upd (upd (upd (upd (upd (upd fm 5 (fm 4)) 4 (fm 3)) 3 (fm 2)) 2 (fm 1)) 1 (fm 0)) 0 q))), (kt, .inl (cI, 6, .inl (upd (upd (upd (upd (upd ft 5 (ft 4)) 4 (ft 3)) 3 (ft 2)) 2 (ft 1)) 1 (ft 0)))), (kb, .inl (cI, 6, .inl (upd (upd (upd (upd (upd fb 5 (fb 4)) 4 (fb 3)) 3 (fb 2)) 2 (fb 1)) 1 (fb 0))))]) S G 1 0 rfl rfl (by unfold vp_in; decide) dX1_put_68 rfl (fun H locs G => ?_)
  refine lv_aload_n hx hb dX1_put_69 rfl (lv_at hl 1 rfl) ?_
  refine k_get (v := .ref kt) S G 0 rfl rfl hiX1 1 (by decide) hf15 rfl dX1_put_70 ?_
  refine lv_iconst (v := 0) hx hb dX1_put_73 (by decide) ?_
  refine lv_iload_n hx hb dX1_put_74 rfl (lv_at hl 3 rfl) ?_
  refine k_iast (ws1 := [(k, .inr (1, [.ref km, .ref kt, .ref kb, .int cn])), (km, .inl (cI, 6, .inl (upd (upd (upd (upd (upd (upd fm 5 (fm 4)) 4 (fm 3)) 3 (fm 2)) 2 (fm 1)) 1 (fm 0)) 0 q))), (kt, .inl (cI, 6, .inl (upd (upd (upd (upd (upd (upd ft 5 (ft 4)) 4 (ft 3)) 3 (ft 2)) 2 (ft 1)) 1 (ft 0)) 0 tr))), (kb, .inl (cI, 6, .inl (upd (upd (upd (upd (upd fb 5 (fb 4)) 4 (fb 3)) 3 (fb 2)) 2 (fb 1)) 1 (fb 0))))]) S G 2 0 rfl rfl (by unfold vp_in; decide) dX1_put_75 rfl (fun H locs G => ?_)
  refine lv_aload_n hx hb dX1_put_76 rfl (lv_at hl 1 rfl) ?_
  refine k_get (v := .ref kb) S G 0 rfl rfl hiX1 2 (by decide) hf18 rfl dX1_put_77 ?_
  refine lv_iconst (v := 0) hx hb dX1_put_80 (by decide) ?_
  refine lv_iload_n hx hb dX1_put_81 rfl (lv_at hl 4 rfl) ?_
  refine k_iast (ws1 := [(k, .inr (1, [.ref km, .ref kt, .ref kb, .int cn])), (km, .inl (cI, 6, .inl (upd (upd (upd (upd (upd (upd fm 5 (fm 4)) 4 (fm 3)) 3 (fm 2)) 2 (fm 1)) 1 (fm 0)) 0 q))), (kt, .inl (cI, 6, .inl (upd (upd (upd (upd (upd (upd ft 5 (ft 4)) 4 (ft 3)) 3 (ft 2)) 2 (ft 1)) 1 (ft 0)) 0 tr))), (kb, .inl (cI, 6, .inl (upd (upd (upd (upd (upd (upd fb 5 (fb 4)) 4 (fb 3)) 3 (fb 2)) 2 (fb 1)) 1 (fb 0)) 0 sb)))]) S G 3 0 rfl rfl (by unfold vp_in; decide) dX1_put_82 rfl (fun H locs G => ?_)
  refine lv_aload_n hx hb dX1_put_83 rfl (lv_at hl 1 rfl) ?_
  refine lv_aload_n hx hb dX1_put_84 rfl (lv_at hl 1 rfl) ?_
  refine k_get (v := .int cn) S G 0 rfl rfl hiX1 3 (by decide) hf21 rfl dX1_put_85 ?_
  refine lv_iconst (v := 1) hx hb dX1_put_88 (by decide) ?_
  refine lv_iadd hx hb dX1_put_89 ?_
  refine lv_bipush (v := 6) hx hb dX1_put_90 (by decide) ?_
  refine k_mmin S hl.1 hmL hmS hmI hmC (Nat.le_of_ble_eq_true rfl) (Nat.le_of_ble_eq_true rfl) ⟨Nat.zero_le _, Nat.zero_le _⟩ dX1_put_92 ?_
  refine k_put (ws1 := [(k, .inr (1, [.ref km, .ref kt, .ref kb, .int (if 6 < (cn + 1) then 6 else (cn + 1))])), (km, .inl (cI, 6, .inl (upd (upd (upd (upd (upd (upd fm 5 (fm 4)) 4 (fm 3)) 3 (fm 2)) 2 (fm 1)) 1 (fm 0)) 0 q))), (kt, .inl (cI, 6, .inl (upd (upd (upd (upd (upd (upd ft 5 (ft 4)) 4 (ft 3)) 3 (ft 2)) 2 (ft 1)) 1 (ft 0)) 0 tr))), (kb, .inl (cI, 6, .inl (upd (upd (upd (upd (upd (upd fb 5 (fb 4)) 4 (fb 3)) 3 (fb 2)) 2 (fb 1)) 1 (fb 0)) 0 sb)))]) S G 0 rfl rfl hiX1 tyX1 tyX1_ok nmX1 3 (by decide) hf21 rfl rfl rfl (Nat.le_of_ble_eq_true rfl) dX1_put_95 rfl (fun H locs G => ?_)
  have G := Gd.arr (ws1 := [(k, .inr (1, [.ref km, .ref kt, .ref kb, .int (if 6 < (cn + 1) then 6 else (cn + 1))])), (km, .inl (cI, 6, .inl (shf q fm))), (kt, .inl (cI, 6, .inl (upd (upd (upd (upd (upd (upd ft 5 (ft 4)) 4 (ft 3)) 3 (ft 2)) 2 (ft 1)) 1 (ft 0)) 0 tr))), (kb, .inl (cI, 6, .inl (upd (upd (upd (upd (upd (upd fb 5 (fb 4)) 4 (fb 3)) 3 (fb 2)) 2 (fb 1)) 1 (fb 0)) 0 sb)))]) G 1 (shf q fm) rfl (fun i hi => by rcases (show i = 0 ∨ i = 1 ∨ i = 2 ∨ i = 3 ∨ i = 4 ∨ i = 5 by omega) with rfl | rfl | rfl | rfl | rfl | rfl <;> rfl) rfl
  have G := Gd.arr (ws1 := [(k, .inr (1, [.ref km, .ref kt, .ref kb, .int (if 6 < (cn + 1) then 6 else (cn + 1))])), (km, .inl (cI, 6, .inl (shf q fm))), (kt, .inl (cI, 6, .inl (shf tr ft))), (kb, .inl (cI, 6, .inl (upd (upd (upd (upd (upd (upd fb 5 (fb 4)) 4 (fb 3)) 3 (fb 2)) 2 (fb 1)) 1 (fb 0)) 0 sb)))]) G 2 (shf tr ft) rfl (fun i hi => by rcases (show i = 0 ∨ i = 1 ∨ i = 2 ∨ i = 3 ∨ i = 4 ∨ i = 5 by omega) with rfl | rfl | rfl | rfl | rfl | rfl <;> rfl) rfl
  have G := Gd.arr (ws1 := [(k, .inr (1, [.ref km, .ref kt, .ref kb, .int (if 6 < (cn + 1) then 6 else (cn + 1))])), (km, .inl (cI, 6, .inl (shf q fm))), (kt, .inl (cI, 6, .inl (shf tr ft))), (kb, .inl (cI, 6, .inl (shf sb fb)))]) G 3 (shf sb fb) rfl (fun i hi => by rcases (show i = 0 ∨ i = 1 ∨ i = 2 ∨ i = 3 ∨ i = 4 ∨ i = 5 by omega) with rfl | rfl | rfl | rfl | rfl | rfl <;> rfl) rfl
  exact k_vret S G hr hlk dX1_put_98 rfl
set_option maxHeartbeats 4000000 in
set_option maxRecDepth 100000 in
theorem c_X1_copyFrom (l : Launch) (D : va_G) (cI cS : ClassId) (k : Nat) (km : Nat) (kt : Nat) (kb : Nat) (cn : Int32) (fm : Nat → Int32) (ft : Nat → Int32) (fb : Nat → Int32) (o : Nat) (om : Nat) (ot : Nat) (ob : Nat) (cn2 : Int32) (fm2 : Nat → Int32) (ft2 : Nat → Int32) (fb2 : Nat → Int32) : Ct l yX1_copyFrom wsX1_copyFrom ({ frames := 0, cells := 0, slots := 0, locals := 0 }) D (tyL cI cS) [.ref k, .ref o] [(k, .inr (1, [.ref km, .ref kt, .ref kb, .int cn])), (km, .inl (cI, 6, .inl fm)), (kt, .inl (cI, 6, .inl ft)), (kb, .inl (cI, 6, .inl fb)), (o, .inr (1, [.ref om, .ref ot, .ref ob, .int cn2])), (om, .inl (cI, 6, .inl fm2)), (ot, .inl (cI, 6, .inl ft2)), (ob, .inl (cI, 6, .inl fb2))] none [(k, .inr (1, [.ref km, .ref kt, .ref kb, .int cn2])), (km, .inl (cI, 6, .inl fm2)), (kt, .inl (cI, 6, .inl ft2)), (kb, .inl (cI, 6, .inl fb2)), (o, .inr (1, [.ref om, .ref ot, .ref ob, .int cn2])), (om, .inl (cI, 6, .inl fm2)), (ot, .inl (cI, 6, .inl ft2)), (ob, .inl (cI, 6, .inl fb2))] := by
  refine Ct.of (cc := cX1_copyFrom) (maxL := 3) (ret := none) (by decide) rfl (Nat.le_of_ble_eq_true rfl) ?_
  intro p ev s m args below meth c A ls S hr hlk G hl
  have hx := S.1
  have hb := S.2.1
  have hown : s.vm.findClass RX1 = some m.cls := S.2.2.2.1
  have hts := S.2.2.2.2
  have hl : lv_has ls 3 [(0, .ref k), (1, .ref o)] := hl
  have hiX1 : ∀ w ∈ wsX10, w ∈ wsX1_copyFrom := by decide +kernel
  have hf9 := hts (.fieldLink RX1 9 "StrikingWork$Strikes" "minutes" "[I") (by decide +kernel)
  have hf15 := hts (.fieldLink RX1 15 "StrikingWork$Strikes" "trains" "[I") (by decide +kernel)
  have hf18 := hts (.fieldLink RX1 18 "StrikingWork$Strikes" "blows" "[I") (by decide +kernel)
  have hf21 := hts (.fieldLink RX1 21 "StrikingWork$Strikes" "count" "I") (by decide +kernel)
  refine lv_iconst (v := 0) hx hb dX1_copyFrom_0 (by decide) ?_
  refine lv_istore_n (lv' := [(2, .int 0), (0, .ref k), (1, .ref o)]) hx hb dX1_copyFrom_1 rfl hl (by decide) rfl (fun ls hl => ?_)
  refine lv_iload_n hx hb dX1_copyFrom_2 rfl (lv_at hl 0 rfl) ?_
  refine lv_bipush (v := 6) hx hb dX1_copyFrom_3 (by decide) ?_
  refine lv_icmp_ge (tgt := 50) hx hb dX1_copyFrom_5 (by decide) (fun c_1 => absurd c_1 (by decide)) (fun c_1 => ?_)
  refine lv_aload_n hx hb dX1_copyFrom_8 rfl (lv_at hl 1 rfl) ?_
  refine k_get (v := .ref km) S G 0 rfl rfl hiX1 0 (by decide) hf9 rfl dX1_copyFrom_9 ?_
  refine lv_iload_n hx hb dX1_copyFrom_12 rfl (lv_at hl 0 rfl) ?_
  refine lv_aload_n hx hb dX1_copyFrom_13 rfl (lv_at hl 2 rfl) ?_
  refine k_get (v := .ref om) S G 4 rfl rfl hiX1 0 (by decide) hf9 rfl dX1_copyFrom_14 ?_
  refine lv_iload_n hx hb dX1_copyFrom_17 rfl (lv_at hl 0 rfl) ?_
  refine k_iald (x := (fm2 0)) S G 5 0 rfl rfl (by unfold vp_in; decide) rfl dX1_copyFrom_18 ?_
  refine k_iast (ws1 := [(k, .inr (1, [.ref km, .ref kt, .ref kb, .int cn])), (km, .inl (cI, 6, .inl (upd fm 0 (fm2 0)))), (kt, .inl (cI, 6, .inl ft)), (kb, .inl (cI, 6, .inl fb)), (o, .inr (1, [.ref om, .ref ot, .ref ob, .int cn2])), (om, .inl (cI, 6, .inl fm2)), (ot, .inl (cI, 6, .inl ft2)), (ob, .inl (cI, 6, .inl fb2))]) S G 1 0 rfl rfl (by unfold vp_in; decide) dX1_copyFrom_19 rfl (fun H locs G => ?_)
  refine lv_aload_n hx hb dX1_copyFrom_20 rfl (lv_at hl 1 rfl) ?_
  refine k_get (v := .ref kt) S G 0 rfl rfl hiX1 1 (by decide) hf15 rfl dX1_copyFrom_21 ?_
  refine lv_iload_n hx hb dX1_copyFrom_24 rfl (lv_at hl 0 rfl) ?_
  refine lv_aload_n hx hb dX1_copyFrom_25 rfl (lv_at hl 2 rfl) ?_
  refine k_get (v := .ref ot) S G 4 rfl rfl hiX1 1 (by decide) hf15 rfl dX1_copyFrom_26 ?_
  refine lv_iload_n hx hb dX1_copyFrom_29 rfl (lv_at hl 0 rfl) ?_
  refine k_iald (x := (ft2 0)) S G 6 0 rfl rfl (by unfold vp_in; decide) rfl dX1_copyFrom_30 ?_
  refine k_iast (ws1 := [(k, .inr (1, [.ref km, .ref kt, .ref kb, .int cn])), (km, .inl (cI, 6, .inl (upd fm 0 (fm2 0)))), (kt, .inl (cI, 6, .inl (upd ft 0 (ft2 0)))), (kb, .inl (cI, 6, .inl fb)), (o, .inr (1, [.ref om, .ref ot, .ref ob, .int cn2])), (om, .inl (cI, 6, .inl fm2)), (ot, .inl (cI, 6, .inl ft2)), (ob, .inl (cI, 6, .inl fb2))]) S G 2 0 rfl rfl (by unfold vp_in; decide) dX1_copyFrom_31 rfl (fun H locs G => ?_)
  refine lv_aload_n hx hb dX1_copyFrom_32 rfl (lv_at hl 1 rfl) ?_
  refine k_get (v := .ref kb) S G 0 rfl rfl hiX1 2 (by decide) hf18 rfl dX1_copyFrom_33 ?_
  refine lv_iload_n hx hb dX1_copyFrom_36 rfl (lv_at hl 0 rfl) ?_
  refine lv_aload_n hx hb dX1_copyFrom_37 rfl (lv_at hl 2 rfl) ?_
  refine k_get (v := .ref ob) S G 4 rfl rfl hiX1 2 (by decide) hf18 rfl dX1_copyFrom_38 ?_
  refine lv_iload_n hx hb dX1_copyFrom_41 rfl (lv_at hl 0 rfl) ?_
  refine k_iald (x := (fb2 0)) S G 7 0 rfl rfl (by unfold vp_in; decide) rfl dX1_copyFrom_42 ?_
  refine k_iast (ws1 := [(k, .inr (1, [.ref km, .ref kt, .ref kb, .int cn])), (km, .inl (cI, 6, .inl (upd fm 0 (fm2 0)))), (kt, .inl (cI, 6, .inl (upd ft 0 (ft2 0)))), (kb, .inl (cI, 6, .inl (upd fb 0 (fb2 0)))), (o, .inr (1, [.ref om, .ref ot, .ref ob, .int cn2])), (om, .inl (cI, 6, .inl fm2)), (ot, .inl (cI, 6, .inl ft2)), (ob, .inl (cI, 6, .inl fb2))]) S G 3 0 rfl rfl (by unfold vp_in; decide) dX1_copyFrom_43 rfl (fun H locs G => ?_)
  refine lv_iinc (v := 1) (lv' := [(2, .int 1), (0, .ref k), (1, .ref o)]) hx hb dX1_copyFrom_44 hl (k := 0) rfl (by decide) (by decide) rfl (fun ls hl => ?_)
  refine lv_goto (tgt := 2) hx hb dX1_copyFrom_47 (by decide) ?_
  refine lv_iload_n hx hb dX1_copyFrom_2 rfl (lv_at hl 0 rfl) ?_
  refine lv_bipush (v := 6) hx hb dX1_copyFrom_3 (by decide) ?_
  refine lv_icmp_ge (tgt := 50) hx hb dX1_copyFrom_5 (by decide) (fun c_2 => absurd c_2 (by decide)) (fun c_2 => ?_)
  refine lv_aload_n hx hb dX1_copyFrom_8 rfl (lv_at hl 1 rfl) ?_
  refine k_get (v := .ref km) S G 0 rfl rfl hiX1 0 (by decide) hf9 rfl dX1_copyFrom_9 ?_
  refine lv_iload_n hx hb dX1_copyFrom_12 rfl (lv_at hl 0 rfl) ?_
  refine lv_aload_n hx hb dX1_copyFrom_13 rfl (lv_at hl 2 rfl) ?_
  refine k_get (v := .ref om) S G 4 rfl rfl hiX1 0 (by decide) hf9 rfl dX1_copyFrom_14 ?_
  refine lv_iload_n hx hb dX1_copyFrom_17 rfl (lv_at hl 0 rfl) ?_
  refine k_iald (x := (fm2 1)) S G 5 0 rfl rfl (by unfold vp_in; decide) rfl dX1_copyFrom_18 ?_
  refine k_iast (ws1 := [(k, .inr (1, [.ref km, .ref kt, .ref kb, .int cn])), (km, .inl (cI, 6, .inl (upd (upd fm 0 (fm2 0)) 1 (fm2 1)))), (kt, .inl (cI, 6, .inl (upd ft 0 (ft2 0)))), (kb, .inl (cI, 6, .inl (upd fb 0 (fb2 0)))), (o, .inr (1, [.ref om, .ref ot, .ref ob, .int cn2])), (om, .inl (cI, 6, .inl fm2)), (ot, .inl (cI, 6, .inl ft2)), (ob, .inl (cI, 6, .inl fb2))]) S G 1 0 rfl rfl (by unfold vp_in; decide) dX1_copyFrom_19 rfl (fun H locs G => ?_)
  refine lv_aload_n hx hb dX1_copyFrom_20 rfl (lv_at hl 1 rfl) ?_
  refine k_get (v := .ref kt) S G 0 rfl rfl hiX1 1 (by decide) hf15 rfl dX1_copyFrom_21 ?_
  refine lv_iload_n hx hb dX1_copyFrom_24 rfl (lv_at hl 0 rfl) ?_
  refine lv_aload_n hx hb dX1_copyFrom_25 rfl (lv_at hl 2 rfl) ?_
  refine k_get (v := .ref ot) S G 4 rfl rfl hiX1 1 (by decide) hf15 rfl dX1_copyFrom_26 ?_
  refine lv_iload_n hx hb dX1_copyFrom_29 rfl (lv_at hl 0 rfl) ?_
  refine k_iald (x := (ft2 1)) S G 6 0 rfl rfl (by unfold vp_in; decide) rfl dX1_copyFrom_30 ?_
  refine k_iast (ws1 := [(k, .inr (1, [.ref km, .ref kt, .ref kb, .int cn])), (km, .inl (cI, 6, .inl (upd (upd fm 0 (fm2 0)) 1 (fm2 1)))), (kt, .inl (cI, 6, .inl (upd (upd ft 0 (ft2 0)) 1 (ft2 1)))), (kb, .inl (cI, 6, .inl (upd fb 0 (fb2 0)))), (o, .inr (1, [.ref om, .ref ot, .ref ob, .int cn2])), (om, .inl (cI, 6, .inl fm2)), (ot, .inl (cI, 6, .inl ft2)), (ob, .inl (cI, 6, .inl fb2))]) S G 2 0 rfl rfl (by unfold vp_in; decide) dX1_copyFrom_31 rfl (fun H locs G => ?_)
  refine lv_aload_n hx hb dX1_copyFrom_32 rfl (lv_at hl 1 rfl) ?_
  refine k_get (v := .ref kb) S G 0 rfl rfl hiX1 2 (by decide) hf18 rfl dX1_copyFrom_33 ?_
  refine lv_iload_n hx hb dX1_copyFrom_36 rfl (lv_at hl 0 rfl) ?_
  refine lv_aload_n hx hb dX1_copyFrom_37 rfl (lv_at hl 2 rfl) ?_
  refine k_get (v := .ref ob) S G 4 rfl rfl hiX1 2 (by decide) hf18 rfl dX1_copyFrom_38 ?_
  refine lv_iload_n hx hb dX1_copyFrom_41 rfl (lv_at hl 0 rfl) ?_
  refine k_iald (x := (fb2 1)) S G 7 0 rfl rfl (by unfold vp_in; decide) rfl dX1_copyFrom_42 ?_
  refine k_iast (ws1 := [(k, .inr (1, [.ref km, .ref kt, .ref kb, .int cn])), (km, .inl (cI, 6, .inl (upd (upd fm 0 (fm2 0)) 1 (fm2 1)))), (kt, .inl (cI, 6, .inl (upd (upd ft 0 (ft2 0)) 1 (ft2 1)))), (kb, .inl (cI, 6, .inl (upd (upd fb 0 (fb2 0)) 1 (fb2 1)))), (o, .inr (1, [.ref om, .ref ot, .ref ob, .int cn2])), (om, .inl (cI, 6, .inl fm2)), (ot, .inl (cI, 6, .inl ft2)), (ob, .inl (cI, 6, .inl fb2))]) S G 3 0 rfl rfl (by unfold vp_in; decide) dX1_copyFrom_43 rfl (fun H locs G => ?_)
  refine lv_iinc (v := 2) (lv' := [(2, .int 2), (0, .ref k), (1, .ref o)]) hx hb dX1_copyFrom_44 hl (k := 0) rfl (by decide) (by decide) rfl (fun ls hl => ?_)
  refine lv_goto (tgt := 2) hx hb dX1_copyFrom_47 (by decide) ?_
  refine lv_iload_n hx hb dX1_copyFrom_2 rfl (lv_at hl 0 rfl) ?_
  refine lv_bipush (v := 6) hx hb dX1_copyFrom_3 (by decide) ?_
  refine lv_icmp_ge (tgt := 50) hx hb dX1_copyFrom_5 (by decide) (fun c_3 => absurd c_3 (by decide)) (fun c_3 => ?_)
  refine lv_aload_n hx hb dX1_copyFrom_8 rfl (lv_at hl 1 rfl) ?_
  refine k_get (v := .ref km) S G 0 rfl rfl hiX1 0 (by decide) hf9 rfl dX1_copyFrom_9 ?_
  refine lv_iload_n hx hb dX1_copyFrom_12 rfl (lv_at hl 0 rfl) ?_
  refine lv_aload_n hx hb dX1_copyFrom_13 rfl (lv_at hl 2 rfl) ?_
  refine k_get (v := .ref om) S G 4 rfl rfl hiX1 0 (by decide) hf9 rfl dX1_copyFrom_14 ?_
  refine lv_iload_n hx hb dX1_copyFrom_17 rfl (lv_at hl 0 rfl) ?_
  refine k_iald (x := (fm2 2)) S G 5 0 rfl rfl (by unfold vp_in; decide) rfl dX1_copyFrom_18 ?_
  refine k_iast (ws1 := [(k, .inr (1, [.ref km, .ref kt, .ref kb, .int cn])), (km, .inl (cI, 6, .inl (upd (upd (upd fm 0 (fm2 0)) 1 (fm2 1)) 2 (fm2 2)))), (kt, .inl (cI, 6, .inl (upd (upd ft 0 (ft2 0)) 1 (ft2 1)))), (kb, .inl (cI, 6, .inl (upd (upd fb 0 (fb2 0)) 1 (fb2 1)))), (o, .inr (1, [.ref om, .ref ot, .ref ob, .int cn2])), (om, .inl (cI, 6, .inl fm2)), (ot, .inl (cI, 6, .inl ft2)), (ob, .inl (cI, 6, .inl fb2))]) S G 1 0 rfl rfl (by unfold vp_in; decide) dX1_copyFrom_19 rfl (fun H locs G => ?_)
  refine lv_aload_n hx hb dX1_copyFrom_20 rfl (lv_at hl 1 rfl) ?_
  refine k_get (v := .ref kt) S G 0 rfl rfl hiX1 1 (by decide) hf15 rfl dX1_copyFrom_21 ?_
  refine lv_iload_n hx hb dX1_copyFrom_24 rfl (lv_at hl 0 rfl) ?_
  refine lv_aload_n hx hb dX1_copyFrom_25 rfl (lv_at hl 2 rfl) ?_
  refine k_get (v := .ref ot) S G 4 rfl rfl hiX1 1 (by decide) hf15 rfl dX1_copyFrom_26 ?_
  refine lv_iload_n hx hb dX1_copyFrom_29 rfl (lv_at hl 0 rfl) ?_
  refine k_iald (x := (ft2 2)) S G 6 0 rfl rfl (by unfold vp_in; decide) rfl dX1_copyFrom_30 ?_
  refine k_iast (ws1 := [(k, .inr (1, [.ref km, .ref kt, .ref kb, .int cn])), (km, .inl (cI, 6, .inl (upd (upd (upd fm 0 (fm2 0)) 1 (fm2 1)) 2 (fm2 2)))), (kt, .inl (cI, 6, .inl (upd (upd (upd ft 0 (ft2 0)) 1 (ft2 1)) 2 (ft2 2)))), (kb, .inl (cI, 6, .inl (upd (upd fb 0 (fb2 0)) 1 (fb2 1)))), (o, .inr (1, [.ref om, .ref ot, .ref ob, .int cn2])), (om, .inl (cI, 6, .inl fm2)), (ot, .inl (cI, 6, .inl ft2)), (ob, .inl (cI, 6, .inl fb2))]) S G 2 0 rfl rfl (by unfold vp_in; decide) dX1_copyFrom_31 rfl (fun H locs G => ?_)
  refine lv_aload_n hx hb dX1_copyFrom_32 rfl (lv_at hl 1 rfl) ?_
  refine k_get (v := .ref kb) S G 0 rfl rfl hiX1 2 (by decide) hf18 rfl dX1_copyFrom_33 ?_
  refine lv_iload_n hx hb dX1_copyFrom_36 rfl (lv_at hl 0 rfl) ?_
  refine lv_aload_n hx hb dX1_copyFrom_37 rfl (lv_at hl 2 rfl) ?_
  refine k_get (v := .ref ob) S G 4 rfl rfl hiX1 2 (by decide) hf18 rfl dX1_copyFrom_38 ?_
  refine lv_iload_n hx hb dX1_copyFrom_41 rfl (lv_at hl 0 rfl) ?_
  refine k_iald (x := (fb2 2)) S G 7 0 rfl rfl (by unfold vp_in; decide) rfl dX1_copyFrom_42 ?_
  refine k_iast (ws1 := [(k, .inr (1, [.ref km, .ref kt, .ref kb, .int cn])), (km, .inl (cI, 6, .inl (upd (upd (upd fm 0 (fm2 0)) 1 (fm2 1)) 2 (fm2 2)))), (kt, .inl (cI, 6, .inl (upd (upd (upd ft 0 (ft2 0)) 1 (ft2 1)) 2 (ft2 2)))), (kb, .inl (cI, 6, .inl (upd (upd (upd fb 0 (fb2 0)) 1 (fb2 1)) 2 (fb2 2)))), (o, .inr (1, [.ref om, .ref ot, .ref ob, .int cn2])), (om, .inl (cI, 6, .inl fm2)), (ot, .inl (cI, 6, .inl ft2)), (ob, .inl (cI, 6, .inl fb2))]) S G 3 0 rfl rfl (by unfold vp_in; decide) dX1_copyFrom_43 rfl (fun H locs G => ?_)
  refine lv_iinc (v := 3) (lv' := [(2, .int 3), (0, .ref k), (1, .ref o)]) hx hb dX1_copyFrom_44 hl (k := 0) rfl (by decide) (by decide) rfl (fun ls hl => ?_)
  refine lv_goto (tgt := 2) hx hb dX1_copyFrom_47 (by decide) ?_
  refine lv_iload_n hx hb dX1_copyFrom_2 rfl (lv_at hl 0 rfl) ?_
  refine lv_bipush (v := 6) hx hb dX1_copyFrom_3 (by decide) ?_
  refine lv_icmp_ge (tgt := 50) hx hb dX1_copyFrom_5 (by decide) (fun c_4 => absurd c_4 (by decide)) (fun c_4 => ?_)
  refine lv_aload_n hx hb dX1_copyFrom_8 rfl (lv_at hl 1 rfl) ?_
  refine k_get (v := .ref km) S G 0 rfl rfl hiX1 0 (by decide) hf9 rfl dX1_copyFrom_9 ?_
  refine lv_iload_n hx hb dX1_copyFrom_12 rfl (lv_at hl 0 rfl) ?_
  refine lv_aload_n hx hb dX1_copyFrom_13 rfl (lv_at hl 2 rfl) ?_
  refine k_get (v := .ref om) S G 4 rfl rfl hiX1 0 (by decide) hf9 rfl dX1_copyFrom_14 ?_
  refine lv_iload_n hx hb dX1_copyFrom_17 rfl (lv_at hl 0 rfl) ?_
  refine k_iald (x := (fm2 3)) S G 5 0 rfl rfl (by unfold vp_in; decide) rfl dX1_copyFrom_18 ?_
  refine k_iast (ws1 := [(k, .inr (1, [.ref km, .ref kt, .ref kb, .int cn])), (km, .inl (cI, 6, .inl (upd (upd (upd (upd fm 0 (fm2 0)) 1 (fm2 1)) 2 (fm2 2)) 3 (fm2 3)))), (kt, .inl (cI, 6, .inl (upd (upd (upd ft 0 (ft2 0)) 1 (ft2 1)) 2 (ft2 2)))), (kb, .inl (cI, 6, .inl (upd (upd (upd fb 0 (fb2 0)) 1 (fb2 1)) 2 (fb2 2)))), (o, .inr (1, [.ref om, .ref ot, .ref ob, .int cn2])), (om, .inl (cI, 6, .inl fm2)), (ot, .inl (cI, 6, .inl ft2)), (ob, .inl (cI, 6, .inl fb2))]) S G 1 0 rfl rfl (by unfold vp_in; decide) dX1_copyFrom_19 rfl (fun H locs G => ?_)
  refine lv_aload_n hx hb dX1_copyFrom_20 rfl (lv_at hl 1 rfl) ?_
  refine k_get (v := .ref kt) S G 0 rfl rfl hiX1 1 (by decide) hf15 rfl dX1_copyFrom_21 ?_
  refine lv_iload_n hx hb dX1_copyFrom_24 rfl (lv_at hl 0 rfl) ?_
  refine lv_aload_n hx hb dX1_copyFrom_25 rfl (lv_at hl 2 rfl) ?_
  refine k_get (v := .ref ot) S G 4 rfl rfl hiX1 1 (by decide) hf15 rfl dX1_copyFrom_26 ?_
  refine lv_iload_n hx hb dX1_copyFrom_29 rfl (lv_at hl 0 rfl) ?_
  refine k_iald (x := (ft2 3)) S G 6 0 rfl rfl (by unfold vp_in; decide) rfl dX1_copyFrom_30 ?_
  refine k_iast (ws1 := [(k, .inr (1, [.ref km, .ref kt, .ref kb, .int cn])), (km, .inl (cI, 6, .inl (upd (upd (upd (upd fm 0 (fm2 0)) 1 (fm2 1)) 2 (fm2 2)) 3 (fm2 3)))), (kt, .inl (cI, 6, .inl (upd (upd (upd (upd ft 0 (ft2 0)) 1 (ft2 1)) 2 (ft2 2)) 3 (ft2 3)))), (kb, .inl (cI, 6, .inl (upd (upd (upd fb 0 (fb2 0)) 1 (fb2 1)) 2 (fb2 2)))), (o, .inr (1, [.ref om, .ref ot, .ref ob, .int cn2])), (om, .inl (cI, 6, .inl fm2)), (ot, .inl (cI, 6, .inl ft2)), (ob, .inl (cI, 6, .inl fb2))]) S G 2 0 rfl rfl (by unfold vp_in; decide) dX1_copyFrom_31 rfl (fun H locs G => ?_)
  refine lv_aload_n hx hb dX1_copyFrom_32 rfl (lv_at hl 1 rfl) ?_
  refine k_get (v := .ref kb) S G 0 rfl rfl hiX1 2 (by decide) hf18 rfl dX1_copyFrom_33 ?_
  refine lv_iload_n hx hb dX1_copyFrom_36 rfl (lv_at hl 0 rfl) ?_
  refine lv_aload_n hx hb dX1_copyFrom_37 rfl (lv_at hl 2 rfl) ?_
  refine k_get (v := .ref ob) S G 4 rfl rfl hiX1 2 (by decide) hf18 rfl dX1_copyFrom_38 ?_
  refine lv_iload_n hx hb dX1_copyFrom_41 rfl (lv_at hl 0 rfl) ?_
  refine k_iald (x := (fb2 3)) S G 7 0 rfl rfl (by unfold vp_in; decide) rfl dX1_copyFrom_42 ?_
  refine k_iast (ws1 := [(k, .inr (1, [.ref km, .ref kt, .ref kb, .int cn])), (km, .inl (cI, 6, .inl (upd (upd (upd (upd fm 0 (fm2 0)) 1 (fm2 1)) 2 (fm2 2)) 3 (fm2 3)))), (kt, .inl (cI, 6, .inl (upd (upd (upd (upd ft 0 (ft2 0)) 1 (ft2 1)) 2 (ft2 2)) 3 (ft2 3)))), (kb, .inl (cI, 6, .inl (upd (upd (upd (upd fb 0 (fb2 0)) 1 (fb2 1)) 2 (fb2 2)) 3 (fb2 3)))), (o, .inr (1, [.ref om, .ref ot, .ref ob, .int cn2])), (om, .inl (cI, 6, .inl fm2)), (ot, .inl (cI, 6, .inl ft2)), (ob, .inl (cI, 6, .inl fb2))]) S G 3 0 rfl rfl (by unfold vp_in; decide) dX1_copyFrom_43 rfl (fun H locs G => ?_)
  refine lv_iinc (v := 4) (lv' := [(2, .int 4), (0, .ref k), (1, .ref o)]) hx hb dX1_copyFrom_44 hl (k := 0) rfl (by decide) (by decide) rfl (fun ls hl => ?_)
  refine lv_goto (tgt := 2) hx hb dX1_copyFrom_47 (by decide) ?_
  refine lv_iload_n hx hb dX1_copyFrom_2 rfl (lv_at hl 0 rfl) ?_
  refine lv_bipush (v := 6) hx hb dX1_copyFrom_3 (by decide) ?_
  refine lv_icmp_ge (tgt := 50) hx hb dX1_copyFrom_5 (by decide) (fun c_5 => absurd c_5 (by decide)) (fun c_5 => ?_)
  refine lv_aload_n hx hb dX1_copyFrom_8 rfl (lv_at hl 1 rfl) ?_
  refine k_get (v := .ref km) S G 0 rfl rfl hiX1 0 (by decide) hf9 rfl dX1_copyFrom_9 ?_
  refine lv_iload_n hx hb dX1_copyFrom_12 rfl (lv_at hl 0 rfl) ?_
  refine lv_aload_n hx hb dX1_copyFrom_13 rfl (lv_at hl 2 rfl) ?_
  refine k_get (v := .ref om) S G 4 rfl rfl hiX1 0 (by decide) hf9 rfl dX1_copyFrom_14 ?_
  refine lv_iload_n hx hb dX1_copyFrom_17 rfl (lv_at hl 0 rfl) ?_
  refine k_iald (x := (fm2 4)) S G 5 0 rfl rfl (by unfold vp_in; decide) rfl dX1_copyFrom_18 ?_
  refine k_iast (ws1 := [(k, .inr (1, [.ref km, .ref kt, .ref kb, .int cn])), (km, .inl (cI, 6, .inl (upd (upd (upd (upd (upd fm 0 (fm2 0)) 1 (fm2 1)) 2 (fm2 2)) 3 (fm2 3)) 4 (fm2 4)))), (kt, .inl (cI, 6, .inl (upd (upd (upd (upd ft 0 (ft2 0)) 1 (ft2 1)) 2 (ft2 2)) 3 (ft2 3)))), (kb, .inl (cI, 6, .inl (upd (upd (upd (upd fb 0 (fb2 0)) 1 (fb2 1)) 2 (fb2 2)) 3 (fb2 3)))), (o, .inr (1, [.ref om, .ref ot, .ref ob, .int cn2])), (om, .inl (cI, 6, .inl fm2)), (ot, .inl (cI, 6, .inl ft2)), (ob, .inl (cI, 6, .inl fb2))]) S G 1 0 rfl rfl (by unfold vp_in; decide) dX1_copyFrom_19 rfl (fun H locs G => ?_)
  refine lv_aload_n hx hb dX1_copyFrom_20 rfl (lv_at hl 1 rfl) ?_
  refine k_get (v := .ref kt) S G 0 rfl rfl hiX1 1 (by decide) hf15 rfl dX1_copyFrom_21 ?_
  refine lv_iload_n hx hb dX1_copyFrom_24 rfl (lv_at hl 0 rfl) ?_
  refine lv_aload_n hx hb dX1_copyFrom_25 rfl (lv_at hl 2 rfl) ?_
  refine k_get (v := .ref ot) S G 4 rfl rfl hiX1 1 (by decide) hf15 rfl dX1_copyFrom_26 ?_
  refine lv_iload_n hx hb dX1_copyFrom_29 rfl (lv_at hl 0 rfl) ?_
  refine k_iald (x := (ft2 4)) S G 6 0 rfl rfl (by unfold vp_in; decide) rfl dX1_copyFrom_30 ?_
  refine k_iast (ws1 := [(k, .inr (1, [.ref km, .ref kt, .ref kb, .int cn])), (km, .inl (cI, 6, .inl (upd (upd (upd (upd (upd fm 0 (fm2 0)) 1 (fm2 1)) 2 (fm2 2)) 3 (fm2 3)) 4 (fm2 4)))), (kt, .inl (cI, 6, .inl (upd (upd (upd (upd (upd ft 0 (ft2 0)) 1 (ft2 1)) 2 (ft2 2)) 3 (ft2 3)) 4 (ft2 4)))), (kb, .inl (cI, 6, .inl (upd (upd (upd (upd fb 0 (fb2 0)) 1 (fb2 1)) 2 (fb2 2)) 3 (fb2 3)))), (o, .inr (1, [.ref om, .ref ot, .ref ob, .int cn2])), (om, .inl (cI, 6, .inl fm2)), (ot, .inl (cI, 6, .inl ft2)), (ob, .inl (cI, 6, .inl fb2))]) S G 2 0 rfl rfl (by unfold vp_in; decide) dX1_copyFrom_31 rfl (fun H locs G => ?_)
  refine lv_aload_n hx hb dX1_copyFrom_32 rfl (lv_at hl 1 rfl) ?_
  refine k_get (v := .ref kb) S G 0 rfl rfl hiX1 2 (by decide) hf18 rfl dX1_copyFrom_33 ?_
  refine lv_iload_n hx hb dX1_copyFrom_36 rfl (lv_at hl 0 rfl) ?_
  refine lv_aload_n hx hb dX1_copyFrom_37 rfl (lv_at hl 2 rfl) ?_
  refine k_get (v := .ref ob) S G 4 rfl rfl hiX1 2 (by decide) hf18 rfl dX1_copyFrom_38 ?_
  refine lv_iload_n hx hb dX1_copyFrom_41 rfl (lv_at hl 0 rfl) ?_
  refine k_iald (x := (fb2 4)) S G 7 0 rfl rfl (by unfold vp_in; decide) rfl dX1_copyFrom_42 ?_
  refine k_iast (ws1 := [(k, .inr (1, [.ref km, .ref kt, .ref kb, .int cn])), (km, .inl (cI, 6, .inl (upd (upd (upd (upd (upd fm 0 (fm2 0)) 1 (fm2 1)) 2 (fm2 2)) 3 (fm2 3)) 4 (fm2 4)))), (kt, .inl (cI, 6, .inl (upd (upd (upd (upd (upd ft 0 (ft2 0)) 1 (ft2 1)) 2 (ft2 2)) 3 (ft2 3)) 4 (ft2 4)))), (kb, .inl (cI, 6, .inl (upd (upd (upd (upd (upd fb 0 (fb2 0)) 1 (fb2 1)) 2 (fb2 2)) 3 (fb2 3)) 4 (fb2 4)))), (o, .inr (1, [.ref om, .ref ot, .ref ob, .int cn2])), (om, .inl (cI, 6, .inl fm2)), (ot, .inl (cI, 6, .inl ft2)), (ob, .inl (cI, 6, .inl fb2))]) S G 3 0 rfl rfl (by unfold vp_in; decide) dX1_copyFrom_43 rfl (fun H locs G => ?_)
  refine lv_iinc (v := 5) (lv' := [(2, .int 5), (0, .ref k), (1, .ref o)]) hx hb dX1_copyFrom_44 hl (k := 0) rfl (by decide) (by decide) rfl (fun ls hl => ?_)
  refine lv_goto (tgt := 2) hx hb dX1_copyFrom_47 (by decide) ?_
  refine lv_iload_n hx hb dX1_copyFrom_2 rfl (lv_at hl 0 rfl) ?_
  refine lv_bipush (v := 6) hx hb dX1_copyFrom_3 (by decide) ?_
  refine lv_icmp_ge (tgt := 50) hx hb dX1_copyFrom_5 (by decide) (fun c_6 => absurd c_6 (by decide)) (fun c_6 => ?_)
  refine lv_aload_n hx hb dX1_copyFrom_8 rfl (lv_at hl 1 rfl) ?_
  refine k_get (v := .ref km) S G 0 rfl rfl hiX1 0 (by decide) hf9 rfl dX1_copyFrom_9 ?_
  refine lv_iload_n hx hb dX1_copyFrom_12 rfl (lv_at hl 0 rfl) ?_
  refine lv_aload_n hx hb dX1_copyFrom_13 rfl (lv_at hl 2 rfl) ?_
  refine k_get (v := .ref om) S G 4 rfl rfl hiX1 0 (by decide) hf9 rfl dX1_copyFrom_14 ?_
  refine lv_iload_n hx hb dX1_copyFrom_17 rfl (lv_at hl 0 rfl) ?_
  refine k_iald (x := (fm2 5)) S G 5 0 rfl rfl (by unfold vp_in; decide) rfl dX1_copyFrom_18 ?_
  refine k_iast (ws1 := [(k, .inr (1, [.ref km, .ref kt, .ref kb, .int cn])), (km, .inl (cI, 6, .inl (upd (upd (upd (upd (upd (upd fm 0 (fm2 0)) 1 (fm2 1)) 2 (fm2 2)) 3 (fm2 3)) 4 (fm2 4)) 5 (fm2 5)))), (kt, .inl (cI, 6, .inl (upd (upd (upd (upd (upd ft 0 (ft2 0)) 1 (ft2 1)) 2 (ft2 2)) 3 (ft2 3)) 4 (ft2 4)))), (kb, .inl (cI, 6, .inl (upd (upd (upd (upd (upd fb 0 (fb2 0)) 1 (fb2 1)) 2 (fb2 2)) 3 (fb2 3)) 4 (fb2 4)))), (o, .inr (1, [.ref om, .ref ot, .ref ob, .int cn2])), (om, .inl (cI, 6, .inl fm2)), (ot, .inl (cI, 6, .inl ft2)), (ob, .inl (cI, 6, .inl fb2))]) S G 1 0 rfl rfl (by unfold vp_in; decide) dX1_copyFrom_19 rfl (fun H locs G => ?_)
  refine lv_aload_n hx hb dX1_copyFrom_20 rfl (lv_at hl 1 rfl) ?_
  refine k_get (v := .ref kt) S G 0 rfl rfl hiX1 1 (by decide) hf15 rfl dX1_copyFrom_21 ?_
  refine lv_iload_n hx hb dX1_copyFrom_24 rfl (lv_at hl 0 rfl) ?_
  refine lv_aload_n hx hb dX1_copyFrom_25 rfl (lv_at hl 2 rfl) ?_
  refine k_get (v := .ref ot) S G 4 rfl rfl hiX1 1 (by decide) hf15 rfl dX1_copyFrom_26 ?_
  refine lv_iload_n hx hb dX1_copyFrom_29 rfl (lv_at hl 0 rfl) ?_
  refine k_iald (x := (ft2 5)) S G 6 0 rfl rfl (by unfold vp_in; decide) rfl dX1_copyFrom_30 ?_
  refine k_iast (ws1 := [(k, .inr (1, [.ref km, .ref kt, .ref kb, .int cn])), (km, .inl (cI, 6, .inl (upd (upd (upd (upd (upd (upd fm 0 (fm2 0)) 1 (fm2 1)) 2 (fm2 2)) 3 (fm2 3)) 4 (fm2 4)) 5 (fm2 5)))), (kt, .inl (cI, 6, .inl (upd (upd (upd (upd (upd (upd ft 0 (ft2 0)) 1 (ft2 1)) 2 (ft2 2)) 3 (ft2 3)) 4 (ft2 4)) 5 (ft2 5)))), (kb, .inl (cI, 6, .inl (upd (upd (upd (upd (upd fb 0 (fb2 0)) 1 (fb2 1)) 2 (fb2 2)) 3 (fb2 3)) 4 (fb2 4)))), (o, .inr (1, [.ref om, .ref ot, .ref ob, .int cn2])), (om, .inl (cI, 6, .inl fm2)), (ot, .inl (cI, 6, .inl ft2)), (ob, .inl (cI, 6, .inl fb2))]) S G 2 0 rfl rfl (by unfold vp_in; decide) dX1_copyFrom_31 rfl (fun H locs G => ?_)
  refine lv_aload_n hx hb dX1_copyFrom_32 rfl (lv_at hl 1 rfl) ?_
  refine k_get (v := .ref kb) S G 0 rfl rfl hiX1 2 (by decide) hf18 rfl dX1_copyFrom_33 ?_
  refine lv_iload_n hx hb dX1_copyFrom_36 rfl (lv_at hl 0 rfl) ?_
  refine lv_aload_n hx hb dX1_copyFrom_37 rfl (lv_at hl 2 rfl) ?_
  refine k_get (v := .ref ob) S G 4 rfl rfl hiX1 2 (by decide) hf18 rfl dX1_copyFrom_38 ?_
  refine lv_iload_n hx hb dX1_copyFrom_41 rfl (lv_at hl 0 rfl) ?_
  refine k_iald (x := (fb2 5)) S G 7 0 rfl rfl (by unfold vp_in; decide) rfl dX1_copyFrom_42 ?_
  refine k_iast (ws1 := [(k, .inr (1, [.ref km, .ref kt, .ref kb, .int cn])), (km, .inl (cI, 6, .inl (upd (upd (upd (upd (upd (upd fm 0 (fm2 0)) 1 (fm2 1)) 2 (fm2 2)) 3 (fm2 3)) 4 (fm2 4)) 5 (fm2 5)))), (kt, .inl (cI, 6, .inl (upd (upd (upd (upd (upd (upd ft 0 (ft2 0)) 1 (ft2 1)) 2 (ft2 2)) 3 (ft2 3)) 4 (ft2 4)) 5 (ft2 5)))), (kb, .inl (cI, 6, .inl (upd (upd (upd (upd (upd (upd fb 0 (fb2 0)) 1 (fb2 1)) 2 (fb2 2)) 3 (fb2 3)) 4 (fb2 4)) 5 (fb2 5)))), (o, .inr (1, [.ref om, .ref ot, .ref ob, .int cn2])), (om, .inl (cI, 6, .inl fm2)), (ot, .inl (cI, 6, .inl ft2)), (ob, .inl (cI, 6, .inl fb2))]) S G 3 0 rfl rfl (by unfold vp_in; decide) dX1_copyFrom_43 rfl (fun H locs G => ?_)
  refine lv_iinc (v := 6) (lv' := [(2, .int 6), (0, .ref k), (1, .ref o)]) hx hb dX1_copyFrom_44 hl (k := 0) rfl (by decide) (by decide) rfl (fun ls hl => ?_)
  refine lv_goto (tgt := 2) hx hb dX1_copyFrom_47 (by decide) ?_
  refine lv_iload_n hx hb dX1_copyFrom_2 rfl (lv_at hl 0 rfl) ?_
  refine lv_bipush (v := 6) hx hb dX1_copyFrom_3 (by decide) ?_
  refine lv_icmp_ge (tgt := 50) hx hb dX1_copyFrom_5 (by decide) (fun c_7 => ?_) (fun c_7 => absurd c_7 (by decide))
  refine lv_aload_n hx hb dX1_copyFrom_50 rfl (lv_at hl 1 rfl) ?_
  refine lv_aload_n hx hb dX1_copyFrom_51 rfl (lv_at hl 2 rfl) ?_
  refine k_get (v := .int cn2) S G 4 rfl rfl hiX1 3 (by decide) hf21 rfl dX1_copyFrom_52 ?_
  refine k_put (ws1 := [(k, .inr (1, [.ref km, .ref kt, .ref kb, .int cn2])), (km, .inl (cI, 6, .inl (upd (upd (upd (upd (upd (upd fm 0 (fm2 0)) 1 (fm2 1)) 2 (fm2 2)) 3 (fm2 3)) 4 (fm2 4)) 5 (fm2 5)))), (kt, .inl (cI, 6, .inl (upd (upd (upd (upd (upd (upd ft 0 (ft2 0)) 1 (ft2 1)) 2 (ft2 2)) 3 (ft2 3)) 4 (ft2 4)) 5 (ft2 5)))), (kb, .inl (cI, 6, .inl (upd (upd (upd (upd (upd (upd fb 0 (fb2 0)) 1 (fb2 1)) 2 (fb2 2)) 3 (fb2 3)) 4 (fb2 4)) 5 (fb2 5)))), (o, .inr (1, [.ref om, .ref ot, .ref ob, .int cn2])), (om, .inl (cI, 6, .inl fm2)), (ot, .inl (cI, 6, .inl ft2)), (ob, .inl (cI, 6, .inl fb2))]) S G 0 rfl rfl hiX1 tyX1 tyX1_ok nmX1 3 (by decide) hf21 rfl rfl rfl (Nat.le_of_ble_eq_true rfl) dX1_copyFrom_55 rfl (fun H locs G => ?_)
  have G := Gd.arr (ws1 := [(k, .inr (1, [.ref km, .ref kt, .ref kb, .int cn2])), (km, .inl (cI, 6, .inl fm2)), (kt, .inl (cI, 6, .inl (upd (upd (upd (upd (upd (upd ft 0 (ft2 0)) 1 (ft2 1)) 2 (ft2 2)) 3 (ft2 3)) 4 (ft2 4)) 5 (ft2 5)))), (kb, .inl (cI, 6, .inl (upd (upd (upd (upd (upd (upd fb 0 (fb2 0)) 1 (fb2 1)) 2 (fb2 2)) 3 (fb2 3)) 4 (fb2 4)) 5 (fb2 5)))), (o, .inr (1, [.ref om, .ref ot, .ref ob, .int cn2])), (om, .inl (cI, 6, .inl fm2)), (ot, .inl (cI, 6, .inl ft2)), (ob, .inl (cI, 6, .inl fb2))]) G 1 fm2 rfl (fun i hi => by rcases (show i = 0 ∨ i = 1 ∨ i = 2 ∨ i = 3 ∨ i = 4 ∨ i = 5 by omega) with rfl | rfl | rfl | rfl | rfl | rfl <;> rfl) rfl
  have G := Gd.arr (ws1 := [(k, .inr (1, [.ref km, .ref kt, .ref kb, .int cn2])), (km, .inl (cI, 6, .inl fm2)), (kt, .inl (cI, 6, .inl ft2)), (kb, .inl (cI, 6, .inl (upd (upd (upd (upd (upd (upd fb 0 (fb2 0)) 1 (fb2 1)) 2 (fb2 2)) 3 (fb2 3)) 4 (fb2 4)) 5 (fb2 5)))), (o, .inr (1, [.ref om, .ref ot, .ref ob, .int cn2])), (om, .inl (cI, 6, .inl fm2)), (ot, .inl (cI, 6, .inl ft2)), (ob, .inl (cI, 6, .inl fb2))]) G 2 ft2 rfl (fun i hi => by rcases (show i = 0 ∨ i = 1 ∨ i = 2 ∨ i = 3 ∨ i = 4 ∨ i = 5 by omega) with rfl | rfl | rfl | rfl | rfl | rfl <;> rfl) rfl
  have G := Gd.arr (ws1 := [(k, .inr (1, [.ref km, .ref kt, .ref kb, .int cn2])), (km, .inl (cI, 6, .inl fm2)), (kt, .inl (cI, 6, .inl ft2)), (kb, .inl (cI, 6, .inl fb2)), (o, .inr (1, [.ref om, .ref ot, .ref ob, .int cn2])), (om, .inl (cI, 6, .inl fm2)), (ot, .inl (cI, 6, .inl ft2)), (ob, .inl (cI, 6, .inl fb2))]) G 3 fb2 rfl (fun i hi => by rcases (show i = 0 ∨ i = 1 ∨ i = 2 ∨ i = 3 ∨ i = 4 ∨ i = 5 by omega) with rfl | rfl | rfl | rfl | rfl | rfl <;> rfl) rfl
  exact k_vret S G hr hlk dX1_copyFrom_58 rfl
/-- a record's rows into a hash: n entries from i on -/
def hashL (fm ft fb : Nat → Int32) : Nat → Nat → Int64 → Int64
  | 0, _, h => h
  | n + 1, i, h => hashL fm ft fb n (i + 1) (31 * (31 * (31 * h + (fm i).toInt64) + (ft i).toInt64) + (fb i).toInt64)
def cnOk (cn : Int32) : Prop := 0 ≤ cn ∧ cn ≤ 6
theorem cnOk_nat {cn : Int32} (h : cnOk cn) : ∃ N : Nat, N ≤ 6 ∧ cn = nI N := nI_of2 (M := 6) (by decide) (fun z => by have := h.1; exact absurd z (Int32.not_lt.mpr this)) h.2
set_option maxHeartbeats 4000000 in
set_option maxRecDepth 100000 in
theorem lp_X1_addToHash (l : Launch) (D : va_G) (cI cS : ClassId) (k : Nat) (km : Nat) (kt : Nat) (kb : Nat) (cn : Int32) (fm : Nat → Int32) (ft : Nat → Int32) (fb : Nat → Int32) (N : Nat) {p : Program} {ev : Env} {s : State} {m : MethodId} {args : Array Value} {below : List Frame} {meth : Method} {c : Code} {A : Nat → Prop} {Q : State → Prop} (S : CallFix p m c cX1_addToHash 6 s args wsX1_addToHash RX1)  :
    cn = nI N → N ≤ 6 → ∀ (n i : Nat) (h : Int64), i + n = N → (∀ (H : Heap) (locs : List Loc) (ls : Array Slot), Gd D (tyL cI cS) A s.heap s [(k, .inr (1, [.ref km, .ref kt, .ref kb, .int cn])), (km, .inl (cI, 6, .inl fm)), (kt, .inl (cI, 6, .inl ft)), (kb, .inl (cI, 6, .inl fb))] H locs → lv_has ls 6 [(3, .long (hashL fm ft fb n i h))] → W p l ev ({ frames := 0, cells := 0, slots := 0, locals := 0 }) s m args below meth c H locs 0 0 Q (F0 m 75 ls [])) → ∀ (H : Heap) (locs : List Loc) (ls : Array Slot), Gd D (tyL cI cS) A s.heap s [(k, .inr (1, [.ref km, .ref kt, .ref kb, .int cn])), (km, .inl (cI, 6, .inl fm)), (kt, .inl (cI, 6, .inl ft)), (kb, .inl (cI, 6, .inl fb))] H locs → lv_has ls 6 [(5, .int (nI i)), (3, .long h), (0, .ref k)] → W p l ev ({ frames := 0, cells := 0, slots := 0, locals := 0 }) s m args below meth c H locs 0 0 Q (F0 m 15 ls []) := by
  have hx := S.1
  have hb := S.2.1
  have hown : s.vm.findClass RX1 = some m.cls := S.2.2.2.1
  have hts := S.2.2.2.2
  have hiX1 : ∀ w ∈ wsX10, w ∈ wsX1_addToHash := by decide +kernel
  have hf9 := hts (.fieldLink RX1 9 "StrikingWork$Strikes" "minutes" "[I") (by decide +kernel)
  have hf15 := hts (.fieldLink RX1 15 "StrikingWork$Strikes" "trains" "[I") (by decide +kernel)
  have hf18 := hts (.fieldLink RX1 18 "StrikingWork$Strikes" "blows" "[I") (by decide +kernel)
  have hf21 := hts (.fieldLink RX1 21 "StrikingWork$Strikes" "count" "I") (by decide +kernel)
  have hk31 := hts (.constantLong RX1 31 31) (by decide +kernel)
  intro hc hN n
  induction n with
  | zero =>
    intro i h hin hk H locs ls G hl
    refine lv_iload hx hb dX1_addToHash_15 (lv_at hl 0 rfl) ?_
    refine lv_aload_n hx hb dX1_addToHash_17 rfl (lv_at hl 2 rfl) ?_
    refine k_get (v := .int cn) S G 0 rfl rfl hiX1 3 (by decide) hf21 rfl dX1_addToHash_18 ?_
    refine lv_icmp_ge (tgt := 75) hx hb dX1_addToHash_21 (by decide) (fun c_1 => ?_) (fun c_1 => absurd (show cn ≤ nI i by rw [hc]; exact nI_le (show N ≤ i by omega) (by omega)) c_1)
    exact hk _ _ ls G (lv_sub hl [1] rfl)
  | succ n ih =>
    intro i h hin hk H locs ls G hl
    refine lv_iload hx hb dX1_addToHash_15 (lv_at hl 0 rfl) ?_
    refine lv_aload_n hx hb dX1_addToHash_17 rfl (lv_at hl 2 rfl) ?_
    refine k_get (v := .int cn) S G 0 rfl rfl hiX1 3 (by decide) hf21 rfl dX1_addToHash_18 ?_
    refine lv_icmp_ge (tgt := 75) hx hb dX1_addToHash_21 (by decide) (fun c_1 => absurd c_1 (show ¬ cn ≤ nI i by rw [hc]; exact nI_ge (show i < N by omega) (by omega))) (fun c_1 => ?_)
    refine lv_ldc2 (v := 31) hx hb hown hk31 dX1_addToHash_24 ?_
    refine lv_lload_n hx hb dX1_addToHash_27 rfl (lv_at hl 1 rfl) ?_
    refine lv_lmul hx hb dX1_addToHash_28 ?_
    refine lv_aload_n hx hb dX1_addToHash_29 rfl (lv_at hl 2 rfl) ?_
    refine k_get (v := .ref km) S G 0 rfl rfl hiX1 0 (by decide) hf9 rfl dX1_addToHash_30 ?_
    refine lv_iload hx hb dX1_addToHash_33 (lv_at hl 0 rfl) ?_
    refine k_iald (x := (fm i)) S G 1 0 rfl rfl (vp_in_nI (show i < 6 by omega) (by decide)) (congrArg fm (nI_clamp (show i < 2 ^ 31 by omega))) dX1_addToHash_35 ?_
    refine lv_i2l (v := (fm i).toInt64) hx hb dX1_addToHash_36 rfl ?_
    refine lv_ladd hx hb dX1_addToHash_37 ?_
    refine lv_lstore_n (lv' := [(3, .long ((31 * h) + (fm i).toInt64)), (5, .int (nI i)), (0, .ref k)]) hx hb dX1_addToHash_38 rfl hl (by decide) rfl (fun ls hl => ?_)
    refine lv_ldc2 (v := 31) hx hb hown hk31 dX1_addToHash_39 ?_
    refine lv_lload_n hx hb dX1_addToHash_42 rfl (lv_at hl 0 rfl) ?_
    refine lv_lmul hx hb dX1_addToHash_43 ?_
    refine lv_aload_n hx hb dX1_addToHash_44 rfl (lv_at hl 2 rfl) ?_
    refine k_get (v := .ref kt) S G 0 rfl rfl hiX1 1 (by decide) hf15 rfl dX1_addToHash_45 ?_
    refine lv_iload hx hb dX1_addToHash_48 (lv_at hl 1 rfl) ?_
    refine k_iald (x := (ft i)) S G 2 0 rfl rfl (vp_in_nI (show i < 6 by omega) (by decide)) (congrArg ft (nI_clamp (show i < 2 ^ 31 by omega))) dX1_addToHash_50 ?_
    refine lv_i2l (v := (ft i).toInt64) hx hb dX1_addToHash_51 rfl ?_
    refine lv_ladd hx hb dX1_addToHash_52 ?_
    refine lv_lstore_n (lv' := [(3, .long ((31 * ((31 * h) + (fm i).toInt64)) + (ft i).toInt64)), (5, .int (nI i)), (0, .ref k)]) hx hb dX1_addToHash_53 rfl hl (by decide) rfl (fun ls hl => ?_)
    refine lv_ldc2 (v := 31) hx hb hown hk31 dX1_addToHash_54 ?_
    refine lv_lload_n hx hb dX1_addToHash_57 rfl (lv_at hl 0 rfl) ?_
    refine lv_lmul hx hb dX1_addToHash_58 ?_
    refine lv_aload_n hx hb dX1_addToHash_59 rfl (lv_at hl 2 rfl) ?_
    refine k_get (v := .ref kb) S G 0 rfl rfl hiX1 2 (by decide) hf18 rfl dX1_addToHash_60 ?_
    refine lv_iload hx hb dX1_addToHash_63 (lv_at hl 1 rfl) ?_
    refine k_iald (x := (fb i)) S G 3 0 rfl rfl (vp_in_nI (show i < 6 by omega) (by decide)) (congrArg fb (nI_clamp (show i < 2 ^ 31 by omega))) dX1_addToHash_65 ?_
    refine lv_i2l (v := (fb i).toInt64) hx hb dX1_addToHash_66 rfl ?_
    refine lv_ladd hx hb dX1_addToHash_67 ?_
    refine lv_lstore_n (lv' := [(3, .long ((31 * ((31 * ((31 * h) + (fm i).toInt64)) + (ft i).toInt64)) + (fb i).toInt64)), (5, .int (nI i)), (0, .ref k)]) hx hb dX1_addToHash_68 rfl hl (by decide) rfl (fun ls hl => ?_)
    refine lv_iinc (v := (nI (i + 1))) (lv' := [(5, .int (nI (i + 1))), (3, .long ((31 * ((31 * ((31 * h) + (fm i).toInt64)) + (ft i).toInt64)) + (fb i).toInt64)), (0, .ref k)]) hx hb dX1_addToHash_69 hl (k := 1) rfl (nI_1 i) (by decide) rfl (fun ls hl => ?_)
    refine lv_goto (tgt := 15) hx hb dX1_addToHash_72 (by decide) ?_
    exact ih (i + 1) ((31 * ((31 * ((31 * h) + (fm i).toInt64)) + (ft i).toInt64)) + (fb i).toInt64) (by omega) hk _ _ ls G (lv_sub hl [0, 1, 2] rfl)
def s_X1_addToHash (cn : Int32) (fm : Nat → Int32) (ft : Nat → Int32) (fb : Nat → Int32) (h : Int64) : Int64 := (hashL fm ft fb cn.toNatClampNeg 0 ((31 * h) + cn.toInt64))
set_option maxHeartbeats 4000000 in
set_option maxRecDepth 100000 in
theorem c_X1_addToHash (l : Launch) (D : va_G) (cI cS : ClassId) (k : Nat) (km : Nat) (kt : Nat) (kb : Nat) (cn : Int32) (fm : Nat → Int32) (ft : Nat → Int32) (fb : Nat → Int32) (h : Int64) (hcn : cnOk cn) : Ct l yX1_addToHash wsX1_addToHash ({ frames := 0, cells := 0, slots := 0, locals := 0 }) D (tyL cI cS) [.ref k, .long h] [(k, .inr (1, [.ref km, .ref kt, .ref kb, .int cn])), (km, .inl (cI, 6, .inl fm)), (kt, .inl (cI, 6, .inl ft)), (kb, .inl (cI, 6, .inl fb))] (some (.long (s_X1_addToHash cn fm ft fb h))) [(k, .inr (1, [.ref km, .ref kt, .ref kb, .int cn])), (km, .inl (cI, 6, .inl fm)), (kt, .inl (cI, 6, .inl ft)), (kb, .inl (cI, 6, .inl fb))] := by
  refine Ct.of (cc := cX1_addToHash) (maxL := 6) (ret := (some .long)) (by decide) rfl (Nat.le_of_ble_eq_true rfl) ?_
  intro p ev s m args below meth c A ls S hr hlk G hl
  have hx := S.1
  have hb := S.2.1
  have hown : s.vm.findClass RX1 = some m.cls := S.2.2.2.1
  have hts := S.2.2.2.2
  have hl : lv_has ls 6 [(0, .ref k), (1, .long h)] := hl
  have hiX1 : ∀ w ∈ wsX10, w ∈ wsX1_addToHash := by decide +kernel
  have hf21 := hts (.fieldLink RX1 21 "StrikingWork$Strikes" "count" "I") (by decide +kernel)
  have hk31 := hts (.constantLong RX1 31 31) (by decide +kernel)
  refine lv_ldc2 (v := 31) hx hb hown hk31 dX1_addToHash_0 ?_
  refine lv_lload_n hx hb dX1_addToHash_3 rfl (lv_at hl 1 rfl) ?_
  refine lv_lmul hx hb dX1_addToHash_4 ?_
  refine lv_aload_n hx hb dX1_addToHash_5 rfl (lv_at hl 0 rfl) ?_
  refine k_get (v := .int cn) S G 0 rfl rfl hiX1 3 (by decide) hf21 rfl dX1_addToHash_6 ?_
  refine lv_i2l (v := cn.toInt64) hx hb dX1_addToHash_9 rfl ?_
  refine lv_ladd hx hb dX1_addToHash_10 ?_
  refine lv_lstore_n (lv' := [(3, .long ((31 * h) + cn.toInt64)), (0, .ref k), (1, .long h)]) hx hb dX1_addToHash_11 rfl hl (by decide) rfl (fun ls hl => ?_)
  refine lv_iconst (v := 0) hx hb dX1_addToHash_12 (by decide) ?_
  refine lv_istore (lv' := [(5, .int 0), (3, .long ((31 * h) + cn.toInt64)), (0, .ref k), (1, .long h)]) hx hb dX1_addToHash_13 hl (by decide) rfl (fun ls hl => ?_)
  obtain ⟨N, hN, hc⟩ := cnOk_nat hcn
  refine lp_X1_addToHash l D cI cS k km kt kb cn fm ft fb N S hc hN N 0 ((31 * h) + cn.toInt64) (by omega) (fun H locs ls G hl => ?_) _ _ ls G (lv_sub hl [0, 1, 2] rfl)
  rw [show hashL fm ft fb N 0 ((31 * h) + cn.toInt64) = hashL fm ft fb cn.toNatClampNeg 0 ((31 * h) + cn.toInt64) by rw [hc, nI_clamp (show N < 2 ^ 31 by omega)]] at hl
  refine lv_lload_n hx hb dX1_addToHash_75 rfl (lv_at hl 0 rfl) ?_
  have es : (s_X1_addToHash cn fm ft fb h) = (hashL fm ft fb cn.toNatClampNeg 0 ((31 * h) + cn.toInt64)) := rfl
  exact k_lret S G hr hlk dX1_addToHash_76 (by first | (rw [es]; done) | (rw [es]; rfl) | (simp only [es]; done) | (simp only [es]; rfl)) rfl
end
section
set_option maxHeartbeats 4000000 in
set_option maxRecDepth 100000 in
theorem c_X0_trainOf_0 (l : Launch) (D : va_G) (cI cS : ClassId) (a : Nat → Nat) (r : Nat → Int32) (e : Nat → Nat → Int32) : Ct l yX0_trainOf wsX0_trainOf ({ frames := 0, cells := 0, slots := 0, locals := 0 }) D (tyL cI cS) [.ref (a 0), .int 0] (stW cI a r e ([])) (some (.ref (a 1))) (stW cI a r e ([])) := by
  refine Ct.of (cc := cX0_trainOf) (maxL := 2) (ret := (some (.object "StrikingWork$Train"))) (by decide) rfl (Nat.le_of_ble_eq_true rfl) ?_
  intro p ev s m args below meth c A ls S hr hlk G hl
  have hx := S.1
  have hb := S.2.1
  have hown : s.vm.findClass RX0 = some m.cls := S.2.2.2.1
  have hts := S.2.2.2.2
  have hl : lv_has ls 2 [(0, .ref (a 0)), (1, .int 0)] := hl
  have hiX0 : ∀ w ∈ wsX00, w ∈ wsX0_trainOf := by decide +kernel
  have hf14 := hts (.fieldLink RX0 14 "StrikingWork$State" "hours" "LStrikingWork$Train;") (by decide +kernel)
  refine lv_iload_n hx hb dX0_trainOf_0 rfl (lv_at hl 1 rfl) ?_
  refine lv_if_ne (tgt := 11) hx hb dX0_trainOf_1 (by decide) (fun c_1 => absurd c_1 (by decide)) (fun c_1 => ?_)
  refine lv_aload_n hx hb dX0_trainOf_4 rfl (lv_at hl 0 rfl) ?_
  refine k_get (v := .ref (a 1)) S G 0 rfl rfl hiX0 0 (by decide) hf14 rfl dX0_trainOf_5 ?_
  refine lv_goto (tgt := 15) hx hb dX0_trainOf_8 (by decide) ?_
  exact k_aret S G hr hlk dX0_trainOf_15 rfl rfl
set_option maxHeartbeats 4000000 in
set_option maxRecDepth 100000 in
theorem c_X0_trainOf_1 (l : Launch) (D : va_G) (cI cS : ClassId) (a : Nat → Nat) (r : Nat → Int32) (e : Nat → Nat → Int32) : Ct l yX0_trainOf wsX0_trainOf ({ frames := 0, cells := 0, slots := 0, locals := 0 }) D (tyL cI cS) [.ref (a 0), .int 1] (stW cI a r e ([])) (some (.ref (a 2))) (stW cI a r e ([])) := by
  refine Ct.of (cc := cX0_trainOf) (maxL := 2) (ret := (some (.object "StrikingWork$Train"))) (by decide) rfl (Nat.le_of_ble_eq_true rfl) ?_
  intro p ev s m args below meth c A ls S hr hlk G hl
  have hx := S.1
  have hb := S.2.1
  have hown : s.vm.findClass RX0 = some m.cls := S.2.2.2.1
  have hts := S.2.2.2.2
  have hl : lv_has ls 2 [(0, .ref (a 0)), (1, .int 1)] := hl
  have hiX0 : ∀ w ∈ wsX00, w ∈ wsX0_trainOf := by decide +kernel
  have hf20 := hts (.fieldLink RX0 20 "StrikingWork$State" "quarters" "LStrikingWork$Train;") (by decide +kernel)
  refine lv_iload_n hx hb dX0_trainOf_0 rfl (lv_at hl 1 rfl) ?_
  refine lv_if_ne (tgt := 11) hx hb dX0_trainOf_1 (by decide) (fun c_1 => ?_) (fun c_1 => absurd c_1 (by decide))
  refine lv_aload_n hx hb dX0_trainOf_11 rfl (lv_at hl 0 rfl) ?_
  refine k_get (v := .ref (a 2)) S G 0 rfl rfl hiX0 1 (by decide) hf20 rfl dX0_trainOf_12 ?_
  exact k_aret S G hr hlk dX0_trainOf_15 rfl rfl
def s_X0_hushesAt (r : Nat → Int32) (q : Int32) : Int32 := (if (r 1) = 0 then 0 else (if (r 3) ≤ (r 2) then (if (r 2) ≤ (r 3) then 0 else (if (r 2) ≤ q then 1 else (if (r 3) ≤ q then 0 else 1))) else (if q < (r 2) then 0 else (if (r 3) ≤ q then 0 else 1))))
set_option maxHeartbeats 4000000 in
set_option maxRecDepth 100000 in
theorem c_X0_hushesAt (l : Launch) (D : va_G) (cI cS : ClassId) (a : Nat → Nat) (r : Nat → Int32) (e : Nat → Nat → Int32) (q : Int32) : Ct l yX0_hushesAt wsX0_hushesAt ({ frames := 0, cells := 0, slots := 0, locals := 0 }) D (tyL cI cS) [.ref (a 0), .int q] (stW cI a r e ([])) (some (.int (s_X0_hushesAt r q))) (stW cI a r e ([])) := by
  refine Ct.of (cc := cX0_hushesAt) (maxL := 2) (ret := (some .boolean)) (by decide) rfl (Nat.le_of_ble_eq_true rfl) ?_
  intro p ev s m args below meth c A ls S hr hlk G hl
  have hx := S.1
  have hb := S.2.1
  have hown : s.vm.findClass RX0 = some m.cls := S.2.2.2.1
  have hts := S.2.2.2.2
  have hl : lv_has ls 2 [(0, .ref (a 0)), (1, .int q)] := hl
  have hiX0 : ∀ w ∈ wsX00, w ∈ wsX0_hushesAt := by decide +kernel
  have hf34 := hts (.fieldLink RX0 34 "StrikingWork$State" "silenceMode" "I") (by decide +kernel)
  have hf37 := hts (.fieldLink RX0 37 "StrikingWork$State" "silenceBegin" "I") (by decide +kernel)
  have hf40 := hts (.fieldLink RX0 40 "StrikingWork$State" "silenceEnd" "I") (by decide +kernel)
  refine lv_aload_n hx hb dX0_hushesAt_0 rfl (lv_at hl 0 rfl) ?_
  refine k_get (v := .int (r 1)) S G 0 rfl rfl hiX0 4 (by decide) hf34 rfl dX0_hushesAt_1 ?_
  refine lv_if_ne (tgt := 9) hx hb dX0_hushesAt_4 (by decide) (fun c_1 => ?_) (fun c_1 => ?_)
  · skip
    refine lv_aload_n hx hb dX0_hushesAt_9 rfl (lv_at hl 0 rfl) ?_
    refine k_get (v := .int (r 2)) S G 0 rfl rfl hiX0 5 (by decide) hf37 rfl dX0_hushesAt_10 ?_
    refine lv_aload_n hx hb dX0_hushesAt_13 rfl (lv_at hl 0 rfl) ?_
    refine k_get (v := .int (r 3)) S G 0 rfl rfl hiX0 6 (by decide) hf40 rfl dX0_hushesAt_14 ?_
    refine lv_icmp_ge (tgt := 42) hx hb dX0_hushesAt_17 (by decide) (fun c_2 => ?_) (fun c_2 => ?_)
    · skip
      refine lv_aload_n hx hb dX0_hushesAt_42 rfl (lv_at hl 0 rfl) ?_
      refine k_get (v := .int (r 2)) S G 0 rfl rfl hiX0 5 (by decide) hf37 rfl dX0_hushesAt_43 ?_
      refine lv_aload_n hx hb dX0_hushesAt_46 rfl (lv_at hl 0 rfl) ?_
      refine k_get (v := .int (r 3)) S G 0 rfl rfl hiX0 6 (by decide) hf40 rfl dX0_hushesAt_47 ?_
      refine lv_icmp_le (tgt := 73) hx hb dX0_hushesAt_50 (by decide) (fun c_3 => ?_) (fun c_3 => ?_)
      · skip
        refine lv_iconst (v := 0) hx hb dX0_hushesAt_73 (by decide) ?_
        have es : (s_X0_hushesAt r q) = 0 := by rw [s_X0_hushesAt, if_neg c_1, if_pos c_2, if_pos c_3]
        exact k_zret S G hr hlk dX0_hushesAt_74 (by decide) (by first | (rw [es]; done) | (rw [es]; rfl) | (simp only [es]; done) | (simp only [es]; rfl)) rfl
      · skip
        refine lv_iload_n hx hb dX0_hushesAt_53 rfl (lv_at hl 1 rfl) ?_
        refine lv_aload_n hx hb dX0_hushesAt_54 rfl (lv_at hl 0 rfl) ?_
        refine k_get (v := .int (r 2)) S G 0 rfl rfl hiX0 5 (by decide) hf37 rfl dX0_hushesAt_55 ?_
        refine lv_icmp_ge (tgt := 69) hx hb dX0_hushesAt_58 (by decide) (fun c_4 => ?_) (fun c_4 => ?_)
        · skip
          refine lv_iconst (v := 1) hx hb dX0_hushesAt_69 (by decide) ?_
          refine lv_goto (tgt := 74) hx hb dX0_hushesAt_70 (by decide) ?_
          have es : (s_X0_hushesAt r q) = 1 := by rw [s_X0_hushesAt, if_neg c_1, if_pos c_2, if_neg c_3, if_pos c_4]
          exact k_zret S G hr hlk dX0_hushesAt_74 (by decide) (by first | (rw [es]; done) | (rw [es]; rfl) | (simp only [es]; done) | (simp only [es]; rfl)) rfl
        · skip
          refine lv_iload_n hx hb dX0_hushesAt_61 rfl (lv_at hl 1 rfl) ?_
          refine lv_aload_n hx hb dX0_hushesAt_62 rfl (lv_at hl 0 rfl) ?_
          refine k_get (v := .int (r 3)) S G 0 rfl rfl hiX0 6 (by decide) hf40 rfl dX0_hushesAt_63 ?_
          refine lv_icmp_ge (tgt := 73) hx hb dX0_hushesAt_66 (by decide) (fun c_5 => ?_) (fun c_5 => ?_)
          · skip
            refine lv_iconst (v := 0) hx hb dX0_hushesAt_73 (by decide) ?_
            have es : (s_X0_hushesAt r q) = 0 := by rw [s_X0_hushesAt, if_neg c_1, if_pos c_2, if_neg c_3, if_neg c_4, if_pos c_5]
            exact k_zret S G hr hlk dX0_hushesAt_74 (by decide) (by first | (rw [es]; done) | (rw [es]; rfl) | (simp only [es]; done) | (simp only [es]; rfl)) rfl
          · skip
            refine lv_iconst (v := 1) hx hb dX0_hushesAt_69 (by decide) ?_
            refine lv_goto (tgt := 74) hx hb dX0_hushesAt_70 (by decide) ?_
            have es : (s_X0_hushesAt r q) = 1 := by rw [s_X0_hushesAt, if_neg c_1, if_pos c_2, if_neg c_3, if_neg c_4, if_neg c_5]
            exact k_zret S G hr hlk dX0_hushesAt_74 (by decide) (by first | (rw [es]; done) | (rw [es]; rfl) | (simp only [es]; done) | (simp only [es]; rfl)) rfl
    · skip
      refine lv_iload_n hx hb dX0_hushesAt_20 rfl (lv_at hl 1 rfl) ?_
      refine lv_aload_n hx hb dX0_hushesAt_21 rfl (lv_at hl 0 rfl) ?_
      refine k_get (v := .int (r 2)) S G 0 rfl rfl hiX0 5 (by decide) hf37 rfl dX0_hushesAt_22 ?_
      refine lv_icmp_lt (tgt := 40) hx hb dX0_hushesAt_25 (by decide) (fun c_6 => ?_) (fun c_6 => ?_)
      · skip
        refine lv_iconst (v := 0) hx hb dX0_hushesAt_40 (by decide) ?_
        have es : (s_X0_hushesAt r q) = 0 := by rw [s_X0_hushesAt, if_neg c_1, if_neg c_2, if_pos c_6]
        exact k_zret S G hr hlk dX0_hushesAt_41 (by decide) (by first | (rw [es]; done) | (rw [es]; rfl) | (simp only [es]; done) | (simp only [es]; rfl)) rfl
      · skip
        refine lv_iload_n hx hb dX0_hushesAt_28 rfl (lv_at hl 1 rfl) ?_
        refine lv_aload_n hx hb dX0_hushesAt_29 rfl (lv_at hl 0 rfl) ?_
        refine k_get (v := .int (r 3)) S G 0 rfl rfl hiX0 6 (by decide) hf40 rfl dX0_hushesAt_30 ?_
        refine lv_icmp_ge (tgt := 40) hx hb dX0_hushesAt_33 (by decide) (fun c_7 => ?_) (fun c_7 => ?_)
        · skip
          refine lv_iconst (v := 0) hx hb dX0_hushesAt_40 (by decide) ?_
          have es : (s_X0_hushesAt r q) = 0 := by rw [s_X0_hushesAt, if_neg c_1, if_neg c_2, if_neg c_6, if_pos c_7]
          exact k_zret S G hr hlk dX0_hushesAt_41 (by decide) (by first | (rw [es]; done) | (rw [es]; rfl) | (simp only [es]; done) | (simp only [es]; rfl)) rfl
        · skip
          refine lv_iconst (v := 1) hx hb dX0_hushesAt_36 (by decide) ?_
          refine lv_goto (tgt := 41) hx hb dX0_hushesAt_37 (by decide) ?_
          have es : (s_X0_hushesAt r q) = 1 := by rw [s_X0_hushesAt, if_neg c_1, if_neg c_2, if_neg c_6, if_neg c_7]
          exact k_zret S G hr hlk dX0_hushesAt_41 (by decide) (by first | (rw [es]; done) | (rw [es]; rfl) | (simp only [es]; done) | (simp only [es]; rfl)) rfl
  · skip
    refine lv_iconst (v := 0) hx hb dX0_hushesAt_7 (by decide) ?_
    have es : (s_X0_hushesAt r q) = 0 := by rw [s_X0_hushesAt, if_pos c_1]
    exact k_zret S G hr hlk dX0_hushesAt_8 (by decide) (by first | (rw [es]; done) | (rw [es]; rfl) | (simp only [es]; done) | (simp only [es]; rfl)) rfl
def s_X0_blocksAt (r : Nat → Int32) (q : Int32) : Int32 := (if (r 1) = 1 then (if (s_X0_hushesAt r q) = 0 then 0 else 1) else 0)
set_option maxHeartbeats 4000000 in
set_option maxRecDepth 100000 in
theorem c_X0_blocksAt (l : Launch) (D : va_G) (cI cS : ClassId) (a : Nat → Nat) (r : Nat → Int32) (e : Nat → Nat → Int32) (q : Int32) : Ct l yX0_blocksAt wsX0_blocksAt ({ frames := 1, cells := 0, slots := 0, locals := 21 }) D (tyL cI cS) [.ref (a 0), .int q] (stW cI a r e ([])) (some (.int (s_X0_blocksAt r q))) (stW cI a r e ([])) := by
  refine Ct.of (cc := cX0_blocksAt) (maxL := 2) (ret := (some .boolean)) (by decide) rfl (Nat.le_of_ble_eq_true rfl) ?_
  intro p ev s m args below meth c A ls S hr hlk G hl
  have hx := S.1
  have hb := S.2.1
  have hown : s.vm.findClass RX0 = some m.cls := S.2.2.2.1
  have hts := S.2.2.2.2
  have hl : lv_has ls 2 [(0, .ref (a 0)), (1, .int q)] := hl
  have hiX0 : ∀ w ∈ wsX00, w ∈ wsX0_blocksAt := by decide +kernel
  have hf34 := hts (.fieldLink RX0 34 "StrikingWork$State" "silenceMode" "I") (by decide +kernel)
  refine lv_aload_n hx hb dX0_blocksAt_0 rfl (lv_at hl 0 rfl) ?_
  refine k_get (v := .int (r 1)) S G 0 rfl rfl hiX0 4 (by decide) hf34 rfl dX0_blocksAt_1 ?_
  refine lv_iconst (v := 1) hx hb dX0_blocksAt_4 (by decide) ?_
  refine lv_icmp_ne (tgt := 20) hx hb dX0_blocksAt_5 (by decide) (fun c_1 => ?_) (fun c_1 => ?_)
  · skip
    refine lv_iconst (v := 0) hx hb dX0_blocksAt_20 (by decide) ?_
    have es : (s_X0_blocksAt r q) = 0 := by rw [s_X0_blocksAt, if_neg c_1]
    exact k_zret S G hr hlk dX0_blocksAt_21 (by decide) (by first | (rw [es]; done) | (rw [es]; rfl) | (simp only [es]; done) | (simp only [es]; rfl)) rfl
  · skip
    refine lv_aload_n hx hb dX0_blocksAt_8 rfl (lv_at hl 0 rfl) ?_
    refine lv_iload_n hx hb dX0_blocksAt_9 rfl (lv_at hl 1 rfl) ?_
    refine k_callV (n := 1) (As := [.int q]) (rest := []) (st1 := [.int (s_X0_hushesAt r q)]) (ws1 := (stW cI a r e ([]))) S G (c_X0_hushesAt l D cI cS a r e q) gX0_blocksAt_X0_hushesAt rfl (by decide +kernel) ⟨⟨rfl, rfl⟩, Nat.le_of_ble_eq_true rfl, Nat.le_of_ble_eq_true rfl⟩ [0, 1, 2, 3, 4, 5, 6] (by decide) rfl [(a 0), (a 1), (a 2), (a 3), (a 4), (a 5), (a 6)] rfl rfl 0 rfl rfl rfl hl.1 rfl (Nat.le_of_ble_eq_true rfl) ⟨Nat.zero_le _, Nat.zero_le _⟩ dX0_blocksAt_10 rfl rfl (fun H locs G => ?_)
    refine lv_if_eq (tgt := 20) hx hb dX0_blocksAt_13 (by decide) (fun c_2 => ?_) (fun c_2 => ?_)
    · skip
      refine lv_iconst (v := 0) hx hb dX0_blocksAt_20 (by decide) ?_
      have es : (s_X0_blocksAt r q) = 0 := by rw [s_X0_blocksAt, if_pos c_1, if_pos c_2]
      exact k_zret S G hr hlk dX0_blocksAt_21 (by decide) (by first | (rw [es]; done) | (rw [es]; rfl) | (simp only [es]; done) | (simp only [es]; rfl)) rfl
    · skip
      refine lv_iconst (v := 1) hx hb dX0_blocksAt_16 (by decide) ?_
      refine lv_goto (tgt := 21) hx hb dX0_blocksAt_17 (by decide) ?_
      have es : (s_X0_blocksAt r q) = 1 := by rw [s_X0_blocksAt, if_pos c_1, if_neg c_2]
      exact k_zret S G hr hlk dX0_blocksAt_21 (by decide) (by first | (rw [es]; done) | (rw [es]; rfl) | (simp only [es]; done) | (simp only [es]; rfl)) rfl
set_option maxHeartbeats 4000000 in
set_option maxRecDepth 100000 in
theorem c_X0_copyFrom (l : Launch) (D : va_G) (cI cS : ClassId) (a : Nat → Nat) (r : Nat → Int32) (e : Nat → Nat → Int32) (b : Nat → Nat) (r2 : Nat → Int32) (e2 : Nat → Nat → Int32) : Ct l yX0_copyFrom wsX0_copyFrom ({ frames := 1, cells := 0, slots := 0, locals := 22 }) D (tyL cI cS) [.ref (a 0), .ref (b 0)] (stW cI a r e (stW cI b r2 e2 ([]))) none (stW cI a r2 e2 (stW cI b r2 e2 ([]))) := by
  refine Ct.of (cc := cX0_copyFrom) (maxL := 2) (ret := none) (by decide) rfl (Nat.le_of_ble_eq_true rfl) ?_
  intro p ev s m args below meth c A ls S hr hlk G hl
  have hx := S.1
  have hb := S.2.1
  have hown : s.vm.findClass RX0 = some m.cls := S.2.2.2.1
  have hts := S.2.2.2.2
  have hl : lv_has ls 2 [(0, .ref (a 0)), (1, .ref (b 0))] := hl
  have hiX0 : ∀ w ∈ wsX00, w ∈ wsX0_copyFrom := by decide +kernel
  have hf14 := hts (.fieldLink RX0 14 "StrikingWork$State" "hours" "LStrikingWork$Train;") (by decide +kernel)
  have hf20 := hts (.fieldLink RX0 20 "StrikingWork$State" "quarters" "LStrikingWork$Train;") (by decide +kernel)
  have hf26 := hts (.fieldLink RX0 26 "StrikingWork$State" "strikes" "LStrikingWork$Strikes;") (by decide +kernel)
  have hf30 := hts (.fieldLink RX0 30 "StrikingWork$State" "minute" "I") (by decide +kernel)
  have hf34 := hts (.fieldLink RX0 34 "StrikingWork$State" "silenceMode" "I") (by decide +kernel)
  have hf37 := hts (.fieldLink RX0 37 "StrikingWork$State" "silenceBegin" "I") (by decide +kernel)
  have hf40 := hts (.fieldLink RX0 40 "StrikingWork$State" "silenceEnd" "I") (by decide +kernel)
  refine lv_aload_n hx hb dX0_copyFrom_0 rfl (lv_at hl 0 rfl) ?_
  refine k_get (v := .ref (a 1)) S G 0 rfl rfl hiX0 0 (by decide) hf14 rfl dX0_copyFrom_1 ?_
  refine lv_aload_n hx hb dX0_copyFrom_4 rfl (lv_at hl 1 rfl) ?_
  refine k_get (v := .ref (b 1)) S G 7 rfl rfl hiX0 0 (by decide) hf14 rfl dX0_copyFrom_5 ?_
  refine k_callV (n := 1) (As := [.ref (b 1)]) (rest := []) (st1 := []) (ws1 := (stW cI a (upd (upd (upd (upd (upd r 4 (r2 4)) 5 (r2 5)) 6 (r2 6)) 7 (r2 7)) 8 (r2 8)) e (stW cI b r2 e2 ([])))) S G (c_X2_copyFrom l D cI cS (a 1) 0 (r 4) (r 5) (r 6) (r 7) (r 8) (b 1) 0 (r2 4) (r2 5) (r2 6) (r2 7) (r2 8)) gX0_copyFrom_X2_copyFrom rfl (by decide +kernel) ⟨⟨rfl, rfl⟩, Nat.le_of_ble_eq_true rfl, Nat.le_of_ble_eq_true rfl⟩ [1, 8] (by decide) rfl [(a 1), (b 1)] rfl rfl 1 rfl rfl rfl hl.1 rfl (Nat.le_of_ble_eq_true rfl) ⟨Nat.zero_le _, Nat.zero_le _⟩ dX0_copyFrom_8 rfl rfl (fun H locs G => ?_)
  refine lv_aload_n hx hb dX0_copyFrom_11 rfl (lv_at hl 0 rfl) ?_
  refine k_get (v := .ref (a 2)) S G 0 rfl rfl hiX0 1 (by decide) hf20 rfl dX0_copyFrom_12 ?_
  refine lv_aload_n hx hb dX0_copyFrom_15 rfl (lv_at hl 1 rfl) ?_
  refine k_get (v := .ref (b 2)) S G 7 rfl rfl hiX0 1 (by decide) hf20 rfl dX0_copyFrom_16 ?_
  refine k_callV (n := 1) (As := [.ref (b 2)]) (rest := []) (st1 := []) (ws1 := (stW cI a (upd (upd (upd (upd (upd (upd (upd (upd (upd (upd r 4 (r2 4)) 5 (r2 5)) 6 (r2 6)) 7 (r2 7)) 8 (r2 8)) 9 (r2 9)) 10 (r2 10)) 11 (r2 11)) 12 (r2 12)) 13 (r2 13)) e (stW cI b r2 e2 ([])))) S G (c_X2_copyFrom l D cI cS (a 2) 1 (r 9) (r 10) (r 11) (r 12) (r 13) (b 2) 1 (r2 9) (r2 10) (r2 11) (r2 12) (r2 13)) gX0_copyFrom_X2_copyFrom rfl (by decide +kernel) ⟨⟨rfl, rfl⟩, Nat.le_of_ble_eq_true rfl, Nat.le_of_ble_eq_true rfl⟩ [2, 9] (by decide) rfl [(a 2), (b 2)] rfl rfl 2 rfl rfl rfl hl.1 rfl (Nat.le_of_ble_eq_true rfl) ⟨Nat.zero_le _, Nat.zero_le _⟩ dX0_copyFrom_19 rfl rfl (fun H locs G => ?_)
  refine lv_aload_n hx hb dX0_copyFrom_22 rfl (lv_at hl 0 rfl) ?_
  refine k_get (v := .ref (a 3)) S G 0 rfl rfl hiX0 2 (by decide) hf26 rfl dX0_copyFrom_23 ?_
  refine lv_aload_n hx hb dX0_copyFrom_26 rfl (lv_at hl 1 rfl) ?_
  refine k_get (v := .ref (b 3)) S G 7 rfl rfl hiX0 2 (by decide) hf26 rfl dX0_copyFrom_27 ?_
  refine k_callV (n := 1) (As := [.ref (b 3)]) (rest := []) (st1 := []) (ws1 := (stW cI a (upd (upd (upd (upd (upd (upd (upd (upd (upd (upd (upd r 4 (r2 4)) 5 (r2 5)) 6 (r2 6)) 7 (r2 7)) 8 (r2 8)) 9 (r2 9)) 10 (r2 10)) 11 (r2 11)) 12 (r2 12)) 13 (r2 13)) 14 (r2 14)) (e3 (e2 0) (e2 1) (e2 2)) (stW cI b r2 e2 ([])))) S G (c_X1_copyFrom l D cI cS (a 3) (a 4) (a 5) (a 6) (r 14) (e 0) (e 1) (e 2) (b 3) (b 4) (b 5) (b 6) (r2 14) (e2 0) (e2 1) (e2 2)) gX0_copyFrom_X1_copyFrom rfl (by decide +kernel) ⟨⟨rfl, rfl⟩, Nat.le_of_ble_eq_true rfl, Nat.le_of_ble_eq_true rfl⟩ [3, 4, 5, 6, 10, 11, 12, 13] (by decide) rfl [(a 3), (a 4), (a 5), (a 6), (b 3), (b 4), (b 5), (b 6)] rfl rfl 3 rfl rfl rfl hl.1 rfl (Nat.le_of_ble_eq_true rfl) ⟨Nat.zero_le _, Nat.zero_le _⟩ dX0_copyFrom_30 rfl rfl (fun H locs G => ?_)
  refine lv_aload_n hx hb dX0_copyFrom_33 rfl (lv_at hl 0 rfl) ?_
  refine lv_aload_n hx hb dX0_copyFrom_34 rfl (lv_at hl 1 rfl) ?_
  refine k_get (v := .int (r2 0)) S G 7 rfl rfl hiX0 3 (by decide) hf30 rfl dX0_copyFrom_35 ?_
  refine k_put (ws1 := (stW cI a (upd (upd (upd (upd (upd (upd (upd (upd (upd (upd (upd (upd r 0 (r2 0)) 4 (r2 4)) 5 (r2 5)) 6 (r2 6)) 7 (r2 7)) 8 (r2 8)) 9 (r2 9)) 10 (r2 10)) 11 (r2 11)) 12 (r2 12)) 13 (r2 13)) 14 (r2 14)) (e3 (e2 0) (e2 1) (e2 2)) (stW cI b r2 e2 ([])))) S G 0 rfl rfl hiX0 tyX0 tyX0_ok nmX0 3 (by decide) hf30 rfl rfl rfl (Nat.le_of_ble_eq_true rfl) dX0_copyFrom_38 rfl (fun H locs G => ?_)
  refine lv_aload_n hx hb dX0_copyFrom_41 rfl (lv_at hl 0 rfl) ?_
  refine lv_aload_n hx hb dX0_copyFrom_42 rfl (lv_at hl 1 rfl) ?_
  refine k_get (v := .int (r2 1)) S G 7 rfl rfl hiX0 4 (by decide) hf34 rfl dX0_copyFrom_43 ?_
  refine k_put (ws1 := (stW cI a (upd (upd (upd (upd (upd (upd (upd (upd (upd (upd (upd (upd (upd r 0 (r2 0)) 1 (r2 1)) 4 (r2 4)) 5 (r2 5)) 6 (r2 6)) 7 (r2 7)) 8 (r2 8)) 9 (r2 9)) 10 (r2 10)) 11 (r2 11)) 12 (r2 12)) 13 (r2 13)) 14 (r2 14)) (e3 (e2 0) (e2 1) (e2 2)) (stW cI b r2 e2 ([])))) S G 0 rfl rfl hiX0 tyX0 tyX0_ok nmX0 4 (by decide) hf34 rfl rfl rfl (Nat.le_of_ble_eq_true rfl) dX0_copyFrom_46 rfl (fun H locs G => ?_)
  refine lv_aload_n hx hb dX0_copyFrom_49 rfl (lv_at hl 0 rfl) ?_
  refine lv_aload_n hx hb dX0_copyFrom_50 rfl (lv_at hl 1 rfl) ?_
  refine k_get (v := .int (r2 2)) S G 7 rfl rfl hiX0 5 (by decide) hf37 rfl dX0_copyFrom_51 ?_
  refine k_put (ws1 := (stW cI a (upd (upd (upd (upd (upd (upd (upd (upd (upd (upd (upd (upd (upd (upd r 0 (r2 0)) 1 (r2 1)) 2 (r2 2)) 4 (r2 4)) 5 (r2 5)) 6 (r2 6)) 7 (r2 7)) 8 (r2 8)) 9 (r2 9)) 10 (r2 10)) 11 (r2 11)) 12 (r2 12)) 13 (r2 13)) 14 (r2 14)) (e3 (e2 0) (e2 1) (e2 2)) (stW cI b r2 e2 ([])))) S G 0 rfl rfl hiX0 tyX0 tyX0_ok nmX0 5 (by decide) hf37 rfl rfl rfl (Nat.le_of_ble_eq_true rfl) dX0_copyFrom_54 rfl (fun H locs G => ?_)
  refine lv_aload_n hx hb dX0_copyFrom_57 rfl (lv_at hl 0 rfl) ?_
  refine lv_aload_n hx hb dX0_copyFrom_58 rfl (lv_at hl 1 rfl) ?_
  refine k_get (v := .int (r2 3)) S G 7 rfl rfl hiX0 6 (by decide) hf40 rfl dX0_copyFrom_59 ?_
  refine k_put (ws1 := (stW cI a (upd (upd (upd (upd (upd (upd (upd (upd (upd (upd (upd (upd (upd (upd (upd r 0 (r2 0)) 1 (r2 1)) 2 (r2 2)) 3 (r2 3)) 4 (r2 4)) 5 (r2 5)) 6 (r2 6)) 7 (r2 7)) 8 (r2 8)) 9 (r2 9)) 10 (r2 10)) 11 (r2 11)) 12 (r2 12)) 13 (r2 13)) 14 (r2 14)) (e3 (e2 0) (e2 1) (e2 2)) (stW cI b r2 e2 ([])))) S G 0 rfl rfl hiX0 tyX0 tyX0_ok nmX0 6 (by decide) hf40 rfl rfl rfl (Nat.le_of_ble_eq_true rfl) dX0_copyFrom_62 rfl (fun H locs G => ?_)
  have G := Gd.eq (ws1 := (stW cI a r2 e2 (stW cI b r2 e2 ([])))) G rfl
  exact k_vret S G hr hlk dX0_copyFrom_65 rfl
def s_X0_addToHash (r : Nat → Int32) (e : Nat → Nat → Int32) (h : Int64) : Int64 := (s_X1_addToHash (r 14) (e 0) (e 1) (e 2) ((31 * ((31 * ((31 * (s_X2_addToHash 1 (r 9) (r 10) (r 11) (r 12) (r 13) (s_X2_addToHash 0 (r 4) (r 5) (r 6) (r 7) (r 8) ((31 * h) + (r 0).toInt64) (r 0)) (r 0))) + (r 1).toInt64)) + (r 2).toInt64)) + (r 3).toInt64))
set_option maxHeartbeats 4000000 in
set_option maxRecDepth 100000 in
theorem c_X0_addToHash (l : Launch) (D : va_G) (cI cS : ClassId) (a : Nat → Nat) (r : Nat → Int32) (e : Nat → Nat → Int32) (h : Int64) (hcn : cnOk (r 14)) : Ct l yX0_addToHash wsX0_addToHash ({ frames := 5, cells := 0, slots := 0, locals := 110 }) D (tyL cI cS) [.ref (a 0), .long h] (stW cI a r e ([])) (some (.long (s_X0_addToHash r e h))) (stW cI a r e ([])) := by
  refine Ct.of (cc := cX0_addToHash) (maxL := 5) (ret := (some .long)) (by decide) rfl (Nat.le_of_ble_eq_true rfl) ?_
  intro p ev s m args below meth c A ls S hr hlk G hl
  have hx := S.1
  have hb := S.2.1
  have hown : s.vm.findClass RX0 = some m.cls := S.2.2.2.1
  have hts := S.2.2.2.2
  have hl : lv_has ls 5 [(0, .ref (a 0)), (1, .long h)] := hl
  have hiX0 : ∀ w ∈ wsX00, w ∈ wsX0_addToHash := by decide +kernel
  have hf14 := hts (.fieldLink RX0 14 "StrikingWork$State" "hours" "LStrikingWork$Train;") (by decide +kernel)
  have hf20 := hts (.fieldLink RX0 20 "StrikingWork$State" "quarters" "LStrikingWork$Train;") (by decide +kernel)
  have hf26 := hts (.fieldLink RX0 26 "StrikingWork$State" "strikes" "LStrikingWork$Strikes;") (by decide +kernel)
  have hf30 := hts (.fieldLink RX0 30 "StrikingWork$State" "minute" "I") (by decide +kernel)
  have hf34 := hts (.fieldLink RX0 34 "StrikingWork$State" "silenceMode" "I") (by decide +kernel)
  have hf37 := hts (.fieldLink RX0 37 "StrikingWork$State" "silenceBegin" "I") (by decide +kernel)
  have hf40 := hts (.fieldLink RX0 40 "StrikingWork$State" "silenceEnd" "I") (by decide +kernel)
  have hk54 := hts (.constantLong RX0 54 31) (by decide +kernel)
  refine lv_ldc2 (v := 31) hx hb hown hk54 dX0_addToHash_0 ?_
  refine lv_lload_n hx hb dX0_addToHash_3 rfl (lv_at hl 1 rfl) ?_
  refine lv_lmul hx hb dX0_addToHash_4 ?_
  refine lv_aload_n hx hb dX0_addToHash_5 rfl (lv_at hl 0 rfl) ?_
  refine k_get (v := .int (r 0)) S G 0 rfl rfl hiX0 3 (by decide) hf30 rfl dX0_addToHash_6 ?_
  refine lv_i2l (v := (r 0).toInt64) hx hb dX0_addToHash_9 rfl ?_
  refine lv_ladd hx hb dX0_addToHash_10 ?_
  refine lv_lstore_n (lv' := [(3, .long ((31 * h) + (r 0).toInt64)), (0, .ref (a 0)), (1, .long h)]) hx hb dX0_addToHash_11 rfl hl (by decide) rfl (fun ls hl => ?_)
  refine lv_aload_n hx hb dX0_addToHash_12 rfl (lv_at hl 1 rfl) ?_
  refine k_get (v := .ref (a 1)) S G 0 rfl rfl hiX0 0 (by decide) hf14 rfl dX0_addToHash_13 ?_
  refine lv_lload_n hx hb dX0_addToHash_16 rfl (lv_at hl 0 rfl) ?_
  refine lv_aload_n hx hb dX0_addToHash_17 rfl (lv_at hl 1 rfl) ?_
  refine k_get (v := .int (r 0)) S G 0 rfl rfl hiX0 3 (by decide) hf30 rfl dX0_addToHash_18 ?_
  refine k_callV (n := 2) (As := [.long ((31 * h) + (r 0).toInt64), .int (r 0)]) (rest := []) (st1 := [.long (s_X2_addToHash 0 (r 4) (r 5) (r 6) (r 7) (r 8) ((31 * h) + (r 0).toInt64) (r 0))]) (ws1 := (stW cI a r e ([]))) S G (c_X2_addToHash l D cI cS (a 1) 0 (r 4) (r 5) (r 6) (r 7) (r 8) ((31 * h) + (r 0).toInt64) (r 0)) gX0_addToHash_X2_addToHash rfl (by decide +kernel) ⟨⟨rfl, rfl⟩, Nat.le_of_ble_eq_true rfl, Nat.le_of_ble_eq_true rfl⟩ [1] (by decide) rfl [(a 1)] rfl rfl 1 rfl rfl rfl hl.1 rfl (Nat.le_of_ble_eq_true rfl) ⟨Nat.zero_le _, Nat.zero_le _⟩ dX0_addToHash_21 rfl rfl (fun H locs G => ?_)
  refine lv_lstore_n (lv' := [(3, .long (s_X2_addToHash 0 (r 4) (r 5) (r 6) (r 7) (r 8) ((31 * h) + (r 0).toInt64) (r 0))), (0, .ref (a 0)), (1, .long h)]) hx hb dX0_addToHash_24 rfl hl (by decide) rfl (fun ls hl => ?_)
  refine lv_aload_n hx hb dX0_addToHash_25 rfl (lv_at hl 1 rfl) ?_
  refine k_get (v := .ref (a 2)) S G 0 rfl rfl hiX0 1 (by decide) hf20 rfl dX0_addToHash_26 ?_
  refine lv_lload_n hx hb dX0_addToHash_29 rfl (lv_at hl 0 rfl) ?_
  refine lv_aload_n hx hb dX0_addToHash_30 rfl (lv_at hl 1 rfl) ?_
  refine k_get (v := .int (r 0)) S G 0 rfl rfl hiX0 3 (by decide) hf30 rfl dX0_addToHash_31 ?_
  refine k_callV (n := 2) (As := [.long (s_X2_addToHash 0 (r 4) (r 5) (r 6) (r 7) (r 8) ((31 * h) + (r 0).toInt64) (r 0)), .int (r 0)]) (rest := []) (st1 := [.long (s_X2_addToHash 1 (r 9) (r 10) (r 11) (r 12) (r 13) (s_X2_addToHash 0 (r 4) (r 5) (r 6) (r 7) (r 8) ((31 * h) + (r 0).toInt64) (r 0)) (r 0))]) (ws1 := (stW cI a r e ([]))) S G (c_X2_addToHash l D cI cS (a 2) 1 (r 9) (r 10) (r 11) (r 12) (r 13) (s_X2_addToHash 0 (r 4) (r 5) (r 6) (r 7) (r 8) ((31 * h) + (r 0).toInt64) (r 0)) (r 0)) gX0_addToHash_X2_addToHash rfl (by decide +kernel) ⟨⟨rfl, rfl⟩, Nat.le_of_ble_eq_true rfl, Nat.le_of_ble_eq_true rfl⟩ [2] (by decide) rfl [(a 2)] rfl rfl 2 rfl rfl rfl hl.1 rfl (Nat.le_of_ble_eq_true rfl) ⟨Nat.zero_le _, Nat.zero_le _⟩ dX0_addToHash_34 rfl rfl (fun H locs G => ?_)
  refine lv_lstore_n (lv' := [(3, .long (s_X2_addToHash 1 (r 9) (r 10) (r 11) (r 12) (r 13) (s_X2_addToHash 0 (r 4) (r 5) (r 6) (r 7) (r 8) ((31 * h) + (r 0).toInt64) (r 0)) (r 0))), (0, .ref (a 0)), (1, .long h)]) hx hb dX0_addToHash_37 rfl hl (by decide) rfl (fun ls hl => ?_)
  refine lv_ldc2 (v := 31) hx hb hown hk54 dX0_addToHash_38 ?_
  refine lv_lload_n hx hb dX0_addToHash_41 rfl (lv_at hl 0 rfl) ?_
  refine lv_lmul hx hb dX0_addToHash_42 ?_
  refine lv_aload_n hx hb dX0_addToHash_43 rfl (lv_at hl 1 rfl) ?_
  refine k_get (v := .int (r 1)) S G 0 rfl rfl hiX0 4 (by decide) hf34 rfl dX0_addToHash_44 ?_
  refine lv_i2l (v := (r 1).toInt64) hx hb dX0_addToHash_47 rfl ?_
  refine lv_ladd hx hb dX0_addToHash_48 ?_
  refine lv_lstore_n (lv' := [(3, .long ((31 * (s_X2_addToHash 1 (r 9) (r 10) (r 11) (r 12) (r 13) (s_X2_addToHash 0 (r 4) (r 5) (r 6) (r 7) (r 8) ((31 * h) + (r 0).toInt64) (r 0)) (r 0))) + (r 1).toInt64)), (0, .ref (a 0)), (1, .long h)]) hx hb dX0_addToHash_49 rfl hl (by decide) rfl (fun ls hl => ?_)
  refine lv_ldc2 (v := 31) hx hb hown hk54 dX0_addToHash_50 ?_
  refine lv_lload_n hx hb dX0_addToHash_53 rfl (lv_at hl 0 rfl) ?_
  refine lv_lmul hx hb dX0_addToHash_54 ?_
  refine lv_aload_n hx hb dX0_addToHash_55 rfl (lv_at hl 1 rfl) ?_
  refine k_get (v := .int (r 2)) S G 0 rfl rfl hiX0 5 (by decide) hf37 rfl dX0_addToHash_56 ?_
  refine lv_i2l (v := (r 2).toInt64) hx hb dX0_addToHash_59 rfl ?_
  refine lv_ladd hx hb dX0_addToHash_60 ?_
  refine lv_lstore_n (lv' := [(3, .long ((31 * ((31 * (s_X2_addToHash 1 (r 9) (r 10) (r 11) (r 12) (r 13) (s_X2_addToHash 0 (r 4) (r 5) (r 6) (r 7) (r 8) ((31 * h) + (r 0).toInt64) (r 0)) (r 0))) + (r 1).toInt64)) + (r 2).toInt64)), (0, .ref (a 0)), (1, .long h)]) hx hb dX0_addToHash_61 rfl hl (by decide) rfl (fun ls hl => ?_)
  refine lv_ldc2 (v := 31) hx hb hown hk54 dX0_addToHash_62 ?_
  refine lv_lload_n hx hb dX0_addToHash_65 rfl (lv_at hl 0 rfl) ?_
  refine lv_lmul hx hb dX0_addToHash_66 ?_
  refine lv_aload_n hx hb dX0_addToHash_67 rfl (lv_at hl 1 rfl) ?_
  refine k_get (v := .int (r 3)) S G 0 rfl rfl hiX0 6 (by decide) hf40 rfl dX0_addToHash_68 ?_
  refine lv_i2l (v := (r 3).toInt64) hx hb dX0_addToHash_71 rfl ?_
  refine lv_ladd hx hb dX0_addToHash_72 ?_
  refine lv_lstore_n (lv' := [(3, .long ((31 * ((31 * ((31 * (s_X2_addToHash 1 (r 9) (r 10) (r 11) (r 12) (r 13) (s_X2_addToHash 0 (r 4) (r 5) (r 6) (r 7) (r 8) ((31 * h) + (r 0).toInt64) (r 0)) (r 0))) + (r 1).toInt64)) + (r 2).toInt64)) + (r 3).toInt64)), (0, .ref (a 0)), (1, .long h)]) hx hb dX0_addToHash_73 rfl hl (by decide) rfl (fun ls hl => ?_)
  refine lv_aload_n hx hb dX0_addToHash_74 rfl (lv_at hl 1 rfl) ?_
  refine k_get (v := .ref (a 3)) S G 0 rfl rfl hiX0 2 (by decide) hf26 rfl dX0_addToHash_75 ?_
  refine lv_lload_n hx hb dX0_addToHash_78 rfl (lv_at hl 0 rfl) ?_
  refine k_callV (n := 1) (As := [.long ((31 * ((31 * ((31 * (s_X2_addToHash 1 (r 9) (r 10) (r 11) (r 12) (r 13) (s_X2_addToHash 0 (r 4) (r 5) (r 6) (r 7) (r 8) ((31 * h) + (r 0).toInt64) (r 0)) (r 0))) + (r 1).toInt64)) + (r 2).toInt64)) + (r 3).toInt64)]) (rest := []) (st1 := [.long (s_X1_addToHash (r 14) (e 0) (e 1) (e 2) ((31 * ((31 * ((31 * (s_X2_addToHash 1 (r 9) (r 10) (r 11) (r 12) (r 13) (s_X2_addToHash 0 (r 4) (r 5) (r 6) (r 7) (r 8) ((31 * h) + (r 0).toInt64) (r 0)) (r 0))) + (r 1).toInt64)) + (r 2).toInt64)) + (r 3).toInt64))]) (ws1 := (stW cI a r e ([]))) S G (c_X1_addToHash l D cI cS (a 3) (a 4) (a 5) (a 6) (r 14) (e 0) (e 1) (e 2) ((31 * ((31 * ((31 * (s_X2_addToHash 1 (r 9) (r 10) (r 11) (r 12) (r 13) (s_X2_addToHash 0 (r 4) (r 5) (r 6) (r 7) (r 8) ((31 * h) + (r 0).toInt64) (r 0)) (r 0))) + (r 1).toInt64)) + (r 2).toInt64)) + (r 3).toInt64) hcn) gX0_addToHash_X1_addToHash rfl (by decide +kernel) ⟨⟨rfl, rfl⟩, Nat.le_of_ble_eq_true rfl, Nat.le_of_ble_eq_true rfl⟩ [3, 4, 5, 6] (by decide) rfl [(a 3), (a 4), (a 5), (a 6)] rfl rfl 3 rfl rfl rfl hl.1 rfl (Nat.le_of_ble_eq_true rfl) ⟨Nat.zero_le _, Nat.zero_le _⟩ dX0_addToHash_79 rfl rfl (fun H locs G => ?_)
  have es : (s_X0_addToHash r e h) = (s_X1_addToHash (r 14) (e 0) (e 1) (e 2) ((31 * ((31 * ((31 * (s_X2_addToHash 1 (r 9) (r 10) (r 11) (r 12) (r 13) (s_X2_addToHash 0 (r 4) (r 5) (r 6) (r 7) (r 8) ((31 * h) + (r 0).toInt64) (r 0)) (r 0))) + (r 1).toInt64)) + (r 2).toInt64)) + (r 3).toInt64)) := rfl
  exact k_lret S G hr hlk dX0_addToHash_82 (by first | (rw [es]; done) | (rw [es]; rfl) | (simp only [es]; done) | (simp only [es]; rfl)) rfl
end
section
def s_X3_isTrain (q : Int32) : Int32 := (if q = 0 then 1 else (if q = 1 then 1 else 0))
set_option maxHeartbeats 4000000 in
set_option maxRecDepth 100000 in
theorem c_X3_isTrain (l : Launch) (D : va_G) (cI cS : ClassId) (q : Int32) : Ct l yX3_isTrain wsX3_isTrain ({ frames := 0, cells := 0, slots := 0, locals := 0 }) D (tyL cI cS) [.int q] [] (some (.int (s_X3_isTrain q))) [] := by
  refine Ct.of (cc := cX3_isTrain) (maxL := 1) (ret := (some .boolean)) (by decide) rfl (Nat.le_of_ble_eq_true rfl) ?_
  intro p ev s m args below meth c A ls S hr hlk G hl
  have hx := S.1
  have hb := S.2.1
  have hown : s.vm.findClass RX3 = some m.cls := S.2.2.2.1
  have hts := S.2.2.2.2
  have hl : lv_has ls 1 [(0, .int q)] := hl
  refine lv_iload_n hx hb dX3_isTrain_0 rfl (lv_at hl 0 rfl) ?_
  refine lv_if_eq (tgt := 9) hx hb dX3_isTrain_1 (by decide) (fun c_1 => ?_) (fun c_1 => ?_)
  · skip
    refine lv_iconst (v := 1) hx hb dX3_isTrain_9 (by decide) ?_
    refine lv_goto (tgt := 14) hx hb dX3_isTrain_10 (by decide) ?_
    have es : (s_X3_isTrain q) = 1 := by rw [s_X3_isTrain, if_pos c_1]
    exact k_zret S G hr hlk dX3_isTrain_14 (by decide) (by first | (rw [es]; done) | (rw [es]; rfl) | (simp only [es]; done) | (simp only [es]; rfl)) rfl
  · skip
    refine lv_iload_n hx hb dX3_isTrain_4 rfl (lv_at hl 0 rfl) ?_
    refine lv_iconst (v := 1) hx hb dX3_isTrain_5 (by decide) ?_
    refine lv_icmp_ne (tgt := 13) hx hb dX3_isTrain_6 (by decide) (fun c_2 => ?_) (fun c_2 => ?_)
    · skip
      refine lv_iconst (v := 0) hx hb dX3_isTrain_13 (by decide) ?_
      have es : (s_X3_isTrain q) = 0 := by rw [s_X3_isTrain, if_neg c_1, if_neg c_2]
      exact k_zret S G hr hlk dX3_isTrain_14 (by decide) (by first | (rw [es]; done) | (rw [es]; rfl) | (simp only [es]; done) | (simp only [es]; rfl)) rfl
    · skip
      refine lv_iconst (v := 1) hx hb dX3_isTrain_9 (by decide) ?_
      refine lv_goto (tgt := 14) hx hb dX3_isTrain_10 (by decide) ?_
      have es : (s_X3_isTrain q) = 1 := by rw [s_X3_isTrain, if_neg c_1, if_pos c_2]
      exact k_zret S G hr hlk dX3_isTrain_14 (by decide) (by first | (rw [es]; done) | (rw [es]; rfl) | (simp only [es]; done) | (simp only [es]; rfl)) rfl
def s_X3_isMinute (q : Int32) : Int32 := (if q < 0 then 0 else (if 1440 ≤ q then 0 else 1))
set_option maxHeartbeats 4000000 in
set_option maxRecDepth 100000 in
theorem c_X3_isMinute (l : Launch) (D : va_G) (cI cS : ClassId) (q : Int32) : Ct l yX3_isMinute wsX3_isMinute ({ frames := 0, cells := 0, slots := 0, locals := 0 }) D (tyL cI cS) [.int q] [] (some (.int (s_X3_isMinute q))) [] := by
  refine Ct.of (cc := cX3_isMinute) (maxL := 1) (ret := (some .boolean)) (by decide) rfl (Nat.le_of_ble_eq_true rfl) ?_
  intro p ev s m args below meth c A ls S hr hlk G hl
  have hx := S.1
  have hb := S.2.1
  have hown : s.vm.findClass RX3 = some m.cls := S.2.2.2.1
  have hts := S.2.2.2.2
  have hl : lv_has ls 1 [(0, .int q)] := hl
  refine lv_iload_n hx hb dX3_isMinute_0 rfl (lv_at hl 0 rfl) ?_
  refine lv_if_lt (tgt := 15) hx hb dX3_isMinute_1 (by decide) (fun c_1 => ?_) (fun c_1 => ?_)
  · skip
    refine lv_iconst (v := 0) hx hb dX3_isMinute_15 (by decide) ?_
    have es : (s_X3_isMinute q) = 0 := by rw [s_X3_isMinute, if_pos c_1]
    exact k_zret S G hr hlk dX3_isMinute_16 (by decide) (by first | (rw [es]; done) | (rw [es]; rfl) | (simp only [es]; done) | (simp only [es]; rfl)) rfl
  · skip
    refine lv_iload_n hx hb dX3_isMinute_4 rfl (lv_at hl 0 rfl) ?_
    refine lv_sipush (v := 1440) hx hb dX3_isMinute_5 (by decide) ?_
    refine lv_icmp_ge (tgt := 15) hx hb dX3_isMinute_8 (by decide) (fun c_2 => ?_) (fun c_2 => ?_)
    · skip
      refine lv_iconst (v := 0) hx hb dX3_isMinute_15 (by decide) ?_
      have es : (s_X3_isMinute q) = 0 := by rw [s_X3_isMinute, if_neg c_1, if_pos c_2]
      exact k_zret S G hr hlk dX3_isMinute_16 (by decide) (by first | (rw [es]; done) | (rw [es]; rfl) | (simp only [es]; done) | (simp only [es]; rfl)) rfl
    · skip
      refine lv_iconst (v := 1) hx hb dX3_isMinute_11 (by decide) ?_
      refine lv_goto (tgt := 16) hx hb dX3_isMinute_12 (by decide) ?_
      have es : (s_X3_isMinute q) = 1 := by rw [s_X3_isMinute, if_neg c_1, if_neg c_2]
      exact k_zret S G hr hlk dX3_isMinute_16 (by decide) (by first | (rw [es]; done) | (rw [es]; rfl) | (simp only [es]; done) | (simp only [es]; rfl)) rfl
def s_X3_errorIndex (q : Int32) : Int32 := ((-2) - q)
set_option maxHeartbeats 4000000 in
set_option maxRecDepth 100000 in
theorem c_X3_errorIndex (l : Launch) (D : va_G) (cI cS : ClassId) (q : Int32) : Ct l yX3_errorIndex wsX3_errorIndex ({ frames := 0, cells := 0, slots := 0, locals := 0 }) D (tyL cI cS) [.int q] [] (some (.int (s_X3_errorIndex q))) [] := by
  refine Ct.of (cc := cX3_errorIndex) (maxL := 1) (ret := (some .int)) (by decide) rfl (Nat.le_of_ble_eq_true rfl) ?_
  intro p ev s m args below meth c A ls S hr hlk G hl
  have hx := S.1
  have hb := S.2.1
  have hown : s.vm.findClass RX3 = some m.cls := S.2.2.2.1
  have hts := S.2.2.2.2
  have hl : lv_has ls 1 [(0, .int q)] := hl
  refine lv_bipush (v := (-2)) hx hb dX3_errorIndex_0 (by decide) ?_
  refine lv_iload_n hx hb dX3_errorIndex_2 rfl (lv_at hl 0 rfl) ?_
  refine lv_isub hx hb dX3_errorIndex_3 ?_
  have es : (s_X3_errorIndex q) = ((-2) - q) := rfl
  exact k_iret S G hr hlk dX3_errorIndex_4 (by first | (rw [es]; done) | (rw [es]; rfl) | (simp only [es]; done) | (simp only [es]; rfl)) rfl
set_option maxHeartbeats 4000000 in
set_option maxRecDepth 100000 in
theorem c_X3_refuse_2 (l : Launch) (D : va_G) (cI cS : ClassId) (nw : Nat) (x : Nat) (sv : Nat) (tl : Nat) (er : Nat) (sc : Int32) (z : Nat → Int32) : Ct l yX3_refuse wsX3_refuse ({ frames := 1, cells := 0, slots := 0, locals := 20 }) D (tyL cI cS) [.ref x, .int (-2)] [(x, .inr (3, [.ref nw, .ref sv, .ref tl, .ref er, .int sc])), (er, .inl (cI, 3, .inl z))] (some (.int (-2))) [(x, .inr (3, [.ref nw, .ref sv, .ref tl, .ref er, .int sc])), (er, .inl (cI, 3, .inl (upd z 0 ((z 0) + 1))))] := by
  refine Ct.of (cc := cX3_refuse) (maxL := 2) (ret := (some .int)) (by decide) rfl (Nat.le_of_ble_eq_true rfl) ?_
  intro p ev s m args below meth c A ls S hr hlk G hl
  have hx := S.1
  have hb := S.2.1
  have hown : s.vm.findClass RX3 = some m.cls := S.2.2.2.1
  have hts := S.2.2.2.2
  have hl : lv_has ls 2 [(0, .ref x), (1, .int (-2))] := hl
  have hiX3 : ∀ w ∈ wsX30, w ∈ wsX3_refuse := by decide +kernel
  have hf29 := hts (.fieldLink RX3 29 "StrikingWork" "errors" "[I") (by decide +kernel)
  refine lv_aload_n hx hb dX3_refuse_0 rfl (lv_at hl 0 rfl) ?_
  refine k_get (v := .ref er) S G 0 rfl rfl hiX3 3 (by decide) hf29 rfl dX3_refuse_1 ?_
  refine lv_iload_n hx hb dX3_refuse_4 rfl (lv_at hl 1 rfl) ?_
  refine k_callS (n := 1) (As := [.int (-2)]) (rest := [.ref er]) (st1 := [.int 0, .ref er]) (ws1 := [(x, .inr (3, [.ref nw, .ref sv, .ref tl, .ref er, .int sc])), (er, .inl (cI, 3, .inl z))]) S G (c_X3_errorIndex l D cI cS (-2)) gX3_refuse_X3_errorIndex rfl (by decide +kernel) ⟨⟨rfl, rfl⟩, Nat.le_of_ble_eq_true rfl, Nat.le_of_ble_eq_true rfl⟩ [] (by decide) rfl [] rfl rfl rfl hl.1 rfl (Nat.le_of_ble_eq_true rfl) ⟨Nat.zero_le _, Nat.zero_le _⟩ dX3_refuse_5 (congrArg (fun z => Value.int z :: [.ref er]) (by decide : (s_X3_errorIndex (-2)) = 0)) rfl (fun H locs G => ?_)
  refine lv_dup2_11 hx hb dX3_refuse_8 rfl rfl ?_
  refine k_iald (x := (z 0)) S G 1 0 rfl rfl (by unfold vp_in; decide) rfl dX3_refuse_9 ?_
  refine lv_iconst (v := 1) hx hb dX3_refuse_10 (by decide) ?_
  refine lv_iadd hx hb dX3_refuse_11 ?_
  refine k_iast (ws1 := [(x, .inr (3, [.ref nw, .ref sv, .ref tl, .ref er, .int sc])), (er, .inl (cI, 3, .inl (upd z 0 ((z 0) + 1))))]) S G 1 0 rfl rfl (by unfold vp_in; decide) dX3_refuse_12 rfl (fun H locs G => ?_)
  refine lv_iload_n hx hb dX3_refuse_13 rfl (lv_at hl 1 rfl) ?_
  exact k_iret S G hr hlk dX3_refuse_14 rfl rfl
set_option maxHeartbeats 4000000 in
set_option maxRecDepth 100000 in
theorem c_X3_refuse_3 (l : Launch) (D : va_G) (cI cS : ClassId) (nw : Nat) (x : Nat) (sv : Nat) (tl : Nat) (er : Nat) (sc : Int32) (z : Nat → Int32) : Ct l yX3_refuse wsX3_refuse ({ frames := 1, cells := 0, slots := 0, locals := 20 }) D (tyL cI cS) [.ref x, .int (-3)] [(x, .inr (3, [.ref nw, .ref sv, .ref tl, .ref er, .int sc])), (er, .inl (cI, 3, .inl z))] (some (.int (-3))) [(x, .inr (3, [.ref nw, .ref sv, .ref tl, .ref er, .int sc])), (er, .inl (cI, 3, .inl (upd z 1 ((z 1) + 1))))] := by
  refine Ct.of (cc := cX3_refuse) (maxL := 2) (ret := (some .int)) (by decide) rfl (Nat.le_of_ble_eq_true rfl) ?_
  intro p ev s m args below meth c A ls S hr hlk G hl
  have hx := S.1
  have hb := S.2.1
  have hown : s.vm.findClass RX3 = some m.cls := S.2.2.2.1
  have hts := S.2.2.2.2
  have hl : lv_has ls 2 [(0, .ref x), (1, .int (-3))] := hl
  have hiX3 : ∀ w ∈ wsX30, w ∈ wsX3_refuse := by decide +kernel
  have hf29 := hts (.fieldLink RX3 29 "StrikingWork" "errors" "[I") (by decide +kernel)
  refine lv_aload_n hx hb dX3_refuse_0 rfl (lv_at hl 0 rfl) ?_
  refine k_get (v := .ref er) S G 0 rfl rfl hiX3 3 (by decide) hf29 rfl dX3_refuse_1 ?_
  refine lv_iload_n hx hb dX3_refuse_4 rfl (lv_at hl 1 rfl) ?_
  refine k_callS (n := 1) (As := [.int (-3)]) (rest := [.ref er]) (st1 := [.int 1, .ref er]) (ws1 := [(x, .inr (3, [.ref nw, .ref sv, .ref tl, .ref er, .int sc])), (er, .inl (cI, 3, .inl z))]) S G (c_X3_errorIndex l D cI cS (-3)) gX3_refuse_X3_errorIndex rfl (by decide +kernel) ⟨⟨rfl, rfl⟩, Nat.le_of_ble_eq_true rfl, Nat.le_of_ble_eq_true rfl⟩ [] (by decide) rfl [] rfl rfl rfl hl.1 rfl (Nat.le_of_ble_eq_true rfl) ⟨Nat.zero_le _, Nat.zero_le _⟩ dX3_refuse_5 (congrArg (fun z => Value.int z :: [.ref er]) (by decide : (s_X3_errorIndex (-3)) = 1)) rfl (fun H locs G => ?_)
  refine lv_dup2_11 hx hb dX3_refuse_8 rfl rfl ?_
  refine k_iald (x := (z 1)) S G 1 0 rfl rfl (by unfold vp_in; decide) rfl dX3_refuse_9 ?_
  refine lv_iconst (v := 1) hx hb dX3_refuse_10 (by decide) ?_
  refine lv_iadd hx hb dX3_refuse_11 ?_
  refine k_iast (ws1 := [(x, .inr (3, [.ref nw, .ref sv, .ref tl, .ref er, .int sc])), (er, .inl (cI, 3, .inl (upd z 1 ((z 1) + 1))))]) S G 1 0 rfl rfl (by unfold vp_in; decide) dX3_refuse_12 rfl (fun H locs G => ?_)
  refine lv_iload_n hx hb dX3_refuse_13 rfl (lv_at hl 1 rfl) ?_
  exact k_iret S G hr hlk dX3_refuse_14 rfl rfl
set_option maxHeartbeats 4000000 in
set_option maxRecDepth 100000 in
theorem c_X3_refuse_4 (l : Launch) (D : va_G) (cI cS : ClassId) (nw : Nat) (x : Nat) (sv : Nat) (tl : Nat) (er : Nat) (sc : Int32) (z : Nat → Int32) : Ct l yX3_refuse wsX3_refuse ({ frames := 1, cells := 0, slots := 0, locals := 20 }) D (tyL cI cS) [.ref x, .int (-4)] [(x, .inr (3, [.ref nw, .ref sv, .ref tl, .ref er, .int sc])), (er, .inl (cI, 3, .inl z))] (some (.int (-4))) [(x, .inr (3, [.ref nw, .ref sv, .ref tl, .ref er, .int sc])), (er, .inl (cI, 3, .inl (upd z 2 ((z 2) + 1))))] := by
  refine Ct.of (cc := cX3_refuse) (maxL := 2) (ret := (some .int)) (by decide) rfl (Nat.le_of_ble_eq_true rfl) ?_
  intro p ev s m args below meth c A ls S hr hlk G hl
  have hx := S.1
  have hb := S.2.1
  have hown : s.vm.findClass RX3 = some m.cls := S.2.2.2.1
  have hts := S.2.2.2.2
  have hl : lv_has ls 2 [(0, .ref x), (1, .int (-4))] := hl
  have hiX3 : ∀ w ∈ wsX30, w ∈ wsX3_refuse := by decide +kernel
  have hf29 := hts (.fieldLink RX3 29 "StrikingWork" "errors" "[I") (by decide +kernel)
  refine lv_aload_n hx hb dX3_refuse_0 rfl (lv_at hl 0 rfl) ?_
  refine k_get (v := .ref er) S G 0 rfl rfl hiX3 3 (by decide) hf29 rfl dX3_refuse_1 ?_
  refine lv_iload_n hx hb dX3_refuse_4 rfl (lv_at hl 1 rfl) ?_
  refine k_callS (n := 1) (As := [.int (-4)]) (rest := [.ref er]) (st1 := [.int 2, .ref er]) (ws1 := [(x, .inr (3, [.ref nw, .ref sv, .ref tl, .ref er, .int sc])), (er, .inl (cI, 3, .inl z))]) S G (c_X3_errorIndex l D cI cS (-4)) gX3_refuse_X3_errorIndex rfl (by decide +kernel) ⟨⟨rfl, rfl⟩, Nat.le_of_ble_eq_true rfl, Nat.le_of_ble_eq_true rfl⟩ [] (by decide) rfl [] rfl rfl rfl hl.1 rfl (Nat.le_of_ble_eq_true rfl) ⟨Nat.zero_le _, Nat.zero_le _⟩ dX3_refuse_5 (congrArg (fun z => Value.int z :: [.ref er]) (by decide : (s_X3_errorIndex (-4)) = 2)) rfl (fun H locs G => ?_)
  refine lv_dup2_11 hx hb dX3_refuse_8 rfl rfl ?_
  refine k_iald (x := (z 2)) S G 1 0 rfl rfl (by unfold vp_in; decide) rfl dX3_refuse_9 ?_
  refine lv_iconst (v := 1) hx hb dX3_refuse_10 (by decide) ?_
  refine lv_iadd hx hb dX3_refuse_11 ?_
  refine k_iast (ws1 := [(x, .inr (3, [.ref nw, .ref sv, .ref tl, .ref er, .int sc])), (er, .inl (cI, 3, .inl (upd z 2 ((z 2) + 1))))]) S G 1 0 rfl rfl (by unfold vp_in; decide) dX3_refuse_12 rfl (fun H locs G => ?_)
  refine lv_iload_n hx hb dX3_refuse_13 rfl (lv_at hl 1 rfl) ?_
  exact k_iret S G hr hlk dX3_refuse_14 rfl rfl
def s_X3_nextDue (z : Nat → Int32) (r : Nat → Int32) (tn : Int32) : Int32 × (Nat → Int32) := (if tn = 0 then ((s_X2_dueAfter 0 (r 0)), z) else (if tn = 1 then ((s_X2_dueAfter 1 (r 0)), z) else ((-2), (upd z 0 ((z 0) + 1)))))
set_option maxHeartbeats 4000000 in
set_option maxRecDepth 100000 in
theorem c_X3_nextDue (l : Launch) (D : va_G) (cI cS : ClassId) (x : Nat) (sv : Nat) (tl : Nat) (er : Nat) (sc : Int32) (z : Nat → Int32) (a : Nat → Nat) (r : Nat → Int32) (e : Nat → Nat → Int32) (tn : Int32) : Ct l yX3_nextDue wsX3_nextDue ({ frames := 3, cells := 0, slots := 0, locals := 63 }) D (tyL cI cS) [.ref x, .int tn] ((x, .inr (3, [.ref (a 0), .ref sv, .ref tl, .ref er, .int sc])) :: (er, .inl (cI, 3, .inl z)) :: stW cI a r e ([])) (some (.int ((s_X3_nextDue z r tn).1))) ((x, .inr (3, [.ref (a 0), .ref sv, .ref tl, .ref er, .int sc])) :: (er, .inl (cI, 3, .inl ((s_X3_nextDue z r tn).2))) :: stW cI a r e ([])) := by
  refine Ct.of (cc := cX3_nextDue) (maxL := 2) (ret := (some .int)) (by decide) rfl (Nat.le_of_ble_eq_true rfl) ?_
  intro p ev s m args below meth c A ls S hr hlk G hl
  have hx := S.1
  have hb := S.2.1
  have hown : s.vm.findClass RX3 = some m.cls := S.2.2.2.1
  have hts := S.2.2.2.2
  have hl : lv_has ls 2 [(0, .ref x), (1, .int tn)] := hl
  have hiX0 : ∀ w ∈ wsX00, w ∈ wsX3_nextDue := by decide +kernel
  have hiX3 : ∀ w ∈ wsX30, w ∈ wsX3_nextDue := by decide +kernel
  have hf10 := hts (.fieldLink RX3 10 "StrikingWork" "now" "LStrikingWork$State;") (by decide +kernel)
  have hf83 := hts (.fieldLink RX3 83 "StrikingWork$State" "minute" "I") (by decide +kernel)
  by_cases c_1 : tn = 0
  · skip
    have hl : lv_has ls 2 [(0, .ref x), (1, .int 0)] := by rw [← c_1]; exact hl
    refine lv_iload_n hx hb dX3_nextDue_0 rfl (lv_at hl 1 rfl) ?_
    refine k_callS (n := 1) (As := [.int 0]) (rest := []) (st1 := [.int 1]) (ws1 := ((x, .inr (3, [.ref (a 0), .ref sv, .ref tl, .ref er, .int sc])) :: (er, .inl (cI, 3, .inl z)) :: stW cI a r e ([]))) S G (c_X3_isTrain l D cI cS 0) gX3_nextDue_X3_isTrain rfl (by decide +kernel) ⟨⟨rfl, rfl⟩, Nat.le_of_ble_eq_true rfl, Nat.le_of_ble_eq_true rfl⟩ [] (by decide) rfl [] rfl rfl rfl hl.1 rfl (Nat.le_of_ble_eq_true rfl) ⟨Nat.zero_le _, Nat.zero_le _⟩ dX3_nextDue_1 (congrArg (fun z => Value.int z :: []) (by decide : (s_X3_isTrain 0) = 1)) rfl (fun H locs G => ?_)
    refine lv_if_eq (tgt := 28) hx hb dX3_nextDue_4 (by decide) (fun c_2 => absurd c_2 (by decide)) (fun c_2 => ?_)
    refine lv_aload_n hx hb dX3_nextDue_7 rfl (lv_at hl 0 rfl) ?_
    refine k_get (v := .ref (a 0)) S G 0 rfl rfl hiX3 0 (by decide) hf10 rfl dX3_nextDue_8 ?_
    refine lv_iload_n hx hb dX3_nextDue_11 rfl (lv_at hl 1 rfl) ?_
    refine k_callV (n := 1) (As := [.int 0]) (rest := []) (st1 := [.ref (a 1)]) (ws1 := ((x, .inr (3, [.ref (a 0), .ref sv, .ref tl, .ref er, .int sc])) :: (er, .inl (cI, 3, .inl z)) :: stW cI a r e ([]))) S G (c_X0_trainOf_0 l D cI cS a r e) gX3_nextDue_X0_trainOf rfl (by decide +kernel) ⟨⟨rfl, rfl⟩, Nat.le_of_ble_eq_true rfl, Nat.le_of_ble_eq_true rfl⟩ [2, 3, 4, 5, 6, 7, 8] (by decide) rfl [(a 0), (a 1), (a 2), (a 3), (a 4), (a 5), (a 6)] rfl rfl 2 rfl rfl rfl hl.1 rfl (Nat.le_of_ble_eq_true rfl) ⟨Nat.zero_le _, Nat.zero_le _⟩ dX3_nextDue_12 rfl rfl (fun H locs G => ?_)
    refine lv_aload_n hx hb dX3_nextDue_15 rfl (lv_at hl 0 rfl) ?_
    refine k_get (v := .ref (a 0)) S G 0 rfl rfl hiX3 0 (by decide) hf10 rfl dX3_nextDue_16 ?_
    refine k_get (v := .int (r 0)) S G 2 rfl rfl hiX0 3 (by decide) hf83 rfl dX3_nextDue_19 ?_
    refine k_callV (n := 1) (As := [.int (r 0)]) (rest := []) (st1 := [.int (s_X2_dueAfter 0 (r 0))]) (ws1 := ((x, .inr (3, [.ref (a 0), .ref sv, .ref tl, .ref er, .int sc])) :: (er, .inl (cI, 3, .inl z)) :: stW cI a r e ([]))) S G (c_X2_dueAfter l D cI cS (a 1) 0 (r 4) (r 5) (r 6) (r 7) (r 8) (r 0)) gX3_nextDue_X2_dueAfter rfl (by decide +kernel) ⟨⟨rfl, rfl⟩, Nat.le_of_ble_eq_true rfl, Nat.le_of_ble_eq_true rfl⟩ [3] (by decide) rfl [(a 1)] rfl rfl 3 rfl rfl rfl hl.1 rfl (Nat.le_of_ble_eq_true rfl) ⟨Nat.zero_le _, Nat.zero_le _⟩ dX3_nextDue_22 rfl rfl (fun H locs G => ?_)
    refine lv_goto (tgt := 34) hx hb dX3_nextDue_25 (by decide) ?_
    have es : (s_X3_nextDue z r tn) = ((s_X2_dueAfter 0 (r 0)), z) := by rw [s_X3_nextDue, if_pos c_1]
    exact k_iret S G hr hlk dX3_nextDue_34 (by first | (rw [es]; done) | (rw [es]; rfl) | (simp only [es]; done) | (simp only [es]; rfl)) (by first | (rw [es]; done) | (rw [es]; rfl) | (simp only [es]; done) | (simp only [es]; rfl))
  · skip
    by_cases c_3 : tn = 1
    · skip
      have hl : lv_has ls 2 [(0, .ref x), (1, .int 1)] := by rw [← c_3]; exact hl
      refine lv_iload_n hx hb dX3_nextDue_0 rfl (lv_at hl 1 rfl) ?_
      refine k_callS (n := 1) (As := [.int 1]) (rest := []) (st1 := [.int 1]) (ws1 := ((x, .inr (3, [.ref (a 0), .ref sv, .ref tl, .ref er, .int sc])) :: (er, .inl (cI, 3, .inl z)) :: stW cI a r e ([]))) S G (c_X3_isTrain l D cI cS 1) gX3_nextDue_X3_isTrain rfl (by decide +kernel) ⟨⟨rfl, rfl⟩, Nat.le_of_ble_eq_true rfl, Nat.le_of_ble_eq_true rfl⟩ [] (by decide) rfl [] rfl rfl rfl hl.1 rfl (Nat.le_of_ble_eq_true rfl) ⟨Nat.zero_le _, Nat.zero_le _⟩ dX3_nextDue_1 (congrArg (fun z => Value.int z :: []) (by decide : (s_X3_isTrain 1) = 1)) rfl (fun H locs G => ?_)
      refine lv_if_eq (tgt := 28) hx hb dX3_nextDue_4 (by decide) (fun c_4 => absurd c_4 (by decide)) (fun c_4 => ?_)
      refine lv_aload_n hx hb dX3_nextDue_7 rfl (lv_at hl 0 rfl) ?_
      refine k_get (v := .ref (a 0)) S G 0 rfl rfl hiX3 0 (by decide) hf10 rfl dX3_nextDue_8 ?_
      refine lv_iload_n hx hb dX3_nextDue_11 rfl (lv_at hl 1 rfl) ?_
      refine k_callV (n := 1) (As := [.int 1]) (rest := []) (st1 := [.ref (a 2)]) (ws1 := ((x, .inr (3, [.ref (a 0), .ref sv, .ref tl, .ref er, .int sc])) :: (er, .inl (cI, 3, .inl z)) :: stW cI a r e ([]))) S G (c_X0_trainOf_1 l D cI cS a r e) gX3_nextDue_X0_trainOf rfl (by decide +kernel) ⟨⟨rfl, rfl⟩, Nat.le_of_ble_eq_true rfl, Nat.le_of_ble_eq_true rfl⟩ [2, 3, 4, 5, 6, 7, 8] (by decide) rfl [(a 0), (a 1), (a 2), (a 3), (a 4), (a 5), (a 6)] rfl rfl 2 rfl rfl rfl hl.1 rfl (Nat.le_of_ble_eq_true rfl) ⟨Nat.zero_le _, Nat.zero_le _⟩ dX3_nextDue_12 rfl rfl (fun H locs G => ?_)
      refine lv_aload_n hx hb dX3_nextDue_15 rfl (lv_at hl 0 rfl) ?_
      refine k_get (v := .ref (a 0)) S G 0 rfl rfl hiX3 0 (by decide) hf10 rfl dX3_nextDue_16 ?_
      refine k_get (v := .int (r 0)) S G 2 rfl rfl hiX0 3 (by decide) hf83 rfl dX3_nextDue_19 ?_
      refine k_callV (n := 1) (As := [.int (r 0)]) (rest := []) (st1 := [.int (s_X2_dueAfter 1 (r 0))]) (ws1 := ((x, .inr (3, [.ref (a 0), .ref sv, .ref tl, .ref er, .int sc])) :: (er, .inl (cI, 3, .inl z)) :: stW cI a r e ([]))) S G (c_X2_dueAfter l D cI cS (a 2) 1 (r 9) (r 10) (r 11) (r 12) (r 13) (r 0)) gX3_nextDue_X2_dueAfter rfl (by decide +kernel) ⟨⟨rfl, rfl⟩, Nat.le_of_ble_eq_true rfl, Nat.le_of_ble_eq_true rfl⟩ [4] (by decide) rfl [(a 2)] rfl rfl 4 rfl rfl rfl hl.1 rfl (Nat.le_of_ble_eq_true rfl) ⟨Nat.zero_le _, Nat.zero_le _⟩ dX3_nextDue_22 rfl rfl (fun H locs G => ?_)
      refine lv_goto (tgt := 34) hx hb dX3_nextDue_25 (by decide) ?_
      have es : (s_X3_nextDue z r tn) = ((s_X2_dueAfter 1 (r 0)), z) := by rw [s_X3_nextDue, if_neg c_1, if_pos c_3]
      exact k_iret S G hr hlk dX3_nextDue_34 (by first | (rw [es]; done) | (rw [es]; rfl) | (simp only [es]; done) | (simp only [es]; rfl)) (by first | (rw [es]; done) | (rw [es]; rfl) | (simp only [es]; done) | (simp only [es]; rfl))
    · skip
      refine lv_iload_n hx hb dX3_nextDue_0 rfl (lv_at hl 1 rfl) ?_
      refine k_callS (n := 1) (As := [.int tn]) (rest := []) (st1 := [.int 0]) (ws1 := ((x, .inr (3, [.ref (a 0), .ref sv, .ref tl, .ref er, .int sc])) :: (er, .inl (cI, 3, .inl z)) :: stW cI a r e ([]))) S G (c_X3_isTrain l D cI cS tn) gX3_nextDue_X3_isTrain rfl (by decide +kernel) ⟨⟨rfl, rfl⟩, Nat.le_of_ble_eq_true rfl, Nat.le_of_ble_eq_true rfl⟩ [] (by decide) rfl [] rfl rfl rfl hl.1 rfl (Nat.le_of_ble_eq_true rfl) ⟨Nat.zero_le _, Nat.zero_le _⟩ dX3_nextDue_1 (congrArg (fun z => Value.int z :: []) (by rw [s_X3_isTrain, if_neg c_1, if_neg c_3])) rfl (fun H locs G => ?_)
      refine lv_if_eq (tgt := 28) hx hb dX3_nextDue_4 (by decide) (fun c_5 => ?_) (fun c_5 => absurd c_5 (by decide))
      refine lv_aload_n hx hb dX3_nextDue_28 rfl (lv_at hl 0 rfl) ?_
      refine lv_bipush (v := (-2)) hx hb dX3_nextDue_29 (by decide) ?_
      refine k_callV (n := 1) (As := [.int (-2)]) (rest := []) (st1 := [.int (-2)]) (ws1 := ((x, .inr (3, [.ref (a 0), .ref sv, .ref tl, .ref er, .int sc])) :: (er, .inl (cI, 3, .inl (upd z 0 ((z 0) + 1)))) :: stW cI a r e ([]))) S G (c_X3_refuse_2 l D cI cS (a 0) x sv tl er sc z) gX3_nextDue_X3_refuse rfl (by decide +kernel) ⟨⟨rfl, rfl⟩, Nat.le_of_ble_eq_true rfl, Nat.le_of_ble_eq_true rfl⟩ [0, 1] (by decide) rfl [x, er] rfl rfl 0 rfl rfl rfl hl.1 rfl (Nat.le_of_ble_eq_true rfl) ⟨Nat.zero_le _, Nat.zero_le _⟩ dX3_nextDue_31 rfl rfl (fun H locs G => ?_)
      have es : (s_X3_nextDue z r tn) = ((-2), (upd z 0 ((z 0) + 1))) := by rw [s_X3_nextDue, if_neg c_1, if_neg c_3]
      exact k_iret S G hr hlk dX3_nextDue_34 (by first | (rw [es]; done) | (rw [es]; rfl) | (simp only [es]; done) | (simp only [es]; rfl)) (by first | (rw [es]; done) | (rw [es]; rfl) | (simp only [es]; done) | (simp only [es]; rfl))
def s_X3_lag (z : Nat → Int32) (r : Nat → Int32) (tn : Int32) : Int32 × (Nat → Int32) := (if tn = 0 then ((s_X2_lagAt 0 (r 4) (r 5) (r 0)), z) else (if tn = 1 then ((s_X2_lagAt 1 (r 9) (r 10) (r 0)), z) else ((-2), (upd z 0 ((z 0) + 1)))))
set_option maxHeartbeats 4000000 in
set_option maxRecDepth 100000 in
theorem c_X3_lag (l : Launch) (D : va_G) (cI cS : ClassId) (x : Nat) (sv : Nat) (tl : Nat) (er : Nat) (sc : Int32) (z : Nat → Int32) (a : Nat → Nat) (r : Nat → Int32) (e : Nat → Nat → Int32) (tn : Int32) : Ct l yX3_lag wsX3_lag ({ frames := 4, cells := 0, slots := 0, locals := 85 }) D (tyL cI cS) [.ref x, .int tn] ((x, .inr (3, [.ref (a 0), .ref sv, .ref tl, .ref er, .int sc])) :: (er, .inl (cI, 3, .inl z)) :: stW cI a r e ([])) (some (.int ((s_X3_lag z r tn).1))) ((x, .inr (3, [.ref (a 0), .ref sv, .ref tl, .ref er, .int sc])) :: (er, .inl (cI, 3, .inl ((s_X3_lag z r tn).2))) :: stW cI a r e ([])) := by
  refine Ct.of (cc := cX3_lag) (maxL := 2) (ret := (some .int)) (by decide) rfl (Nat.le_of_ble_eq_true rfl) ?_
  intro p ev s m args below meth c A ls S hr hlk G hl
  have hx := S.1
  have hb := S.2.1
  have hown : s.vm.findClass RX3 = some m.cls := S.2.2.2.1
  have hts := S.2.2.2.2
  have hl : lv_has ls 2 [(0, .ref x), (1, .int tn)] := hl
  have hiX0 : ∀ w ∈ wsX00, w ∈ wsX3_lag := by decide +kernel
  have hiX3 : ∀ w ∈ wsX30, w ∈ wsX3_lag := by decide +kernel
  have hf10 := hts (.fieldLink RX3 10 "StrikingWork" "now" "LStrikingWork$State;") (by decide +kernel)
  have hf83 := hts (.fieldLink RX3 83 "StrikingWork$State" "minute" "I") (by decide +kernel)
  by_cases c_1 : tn = 0
  · skip
    have hl : lv_has ls 2 [(0, .ref x), (1, .int 0)] := by rw [← c_1]; exact hl
    refine lv_iload_n hx hb dX3_lag_0 rfl (lv_at hl 1 rfl) ?_
    refine k_callS (n := 1) (As := [.int 0]) (rest := []) (st1 := [.int 1]) (ws1 := ((x, .inr (3, [.ref (a 0), .ref sv, .ref tl, .ref er, .int sc])) :: (er, .inl (cI, 3, .inl z)) :: stW cI a r e ([]))) S G (c_X3_isTrain l D cI cS 0) gX3_lag_X3_isTrain rfl (by decide +kernel) ⟨⟨rfl, rfl⟩, Nat.le_of_ble_eq_true rfl, Nat.le_of_ble_eq_true rfl⟩ [] (by decide) rfl [] rfl rfl rfl hl.1 rfl (Nat.le_of_ble_eq_true rfl) ⟨Nat.zero_le _, Nat.zero_le _⟩ dX3_lag_1 (congrArg (fun z => Value.int z :: []) (by decide : (s_X3_isTrain 0) = 1)) rfl (fun H locs G => ?_)
    refine lv_if_eq (tgt := 28) hx hb dX3_lag_4 (by decide) (fun c_2 => absurd c_2 (by decide)) (fun c_2 => ?_)
    refine lv_aload_n hx hb dX3_lag_7 rfl (lv_at hl 0 rfl) ?_
    refine k_get (v := .ref (a 0)) S G 0 rfl rfl hiX3 0 (by decide) hf10 rfl dX3_lag_8 ?_
    refine lv_iload_n hx hb dX3_lag_11 rfl (lv_at hl 1 rfl) ?_
    refine k_callV (n := 1) (As := [.int 0]) (rest := []) (st1 := [.ref (a 1)]) (ws1 := ((x, .inr (3, [.ref (a 0), .ref sv, .ref tl, .ref er, .int sc])) :: (er, .inl (cI, 3, .inl z)) :: stW cI a r e ([]))) S G (c_X0_trainOf_0 l D cI cS a r e) gX3_lag_X0_trainOf rfl (by decide +kernel) ⟨⟨rfl, rfl⟩, Nat.le_of_ble_eq_true rfl, Nat.le_of_ble_eq_true rfl⟩ [2, 3, 4, 5, 6, 7, 8] (by decide) rfl [(a 0), (a 1), (a 2), (a 3), (a 4), (a 5), (a 6)] rfl rfl 2 rfl rfl rfl hl.1 rfl (Nat.le_of_ble_eq_true rfl) ⟨Nat.zero_le _, Nat.zero_le _⟩ dX3_lag_12 rfl rfl (fun H locs G => ?_)
    refine lv_aload_n hx hb dX3_lag_15 rfl (lv_at hl 0 rfl) ?_
    refine k_get (v := .ref (a 0)) S G 0 rfl rfl hiX3 0 (by decide) hf10 rfl dX3_lag_16 ?_
    refine k_get (v := .int (r 0)) S G 2 rfl rfl hiX0 3 (by decide) hf83 rfl dX3_lag_19 ?_
    refine k_callV (n := 1) (As := [.int (r 0)]) (rest := []) (st1 := [.int (s_X2_lagAt 0 (r 4) (r 5) (r 0))]) (ws1 := ((x, .inr (3, [.ref (a 0), .ref sv, .ref tl, .ref er, .int sc])) :: (er, .inl (cI, 3, .inl z)) :: stW cI a r e ([]))) S G (c_X2_lagAt l D cI cS (a 1) 0 (r 4) (r 5) (r 6) (r 7) (r 8) (r 0)) gX3_lag_X2_lagAt rfl (by decide +kernel) ⟨⟨rfl, rfl⟩, Nat.le_of_ble_eq_true rfl, Nat.le_of_ble_eq_true rfl⟩ [3] (by decide) rfl [(a 1)] rfl rfl 3 rfl rfl rfl hl.1 rfl (Nat.le_of_ble_eq_true rfl) ⟨Nat.zero_le _, Nat.zero_le _⟩ dX3_lag_22 rfl rfl (fun H locs G => ?_)
    refine lv_goto (tgt := 34) hx hb dX3_lag_25 (by decide) ?_
    have es : (s_X3_lag z r tn) = ((s_X2_lagAt 0 (r 4) (r 5) (r 0)), z) := by rw [s_X3_lag, if_pos c_1]
    exact k_iret S G hr hlk dX3_lag_34 (by first | (rw [es]; done) | (rw [es]; rfl) | (simp only [es]; done) | (simp only [es]; rfl)) (by first | (rw [es]; done) | (rw [es]; rfl) | (simp only [es]; done) | (simp only [es]; rfl))
  · skip
    by_cases c_3 : tn = 1
    · skip
      have hl : lv_has ls 2 [(0, .ref x), (1, .int 1)] := by rw [← c_3]; exact hl
      refine lv_iload_n hx hb dX3_lag_0 rfl (lv_at hl 1 rfl) ?_
      refine k_callS (n := 1) (As := [.int 1]) (rest := []) (st1 := [.int 1]) (ws1 := ((x, .inr (3, [.ref (a 0), .ref sv, .ref tl, .ref er, .int sc])) :: (er, .inl (cI, 3, .inl z)) :: stW cI a r e ([]))) S G (c_X3_isTrain l D cI cS 1) gX3_lag_X3_isTrain rfl (by decide +kernel) ⟨⟨rfl, rfl⟩, Nat.le_of_ble_eq_true rfl, Nat.le_of_ble_eq_true rfl⟩ [] (by decide) rfl [] rfl rfl rfl hl.1 rfl (Nat.le_of_ble_eq_true rfl) ⟨Nat.zero_le _, Nat.zero_le _⟩ dX3_lag_1 (congrArg (fun z => Value.int z :: []) (by decide : (s_X3_isTrain 1) = 1)) rfl (fun H locs G => ?_)
      refine lv_if_eq (tgt := 28) hx hb dX3_lag_4 (by decide) (fun c_4 => absurd c_4 (by decide)) (fun c_4 => ?_)
      refine lv_aload_n hx hb dX3_lag_7 rfl (lv_at hl 0 rfl) ?_
      refine k_get (v := .ref (a 0)) S G 0 rfl rfl hiX3 0 (by decide) hf10 rfl dX3_lag_8 ?_
      refine lv_iload_n hx hb dX3_lag_11 rfl (lv_at hl 1 rfl) ?_
      refine k_callV (n := 1) (As := [.int 1]) (rest := []) (st1 := [.ref (a 2)]) (ws1 := ((x, .inr (3, [.ref (a 0), .ref sv, .ref tl, .ref er, .int sc])) :: (er, .inl (cI, 3, .inl z)) :: stW cI a r e ([]))) S G (c_X0_trainOf_1 l D cI cS a r e) gX3_lag_X0_trainOf rfl (by decide +kernel) ⟨⟨rfl, rfl⟩, Nat.le_of_ble_eq_true rfl, Nat.le_of_ble_eq_true rfl⟩ [2, 3, 4, 5, 6, 7, 8] (by decide) rfl [(a 0), (a 1), (a 2), (a 3), (a 4), (a 5), (a 6)] rfl rfl 2 rfl rfl rfl hl.1 rfl (Nat.le_of_ble_eq_true rfl) ⟨Nat.zero_le _, Nat.zero_le _⟩ dX3_lag_12 rfl rfl (fun H locs G => ?_)
      refine lv_aload_n hx hb dX3_lag_15 rfl (lv_at hl 0 rfl) ?_
      refine k_get (v := .ref (a 0)) S G 0 rfl rfl hiX3 0 (by decide) hf10 rfl dX3_lag_16 ?_
      refine k_get (v := .int (r 0)) S G 2 rfl rfl hiX0 3 (by decide) hf83 rfl dX3_lag_19 ?_
      refine k_callV (n := 1) (As := [.int (r 0)]) (rest := []) (st1 := [.int (s_X2_lagAt 1 (r 9) (r 10) (r 0))]) (ws1 := ((x, .inr (3, [.ref (a 0), .ref sv, .ref tl, .ref er, .int sc])) :: (er, .inl (cI, 3, .inl z)) :: stW cI a r e ([]))) S G (c_X2_lagAt l D cI cS (a 2) 1 (r 9) (r 10) (r 11) (r 12) (r 13) (r 0)) gX3_lag_X2_lagAt rfl (by decide +kernel) ⟨⟨rfl, rfl⟩, Nat.le_of_ble_eq_true rfl, Nat.le_of_ble_eq_true rfl⟩ [4] (by decide) rfl [(a 2)] rfl rfl 4 rfl rfl rfl hl.1 rfl (Nat.le_of_ble_eq_true rfl) ⟨Nat.zero_le _, Nat.zero_le _⟩ dX3_lag_22 rfl rfl (fun H locs G => ?_)
      refine lv_goto (tgt := 34) hx hb dX3_lag_25 (by decide) ?_
      have es : (s_X3_lag z r tn) = ((s_X2_lagAt 1 (r 9) (r 10) (r 0)), z) := by rw [s_X3_lag, if_neg c_1, if_pos c_3]
      exact k_iret S G hr hlk dX3_lag_34 (by first | (rw [es]; done) | (rw [es]; rfl) | (simp only [es]; done) | (simp only [es]; rfl)) (by first | (rw [es]; done) | (rw [es]; rfl) | (simp only [es]; done) | (simp only [es]; rfl))
    · skip
      refine lv_iload_n hx hb dX3_lag_0 rfl (lv_at hl 1 rfl) ?_
      refine k_callS (n := 1) (As := [.int tn]) (rest := []) (st1 := [.int 0]) (ws1 := ((x, .inr (3, [.ref (a 0), .ref sv, .ref tl, .ref er, .int sc])) :: (er, .inl (cI, 3, .inl z)) :: stW cI a r e ([]))) S G (c_X3_isTrain l D cI cS tn) gX3_lag_X3_isTrain rfl (by decide +kernel) ⟨⟨rfl, rfl⟩, Nat.le_of_ble_eq_true rfl, Nat.le_of_ble_eq_true rfl⟩ [] (by decide) rfl [] rfl rfl rfl hl.1 rfl (Nat.le_of_ble_eq_true rfl) ⟨Nat.zero_le _, Nat.zero_le _⟩ dX3_lag_1 (congrArg (fun z => Value.int z :: []) (by rw [s_X3_isTrain, if_neg c_1, if_neg c_3])) rfl (fun H locs G => ?_)
      refine lv_if_eq (tgt := 28) hx hb dX3_lag_4 (by decide) (fun c_5 => ?_) (fun c_5 => absurd c_5 (by decide))
      refine lv_aload_n hx hb dX3_lag_28 rfl (lv_at hl 0 rfl) ?_
      refine lv_bipush (v := (-2)) hx hb dX3_lag_29 (by decide) ?_
      refine k_callV (n := 1) (As := [.int (-2)]) (rest := []) (st1 := [.int (-2)]) (ws1 := ((x, .inr (3, [.ref (a 0), .ref sv, .ref tl, .ref er, .int sc])) :: (er, .inl (cI, 3, .inl (upd z 0 ((z 0) + 1)))) :: stW cI a r e ([]))) S G (c_X3_refuse_2 l D cI cS (a 0) x sv tl er sc z) gX3_lag_X3_refuse rfl (by decide +kernel) ⟨⟨rfl, rfl⟩, Nat.le_of_ble_eq_true rfl, Nat.le_of_ble_eq_true rfl⟩ [0, 1] (by decide) rfl [x, er] rfl rfl 0 rfl rfl rfl hl.1 rfl (Nat.le_of_ble_eq_true rfl) ⟨Nat.zero_le _, Nat.zero_le _⟩ dX3_lag_31 rfl rfl (fun H locs G => ?_)
      have es : (s_X3_lag z r tn) = ((-2), (upd z 0 ((z 0) + 1))) := by rw [s_X3_lag, if_neg c_1, if_neg c_3]
      exact k_iret S G hr hlk dX3_lag_34 (by first | (rw [es]; done) | (rw [es]; rfl) | (simp only [es]; done) | (simp only [es]; rfl)) (by first | (rw [es]; done) | (rw [es]; rfl) | (simp only [es]; done) | (simp only [es]; rfl))
def s_X3_handsToCorrect (z : Nat → Int32) (r : Nat → Int32) (tn : Int32) : Int32 × (Nat → Int32) := (if tn = 0 then (if (s_X2_lagAt 0 (r 4) (r 5) (r 0)) = 0 then ((r 0), z) else ((irem ((s_X2_lastReleaseUpTo 0 (r 0)) + (((s_X2_lastPosition 0) - (s_X2_lagAt 0 (r 4) (r 5) (r 0))) * (s_X2_period 0))) 1440), z)) else (if tn = 1 then (if (s_X2_lagAt 1 (r 9) (r 10) (r 0)) = 0 then ((r 0), z) else ((irem ((s_X2_lastReleaseUpTo 1 (r 0)) + (((s_X2_lastPosition 1) - (s_X2_lagAt 1 (r 9) (r 10) (r 0))) * (s_X2_period 1))) 1440), z)) else ((-2), (upd z 0 ((z 0) + 1)))))
set_option maxHeartbeats 4000000 in
set_option maxRecDepth 100000 in
theorem c_X3_handsToCorrect (l : Launch) (D : va_G) (cI cS : ClassId) (x : Nat) (sv : Nat) (tl : Nat) (er : Nat) (sc : Int32) (z : Nat → Int32) (a : Nat → Nat) (r : Nat → Int32) (e : Nat → Nat → Int32) (tn : Int32) : Ct l yX3_handsToCorrect wsX3_handsToCorrect ({ frames := 4, cells := 0, slots := 0, locals := 85 }) D (tyL cI cS) [.ref x, .int tn] ((x, .inr (3, [.ref (a 0), .ref sv, .ref tl, .ref er, .int sc])) :: (er, .inl (cI, 3, .inl z)) :: stW cI a r e ([])) (some (.int ((s_X3_handsToCorrect z r tn).1))) ((x, .inr (3, [.ref (a 0), .ref sv, .ref tl, .ref er, .int sc])) :: (er, .inl (cI, 3, .inl ((s_X3_handsToCorrect z r tn).2))) :: stW cI a r e ([])) := by
  refine Ct.of (cc := cX3_handsToCorrect) (maxL := 5) (ret := (some .int)) (by decide) rfl (Nat.le_of_ble_eq_true rfl) ?_
  intro p ev s m args below meth c A ls S hr hlk G hl
  have hx := S.1
  have hb := S.2.1
  have hown : s.vm.findClass RX3 = some m.cls := S.2.2.2.1
  have hts := S.2.2.2.2
  have hl : lv_has ls 5 [(0, .ref x), (1, .int tn)] := hl
  have hiX0 : ∀ w ∈ wsX00, w ∈ wsX3_handsToCorrect := by decide +kernel
  have hiX3 : ∀ w ∈ wsX30, w ∈ wsX3_handsToCorrect := by decide +kernel
  have hf10 := hts (.fieldLink RX3 10 "StrikingWork" "now" "LStrikingWork$State;") (by decide +kernel)
  have hf83 := hts (.fieldLink RX3 83 "StrikingWork$State" "minute" "I") (by decide +kernel)
  by_cases c_1 : tn = 0
  · skip
    have hl : lv_has ls 5 [(0, .ref x), (1, .int 0)] := by rw [← c_1]; exact hl
    refine lv_iload_n hx hb dX3_handsToCorrect_0 rfl (lv_at hl 1 rfl) ?_
    refine k_callS (n := 1) (As := [.int 0]) (rest := []) (st1 := [.int 1]) (ws1 := ((x, .inr (3, [.ref (a 0), .ref sv, .ref tl, .ref er, .int sc])) :: (er, .inl (cI, 3, .inl z)) :: stW cI a r e ([]))) S G (c_X3_isTrain l D cI cS 0) gX3_handsToCorrect_X3_isTrain rfl (by decide +kernel) ⟨⟨rfl, rfl⟩, Nat.le_of_ble_eq_true rfl, Nat.le_of_ble_eq_true rfl⟩ [] (by decide) rfl [] rfl rfl rfl hl.1 rfl (Nat.le_of_ble_eq_true rfl) ⟨Nat.zero_le _, Nat.zero_le _⟩ dX3_handsToCorrect_1 (congrArg (fun z => Value.int z :: []) (by decide : (s_X3_isTrain 0) = 1)) rfl (fun H locs G => ?_)
    refine lv_if_ne (tgt := 14) hx hb dX3_handsToCorrect_4 (by decide) (fun c_2 => ?_) (fun c_2 => absurd c_2 (by decide))
    refine lv_aload_n hx hb dX3_handsToCorrect_14 rfl (lv_at hl 0 rfl) ?_
    refine k_get (v := .ref (a 0)) S G 0 rfl rfl hiX3 0 (by decide) hf10 rfl dX3_handsToCorrect_15 ?_
    refine lv_iload_n hx hb dX3_handsToCorrect_18 rfl (lv_at hl 1 rfl) ?_
    refine k_callV (n := 1) (As := [.int 0]) (rest := []) (st1 := [.ref (a 1)]) (ws1 := ((x, .inr (3, [.ref (a 0), .ref sv, .ref tl, .ref er, .int sc])) :: (er, .inl (cI, 3, .inl z)) :: stW cI a r e ([]))) S G (c_X0_trainOf_0 l D cI cS a r e) gX3_handsToCorrect_X0_trainOf rfl (by decide +kernel) ⟨⟨rfl, rfl⟩, Nat.le_of_ble_eq_true rfl, Nat.le_of_ble_eq_true rfl⟩ [2, 3, 4, 5, 6, 7, 8] (by decide) rfl [(a 0), (a 1), (a 2), (a 3), (a 4), (a 5), (a 6)] rfl rfl 2 rfl rfl rfl hl.1 rfl (Nat.le_of_ble_eq_true rfl) ⟨Nat.zero_le _, Nat.zero_le _⟩ dX3_handsToCorrect_19 rfl rfl (fun H locs G => ?_)
    refine lv_astore_n (lv' := [(2, .ref (a 1)), (0, .ref x), (1, .int 0)]) hx hb dX3_handsToCorrect_22 rfl hl (by decide) rfl (fun ls hl => ?_)
    refine lv_aload_n hx hb dX3_handsToCorrect_23 rfl (lv_at hl 0 rfl) ?_
    refine lv_aload_n hx hb dX3_handsToCorrect_24 rfl (lv_at hl 1 rfl) ?_
    refine k_get (v := .ref (a 0)) S G 0 rfl rfl hiX3 0 (by decide) hf10 rfl dX3_handsToCorrect_25 ?_
    refine k_get (v := .int (r 0)) S G 2 rfl rfl hiX0 3 (by decide) hf83 rfl dX3_handsToCorrect_28 ?_
    refine k_callV (n := 1) (As := [.int (r 0)]) (rest := []) (st1 := [.int (s_X2_lagAt 0 (r 4) (r 5) (r 0))]) (ws1 := ((x, .inr (3, [.ref (a 0), .ref sv, .ref tl, .ref er, .int sc])) :: (er, .inl (cI, 3, .inl z)) :: stW cI a r e ([]))) S G (c_X2_lagAt l D cI cS (a 1) 0 (r 4) (r 5) (r 6) (r 7) (r 8) (r 0)) gX3_handsToCorrect_X2_lagAt rfl (by decide +kernel) ⟨⟨rfl, rfl⟩, Nat.le_of_ble_eq_true rfl, Nat.le_of_ble_eq_true rfl⟩ [3] (by decide) rfl [(a 1)] rfl rfl 3 rfl rfl rfl hl.1 rfl (Nat.le_of_ble_eq_true rfl) ⟨Nat.zero_le _, Nat.zero_le _⟩ dX3_handsToCorrect_31 rfl rfl (fun H locs G => ?_)
    refine lv_istore_n (lv' := [(3, .int (s_X2_lagAt 0 (r 4) (r 5) (r 0))), (2, .ref (a 1)), (0, .ref x), (1, .int 0)]) hx hb dX3_handsToCorrect_34 rfl hl (by decide) rfl (fun ls hl => ?_)
    refine lv_iload_n hx hb dX3_handsToCorrect_35 rfl (lv_at hl 0 rfl) ?_
    refine lv_if_ne (tgt := 47) hx hb dX3_handsToCorrect_36 (by decide) (fun c_3 => ?_) (fun c_3 => ?_)
    · skip
      refine lv_aload_n hx hb dX3_handsToCorrect_47 rfl (lv_at hl 1 rfl) ?_
      refine k_callV (n := 0) (As := []) (rest := []) (st1 := [.int (s_X2_lastPosition 0)]) (ws1 := ((x, .inr (3, [.ref (a 0), .ref sv, .ref tl, .ref er, .int sc])) :: (er, .inl (cI, 3, .inl z)) :: stW cI a r e ([]))) S G (c_X2_lastPosition l D cI cS (a 1) 0 (r 4) (r 5) (r 6) (r 7) (r 8)) gX3_handsToCorrect_X2_lastPosition rfl (by decide +kernel) ⟨⟨rfl, rfl⟩, Nat.le_of_ble_eq_true rfl, Nat.le_of_ble_eq_true rfl⟩ [3] (by decide) rfl [(a 1)] rfl rfl 3 rfl rfl rfl hl.1 rfl (Nat.le_of_ble_eq_true rfl) ⟨Nat.zero_le _, Nat.zero_le _⟩ dX3_handsToCorrect_48 rfl rfl (fun H locs G => ?_)
      refine lv_iload_n hx hb dX3_handsToCorrect_51 rfl (lv_at hl 0 rfl) ?_
      refine lv_isub hx hb dX3_handsToCorrect_52 ?_
      refine lv_istore (lv' := [(4, .int ((s_X2_lastPosition 0) - (s_X2_lagAt 0 (r 4) (r 5) (r 0)))), (3, .int (s_X2_lagAt 0 (r 4) (r 5) (r 0))), (2, .ref (a 1)), (0, .ref x), (1, .int 0)]) hx hb dX3_handsToCorrect_53 hl (by decide) rfl (fun ls hl => ?_)
      refine lv_aload_n hx hb dX3_handsToCorrect_55 rfl (lv_at hl 2 rfl) ?_
      refine lv_aload_n hx hb dX3_handsToCorrect_56 rfl (lv_at hl 3 rfl) ?_
      refine k_get (v := .ref (a 0)) S G 0 rfl rfl hiX3 0 (by decide) hf10 rfl dX3_handsToCorrect_57 ?_
      refine k_get (v := .int (r 0)) S G 2 rfl rfl hiX0 3 (by decide) hf83 rfl dX3_handsToCorrect_60 ?_
      refine k_callV (n := 1) (As := [.int (r 0)]) (rest := []) (st1 := [.int (s_X2_lastReleaseUpTo 0 (r 0))]) (ws1 := ((x, .inr (3, [.ref (a 0), .ref sv, .ref tl, .ref er, .int sc])) :: (er, .inl (cI, 3, .inl z)) :: stW cI a r e ([]))) S G (c_X2_lastReleaseUpTo l D cI cS (a 1) 0 (r 4) (r 5) (r 6) (r 7) (r 8) (r 0)) gX3_handsToCorrect_X2_lastReleaseUpTo rfl (by decide +kernel) ⟨⟨rfl, rfl⟩, Nat.le_of_ble_eq_true rfl, Nat.le_of_ble_eq_true rfl⟩ [3] (by decide) rfl [(a 1)] rfl rfl 3 rfl rfl rfl hl.1 rfl (Nat.le_of_ble_eq_true rfl) ⟨Nat.zero_le _, Nat.zero_le _⟩ dX3_handsToCorrect_63 rfl rfl (fun H locs G => ?_)
      refine lv_iload hx hb dX3_handsToCorrect_66 (lv_at hl 0 rfl) ?_
      refine lv_aload_n hx hb dX3_handsToCorrect_68 rfl (lv_at hl 2 rfl) ?_
      refine k_callV (n := 0) (As := []) (rest := [.int ((s_X2_lastPosition 0) - (s_X2_lagAt 0 (r 4) (r 5) (r 0))), .int (s_X2_lastReleaseUpTo 0 (r 0))]) (st1 := [.int (s_X2_period 0), .int ((s_X2_lastPosition 0) - (s_X2_lagAt 0 (r 4) (r 5) (r 0))), .int (s_X2_lastReleaseUpTo 0 (r 0))]) (ws1 := ((x, .inr (3, [.ref (a 0), .ref sv, .ref tl, .ref er, .int sc])) :: (er, .inl (cI, 3, .inl z)) :: stW cI a r e ([]))) S G (c_X2_period l D cI cS (a 1) 0 (r 4) (r 5) (r 6) (r 7) (r 8)) gX3_handsToCorrect_X2_period rfl (by decide +kernel) ⟨⟨rfl, rfl⟩, Nat.le_of_ble_eq_true rfl, Nat.le_of_ble_eq_true rfl⟩ [3] (by decide) rfl [(a 1)] rfl rfl 3 rfl rfl rfl hl.1 rfl (Nat.le_of_ble_eq_true rfl) ⟨Nat.zero_le _, Nat.zero_le _⟩ dX3_handsToCorrect_69 rfl rfl (fun H locs G => ?_)
      refine lv_imul hx hb dX3_handsToCorrect_72 ?_
      refine lv_iadd hx hb dX3_handsToCorrect_73 ?_
      refine lv_sipush (v := 1440) hx hb dX3_handsToCorrect_74 (by decide) ?_
      refine lv_irem hx hb dX3_handsToCorrect_77 (by decide) ?_
      refine lv_lit (v := (irem ((s_X2_lastReleaseUpTo 0 (r 0)) + (((s_X2_lastPosition 0) - (s_X2_lagAt 0 (r 4) (r 5) (r 0))) * (s_X2_period 0))) 1440)) rfl ?_
      have es : (s_X3_handsToCorrect z r tn) = ((irem ((s_X2_lastReleaseUpTo 0 (r 0)) + (((s_X2_lastPosition 0) - (s_X2_lagAt 0 (r 4) (r 5) (r 0))) * (s_X2_period 0))) 1440), z) := by rw [s_X3_handsToCorrect, if_pos c_1, if_neg c_3]
      exact k_iret S G hr hlk dX3_handsToCorrect_78 (by first | (rw [es]; done) | (rw [es]; rfl) | (simp only [es]; done) | (simp only [es]; rfl)) (by first | (rw [es]; done) | (rw [es]; rfl) | (simp only [es]; done) | (simp only [es]; rfl))
    · skip
      refine lv_aload_n hx hb dX3_handsToCorrect_39 rfl (lv_at hl 2 rfl) ?_
      refine k_get (v := .ref (a 0)) S G 0 rfl rfl hiX3 0 (by decide) hf10 rfl dX3_handsToCorrect_40 ?_
      refine k_get (v := .int (r 0)) S G 2 rfl rfl hiX0 3 (by decide) hf83 rfl dX3_handsToCorrect_43 ?_
      have es : (s_X3_handsToCorrect z r tn) = ((r 0), z) := by rw [s_X3_handsToCorrect, if_pos c_1, if_pos c_3]
      exact k_iret S G hr hlk dX3_handsToCorrect_46 (by first | (rw [es]; done) | (rw [es]; rfl) | (simp only [es]; done) | (simp only [es]; rfl)) (by first | (rw [es]; done) | (rw [es]; rfl) | (simp only [es]; done) | (simp only [es]; rfl))
  · skip
    by_cases c_4 : tn = 1
    · skip
      have hl : lv_has ls 5 [(0, .ref x), (1, .int 1)] := by rw [← c_4]; exact hl
      refine lv_iload_n hx hb dX3_handsToCorrect_0 rfl (lv_at hl 1 rfl) ?_
      refine k_callS (n := 1) (As := [.int 1]) (rest := []) (st1 := [.int 1]) (ws1 := ((x, .inr (3, [.ref (a 0), .ref sv, .ref tl, .ref er, .int sc])) :: (er, .inl (cI, 3, .inl z)) :: stW cI a r e ([]))) S G (c_X3_isTrain l D cI cS 1) gX3_handsToCorrect_X3_isTrain rfl (by decide +kernel) ⟨⟨rfl, rfl⟩, Nat.le_of_ble_eq_true rfl, Nat.le_of_ble_eq_true rfl⟩ [] (by decide) rfl [] rfl rfl rfl hl.1 rfl (Nat.le_of_ble_eq_true rfl) ⟨Nat.zero_le _, Nat.zero_le _⟩ dX3_handsToCorrect_1 (congrArg (fun z => Value.int z :: []) (by decide : (s_X3_isTrain 1) = 1)) rfl (fun H locs G => ?_)
      refine lv_if_ne (tgt := 14) hx hb dX3_handsToCorrect_4 (by decide) (fun c_5 => ?_) (fun c_5 => absurd c_5 (by decide))
      refine lv_aload_n hx hb dX3_handsToCorrect_14 rfl (lv_at hl 0 rfl) ?_
      refine k_get (v := .ref (a 0)) S G 0 rfl rfl hiX3 0 (by decide) hf10 rfl dX3_handsToCorrect_15 ?_
      refine lv_iload_n hx hb dX3_handsToCorrect_18 rfl (lv_at hl 1 rfl) ?_
      refine k_callV (n := 1) (As := [.int 1]) (rest := []) (st1 := [.ref (a 2)]) (ws1 := ((x, .inr (3, [.ref (a 0), .ref sv, .ref tl, .ref er, .int sc])) :: (er, .inl (cI, 3, .inl z)) :: stW cI a r e ([]))) S G (c_X0_trainOf_1 l D cI cS a r e) gX3_handsToCorrect_X0_trainOf rfl (by decide +kernel) ⟨⟨rfl, rfl⟩, Nat.le_of_ble_eq_true rfl, Nat.le_of_ble_eq_true rfl⟩ [2, 3, 4, 5, 6, 7, 8] (by decide) rfl [(a 0), (a 1), (a 2), (a 3), (a 4), (a 5), (a 6)] rfl rfl 2 rfl rfl rfl hl.1 rfl (Nat.le_of_ble_eq_true rfl) ⟨Nat.zero_le _, Nat.zero_le _⟩ dX3_handsToCorrect_19 rfl rfl (fun H locs G => ?_)
      refine lv_astore_n (lv' := [(2, .ref (a 2)), (0, .ref x), (1, .int 1)]) hx hb dX3_handsToCorrect_22 rfl hl (by decide) rfl (fun ls hl => ?_)
      refine lv_aload_n hx hb dX3_handsToCorrect_23 rfl (lv_at hl 0 rfl) ?_
      refine lv_aload_n hx hb dX3_handsToCorrect_24 rfl (lv_at hl 1 rfl) ?_
      refine k_get (v := .ref (a 0)) S G 0 rfl rfl hiX3 0 (by decide) hf10 rfl dX3_handsToCorrect_25 ?_
      refine k_get (v := .int (r 0)) S G 2 rfl rfl hiX0 3 (by decide) hf83 rfl dX3_handsToCorrect_28 ?_
      refine k_callV (n := 1) (As := [.int (r 0)]) (rest := []) (st1 := [.int (s_X2_lagAt 1 (r 9) (r 10) (r 0))]) (ws1 := ((x, .inr (3, [.ref (a 0), .ref sv, .ref tl, .ref er, .int sc])) :: (er, .inl (cI, 3, .inl z)) :: stW cI a r e ([]))) S G (c_X2_lagAt l D cI cS (a 2) 1 (r 9) (r 10) (r 11) (r 12) (r 13) (r 0)) gX3_handsToCorrect_X2_lagAt rfl (by decide +kernel) ⟨⟨rfl, rfl⟩, Nat.le_of_ble_eq_true rfl, Nat.le_of_ble_eq_true rfl⟩ [4] (by decide) rfl [(a 2)] rfl rfl 4 rfl rfl rfl hl.1 rfl (Nat.le_of_ble_eq_true rfl) ⟨Nat.zero_le _, Nat.zero_le _⟩ dX3_handsToCorrect_31 rfl rfl (fun H locs G => ?_)
      refine lv_istore_n (lv' := [(3, .int (s_X2_lagAt 1 (r 9) (r 10) (r 0))), (2, .ref (a 2)), (0, .ref x), (1, .int 1)]) hx hb dX3_handsToCorrect_34 rfl hl (by decide) rfl (fun ls hl => ?_)
      refine lv_iload_n hx hb dX3_handsToCorrect_35 rfl (lv_at hl 0 rfl) ?_
      refine lv_if_ne (tgt := 47) hx hb dX3_handsToCorrect_36 (by decide) (fun c_6 => ?_) (fun c_6 => ?_)
      · skip
        refine lv_aload_n hx hb dX3_handsToCorrect_47 rfl (lv_at hl 1 rfl) ?_
        refine k_callV (n := 0) (As := []) (rest := []) (st1 := [.int (s_X2_lastPosition 1)]) (ws1 := ((x, .inr (3, [.ref (a 0), .ref sv, .ref tl, .ref er, .int sc])) :: (er, .inl (cI, 3, .inl z)) :: stW cI a r e ([]))) S G (c_X2_lastPosition l D cI cS (a 2) 1 (r 9) (r 10) (r 11) (r 12) (r 13)) gX3_handsToCorrect_X2_lastPosition rfl (by decide +kernel) ⟨⟨rfl, rfl⟩, Nat.le_of_ble_eq_true rfl, Nat.le_of_ble_eq_true rfl⟩ [4] (by decide) rfl [(a 2)] rfl rfl 4 rfl rfl rfl hl.1 rfl (Nat.le_of_ble_eq_true rfl) ⟨Nat.zero_le _, Nat.zero_le _⟩ dX3_handsToCorrect_48 rfl rfl (fun H locs G => ?_)
        refine lv_iload_n hx hb dX3_handsToCorrect_51 rfl (lv_at hl 0 rfl) ?_
        refine lv_isub hx hb dX3_handsToCorrect_52 ?_
        refine lv_istore (lv' := [(4, .int ((s_X2_lastPosition 1) - (s_X2_lagAt 1 (r 9) (r 10) (r 0)))), (3, .int (s_X2_lagAt 1 (r 9) (r 10) (r 0))), (2, .ref (a 2)), (0, .ref x), (1, .int 1)]) hx hb dX3_handsToCorrect_53 hl (by decide) rfl (fun ls hl => ?_)
        refine lv_aload_n hx hb dX3_handsToCorrect_55 rfl (lv_at hl 2 rfl) ?_
        refine lv_aload_n hx hb dX3_handsToCorrect_56 rfl (lv_at hl 3 rfl) ?_
        refine k_get (v := .ref (a 0)) S G 0 rfl rfl hiX3 0 (by decide) hf10 rfl dX3_handsToCorrect_57 ?_
        refine k_get (v := .int (r 0)) S G 2 rfl rfl hiX0 3 (by decide) hf83 rfl dX3_handsToCorrect_60 ?_
        refine k_callV (n := 1) (As := [.int (r 0)]) (rest := []) (st1 := [.int (s_X2_lastReleaseUpTo 1 (r 0))]) (ws1 := ((x, .inr (3, [.ref (a 0), .ref sv, .ref tl, .ref er, .int sc])) :: (er, .inl (cI, 3, .inl z)) :: stW cI a r e ([]))) S G (c_X2_lastReleaseUpTo l D cI cS (a 2) 1 (r 9) (r 10) (r 11) (r 12) (r 13) (r 0)) gX3_handsToCorrect_X2_lastReleaseUpTo rfl (by decide +kernel) ⟨⟨rfl, rfl⟩, Nat.le_of_ble_eq_true rfl, Nat.le_of_ble_eq_true rfl⟩ [4] (by decide) rfl [(a 2)] rfl rfl 4 rfl rfl rfl hl.1 rfl (Nat.le_of_ble_eq_true rfl) ⟨Nat.zero_le _, Nat.zero_le _⟩ dX3_handsToCorrect_63 rfl rfl (fun H locs G => ?_)
        refine lv_iload hx hb dX3_handsToCorrect_66 (lv_at hl 0 rfl) ?_
        refine lv_aload_n hx hb dX3_handsToCorrect_68 rfl (lv_at hl 2 rfl) ?_
        refine k_callV (n := 0) (As := []) (rest := [.int ((s_X2_lastPosition 1) - (s_X2_lagAt 1 (r 9) (r 10) (r 0))), .int (s_X2_lastReleaseUpTo 1 (r 0))]) (st1 := [.int (s_X2_period 1), .int ((s_X2_lastPosition 1) - (s_X2_lagAt 1 (r 9) (r 10) (r 0))), .int (s_X2_lastReleaseUpTo 1 (r 0))]) (ws1 := ((x, .inr (3, [.ref (a 0), .ref sv, .ref tl, .ref er, .int sc])) :: (er, .inl (cI, 3, .inl z)) :: stW cI a r e ([]))) S G (c_X2_period l D cI cS (a 2) 1 (r 9) (r 10) (r 11) (r 12) (r 13)) gX3_handsToCorrect_X2_period rfl (by decide +kernel) ⟨⟨rfl, rfl⟩, Nat.le_of_ble_eq_true rfl, Nat.le_of_ble_eq_true rfl⟩ [4] (by decide) rfl [(a 2)] rfl rfl 4 rfl rfl rfl hl.1 rfl (Nat.le_of_ble_eq_true rfl) ⟨Nat.zero_le _, Nat.zero_le _⟩ dX3_handsToCorrect_69 rfl rfl (fun H locs G => ?_)
        refine lv_imul hx hb dX3_handsToCorrect_72 ?_
        refine lv_iadd hx hb dX3_handsToCorrect_73 ?_
        refine lv_sipush (v := 1440) hx hb dX3_handsToCorrect_74 (by decide) ?_
        refine lv_irem hx hb dX3_handsToCorrect_77 (by decide) ?_
        refine lv_lit (v := (irem ((s_X2_lastReleaseUpTo 1 (r 0)) + (((s_X2_lastPosition 1) - (s_X2_lagAt 1 (r 9) (r 10) (r 0))) * (s_X2_period 1))) 1440)) rfl ?_
        have es : (s_X3_handsToCorrect z r tn) = ((irem ((s_X2_lastReleaseUpTo 1 (r 0)) + (((s_X2_lastPosition 1) - (s_X2_lagAt 1 (r 9) (r 10) (r 0))) * (s_X2_period 1))) 1440), z) := by rw [s_X3_handsToCorrect, if_neg c_1, if_pos c_4, if_neg c_6]
        exact k_iret S G hr hlk dX3_handsToCorrect_78 (by first | (rw [es]; done) | (rw [es]; rfl) | (simp only [es]; done) | (simp only [es]; rfl)) (by first | (rw [es]; done) | (rw [es]; rfl) | (simp only [es]; done) | (simp only [es]; rfl))
      · skip
        refine lv_aload_n hx hb dX3_handsToCorrect_39 rfl (lv_at hl 2 rfl) ?_
        refine k_get (v := .ref (a 0)) S G 0 rfl rfl hiX3 0 (by decide) hf10 rfl dX3_handsToCorrect_40 ?_
        refine k_get (v := .int (r 0)) S G 2 rfl rfl hiX0 3 (by decide) hf83 rfl dX3_handsToCorrect_43 ?_
        have es : (s_X3_handsToCorrect z r tn) = ((r 0), z) := by rw [s_X3_handsToCorrect, if_neg c_1, if_pos c_4, if_pos c_6]
        exact k_iret S G hr hlk dX3_handsToCorrect_46 (by first | (rw [es]; done) | (rw [es]; rfl) | (simp only [es]; done) | (simp only [es]; rfl)) (by first | (rw [es]; done) | (rw [es]; rfl) | (simp only [es]; done) | (simp only [es]; rfl))
    · skip
      refine lv_iload_n hx hb dX3_handsToCorrect_0 rfl (lv_at hl 1 rfl) ?_
      refine k_callS (n := 1) (As := [.int tn]) (rest := []) (st1 := [.int 0]) (ws1 := ((x, .inr (3, [.ref (a 0), .ref sv, .ref tl, .ref er, .int sc])) :: (er, .inl (cI, 3, .inl z)) :: stW cI a r e ([]))) S G (c_X3_isTrain l D cI cS tn) gX3_handsToCorrect_X3_isTrain rfl (by decide +kernel) ⟨⟨rfl, rfl⟩, Nat.le_of_ble_eq_true rfl, Nat.le_of_ble_eq_true rfl⟩ [] (by decide) rfl [] rfl rfl rfl hl.1 rfl (Nat.le_of_ble_eq_true rfl) ⟨Nat.zero_le _, Nat.zero_le _⟩ dX3_handsToCorrect_1 (congrArg (fun z => Value.int z :: []) (by rw [s_X3_isTrain, if_neg c_1, if_neg c_4])) rfl (fun H locs G => ?_)
      refine lv_if_ne (tgt := 14) hx hb dX3_handsToCorrect_4 (by decide) (fun c_7 => absurd c_7 (by decide)) (fun c_7 => ?_)
      refine lv_aload_n hx hb dX3_handsToCorrect_7 rfl (lv_at hl 0 rfl) ?_
      refine lv_bipush (v := (-2)) hx hb dX3_handsToCorrect_8 (by decide) ?_
      refine k_callV (n := 1) (As := [.int (-2)]) (rest := []) (st1 := [.int (-2)]) (ws1 := ((x, .inr (3, [.ref (a 0), .ref sv, .ref tl, .ref er, .int sc])) :: (er, .inl (cI, 3, .inl (upd z 0 ((z 0) + 1)))) :: stW cI a r e ([]))) S G (c_X3_refuse_2 l D cI cS (a 0) x sv tl er sc z) gX3_handsToCorrect_X3_refuse rfl (by decide +kernel) ⟨⟨rfl, rfl⟩, Nat.le_of_ble_eq_true rfl, Nat.le_of_ble_eq_true rfl⟩ [0, 1] (by decide) rfl [x, er] rfl rfl 0 rfl rfl rfl hl.1 rfl (Nat.le_of_ble_eq_true rfl) ⟨Nat.zero_le _, Nat.zero_le _⟩ dX3_handsToCorrect_10 rfl rfl (fun H locs G => ?_)
      have es : (s_X3_handsToCorrect z r tn) = ((-2), (upd z 0 ((z 0) + 1))) := by rw [s_X3_handsToCorrect, if_neg c_1, if_neg c_4]
      exact k_iret S G hr hlk dX3_handsToCorrect_13 (by first | (rw [es]; done) | (rw [es]; rfl) | (simp only [es]; done) | (simp only [es]; rfl)) (by first | (rw [es]; done) | (rw [es]; rfl) | (simp only [es]; done) | (simp only [es]; rfl))
def s_X3_position (z : Nat → Int32) (r : Nat → Int32) (tn : Int32) : Int32 × (Nat → Int32) := (if tn = 0 then ((r 5), z) else (if tn = 1 then ((r 10), z) else ((-2), (upd z 0 ((z 0) + 1)))))
set_option maxHeartbeats 4000000 in
set_option maxRecDepth 100000 in
theorem c_X3_position (l : Launch) (D : va_G) (cI cS : ClassId) (x : Nat) (sv : Nat) (tl : Nat) (er : Nat) (sc : Int32) (z : Nat → Int32) (a : Nat → Nat) (r : Nat → Int32) (e : Nat → Nat → Int32) (tn : Int32) : Ct l yX3_position wsX3_position ({ frames := 2, cells := 0, slots := 0, locals := 41 }) D (tyL cI cS) [.ref x, .int tn] ((x, .inr (3, [.ref (a 0), .ref sv, .ref tl, .ref er, .int sc])) :: (er, .inl (cI, 3, .inl z)) :: stW cI a r e ([])) (some (.int ((s_X3_position z r tn).1))) ((x, .inr (3, [.ref (a 0), .ref sv, .ref tl, .ref er, .int sc])) :: (er, .inl (cI, 3, .inl ((s_X3_position z r tn).2))) :: stW cI a r e ([])) := by
  refine Ct.of (cc := cX3_position) (maxL := 2) (ret := (some .int)) (by decide) rfl (Nat.le_of_ble_eq_true rfl) ?_
  intro p ev s m args below meth c A ls S hr hlk G hl
  have hx := S.1
  have hb := S.2.1
  have hown : s.vm.findClass RX3 = some m.cls := S.2.2.2.1
  have hts := S.2.2.2.2
  have hl : lv_has ls 2 [(0, .ref x), (1, .int tn)] := hl
  have hiX2 : ∀ w ∈ wsX20, w ∈ wsX3_position := by decide +kernel
  have hiX3 : ∀ w ∈ wsX30, w ∈ wsX3_position := by decide +kernel
  have hf10 := hts (.fieldLink RX3 10 "StrikingWork" "now" "LStrikingWork$State;") (by decide +kernel)
  have hf59 := hts (.fieldLink RX3 59 "StrikingWork$Train" "position" "I") (by decide +kernel)
  by_cases c_1 : tn = 0
  · skip
    have hl : lv_has ls 2 [(0, .ref x), (1, .int 0)] := by rw [← c_1]; exact hl
    refine lv_iload_n hx hb dX3_position_0 rfl (lv_at hl 1 rfl) ?_
    refine k_callS (n := 1) (As := [.int 0]) (rest := []) (st1 := [.int 1]) (ws1 := ((x, .inr (3, [.ref (a 0), .ref sv, .ref tl, .ref er, .int sc])) :: (er, .inl (cI, 3, .inl z)) :: stW cI a r e ([]))) S G (c_X3_isTrain l D cI cS 0) gX3_position_X3_isTrain rfl (by decide +kernel) ⟨⟨rfl, rfl⟩, Nat.le_of_ble_eq_true rfl, Nat.le_of_ble_eq_true rfl⟩ [] (by decide) rfl [] rfl rfl rfl hl.1 rfl (Nat.le_of_ble_eq_true rfl) ⟨Nat.zero_le _, Nat.zero_le _⟩ dX3_position_1 (congrArg (fun z => Value.int z :: []) (by decide : (s_X3_isTrain 0) = 1)) rfl (fun H locs G => ?_)
    refine lv_if_eq (tgt := 21) hx hb dX3_position_4 (by decide) (fun c_2 => absurd c_2 (by decide)) (fun c_2 => ?_)
    refine lv_aload_n hx hb dX3_position_7 rfl (lv_at hl 0 rfl) ?_
    refine k_get (v := .ref (a 0)) S G 0 rfl rfl hiX3 0 (by decide) hf10 rfl dX3_position_8 ?_
    refine lv_iload_n hx hb dX3_position_11 rfl (lv_at hl 1 rfl) ?_
    refine k_callV (n := 1) (As := [.int 0]) (rest := []) (st1 := [.ref (a 1)]) (ws1 := ((x, .inr (3, [.ref (a 0), .ref sv, .ref tl, .ref er, .int sc])) :: (er, .inl (cI, 3, .inl z)) :: stW cI a r e ([]))) S G (c_X0_trainOf_0 l D cI cS a r e) gX3_position_X0_trainOf rfl (by decide +kernel) ⟨⟨rfl, rfl⟩, Nat.le_of_ble_eq_true rfl, Nat.le_of_ble_eq_true rfl⟩ [2, 3, 4, 5, 6, 7, 8] (by decide) rfl [(a 0), (a 1), (a 2), (a 3), (a 4), (a 5), (a 6)] rfl rfl 2 rfl rfl rfl hl.1 rfl (Nat.le_of_ble_eq_true rfl) ⟨Nat.zero_le _, Nat.zero_le _⟩ dX3_position_12 rfl rfl (fun H locs G => ?_)
    refine k_get (v := .int (r 5)) S G 3 rfl rfl hiX2 2 (by decide) hf59 rfl dX3_position_15 ?_
    refine lv_goto (tgt := 27) hx hb dX3_position_18 (by decide) ?_
    have es : (s_X3_position z r tn) = ((r 5), z) := by rw [s_X3_position, if_pos c_1]
    exact k_iret S G hr hlk dX3_position_27 (by first | (rw [es]; done) | (rw [es]; rfl) | (simp only [es]; done) | (simp only [es]; rfl)) (by first | (rw [es]; done) | (rw [es]; rfl) | (simp only [es]; done) | (simp only [es]; rfl))
  · skip
    by_cases c_3 : tn = 1
    · skip
      have hl : lv_has ls 2 [(0, .ref x), (1, .int 1)] := by rw [← c_3]; exact hl
      refine lv_iload_n hx hb dX3_position_0 rfl (lv_at hl 1 rfl) ?_
      refine k_callS (n := 1) (As := [.int 1]) (rest := []) (st1 := [.int 1]) (ws1 := ((x, .inr (3, [.ref (a 0), .ref sv, .ref tl, .ref er, .int sc])) :: (er, .inl (cI, 3, .inl z)) :: stW cI a r e ([]))) S G (c_X3_isTrain l D cI cS 1) gX3_position_X3_isTrain rfl (by decide +kernel) ⟨⟨rfl, rfl⟩, Nat.le_of_ble_eq_true rfl, Nat.le_of_ble_eq_true rfl⟩ [] (by decide) rfl [] rfl rfl rfl hl.1 rfl (Nat.le_of_ble_eq_true rfl) ⟨Nat.zero_le _, Nat.zero_le _⟩ dX3_position_1 (congrArg (fun z => Value.int z :: []) (by decide : (s_X3_isTrain 1) = 1)) rfl (fun H locs G => ?_)
      refine lv_if_eq (tgt := 21) hx hb dX3_position_4 (by decide) (fun c_4 => absurd c_4 (by decide)) (fun c_4 => ?_)
      refine lv_aload_n hx hb dX3_position_7 rfl (lv_at hl 0 rfl) ?_
      refine k_get (v := .ref (a 0)) S G 0 rfl rfl hiX3 0 (by decide) hf10 rfl dX3_position_8 ?_
      refine lv_iload_n hx hb dX3_position_11 rfl (lv_at hl 1 rfl) ?_
      refine k_callV (n := 1) (As := [.int 1]) (rest := []) (st1 := [.ref (a 2)]) (ws1 := ((x, .inr (3, [.ref (a 0), .ref sv, .ref tl, .ref er, .int sc])) :: (er, .inl (cI, 3, .inl z)) :: stW cI a r e ([]))) S G (c_X0_trainOf_1 l D cI cS a r e) gX3_position_X0_trainOf rfl (by decide +kernel) ⟨⟨rfl, rfl⟩, Nat.le_of_ble_eq_true rfl, Nat.le_of_ble_eq_true rfl⟩ [2, 3, 4, 5, 6, 7, 8] (by decide) rfl [(a 0), (a 1), (a 2), (a 3), (a 4), (a 5), (a 6)] rfl rfl 2 rfl rfl rfl hl.1 rfl (Nat.le_of_ble_eq_true rfl) ⟨Nat.zero_le _, Nat.zero_le _⟩ dX3_position_12 rfl rfl (fun H locs G => ?_)
      refine k_get (v := .int (r 10)) S G 4 rfl rfl hiX2 2 (by decide) hf59 rfl dX3_position_15 ?_
      refine lv_goto (tgt := 27) hx hb dX3_position_18 (by decide) ?_
      have es : (s_X3_position z r tn) = ((r 10), z) := by rw [s_X3_position, if_neg c_1, if_pos c_3]
      exact k_iret S G hr hlk dX3_position_27 (by first | (rw [es]; done) | (rw [es]; rfl) | (simp only [es]; done) | (simp only [es]; rfl)) (by first | (rw [es]; done) | (rw [es]; rfl) | (simp only [es]; done) | (simp only [es]; rfl))
    · skip
      refine lv_iload_n hx hb dX3_position_0 rfl (lv_at hl 1 rfl) ?_
      refine k_callS (n := 1) (As := [.int tn]) (rest := []) (st1 := [.int 0]) (ws1 := ((x, .inr (3, [.ref (a 0), .ref sv, .ref tl, .ref er, .int sc])) :: (er, .inl (cI, 3, .inl z)) :: stW cI a r e ([]))) S G (c_X3_isTrain l D cI cS tn) gX3_position_X3_isTrain rfl (by decide +kernel) ⟨⟨rfl, rfl⟩, Nat.le_of_ble_eq_true rfl, Nat.le_of_ble_eq_true rfl⟩ [] (by decide) rfl [] rfl rfl rfl hl.1 rfl (Nat.le_of_ble_eq_true rfl) ⟨Nat.zero_le _, Nat.zero_le _⟩ dX3_position_1 (congrArg (fun z => Value.int z :: []) (by rw [s_X3_isTrain, if_neg c_1, if_neg c_3])) rfl (fun H locs G => ?_)
      refine lv_if_eq (tgt := 21) hx hb dX3_position_4 (by decide) (fun c_5 => ?_) (fun c_5 => absurd c_5 (by decide))
      refine lv_aload_n hx hb dX3_position_21 rfl (lv_at hl 0 rfl) ?_
      refine lv_bipush (v := (-2)) hx hb dX3_position_22 (by decide) ?_
      refine k_callV (n := 1) (As := [.int (-2)]) (rest := []) (st1 := [.int (-2)]) (ws1 := ((x, .inr (3, [.ref (a 0), .ref sv, .ref tl, .ref er, .int sc])) :: (er, .inl (cI, 3, .inl (upd z 0 ((z 0) + 1)))) :: stW cI a r e ([]))) S G (c_X3_refuse_2 l D cI cS (a 0) x sv tl er sc z) gX3_position_X3_refuse rfl (by decide +kernel) ⟨⟨rfl, rfl⟩, Nat.le_of_ble_eq_true rfl, Nat.le_of_ble_eq_true rfl⟩ [0, 1] (by decide) rfl [x, er] rfl rfl 0 rfl rfl rfl hl.1 rfl (Nat.le_of_ble_eq_true rfl) ⟨Nat.zero_le _, Nat.zero_le _⟩ dX3_position_24 rfl rfl (fun H locs G => ?_)
      have es : (s_X3_position z r tn) = ((-2), (upd z 0 ((z 0) + 1))) := by rw [s_X3_position, if_neg c_1, if_neg c_3]
      exact k_iret S G hr hlk dX3_position_27 (by first | (rw [es]; done) | (rw [es]; rfl) | (simp only [es]; done) | (simp only [es]; rfl)) (by first | (rw [es]; done) | (rw [es]; rfl) | (simp only [es]; done) | (simp only [es]; rfl))
def s_X3_weight (z : Nat → Int32) (r : Nat → Int32) (tn : Int32) : Int32 × (Nat → Int32) := (if tn = 0 then ((r 6), z) else (if tn = 1 then ((r 11), z) else ((-2), (upd z 0 ((z 0) + 1)))))
set_option maxHeartbeats 4000000 in
set_option maxRecDepth 100000 in
theorem c_X3_weight (l : Launch) (D : va_G) (cI cS : ClassId) (x : Nat) (sv : Nat) (tl : Nat) (er : Nat) (sc : Int32) (z : Nat → Int32) (a : Nat → Nat) (r : Nat → Int32) (e : Nat → Nat → Int32) (tn : Int32) : Ct l yX3_weight wsX3_weight ({ frames := 2, cells := 0, slots := 0, locals := 41 }) D (tyL cI cS) [.ref x, .int tn] ((x, .inr (3, [.ref (a 0), .ref sv, .ref tl, .ref er, .int sc])) :: (er, .inl (cI, 3, .inl z)) :: stW cI a r e ([])) (some (.int ((s_X3_weight z r tn).1))) ((x, .inr (3, [.ref (a 0), .ref sv, .ref tl, .ref er, .int sc])) :: (er, .inl (cI, 3, .inl ((s_X3_weight z r tn).2))) :: stW cI a r e ([])) := by
  refine Ct.of (cc := cX3_weight) (maxL := 2) (ret := (some .int)) (by decide) rfl (Nat.le_of_ble_eq_true rfl) ?_
  intro p ev s m args below meth c A ls S hr hlk G hl
  have hx := S.1
  have hb := S.2.1
  have hown : s.vm.findClass RX3 = some m.cls := S.2.2.2.1
  have hts := S.2.2.2.2
  have hl : lv_has ls 2 [(0, .ref x), (1, .int tn)] := hl
  have hiX2 : ∀ w ∈ wsX20, w ∈ wsX3_weight := by decide +kernel
  have hiX3 : ∀ w ∈ wsX30, w ∈ wsX3_weight := by decide +kernel
  have hf10 := hts (.fieldLink RX3 10 "StrikingWork" "now" "LStrikingWork$State;") (by decide +kernel)
  have hf74 := hts (.fieldLink RX3 74 "StrikingWork$Train" "weight" "I") (by decide +kernel)
  by_cases c_1 : tn = 0
  · skip
    have hl : lv_has ls 2 [(0, .ref x), (1, .int 0)] := by rw [← c_1]; exact hl
    refine lv_iload_n hx hb dX3_weight_0 rfl (lv_at hl 1 rfl) ?_
    refine k_callS (n := 1) (As := [.int 0]) (rest := []) (st1 := [.int 1]) (ws1 := ((x, .inr (3, [.ref (a 0), .ref sv, .ref tl, .ref er, .int sc])) :: (er, .inl (cI, 3, .inl z)) :: stW cI a r e ([]))) S G (c_X3_isTrain l D cI cS 0) gX3_weight_X3_isTrain rfl (by decide +kernel) ⟨⟨rfl, rfl⟩, Nat.le_of_ble_eq_true rfl, Nat.le_of_ble_eq_true rfl⟩ [] (by decide) rfl [] rfl rfl rfl hl.1 rfl (Nat.le_of_ble_eq_true rfl) ⟨Nat.zero_le _, Nat.zero_le _⟩ dX3_weight_1 (congrArg (fun z => Value.int z :: []) (by decide : (s_X3_isTrain 0) = 1)) rfl (fun H locs G => ?_)
    refine lv_if_eq (tgt := 21) hx hb dX3_weight_4 (by decide) (fun c_2 => absurd c_2 (by decide)) (fun c_2 => ?_)
    refine lv_aload_n hx hb dX3_weight_7 rfl (lv_at hl 0 rfl) ?_
    refine k_get (v := .ref (a 0)) S G 0 rfl rfl hiX3 0 (by decide) hf10 rfl dX3_weight_8 ?_
    refine lv_iload_n hx hb dX3_weight_11 rfl (lv_at hl 1 rfl) ?_
    refine k_callV (n := 1) (As := [.int 0]) (rest := []) (st1 := [.ref (a 1)]) (ws1 := ((x, .inr (3, [.ref (a 0), .ref sv, .ref tl, .ref er, .int sc])) :: (er, .inl (cI, 3, .inl z)) :: stW cI a r e ([]))) S G (c_X0_trainOf_0 l D cI cS a r e) gX3_weight_X0_trainOf rfl (by decide +kernel) ⟨⟨rfl, rfl⟩, Nat.le_of_ble_eq_true rfl, Nat.le_of_ble_eq_true rfl⟩ [2, 3, 4, 5, 6, 7, 8] (by decide) rfl [(a 0), (a 1), (a 2), (a 3), (a 4), (a 5), (a 6)] rfl rfl 2 rfl rfl rfl hl.1 rfl (Nat.le_of_ble_eq_true rfl) ⟨Nat.zero_le _, Nat.zero_le _⟩ dX3_weight_12 rfl rfl (fun H locs G => ?_)
    refine k_get (v := .int (r 6)) S G 3 rfl rfl hiX2 3 (by decide) hf74 rfl dX3_weight_15 ?_
    refine lv_goto (tgt := 27) hx hb dX3_weight_18 (by decide) ?_
    have es : (s_X3_weight z r tn) = ((r 6), z) := by rw [s_X3_weight, if_pos c_1]
    exact k_iret S G hr hlk dX3_weight_27 (by first | (rw [es]; done) | (rw [es]; rfl) | (simp only [es]; done) | (simp only [es]; rfl)) (by first | (rw [es]; done) | (rw [es]; rfl) | (simp only [es]; done) | (simp only [es]; rfl))
  · skip
    by_cases c_3 : tn = 1
    · skip
      have hl : lv_has ls 2 [(0, .ref x), (1, .int 1)] := by rw [← c_3]; exact hl
      refine lv_iload_n hx hb dX3_weight_0 rfl (lv_at hl 1 rfl) ?_
      refine k_callS (n := 1) (As := [.int 1]) (rest := []) (st1 := [.int 1]) (ws1 := ((x, .inr (3, [.ref (a 0), .ref sv, .ref tl, .ref er, .int sc])) :: (er, .inl (cI, 3, .inl z)) :: stW cI a r e ([]))) S G (c_X3_isTrain l D cI cS 1) gX3_weight_X3_isTrain rfl (by decide +kernel) ⟨⟨rfl, rfl⟩, Nat.le_of_ble_eq_true rfl, Nat.le_of_ble_eq_true rfl⟩ [] (by decide) rfl [] rfl rfl rfl hl.1 rfl (Nat.le_of_ble_eq_true rfl) ⟨Nat.zero_le _, Nat.zero_le _⟩ dX3_weight_1 (congrArg (fun z => Value.int z :: []) (by decide : (s_X3_isTrain 1) = 1)) rfl (fun H locs G => ?_)
      refine lv_if_eq (tgt := 21) hx hb dX3_weight_4 (by decide) (fun c_4 => absurd c_4 (by decide)) (fun c_4 => ?_)
      refine lv_aload_n hx hb dX3_weight_7 rfl (lv_at hl 0 rfl) ?_
      refine k_get (v := .ref (a 0)) S G 0 rfl rfl hiX3 0 (by decide) hf10 rfl dX3_weight_8 ?_
      refine lv_iload_n hx hb dX3_weight_11 rfl (lv_at hl 1 rfl) ?_
      refine k_callV (n := 1) (As := [.int 1]) (rest := []) (st1 := [.ref (a 2)]) (ws1 := ((x, .inr (3, [.ref (a 0), .ref sv, .ref tl, .ref er, .int sc])) :: (er, .inl (cI, 3, .inl z)) :: stW cI a r e ([]))) S G (c_X0_trainOf_1 l D cI cS a r e) gX3_weight_X0_trainOf rfl (by decide +kernel) ⟨⟨rfl, rfl⟩, Nat.le_of_ble_eq_true rfl, Nat.le_of_ble_eq_true rfl⟩ [2, 3, 4, 5, 6, 7, 8] (by decide) rfl [(a 0), (a 1), (a 2), (a 3), (a 4), (a 5), (a 6)] rfl rfl 2 rfl rfl rfl hl.1 rfl (Nat.le_of_ble_eq_true rfl) ⟨Nat.zero_le _, Nat.zero_le _⟩ dX3_weight_12 rfl rfl (fun H locs G => ?_)
      refine k_get (v := .int (r 11)) S G 4 rfl rfl hiX2 3 (by decide) hf74 rfl dX3_weight_15 ?_
      refine lv_goto (tgt := 27) hx hb dX3_weight_18 (by decide) ?_
      have es : (s_X3_weight z r tn) = ((r 11), z) := by rw [s_X3_weight, if_neg c_1, if_pos c_3]
      exact k_iret S G hr hlk dX3_weight_27 (by first | (rw [es]; done) | (rw [es]; rfl) | (simp only [es]; done) | (simp only [es]; rfl)) (by first | (rw [es]; done) | (rw [es]; rfl) | (simp only [es]; done) | (simp only [es]; rfl))
    · skip
      refine lv_iload_n hx hb dX3_weight_0 rfl (lv_at hl 1 rfl) ?_
      refine k_callS (n := 1) (As := [.int tn]) (rest := []) (st1 := [.int 0]) (ws1 := ((x, .inr (3, [.ref (a 0), .ref sv, .ref tl, .ref er, .int sc])) :: (er, .inl (cI, 3, .inl z)) :: stW cI a r e ([]))) S G (c_X3_isTrain l D cI cS tn) gX3_weight_X3_isTrain rfl (by decide +kernel) ⟨⟨rfl, rfl⟩, Nat.le_of_ble_eq_true rfl, Nat.le_of_ble_eq_true rfl⟩ [] (by decide) rfl [] rfl rfl rfl hl.1 rfl (Nat.le_of_ble_eq_true rfl) ⟨Nat.zero_le _, Nat.zero_le _⟩ dX3_weight_1 (congrArg (fun z => Value.int z :: []) (by rw [s_X3_isTrain, if_neg c_1, if_neg c_3])) rfl (fun H locs G => ?_)
      refine lv_if_eq (tgt := 21) hx hb dX3_weight_4 (by decide) (fun c_5 => ?_) (fun c_5 => absurd c_5 (by decide))
      refine lv_aload_n hx hb dX3_weight_21 rfl (lv_at hl 0 rfl) ?_
      refine lv_bipush (v := (-2)) hx hb dX3_weight_22 (by decide) ?_
      refine k_callV (n := 1) (As := [.int (-2)]) (rest := []) (st1 := [.int (-2)]) (ws1 := ((x, .inr (3, [.ref (a 0), .ref sv, .ref tl, .ref er, .int sc])) :: (er, .inl (cI, 3, .inl (upd z 0 ((z 0) + 1)))) :: stW cI a r e ([]))) S G (c_X3_refuse_2 l D cI cS (a 0) x sv tl er sc z) gX3_weight_X3_refuse rfl (by decide +kernel) ⟨⟨rfl, rfl⟩, Nat.le_of_ble_eq_true rfl, Nat.le_of_ble_eq_true rfl⟩ [0, 1] (by decide) rfl [x, er] rfl rfl 0 rfl rfl rfl hl.1 rfl (Nat.le_of_ble_eq_true rfl) ⟨Nat.zero_le _, Nat.zero_le _⟩ dX3_weight_24 rfl rfl (fun H locs G => ?_)
      have es : (s_X3_weight z r tn) = ((-2), (upd z 0 ((z 0) + 1))) := by rw [s_X3_weight, if_neg c_1, if_neg c_3]
      exact k_iret S G hr hlk dX3_weight_27 (by first | (rw [es]; done) | (rw [es]; rfl) | (simp only [es]; done) | (simp only [es]; rfl)) (by first | (rw [es]; done) | (rw [es]; rfl) | (simp only [es]; done) | (simp only [es]; rfl))
def s_X3_sounded (z : Nat → Int32) (r : Nat → Int32) (tn : Int32) : Int32 × (Nat → Int32) := (if tn = 0 then ((r 7), z) else (if tn = 1 then ((r 12), z) else ((-2), (upd z 0 ((z 0) + 1)))))
set_option maxHeartbeats 4000000 in
set_option maxRecDepth 100000 in
theorem c_X3_sounded (l : Launch) (D : va_G) (cI cS : ClassId) (x : Nat) (sv : Nat) (tl : Nat) (er : Nat) (sc : Int32) (z : Nat → Int32) (a : Nat → Nat) (r : Nat → Int32) (e : Nat → Nat → Int32) (tn : Int32) : Ct l yX3_sounded wsX3_sounded ({ frames := 2, cells := 0, slots := 0, locals := 41 }) D (tyL cI cS) [.ref x, .int tn] ((x, .inr (3, [.ref (a 0), .ref sv, .ref tl, .ref er, .int sc])) :: (er, .inl (cI, 3, .inl z)) :: stW cI a r e ([])) (some (.int ((s_X3_sounded z r tn).1))) ((x, .inr (3, [.ref (a 0), .ref sv, .ref tl, .ref er, .int sc])) :: (er, .inl (cI, 3, .inl ((s_X3_sounded z r tn).2))) :: stW cI a r e ([])) := by
  refine Ct.of (cc := cX3_sounded) (maxL := 2) (ret := (some .int)) (by decide) rfl (Nat.le_of_ble_eq_true rfl) ?_
  intro p ev s m args below meth c A ls S hr hlk G hl
  have hx := S.1
  have hb := S.2.1
  have hown : s.vm.findClass RX3 = some m.cls := S.2.2.2.1
  have hts := S.2.2.2.2
  have hl : lv_has ls 2 [(0, .ref x), (1, .int tn)] := hl
  have hiX2 : ∀ w ∈ wsX20, w ∈ wsX3_sounded := by decide +kernel
  have hiX3 : ∀ w ∈ wsX30, w ∈ wsX3_sounded := by decide +kernel
  have hf10 := hts (.fieldLink RX3 10 "StrikingWork" "now" "LStrikingWork$State;") (by decide +kernel)
  have hf130 := hts (.fieldLink RX3 130 "StrikingWork$Train" "sounded" "I") (by decide +kernel)
  by_cases c_1 : tn = 0
  · skip
    have hl : lv_has ls 2 [(0, .ref x), (1, .int 0)] := by rw [← c_1]; exact hl
    refine lv_iload_n hx hb dX3_sounded_0 rfl (lv_at hl 1 rfl) ?_
    refine k_callS (n := 1) (As := [.int 0]) (rest := []) (st1 := [.int 1]) (ws1 := ((x, .inr (3, [.ref (a 0), .ref sv, .ref tl, .ref er, .int sc])) :: (er, .inl (cI, 3, .inl z)) :: stW cI a r e ([]))) S G (c_X3_isTrain l D cI cS 0) gX3_sounded_X3_isTrain rfl (by decide +kernel) ⟨⟨rfl, rfl⟩, Nat.le_of_ble_eq_true rfl, Nat.le_of_ble_eq_true rfl⟩ [] (by decide) rfl [] rfl rfl rfl hl.1 rfl (Nat.le_of_ble_eq_true rfl) ⟨Nat.zero_le _, Nat.zero_le _⟩ dX3_sounded_1 (congrArg (fun z => Value.int z :: []) (by decide : (s_X3_isTrain 0) = 1)) rfl (fun H locs G => ?_)
    refine lv_if_eq (tgt := 21) hx hb dX3_sounded_4 (by decide) (fun c_2 => absurd c_2 (by decide)) (fun c_2 => ?_)
    refine lv_aload_n hx hb dX3_sounded_7 rfl (lv_at hl 0 rfl) ?_
    refine k_get (v := .ref (a 0)) S G 0 rfl rfl hiX3 0 (by decide) hf10 rfl dX3_sounded_8 ?_
    refine lv_iload_n hx hb dX3_sounded_11 rfl (lv_at hl 1 rfl) ?_
    refine k_callV (n := 1) (As := [.int 0]) (rest := []) (st1 := [.ref (a 1)]) (ws1 := ((x, .inr (3, [.ref (a 0), .ref sv, .ref tl, .ref er, .int sc])) :: (er, .inl (cI, 3, .inl z)) :: stW cI a r e ([]))) S G (c_X0_trainOf_0 l D cI cS a r e) gX3_sounded_X0_trainOf rfl (by decide +kernel) ⟨⟨rfl, rfl⟩, Nat.le_of_ble_eq_true rfl, Nat.le_of_ble_eq_true rfl⟩ [2, 3, 4, 5, 6, 7, 8] (by decide) rfl [(a 0), (a 1), (a 2), (a 3), (a 4), (a 5), (a 6)] rfl rfl 2 rfl rfl rfl hl.1 rfl (Nat.le_of_ble_eq_true rfl) ⟨Nat.zero_le _, Nat.zero_le _⟩ dX3_sounded_12 rfl rfl (fun H locs G => ?_)
    refine k_get (v := .int (r 7)) S G 3 rfl rfl hiX2 4 (by decide) hf130 rfl dX3_sounded_15 ?_
    refine lv_goto (tgt := 27) hx hb dX3_sounded_18 (by decide) ?_
    have es : (s_X3_sounded z r tn) = ((r 7), z) := by rw [s_X3_sounded, if_pos c_1]
    exact k_iret S G hr hlk dX3_sounded_27 (by first | (rw [es]; done) | (rw [es]; rfl) | (simp only [es]; done) | (simp only [es]; rfl)) (by first | (rw [es]; done) | (rw [es]; rfl) | (simp only [es]; done) | (simp only [es]; rfl))
  · skip
    by_cases c_3 : tn = 1
    · skip
      have hl : lv_has ls 2 [(0, .ref x), (1, .int 1)] := by rw [← c_3]; exact hl
      refine lv_iload_n hx hb dX3_sounded_0 rfl (lv_at hl 1 rfl) ?_
      refine k_callS (n := 1) (As := [.int 1]) (rest := []) (st1 := [.int 1]) (ws1 := ((x, .inr (3, [.ref (a 0), .ref sv, .ref tl, .ref er, .int sc])) :: (er, .inl (cI, 3, .inl z)) :: stW cI a r e ([]))) S G (c_X3_isTrain l D cI cS 1) gX3_sounded_X3_isTrain rfl (by decide +kernel) ⟨⟨rfl, rfl⟩, Nat.le_of_ble_eq_true rfl, Nat.le_of_ble_eq_true rfl⟩ [] (by decide) rfl [] rfl rfl rfl hl.1 rfl (Nat.le_of_ble_eq_true rfl) ⟨Nat.zero_le _, Nat.zero_le _⟩ dX3_sounded_1 (congrArg (fun z => Value.int z :: []) (by decide : (s_X3_isTrain 1) = 1)) rfl (fun H locs G => ?_)
      refine lv_if_eq (tgt := 21) hx hb dX3_sounded_4 (by decide) (fun c_4 => absurd c_4 (by decide)) (fun c_4 => ?_)
      refine lv_aload_n hx hb dX3_sounded_7 rfl (lv_at hl 0 rfl) ?_
      refine k_get (v := .ref (a 0)) S G 0 rfl rfl hiX3 0 (by decide) hf10 rfl dX3_sounded_8 ?_
      refine lv_iload_n hx hb dX3_sounded_11 rfl (lv_at hl 1 rfl) ?_
      refine k_callV (n := 1) (As := [.int 1]) (rest := []) (st1 := [.ref (a 2)]) (ws1 := ((x, .inr (3, [.ref (a 0), .ref sv, .ref tl, .ref er, .int sc])) :: (er, .inl (cI, 3, .inl z)) :: stW cI a r e ([]))) S G (c_X0_trainOf_1 l D cI cS a r e) gX3_sounded_X0_trainOf rfl (by decide +kernel) ⟨⟨rfl, rfl⟩, Nat.le_of_ble_eq_true rfl, Nat.le_of_ble_eq_true rfl⟩ [2, 3, 4, 5, 6, 7, 8] (by decide) rfl [(a 0), (a 1), (a 2), (a 3), (a 4), (a 5), (a 6)] rfl rfl 2 rfl rfl rfl hl.1 rfl (Nat.le_of_ble_eq_true rfl) ⟨Nat.zero_le _, Nat.zero_le _⟩ dX3_sounded_12 rfl rfl (fun H locs G => ?_)
      refine k_get (v := .int (r 12)) S G 4 rfl rfl hiX2 4 (by decide) hf130 rfl dX3_sounded_15 ?_
      refine lv_goto (tgt := 27) hx hb dX3_sounded_18 (by decide) ?_
      have es : (s_X3_sounded z r tn) = ((r 12), z) := by rw [s_X3_sounded, if_neg c_1, if_pos c_3]
      exact k_iret S G hr hlk dX3_sounded_27 (by first | (rw [es]; done) | (rw [es]; rfl) | (simp only [es]; done) | (simp only [es]; rfl)) (by first | (rw [es]; done) | (rw [es]; rfl) | (simp only [es]; done) | (simp only [es]; rfl))
    · skip
      refine lv_iload_n hx hb dX3_sounded_0 rfl (lv_at hl 1 rfl) ?_
      refine k_callS (n := 1) (As := [.int tn]) (rest := []) (st1 := [.int 0]) (ws1 := ((x, .inr (3, [.ref (a 0), .ref sv, .ref tl, .ref er, .int sc])) :: (er, .inl (cI, 3, .inl z)) :: stW cI a r e ([]))) S G (c_X3_isTrain l D cI cS tn) gX3_sounded_X3_isTrain rfl (by decide +kernel) ⟨⟨rfl, rfl⟩, Nat.le_of_ble_eq_true rfl, Nat.le_of_ble_eq_true rfl⟩ [] (by decide) rfl [] rfl rfl rfl hl.1 rfl (Nat.le_of_ble_eq_true rfl) ⟨Nat.zero_le _, Nat.zero_le _⟩ dX3_sounded_1 (congrArg (fun z => Value.int z :: []) (by rw [s_X3_isTrain, if_neg c_1, if_neg c_3])) rfl (fun H locs G => ?_)
      refine lv_if_eq (tgt := 21) hx hb dX3_sounded_4 (by decide) (fun c_5 => ?_) (fun c_5 => absurd c_5 (by decide))
      refine lv_aload_n hx hb dX3_sounded_21 rfl (lv_at hl 0 rfl) ?_
      refine lv_bipush (v := (-2)) hx hb dX3_sounded_22 (by decide) ?_
      refine k_callV (n := 1) (As := [.int (-2)]) (rest := []) (st1 := [.int (-2)]) (ws1 := ((x, .inr (3, [.ref (a 0), .ref sv, .ref tl, .ref er, .int sc])) :: (er, .inl (cI, 3, .inl (upd z 0 ((z 0) + 1)))) :: stW cI a r e ([]))) S G (c_X3_refuse_2 l D cI cS (a 0) x sv tl er sc z) gX3_sounded_X3_refuse rfl (by decide +kernel) ⟨⟨rfl, rfl⟩, Nat.le_of_ble_eq_true rfl, Nat.le_of_ble_eq_true rfl⟩ [0, 1] (by decide) rfl [x, er] rfl rfl 0 rfl rfl rfl hl.1 rfl (Nat.le_of_ble_eq_true rfl) ⟨Nat.zero_le _, Nat.zero_le _⟩ dX3_sounded_24 rfl rfl (fun H locs G => ?_)
      have es : (s_X3_sounded z r tn) = ((-2), (upd z 0 ((z 0) + 1))) := by rw [s_X3_sounded, if_neg c_1, if_neg c_3]
      exact k_iret S G hr hlk dX3_sounded_27 (by first | (rw [es]; done) | (rw [es]; rfl) | (simp only [es]; done) | (simp only [es]; rfl)) (by first | (rw [es]; done) | (rw [es]; rfl) | (simp only [es]; done) | (simp only [es]; rfl))
def s_X3_missed (z : Nat → Int32) (r : Nat → Int32) (tn : Int32) : Int32 × (Nat → Int32) := (if tn = 0 then ((r 8), z) else (if tn = 1 then ((r 13), z) else ((-2), (upd z 0 ((z 0) + 1)))))
set_option maxHeartbeats 4000000 in
set_option maxRecDepth 100000 in
theorem c_X3_missed (l : Launch) (D : va_G) (cI cS : ClassId) (x : Nat) (sv : Nat) (tl : Nat) (er : Nat) (sc : Int32) (z : Nat → Int32) (a : Nat → Nat) (r : Nat → Int32) (e : Nat → Nat → Int32) (tn : Int32) : Ct l yX3_missed wsX3_missed ({ frames := 2, cells := 0, slots := 0, locals := 41 }) D (tyL cI cS) [.ref x, .int tn] ((x, .inr (3, [.ref (a 0), .ref sv, .ref tl, .ref er, .int sc])) :: (er, .inl (cI, 3, .inl z)) :: stW cI a r e ([])) (some (.int ((s_X3_missed z r tn).1))) ((x, .inr (3, [.ref (a 0), .ref sv, .ref tl, .ref er, .int sc])) :: (er, .inl (cI, 3, .inl ((s_X3_missed z r tn).2))) :: stW cI a r e ([])) := by
  refine Ct.of (cc := cX3_missed) (maxL := 2) (ret := (some .int)) (by decide) rfl (Nat.le_of_ble_eq_true rfl) ?_
  intro p ev s m args below meth c A ls S hr hlk G hl
  have hx := S.1
  have hb := S.2.1
  have hown : s.vm.findClass RX3 = some m.cls := S.2.2.2.1
  have hts := S.2.2.2.2
  have hl : lv_has ls 2 [(0, .ref x), (1, .int tn)] := hl
  have hiX2 : ∀ w ∈ wsX20, w ∈ wsX3_missed := by decide +kernel
  have hiX3 : ∀ w ∈ wsX30, w ∈ wsX3_missed := by decide +kernel
  have hf10 := hts (.fieldLink RX3 10 "StrikingWork" "now" "LStrikingWork$State;") (by decide +kernel)
  have hf115 := hts (.fieldLink RX3 115 "StrikingWork$Train" "missed" "I") (by decide +kernel)
  by_cases c_1 : tn = 0
  · skip
    have hl : lv_has ls 2 [(0, .ref x), (1, .int 0)] := by rw [← c_1]; exact hl
    refine lv_iload_n hx hb dX3_missed_0 rfl (lv_at hl 1 rfl) ?_
    refine k_callS (n := 1) (As := [.int 0]) (rest := []) (st1 := [.int 1]) (ws1 := ((x, .inr (3, [.ref (a 0), .ref sv, .ref tl, .ref er, .int sc])) :: (er, .inl (cI, 3, .inl z)) :: stW cI a r e ([]))) S G (c_X3_isTrain l D cI cS 0) gX3_missed_X3_isTrain rfl (by decide +kernel) ⟨⟨rfl, rfl⟩, Nat.le_of_ble_eq_true rfl, Nat.le_of_ble_eq_true rfl⟩ [] (by decide) rfl [] rfl rfl rfl hl.1 rfl (Nat.le_of_ble_eq_true rfl) ⟨Nat.zero_le _, Nat.zero_le _⟩ dX3_missed_1 (congrArg (fun z => Value.int z :: []) (by decide : (s_X3_isTrain 0) = 1)) rfl (fun H locs G => ?_)
    refine lv_if_eq (tgt := 21) hx hb dX3_missed_4 (by decide) (fun c_2 => absurd c_2 (by decide)) (fun c_2 => ?_)
    refine lv_aload_n hx hb dX3_missed_7 rfl (lv_at hl 0 rfl) ?_
    refine k_get (v := .ref (a 0)) S G 0 rfl rfl hiX3 0 (by decide) hf10 rfl dX3_missed_8 ?_
    refine lv_iload_n hx hb dX3_missed_11 rfl (lv_at hl 1 rfl) ?_
    refine k_callV (n := 1) (As := [.int 0]) (rest := []) (st1 := [.ref (a 1)]) (ws1 := ((x, .inr (3, [.ref (a 0), .ref sv, .ref tl, .ref er, .int sc])) :: (er, .inl (cI, 3, .inl z)) :: stW cI a r e ([]))) S G (c_X0_trainOf_0 l D cI cS a r e) gX3_missed_X0_trainOf rfl (by decide +kernel) ⟨⟨rfl, rfl⟩, Nat.le_of_ble_eq_true rfl, Nat.le_of_ble_eq_true rfl⟩ [2, 3, 4, 5, 6, 7, 8] (by decide) rfl [(a 0), (a 1), (a 2), (a 3), (a 4), (a 5), (a 6)] rfl rfl 2 rfl rfl rfl hl.1 rfl (Nat.le_of_ble_eq_true rfl) ⟨Nat.zero_le _, Nat.zero_le _⟩ dX3_missed_12 rfl rfl (fun H locs G => ?_)
    refine k_get (v := .int (r 8)) S G 3 rfl rfl hiX2 5 (by decide) hf115 rfl dX3_missed_15 ?_
    refine lv_goto (tgt := 27) hx hb dX3_missed_18 (by decide) ?_
    have es : (s_X3_missed z r tn) = ((r 8), z) := by rw [s_X3_missed, if_pos c_1]
    exact k_iret S G hr hlk dX3_missed_27 (by first | (rw [es]; done) | (rw [es]; rfl) | (simp only [es]; done) | (simp only [es]; rfl)) (by first | (rw [es]; done) | (rw [es]; rfl) | (simp only [es]; done) | (simp only [es]; rfl))
  · skip
    by_cases c_3 : tn = 1
    · skip
      have hl : lv_has ls 2 [(0, .ref x), (1, .int 1)] := by rw [← c_3]; exact hl
      refine lv_iload_n hx hb dX3_missed_0 rfl (lv_at hl 1 rfl) ?_
      refine k_callS (n := 1) (As := [.int 1]) (rest := []) (st1 := [.int 1]) (ws1 := ((x, .inr (3, [.ref (a 0), .ref sv, .ref tl, .ref er, .int sc])) :: (er, .inl (cI, 3, .inl z)) :: stW cI a r e ([]))) S G (c_X3_isTrain l D cI cS 1) gX3_missed_X3_isTrain rfl (by decide +kernel) ⟨⟨rfl, rfl⟩, Nat.le_of_ble_eq_true rfl, Nat.le_of_ble_eq_true rfl⟩ [] (by decide) rfl [] rfl rfl rfl hl.1 rfl (Nat.le_of_ble_eq_true rfl) ⟨Nat.zero_le _, Nat.zero_le _⟩ dX3_missed_1 (congrArg (fun z => Value.int z :: []) (by decide : (s_X3_isTrain 1) = 1)) rfl (fun H locs G => ?_)
      refine lv_if_eq (tgt := 21) hx hb dX3_missed_4 (by decide) (fun c_4 => absurd c_4 (by decide)) (fun c_4 => ?_)
      refine lv_aload_n hx hb dX3_missed_7 rfl (lv_at hl 0 rfl) ?_
      refine k_get (v := .ref (a 0)) S G 0 rfl rfl hiX3 0 (by decide) hf10 rfl dX3_missed_8 ?_
      refine lv_iload_n hx hb dX3_missed_11 rfl (lv_at hl 1 rfl) ?_
      refine k_callV (n := 1) (As := [.int 1]) (rest := []) (st1 := [.ref (a 2)]) (ws1 := ((x, .inr (3, [.ref (a 0), .ref sv, .ref tl, .ref er, .int sc])) :: (er, .inl (cI, 3, .inl z)) :: stW cI a r e ([]))) S G (c_X0_trainOf_1 l D cI cS a r e) gX3_missed_X0_trainOf rfl (by decide +kernel) ⟨⟨rfl, rfl⟩, Nat.le_of_ble_eq_true rfl, Nat.le_of_ble_eq_true rfl⟩ [2, 3, 4, 5, 6, 7, 8] (by decide) rfl [(a 0), (a 1), (a 2), (a 3), (a 4), (a 5), (a 6)] rfl rfl 2 rfl rfl rfl hl.1 rfl (Nat.le_of_ble_eq_true rfl) ⟨Nat.zero_le _, Nat.zero_le _⟩ dX3_missed_12 rfl rfl (fun H locs G => ?_)
      refine k_get (v := .int (r 13)) S G 4 rfl rfl hiX2 5 (by decide) hf115 rfl dX3_missed_15 ?_
      refine lv_goto (tgt := 27) hx hb dX3_missed_18 (by decide) ?_
      have es : (s_X3_missed z r tn) = ((r 13), z) := by rw [s_X3_missed, if_neg c_1, if_pos c_3]
      exact k_iret S G hr hlk dX3_missed_27 (by first | (rw [es]; done) | (rw [es]; rfl) | (simp only [es]; done) | (simp only [es]; rfl)) (by first | (rw [es]; done) | (rw [es]; rfl) | (simp only [es]; done) | (simp only [es]; rfl))
    · skip
      refine lv_iload_n hx hb dX3_missed_0 rfl (lv_at hl 1 rfl) ?_
      refine k_callS (n := 1) (As := [.int tn]) (rest := []) (st1 := [.int 0]) (ws1 := ((x, .inr (3, [.ref (a 0), .ref sv, .ref tl, .ref er, .int sc])) :: (er, .inl (cI, 3, .inl z)) :: stW cI a r e ([]))) S G (c_X3_isTrain l D cI cS tn) gX3_missed_X3_isTrain rfl (by decide +kernel) ⟨⟨rfl, rfl⟩, Nat.le_of_ble_eq_true rfl, Nat.le_of_ble_eq_true rfl⟩ [] (by decide) rfl [] rfl rfl rfl hl.1 rfl (Nat.le_of_ble_eq_true rfl) ⟨Nat.zero_le _, Nat.zero_le _⟩ dX3_missed_1 (congrArg (fun z => Value.int z :: []) (by rw [s_X3_isTrain, if_neg c_1, if_neg c_3])) rfl (fun H locs G => ?_)
      refine lv_if_eq (tgt := 21) hx hb dX3_missed_4 (by decide) (fun c_5 => ?_) (fun c_5 => absurd c_5 (by decide))
      refine lv_aload_n hx hb dX3_missed_21 rfl (lv_at hl 0 rfl) ?_
      refine lv_bipush (v := (-2)) hx hb dX3_missed_22 (by decide) ?_
      refine k_callV (n := 1) (As := [.int (-2)]) (rest := []) (st1 := [.int (-2)]) (ws1 := ((x, .inr (3, [.ref (a 0), .ref sv, .ref tl, .ref er, .int sc])) :: (er, .inl (cI, 3, .inl (upd z 0 ((z 0) + 1)))) :: stW cI a r e ([]))) S G (c_X3_refuse_2 l D cI cS (a 0) x sv tl er sc z) gX3_missed_X3_refuse rfl (by decide +kernel) ⟨⟨rfl, rfl⟩, Nat.le_of_ble_eq_true rfl, Nat.le_of_ble_eq_true rfl⟩ [0, 1] (by decide) rfl [x, er] rfl rfl 0 rfl rfl rfl hl.1 rfl (Nat.le_of_ble_eq_true rfl) ⟨Nat.zero_le _, Nat.zero_le _⟩ dX3_missed_24 rfl rfl (fun H locs G => ?_)
      have es : (s_X3_missed z r tn) = ((-2), (upd z 0 ((z 0) + 1))) := by rw [s_X3_missed, if_neg c_1, if_neg c_3]
      exact k_iret S G hr hlk dX3_missed_27 (by first | (rw [es]; done) | (rw [es]; rfl) | (simp only [es]; done) | (simp only [es]; rfl)) (by first | (rw [es]; done) | (rw [es]; rfl) | (simp only [es]; done) | (simp only [es]; rfl))
def s_X3_minute (r : Nat → Int32) : Int32 := (r 0)
set_option maxHeartbeats 4000000 in
set_option maxRecDepth 100000 in
theorem c_X3_minute (l : Launch) (D : va_G) (cI cS : ClassId) (x : Nat) (sv : Nat) (tl : Nat) (er : Nat) (sc : Int32) (z : Nat → Int32) (a : Nat → Nat) (r : Nat → Int32) (e : Nat → Nat → Int32) : Ct l yX3_minute wsX3_minute ({ frames := 0, cells := 0, slots := 0, locals := 0 }) D (tyL cI cS) [.ref x] ((x, .inr (3, [.ref (a 0), .ref sv, .ref tl, .ref er, .int sc])) :: (er, .inl (cI, 3, .inl z)) :: stW cI a r e ([])) (some (.int (s_X3_minute r))) ((x, .inr (3, [.ref (a 0), .ref sv, .ref tl, .ref er, .int sc])) :: (er, .inl (cI, 3, .inl z)) :: stW cI a r e ([])) := by
  refine Ct.of (cc := cX3_minute) (maxL := 1) (ret := (some .int)) (by decide) rfl (Nat.le_of_ble_eq_true rfl) ?_
  intro p ev s m args below meth c A ls S hr hlk G hl
  have hx := S.1
  have hb := S.2.1
  have hown : s.vm.findClass RX3 = some m.cls := S.2.2.2.1
  have hts := S.2.2.2.2
  have hl : lv_has ls 1 [(0, .ref x)] := hl
  have hiX0 : ∀ w ∈ wsX00, w ∈ wsX3_minute := by decide +kernel
  have hiX3 : ∀ w ∈ wsX30, w ∈ wsX3_minute := by decide +kernel
  have hf10 := hts (.fieldLink RX3 10 "StrikingWork" "now" "LStrikingWork$State;") (by decide +kernel)
  have hf83 := hts (.fieldLink RX3 83 "StrikingWork$State" "minute" "I") (by decide +kernel)
  refine lv_aload_n hx hb dX3_minute_0 rfl (lv_at hl 0 rfl) ?_
  refine k_get (v := .ref (a 0)) S G 0 rfl rfl hiX3 0 (by decide) hf10 rfl dX3_minute_1 ?_
  refine k_get (v := .int (r 0)) S G 2 rfl rfl hiX0 3 (by decide) hf83 rfl dX3_minute_4 ?_
  have es : (s_X3_minute r) = (r 0) := rfl
  exact k_iret S G hr hlk dX3_minute_7 (by first | (rw [es]; done) | (rw [es]; rfl) | (simp only [es]; done) | (simp only [es]; rfl)) rfl
def s_X3_isSilent (z : Nat → Int32) (r : Nat → Int32) (q : Int32) : Int32 × (Nat → Int32) := (if (s_X3_isMinute q) = 0 then ((-2), (upd z 0 ((z 0) + 1))) else (if (s_X0_hushesAt r q) = 0 then (0, z) else (1, z)))
set_option maxHeartbeats 4000000 in
set_option maxRecDepth 100000 in
theorem c_X3_isSilent (l : Launch) (D : va_G) (cI cS : ClassId) (x : Nat) (sv : Nat) (tl : Nat) (er : Nat) (sc : Int32) (z : Nat → Int32) (a : Nat → Nat) (r : Nat → Int32) (e : Nat → Nat → Int32) (q : Int32) : Ct l yX3_isSilent wsX3_isSilent ({ frames := 2, cells := 0, slots := 0, locals := 41 }) D (tyL cI cS) [.ref x, .int q] ((x, .inr (3, [.ref (a 0), .ref sv, .ref tl, .ref er, .int sc])) :: (er, .inl (cI, 3, .inl z)) :: stW cI a r e ([])) (some (.int ((s_X3_isSilent z r q).1))) ((x, .inr (3, [.ref (a 0), .ref sv, .ref tl, .ref er, .int sc])) :: (er, .inl (cI, 3, .inl ((s_X3_isSilent z r q).2))) :: stW cI a r e ([])) := by
  refine Ct.of (cc := cX3_isSilent) (maxL := 2) (ret := (some .int)) (by decide) rfl (Nat.le_of_ble_eq_true rfl) ?_
  intro p ev s m args below meth c A ls S hr hlk G hl
  have hx := S.1
  have hb := S.2.1
  have hown : s.vm.findClass RX3 = some m.cls := S.2.2.2.1
  have hts := S.2.2.2.2
  have hl : lv_has ls 2 [(0, .ref x), (1, .int q)] := hl
  have hiX3 : ∀ w ∈ wsX30, w ∈ wsX3_isSilent := by decide +kernel
  have hf10 := hts (.fieldLink RX3 10 "StrikingWork" "now" "LStrikingWork$State;") (by decide +kernel)
  refine lv_iload_n hx hb dX3_isSilent_0 rfl (lv_at hl 1 rfl) ?_
  refine k_callS (n := 1) (As := [.int q]) (rest := []) (st1 := [.int (s_X3_isMinute q)]) (ws1 := ((x, .inr (3, [.ref (a 0), .ref sv, .ref tl, .ref er, .int sc])) :: (er, .inl (cI, 3, .inl z)) :: stW cI a r e ([]))) S G (c_X3_isMinute l D cI cS q) gX3_isSilent_X3_isMinute rfl (by decide +kernel) ⟨⟨rfl, rfl⟩, Nat.le_of_ble_eq_true rfl, Nat.le_of_ble_eq_true rfl⟩ [] (by decide) rfl [] rfl rfl rfl hl.1 rfl (Nat.le_of_ble_eq_true rfl) ⟨Nat.zero_le _, Nat.zero_le _⟩ dX3_isSilent_1 rfl rfl (fun H locs G => ?_)
  refine lv_if_ne (tgt := 14) hx hb dX3_isSilent_4 (by decide) (fun c_1 => ?_) (fun c_1 => ?_)
  · skip
    refine lv_aload_n hx hb dX3_isSilent_14 rfl (lv_at hl 0 rfl) ?_
    refine k_get (v := .ref (a 0)) S G 0 rfl rfl hiX3 0 (by decide) hf10 rfl dX3_isSilent_15 ?_
    refine lv_iload_n hx hb dX3_isSilent_18 rfl (lv_at hl 1 rfl) ?_
    refine k_callV (n := 1) (As := [.int q]) (rest := []) (st1 := [.int (s_X0_hushesAt r q)]) (ws1 := ((x, .inr (3, [.ref (a 0), .ref sv, .ref tl, .ref er, .int sc])) :: (er, .inl (cI, 3, .inl z)) :: stW cI a r e ([]))) S G (c_X0_hushesAt l D cI cS a r e q) gX3_isSilent_X0_hushesAt rfl (by decide +kernel) ⟨⟨rfl, rfl⟩, Nat.le_of_ble_eq_true rfl, Nat.le_of_ble_eq_true rfl⟩ [2, 3, 4, 5, 6, 7, 8] (by decide) rfl [(a 0), (a 1), (a 2), (a 3), (a 4), (a 5), (a 6)] rfl rfl 2 rfl rfl rfl hl.1 rfl (Nat.le_of_ble_eq_true rfl) ⟨Nat.zero_le _, Nat.zero_le _⟩ dX3_isSilent_19 rfl rfl (fun H locs G => ?_)
    refine lv_if_eq (tgt := 29) hx hb dX3_isSilent_22 (by decide) (fun c_2 => ?_) (fun c_2 => ?_)
    · skip
      refine lv_iconst (v := 0) hx hb dX3_isSilent_29 (by decide) ?_
      have es : (s_X3_isSilent z r q) = (0, z) := by rw [s_X3_isSilent, if_neg c_1, if_pos c_2]
      exact k_iret S G hr hlk dX3_isSilent_30 (by first | (rw [es]; done) | (rw [es]; rfl) | (simp only [es]; done) | (simp only [es]; rfl)) (by first | (rw [es]; done) | (rw [es]; rfl) | (simp only [es]; done) | (simp only [es]; rfl))
    · skip
      refine lv_iconst (v := 1) hx hb dX3_isSilent_25 (by decide) ?_
      refine lv_goto (tgt := 30) hx hb dX3_isSilent_26 (by decide) ?_
      have es : (s_X3_isSilent z r q) = (1, z) := by rw [s_X3_isSilent, if_neg c_1, if_neg c_2]
      exact k_iret S G hr hlk dX3_isSilent_30 (by first | (rw [es]; done) | (rw [es]; rfl) | (simp only [es]; done) | (simp only [es]; rfl)) (by first | (rw [es]; done) | (rw [es]; rfl) | (simp only [es]; done) | (simp only [es]; rfl))
  · skip
    refine lv_aload_n hx hb dX3_isSilent_7 rfl (lv_at hl 0 rfl) ?_
    refine lv_bipush (v := (-2)) hx hb dX3_isSilent_8 (by decide) ?_
    refine k_callV (n := 1) (As := [.int (-2)]) (rest := []) (st1 := [.int (-2)]) (ws1 := ((x, .inr (3, [.ref (a 0), .ref sv, .ref tl, .ref er, .int sc])) :: (er, .inl (cI, 3, .inl (upd z 0 ((z 0) + 1)))) :: stW cI a r e ([]))) S G (c_X3_refuse_2 l D cI cS (a 0) x sv tl er sc z) gX3_isSilent_X3_refuse rfl (by decide +kernel) ⟨⟨rfl, rfl⟩, Nat.le_of_ble_eq_true rfl, Nat.le_of_ble_eq_true rfl⟩ [0, 1] (by decide) rfl [x, er] rfl rfl 0 rfl rfl rfl hl.1 rfl (Nat.le_of_ble_eq_true rfl) ⟨Nat.zero_le _, Nat.zero_le _⟩ dX3_isSilent_10 rfl rfl (fun H locs G => ?_)
    have es : (s_X3_isSilent z r q) = ((-2), (upd z 0 ((z 0) + 1))) := by rw [s_X3_isSilent, if_pos c_1]
    exact k_iret S G hr hlk dX3_isSilent_13 (by first | (rw [es]; done) | (rw [es]; rfl) | (simp only [es]; done) | (simp only [es]; rfl)) (by first | (rw [es]; done) | (rw [es]; rfl) | (simp only [es]; done) | (simp only [es]; rfl))
theorem in_rec {q cn : Int32} (h0 : 0 ≤ q) (h2 : ¬ cn ≤ q) (hc : cnOk cn) : vp_in q 6 := by
  obtain ⟨N, hN, rfl⟩ := cnOk_nat hc
  have h1 : ¬ q < 0 := Int32.not_lt.mpr h0
  obtain ⟨j, hj, rfl⟩ := nI_of h1
  have : ¬ N ≤ j := fun z => h2 (nI_le z hj)
  exact vp_in_nI (by omega) (by decide)
theorem in_err {q : Int32} (h1 : ¬ q < (-4)) (h2 : q ≤ (-2)) : vp_in (s_X3_errorIndex q) 3 := by
  have h1 : -4 ≤ q.toInt := by have := Int32.le_iff_toInt_le.mp (Int32.not_lt.mp h1); simpa using this
  have h2 : q.toInt ≤ -2 := by have := Int32.le_iff_toInt_le.mp h2; simpa using this
  have e : q = Int32.ofInt q.toInt := (Int32.ofInt_toInt q).symm
  generalize q.toInt = w at h1 h2 e
  subst e
  rcases (show w = -4 ∨ w = -3 ∨ w = -2 by omega) with rfl | rfl | rfl <;> (unfold vp_in s_X3_errorIndex; decide)
def s_X3_strikeMinute (z : Nat → Int32) (r : Nat → Int32) (e : Nat → Nat → Int32) (q : Int32) : Int32 × (Nat → Int32) := (if 0 ≤ q then (if (r 14) ≤ q then ((-1), z) else (((e 0) q.toNatClampNeg), z)) else ((-2), (upd z 0 ((z 0) + 1))))
set_option maxHeartbeats 4000000 in
set_option maxRecDepth 100000 in
theorem c_X3_strikeMinute (l : Launch) (D : va_G) (cI cS : ClassId) (x : Nat) (sv : Nat) (tl : Nat) (er : Nat) (sc : Int32) (z : Nat → Int32) (a : Nat → Nat) (r : Nat → Int32) (e : Nat → Nat → Int32) (q : Int32) (hcn : cnOk (r 14)) : Ct l yX3_strikeMinute wsX3_strikeMinute ({ frames := 2, cells := 0, slots := 0, locals := 41 }) D (tyL cI cS) [.ref x, .int q] ((x, .inr (3, [.ref (a 0), .ref sv, .ref tl, .ref er, .int sc])) :: (er, .inl (cI, 3, .inl z)) :: stW cI a r e ([])) (some (.int ((s_X3_strikeMinute z r e q).1))) ((x, .inr (3, [.ref (a 0), .ref sv, .ref tl, .ref er, .int sc])) :: (er, .inl (cI, 3, .inl ((s_X3_strikeMinute z r e q).2))) :: stW cI a r e ([])) := by
  refine Ct.of (cc := cX3_strikeMinute) (maxL := 2) (ret := (some .int)) (by decide) rfl (Nat.le_of_ble_eq_true rfl) ?_
  intro p ev s m args below meth c A ls S hr hlk G hl
  have hx := S.1
  have hb := S.2.1
  have hown : s.vm.findClass RX3 = some m.cls := S.2.2.2.1
  have hts := S.2.2.2.2
  have hl : lv_has ls 2 [(0, .ref x), (1, .int q)] := hl
  have hiX0 : ∀ w ∈ wsX00, w ∈ wsX3_strikeMinute := by decide +kernel
  have hiX1 : ∀ w ∈ wsX10, w ∈ wsX3_strikeMinute := by decide +kernel
  have hiX3 : ∀ w ∈ wsX30, w ∈ wsX3_strikeMinute := by decide +kernel
  have hf10 := hts (.fieldLink RX3 10 "StrikingWork" "now" "LStrikingWork$State;") (by decide +kernel)
  have hf136 := hts (.fieldLink RX3 136 "StrikingWork$State" "strikes" "LStrikingWork$Strikes;") (by decide +kernel)
  have hf140 := hts (.fieldLink RX3 140 "StrikingWork$Strikes" "count" "I") (by decide +kernel)
  have hf145 := hts (.fieldLink RX3 145 "StrikingWork$Strikes" "minutes" "[I") (by decide +kernel)
  refine lv_iload_n hx hb dX3_strikeMinute_0 rfl (lv_at hl 1 rfl) ?_
  refine lv_if_ge (tgt := 11) hx hb dX3_strikeMinute_1 (by decide) (fun c_1 => ?_) (fun c_1 => ?_)
  · skip
    refine lv_iload_n hx hb dX3_strikeMinute_11 rfl (lv_at hl 1 rfl) ?_
    refine lv_aload_n hx hb dX3_strikeMinute_12 rfl (lv_at hl 0 rfl) ?_
    refine k_get (v := .ref (a 0)) S G 0 rfl rfl hiX3 0 (by decide) hf10 rfl dX3_strikeMinute_13 ?_
    refine k_get (v := .ref (a 3)) S G 2 rfl rfl hiX0 2 (by decide) hf136 rfl dX3_strikeMinute_16 ?_
    refine k_get (v := .int (r 14)) S G 5 rfl rfl hiX1 3 (by decide) hf140 rfl dX3_strikeMinute_19 ?_
    refine lv_icmp_ge (tgt := 40) hx hb dX3_strikeMinute_22 (by decide) (fun c_2 => ?_) (fun c_2 => ?_)
    · skip
      refine lv_iconst (v := (-1)) hx hb dX3_strikeMinute_40 (by decide) ?_
      have es : (s_X3_strikeMinute z r e q) = ((-1), z) := by rw [s_X3_strikeMinute, if_pos c_1, if_pos c_2]
      exact k_iret S G hr hlk dX3_strikeMinute_41 (by first | (rw [es]; done) | (rw [es]; rfl) | (simp only [es]; done) | (simp only [es]; rfl)) (by first | (rw [es]; done) | (rw [es]; rfl) | (simp only [es]; done) | (simp only [es]; rfl))
    · skip
      refine lv_aload_n hx hb dX3_strikeMinute_25 rfl (lv_at hl 0 rfl) ?_
      refine k_get (v := .ref (a 0)) S G 0 rfl rfl hiX3 0 (by decide) hf10 rfl dX3_strikeMinute_26 ?_
      refine k_get (v := .ref (a 3)) S G 2 rfl rfl hiX0 2 (by decide) hf136 rfl dX3_strikeMinute_29 ?_
      refine k_get (v := .ref (a 4)) S G 5 rfl rfl hiX1 0 (by decide) hf145 rfl dX3_strikeMinute_32 ?_
      refine lv_iload_n hx hb dX3_strikeMinute_35 rfl (lv_at hl 1 rfl) ?_
      refine k_iald (x := ((e 0) q.toNatClampNeg)) S G 6 0 rfl rfl (in_rec c_1 c_2 hcn) rfl dX3_strikeMinute_36 ?_
      refine lv_goto (tgt := 41) hx hb dX3_strikeMinute_37 (by decide) ?_
      have es : (s_X3_strikeMinute z r e q) = (((e 0) q.toNatClampNeg), z) := by rw [s_X3_strikeMinute, if_pos c_1, if_neg c_2]
      exact k_iret S G hr hlk dX3_strikeMinute_41 (by first | (rw [es]; done) | (rw [es]; rfl) | (simp only [es]; done) | (simp only [es]; rfl)) (by first | (rw [es]; done) | (rw [es]; rfl) | (simp only [es]; done) | (simp only [es]; rfl))
  · skip
    refine lv_aload_n hx hb dX3_strikeMinute_4 rfl (lv_at hl 0 rfl) ?_
    refine lv_bipush (v := (-2)) hx hb dX3_strikeMinute_5 (by decide) ?_
    refine k_callV (n := 1) (As := [.int (-2)]) (rest := []) (st1 := [.int (-2)]) (ws1 := ((x, .inr (3, [.ref (a 0), .ref sv, .ref tl, .ref er, .int sc])) :: (er, .inl (cI, 3, .inl (upd z 0 ((z 0) + 1)))) :: stW cI a r e ([]))) S G (c_X3_refuse_2 l D cI cS (a 0) x sv tl er sc z) gX3_strikeMinute_X3_refuse rfl (by decide +kernel) ⟨⟨rfl, rfl⟩, Nat.le_of_ble_eq_true rfl, Nat.le_of_ble_eq_true rfl⟩ [0, 1] (by decide) rfl [x, er] rfl rfl 0 rfl rfl rfl hl.1 rfl (Nat.le_of_ble_eq_true rfl) ⟨Nat.zero_le _, Nat.zero_le _⟩ dX3_strikeMinute_7 rfl rfl (fun H locs G => ?_)
    have es : (s_X3_strikeMinute z r e q) = ((-2), (upd z 0 ((z 0) + 1))) := by rw [s_X3_strikeMinute, if_neg c_1]
    exact k_iret S G hr hlk dX3_strikeMinute_10 (by first | (rw [es]; done) | (rw [es]; rfl) | (simp only [es]; done) | (simp only [es]; rfl)) (by first | (rw [es]; done) | (rw [es]; rfl) | (simp only [es]; done) | (simp only [es]; rfl))
def s_X3_strikeTrain (z : Nat → Int32) (r : Nat → Int32) (e : Nat → Nat → Int32) (q : Int32) : Int32 × (Nat → Int32) := (if 0 ≤ q then (if (r 14) ≤ q then ((-1), z) else (((e 1) q.toNatClampNeg), z)) else ((-2), (upd z 0 ((z 0) + 1))))
set_option maxHeartbeats 4000000 in
set_option maxRecDepth 100000 in
theorem c_X3_strikeTrain (l : Launch) (D : va_G) (cI cS : ClassId) (x : Nat) (sv : Nat) (tl : Nat) (er : Nat) (sc : Int32) (z : Nat → Int32) (a : Nat → Nat) (r : Nat → Int32) (e : Nat → Nat → Int32) (q : Int32) (hcn : cnOk (r 14)) : Ct l yX3_strikeTrain wsX3_strikeTrain ({ frames := 2, cells := 0, slots := 0, locals := 41 }) D (tyL cI cS) [.ref x, .int q] ((x, .inr (3, [.ref (a 0), .ref sv, .ref tl, .ref er, .int sc])) :: (er, .inl (cI, 3, .inl z)) :: stW cI a r e ([])) (some (.int ((s_X3_strikeTrain z r e q).1))) ((x, .inr (3, [.ref (a 0), .ref sv, .ref tl, .ref er, .int sc])) :: (er, .inl (cI, 3, .inl ((s_X3_strikeTrain z r e q).2))) :: stW cI a r e ([])) := by
  refine Ct.of (cc := cX3_strikeTrain) (maxL := 2) (ret := (some .int)) (by decide) rfl (Nat.le_of_ble_eq_true rfl) ?_
  intro p ev s m args below meth c A ls S hr hlk G hl
  have hx := S.1
  have hb := S.2.1
  have hown : s.vm.findClass RX3 = some m.cls := S.2.2.2.1
  have hts := S.2.2.2.2
  have hl : lv_has ls 2 [(0, .ref x), (1, .int q)] := hl
  have hiX0 : ∀ w ∈ wsX00, w ∈ wsX3_strikeTrain := by decide +kernel
  have hiX1 : ∀ w ∈ wsX10, w ∈ wsX3_strikeTrain := by decide +kernel
  have hiX3 : ∀ w ∈ wsX30, w ∈ wsX3_strikeTrain := by decide +kernel
  have hf10 := hts (.fieldLink RX3 10 "StrikingWork" "now" "LStrikingWork$State;") (by decide +kernel)
  have hf136 := hts (.fieldLink RX3 136 "StrikingWork$State" "strikes" "LStrikingWork$Strikes;") (by decide +kernel)
  have hf140 := hts (.fieldLink RX3 140 "StrikingWork$Strikes" "count" "I") (by decide +kernel)
  have hf148 := hts (.fieldLink RX3 148 "StrikingWork$Strikes" "trains" "[I") (by decide +kernel)
  refine lv_iload_n hx hb dX3_strikeTrain_0 rfl (lv_at hl 1 rfl) ?_
  refine lv_if_ge (tgt := 11) hx hb dX3_strikeTrain_1 (by decide) (fun c_1 => ?_) (fun c_1 => ?_)
  · skip
    refine lv_iload_n hx hb dX3_strikeTrain_11 rfl (lv_at hl 1 rfl) ?_
    refine lv_aload_n hx hb dX3_strikeTrain_12 rfl (lv_at hl 0 rfl) ?_
    refine k_get (v := .ref (a 0)) S G 0 rfl rfl hiX3 0 (by decide) hf10 rfl dX3_strikeTrain_13 ?_
    refine k_get (v := .ref (a 3)) S G 2 rfl rfl hiX0 2 (by decide) hf136 rfl dX3_strikeTrain_16 ?_
    refine k_get (v := .int (r 14)) S G 5 rfl rfl hiX1 3 (by decide) hf140 rfl dX3_strikeTrain_19 ?_
    refine lv_icmp_ge (tgt := 40) hx hb dX3_strikeTrain_22 (by decide) (fun c_2 => ?_) (fun c_2 => ?_)
    · skip
      refine lv_iconst (v := (-1)) hx hb dX3_strikeTrain_40 (by decide) ?_
      have es : (s_X3_strikeTrain z r e q) = ((-1), z) := by rw [s_X3_strikeTrain, if_pos c_1, if_pos c_2]
      exact k_iret S G hr hlk dX3_strikeTrain_41 (by first | (rw [es]; done) | (rw [es]; rfl) | (simp only [es]; done) | (simp only [es]; rfl)) (by first | (rw [es]; done) | (rw [es]; rfl) | (simp only [es]; done) | (simp only [es]; rfl))
    · skip
      refine lv_aload_n hx hb dX3_strikeTrain_25 rfl (lv_at hl 0 rfl) ?_
      refine k_get (v := .ref (a 0)) S G 0 rfl rfl hiX3 0 (by decide) hf10 rfl dX3_strikeTrain_26 ?_
      refine k_get (v := .ref (a 3)) S G 2 rfl rfl hiX0 2 (by decide) hf136 rfl dX3_strikeTrain_29 ?_
      refine k_get (v := .ref (a 5)) S G 5 rfl rfl hiX1 1 (by decide) hf148 rfl dX3_strikeTrain_32 ?_
      refine lv_iload_n hx hb dX3_strikeTrain_35 rfl (lv_at hl 1 rfl) ?_
      refine k_iald (x := ((e 1) q.toNatClampNeg)) S G 7 0 rfl rfl (in_rec c_1 c_2 hcn) rfl dX3_strikeTrain_36 ?_
      refine lv_goto (tgt := 41) hx hb dX3_strikeTrain_37 (by decide) ?_
      have es : (s_X3_strikeTrain z r e q) = (((e 1) q.toNatClampNeg), z) := by rw [s_X3_strikeTrain, if_pos c_1, if_neg c_2]
      exact k_iret S G hr hlk dX3_strikeTrain_41 (by first | (rw [es]; done) | (rw [es]; rfl) | (simp only [es]; done) | (simp only [es]; rfl)) (by first | (rw [es]; done) | (rw [es]; rfl) | (simp only [es]; done) | (simp only [es]; rfl))
  · skip
    refine lv_aload_n hx hb dX3_strikeTrain_4 rfl (lv_at hl 0 rfl) ?_
    refine lv_bipush (v := (-2)) hx hb dX3_strikeTrain_5 (by decide) ?_
    refine k_callV (n := 1) (As := [.int (-2)]) (rest := []) (st1 := [.int (-2)]) (ws1 := ((x, .inr (3, [.ref (a 0), .ref sv, .ref tl, .ref er, .int sc])) :: (er, .inl (cI, 3, .inl (upd z 0 ((z 0) + 1)))) :: stW cI a r e ([]))) S G (c_X3_refuse_2 l D cI cS (a 0) x sv tl er sc z) gX3_strikeTrain_X3_refuse rfl (by decide +kernel) ⟨⟨rfl, rfl⟩, Nat.le_of_ble_eq_true rfl, Nat.le_of_ble_eq_true rfl⟩ [0, 1] (by decide) rfl [x, er] rfl rfl 0 rfl rfl rfl hl.1 rfl (Nat.le_of_ble_eq_true rfl) ⟨Nat.zero_le _, Nat.zero_le _⟩ dX3_strikeTrain_7 rfl rfl (fun H locs G => ?_)
    have es : (s_X3_strikeTrain z r e q) = ((-2), (upd z 0 ((z 0) + 1))) := by rw [s_X3_strikeTrain, if_neg c_1]
    exact k_iret S G hr hlk dX3_strikeTrain_10 (by first | (rw [es]; done) | (rw [es]; rfl) | (simp only [es]; done) | (simp only [es]; rfl)) (by first | (rw [es]; done) | (rw [es]; rfl) | (simp only [es]; done) | (simp only [es]; rfl))
def s_X3_strikeBlows (z : Nat → Int32) (r : Nat → Int32) (e : Nat → Nat → Int32) (q : Int32) : Int32 × (Nat → Int32) := (if 0 ≤ q then (if (r 14) ≤ q then (0, z) else (((e 2) q.toNatClampNeg), z)) else ((-2), (upd z 0 ((z 0) + 1))))
set_option maxHeartbeats 4000000 in
set_option maxRecDepth 100000 in
theorem c_X3_strikeBlows (l : Launch) (D : va_G) (cI cS : ClassId) (x : Nat) (sv : Nat) (tl : Nat) (er : Nat) (sc : Int32) (z : Nat → Int32) (a : Nat → Nat) (r : Nat → Int32) (e : Nat → Nat → Int32) (q : Int32) (hcn : cnOk (r 14)) : Ct l yX3_strikeBlows wsX3_strikeBlows ({ frames := 2, cells := 0, slots := 0, locals := 41 }) D (tyL cI cS) [.ref x, .int q] ((x, .inr (3, [.ref (a 0), .ref sv, .ref tl, .ref er, .int sc])) :: (er, .inl (cI, 3, .inl z)) :: stW cI a r e ([])) (some (.int ((s_X3_strikeBlows z r e q).1))) ((x, .inr (3, [.ref (a 0), .ref sv, .ref tl, .ref er, .int sc])) :: (er, .inl (cI, 3, .inl ((s_X3_strikeBlows z r e q).2))) :: stW cI a r e ([])) := by
  refine Ct.of (cc := cX3_strikeBlows) (maxL := 2) (ret := (some .int)) (by decide) rfl (Nat.le_of_ble_eq_true rfl) ?_
  intro p ev s m args below meth c A ls S hr hlk G hl
  have hx := S.1
  have hb := S.2.1
  have hown : s.vm.findClass RX3 = some m.cls := S.2.2.2.1
  have hts := S.2.2.2.2
  have hl : lv_has ls 2 [(0, .ref x), (1, .int q)] := hl
  have hiX0 : ∀ w ∈ wsX00, w ∈ wsX3_strikeBlows := by decide +kernel
  have hiX1 : ∀ w ∈ wsX10, w ∈ wsX3_strikeBlows := by decide +kernel
  have hiX3 : ∀ w ∈ wsX30, w ∈ wsX3_strikeBlows := by decide +kernel
  have hf10 := hts (.fieldLink RX3 10 "StrikingWork" "now" "LStrikingWork$State;") (by decide +kernel)
  have hf136 := hts (.fieldLink RX3 136 "StrikingWork$State" "strikes" "LStrikingWork$Strikes;") (by decide +kernel)
  have hf140 := hts (.fieldLink RX3 140 "StrikingWork$Strikes" "count" "I") (by decide +kernel)
  have hf151 := hts (.fieldLink RX3 151 "StrikingWork$Strikes" "blows" "[I") (by decide +kernel)
  refine lv_iload_n hx hb dX3_strikeBlows_0 rfl (lv_at hl 1 rfl) ?_
  refine lv_if_ge (tgt := 11) hx hb dX3_strikeBlows_1 (by decide) (fun c_1 => ?_) (fun c_1 => ?_)
  · skip
    refine lv_iload_n hx hb dX3_strikeBlows_11 rfl (lv_at hl 1 rfl) ?_
    refine lv_aload_n hx hb dX3_strikeBlows_12 rfl (lv_at hl 0 rfl) ?_
    refine k_get (v := .ref (a 0)) S G 0 rfl rfl hiX3 0 (by decide) hf10 rfl dX3_strikeBlows_13 ?_
    refine k_get (v := .ref (a 3)) S G 2 rfl rfl hiX0 2 (by decide) hf136 rfl dX3_strikeBlows_16 ?_
    refine k_get (v := .int (r 14)) S G 5 rfl rfl hiX1 3 (by decide) hf140 rfl dX3_strikeBlows_19 ?_
    refine lv_icmp_ge (tgt := 40) hx hb dX3_strikeBlows_22 (by decide) (fun c_2 => ?_) (fun c_2 => ?_)
    · skip
      refine lv_iconst (v := 0) hx hb dX3_strikeBlows_40 (by decide) ?_
      have es : (s_X3_strikeBlows z r e q) = (0, z) := by rw [s_X3_strikeBlows, if_pos c_1, if_pos c_2]
      exact k_iret S G hr hlk dX3_strikeBlows_41 (by first | (rw [es]; done) | (rw [es]; rfl) | (simp only [es]; done) | (simp only [es]; rfl)) (by first | (rw [es]; done) | (rw [es]; rfl) | (simp only [es]; done) | (simp only [es]; rfl))
    · skip
      refine lv_aload_n hx hb dX3_strikeBlows_25 rfl (lv_at hl 0 rfl) ?_
      refine k_get (v := .ref (a 0)) S G 0 rfl rfl hiX3 0 (by decide) hf10 rfl dX3_strikeBlows_26 ?_
      refine k_get (v := .ref (a 3)) S G 2 rfl rfl hiX0 2 (by decide) hf136 rfl dX3_strikeBlows_29 ?_
      refine k_get (v := .ref (a 6)) S G 5 rfl rfl hiX1 2 (by decide) hf151 rfl dX3_strikeBlows_32 ?_
      refine lv_iload_n hx hb dX3_strikeBlows_35 rfl (lv_at hl 1 rfl) ?_
      refine k_iald (x := ((e 2) q.toNatClampNeg)) S G 8 0 rfl rfl (in_rec c_1 c_2 hcn) rfl dX3_strikeBlows_36 ?_
      refine lv_goto (tgt := 41) hx hb dX3_strikeBlows_37 (by decide) ?_
      have es : (s_X3_strikeBlows z r e q) = (((e 2) q.toNatClampNeg), z) := by rw [s_X3_strikeBlows, if_pos c_1, if_neg c_2]
      exact k_iret S G hr hlk dX3_strikeBlows_41 (by first | (rw [es]; done) | (rw [es]; rfl) | (simp only [es]; done) | (simp only [es]; rfl)) (by first | (rw [es]; done) | (rw [es]; rfl) | (simp only [es]; done) | (simp only [es]; rfl))
  · skip
    refine lv_aload_n hx hb dX3_strikeBlows_4 rfl (lv_at hl 0 rfl) ?_
    refine lv_bipush (v := (-2)) hx hb dX3_strikeBlows_5 (by decide) ?_
    refine k_callV (n := 1) (As := [.int (-2)]) (rest := []) (st1 := [.int (-2)]) (ws1 := ((x, .inr (3, [.ref (a 0), .ref sv, .ref tl, .ref er, .int sc])) :: (er, .inl (cI, 3, .inl (upd z 0 ((z 0) + 1)))) :: stW cI a r e ([]))) S G (c_X3_refuse_2 l D cI cS (a 0) x sv tl er sc z) gX3_strikeBlows_X3_refuse rfl (by decide +kernel) ⟨⟨rfl, rfl⟩, Nat.le_of_ble_eq_true rfl, Nat.le_of_ble_eq_true rfl⟩ [0, 1] (by decide) rfl [x, er] rfl rfl 0 rfl rfl rfl hl.1 rfl (Nat.le_of_ble_eq_true rfl) ⟨Nat.zero_le _, Nat.zero_le _⟩ dX3_strikeBlows_7 rfl rfl (fun H locs G => ?_)
    have es : (s_X3_strikeBlows z r e q) = ((-2), (upd z 0 ((z 0) + 1))) := by rw [s_X3_strikeBlows, if_neg c_1]
    exact k_iret S G hr hlk dX3_strikeBlows_10 (by first | (rw [es]; done) | (rw [es]; rfl) | (simp only [es]; done) | (simp only [es]; rfl)) (by first | (rw [es]; done) | (rw [es]; rfl) | (simp only [es]; done) | (simp only [es]; rfl))
def s_X3_errorCount (z : Nat → Int32) (q : Int32) : Int32 × (Nat → Int32) := (if q < (-4) then ((-2), (upd z 0 ((z 0) + 1))) else (if q ≤ (-2) then ((z ((s_X3_errorIndex q).toNatClampNeg)), z) else ((-2), (upd z 0 ((z 0) + 1)))))
set_option maxHeartbeats 4000000 in
set_option maxRecDepth 100000 in
theorem c_X3_errorCount (l : Launch) (D : va_G) (cI cS : ClassId) (x : Nat) (sv : Nat) (tl : Nat) (er : Nat) (sc : Int32) (z : Nat → Int32) (a : Nat → Nat) (r : Nat → Int32) (e : Nat → Nat → Int32) (q : Int32) : Ct l yX3_errorCount wsX3_errorCount ({ frames := 2, cells := 0, slots := 0, locals := 41 }) D (tyL cI cS) [.ref x, .int q] ((x, .inr (3, [.ref (a 0), .ref sv, .ref tl, .ref er, .int sc])) :: (er, .inl (cI, 3, .inl z)) :: stW cI a r e ([])) (some (.int ((s_X3_errorCount z q).1))) ((x, .inr (3, [.ref (a 0), .ref sv, .ref tl, .ref er, .int sc])) :: (er, .inl (cI, 3, .inl ((s_X3_errorCount z q).2))) :: stW cI a r e ([])) := by
  refine Ct.of (cc := cX3_errorCount) (maxL := 2) (ret := (some .int)) (by decide) rfl (Nat.le_of_ble_eq_true rfl) ?_
  intro p ev s m args below meth c A ls S hr hlk G hl
  have hx := S.1
  have hb := S.2.1
  have hown : s.vm.findClass RX3 = some m.cls := S.2.2.2.1
  have hts := S.2.2.2.2
  have hl : lv_has ls 2 [(0, .ref x), (1, .int q)] := hl
  have hiX3 : ∀ w ∈ wsX30, w ∈ wsX3_errorCount := by decide +kernel
  have hf29 := hts (.fieldLink RX3 29 "StrikingWork" "errors" "[I") (by decide +kernel)
  refine lv_iload_n hx hb dX3_errorCount_0 rfl (lv_at hl 1 rfl) ?_
  refine lv_bipush (v := (-4)) hx hb dX3_errorCount_1 (by decide) ?_
  refine lv_icmp_lt (tgt := 12) hx hb dX3_errorCount_3 (by decide) (fun c_1 => ?_) (fun c_1 => ?_)
  · skip
    refine lv_aload_n hx hb dX3_errorCount_12 rfl (lv_at hl 0 rfl) ?_
    refine lv_bipush (v := (-2)) hx hb dX3_errorCount_13 (by decide) ?_
    refine k_callV (n := 1) (As := [.int (-2)]) (rest := []) (st1 := [.int (-2)]) (ws1 := ((x, .inr (3, [.ref (a 0), .ref sv, .ref tl, .ref er, .int sc])) :: (er, .inl (cI, 3, .inl (upd z 0 ((z 0) + 1)))) :: stW cI a r e ([]))) S G (c_X3_refuse_2 l D cI cS (a 0) x sv tl er sc z) gX3_errorCount_X3_refuse rfl (by decide +kernel) ⟨⟨rfl, rfl⟩, Nat.le_of_ble_eq_true rfl, Nat.le_of_ble_eq_true rfl⟩ [0, 1] (by decide) rfl [x, er] rfl rfl 0 rfl rfl rfl hl.1 rfl (Nat.le_of_ble_eq_true rfl) ⟨Nat.zero_le _, Nat.zero_le _⟩ dX3_errorCount_15 rfl rfl (fun H locs G => ?_)
    have es : (s_X3_errorCount z q) = ((-2), (upd z 0 ((z 0) + 1))) := by rw [s_X3_errorCount, if_pos c_1]
    exact k_iret S G hr hlk dX3_errorCount_18 (by first | (rw [es]; done) | (rw [es]; rfl) | (simp only [es]; done) | (simp only [es]; rfl)) (by first | (rw [es]; done) | (rw [es]; rfl) | (simp only [es]; done) | (simp only [es]; rfl))
  · skip
    refine lv_iload_n hx hb dX3_errorCount_6 rfl (lv_at hl 1 rfl) ?_
    refine lv_bipush (v := (-2)) hx hb dX3_errorCount_7 (by decide) ?_
    refine lv_icmp_le (tgt := 19) hx hb dX3_errorCount_9 (by decide) (fun c_2 => ?_) (fun c_2 => ?_)
    · skip
      refine lv_aload_n hx hb dX3_errorCount_19 rfl (lv_at hl 0 rfl) ?_
      refine k_get (v := .ref er) S G 0 rfl rfl hiX3 3 (by decide) hf29 rfl dX3_errorCount_20 ?_
      refine lv_iload_n hx hb dX3_errorCount_23 rfl (lv_at hl 1 rfl) ?_
      refine k_callS (n := 1) (As := [.int q]) (rest := [.ref er]) (st1 := [.int (s_X3_errorIndex q), .ref er]) (ws1 := ((x, .inr (3, [.ref (a 0), .ref sv, .ref tl, .ref er, .int sc])) :: (er, .inl (cI, 3, .inl z)) :: stW cI a r e ([]))) S G (c_X3_errorIndex l D cI cS q) gX3_errorCount_X3_errorIndex rfl (by decide +kernel) ⟨⟨rfl, rfl⟩, Nat.le_of_ble_eq_true rfl, Nat.le_of_ble_eq_true rfl⟩ [] (by decide) rfl [] rfl rfl rfl hl.1 rfl (Nat.le_of_ble_eq_true rfl) ⟨Nat.zero_le _, Nat.zero_le _⟩ dX3_errorCount_24 rfl rfl (fun H locs G => ?_)
      refine k_iald (x := (z ((s_X3_errorIndex q).toNatClampNeg))) S G 1 0 rfl rfl (in_err c_1 c_2) rfl dX3_errorCount_27 ?_
      have es : (s_X3_errorCount z q) = ((z ((s_X3_errorIndex q).toNatClampNeg)), z) := by rw [s_X3_errorCount, if_neg c_1, if_pos c_2]
      exact k_iret S G hr hlk dX3_errorCount_28 (by first | (rw [es]; done) | (rw [es]; rfl) | (simp only [es]; done) | (simp only [es]; rfl)) (by first | (rw [es]; done) | (rw [es]; rfl) | (simp only [es]; done) | (simp only [es]; rfl))
    · skip
      refine lv_aload_n hx hb dX3_errorCount_12 rfl (lv_at hl 0 rfl) ?_
      refine lv_bipush (v := (-2)) hx hb dX3_errorCount_13 (by decide) ?_
      refine k_callV (n := 1) (As := [.int (-2)]) (rest := []) (st1 := [.int (-2)]) (ws1 := ((x, .inr (3, [.ref (a 0), .ref sv, .ref tl, .ref er, .int sc])) :: (er, .inl (cI, 3, .inl (upd z 0 ((z 0) + 1)))) :: stW cI a r e ([]))) S G (c_X3_refuse_2 l D cI cS (a 0) x sv tl er sc z) gX3_errorCount_X3_refuse rfl (by decide +kernel) ⟨⟨rfl, rfl⟩, Nat.le_of_ble_eq_true rfl, Nat.le_of_ble_eq_true rfl⟩ [0, 1] (by decide) rfl [x, er] rfl rfl 0 rfl rfl rfl hl.1 rfl (Nat.le_of_ble_eq_true rfl) ⟨Nat.zero_le _, Nat.zero_le _⟩ dX3_errorCount_15 rfl rfl (fun H locs G => ?_)
      have es : (s_X3_errorCount z q) = ((-2), (upd z 0 ((z 0) + 1))) := by rw [s_X3_errorCount, if_neg c_1, if_neg c_2]
      exact k_iret S G hr hlk dX3_errorCount_18 (by first | (rw [es]; done) | (rw [es]; rfl) | (simp only [es]; done) | (simp only [es]; rfl)) (by first | (rw [es]; done) | (rw [es]; rfl) | (simp only [es]; done) | (simp only [es]; rfl))
def s_X3_digest (sc : Int32) (z : Nat → Int32) (r : Nat → Int32) (e : Nat → Nat → Int32) : Int64 := ((31 * (s_X0_addToHash r e ((31 * ((31 * ((31 * 2657) + (z 0).toInt64)) + (z 1).toInt64)) + (z 2).toInt64))) + sc.toInt64)
set_option maxHeartbeats 4000000 in
set_option maxRecDepth 100000 in
theorem c_X3_digest (l : Launch) (D : va_G) (cI cS : ClassId) (x : Nat) (sv : Nat) (tl : Nat) (er : Nat) (sc : Int32) (z : Nat → Int32) (a : Nat → Nat) (r : Nat → Int32) (e : Nat → Nat → Int32) (hcn : cnOk (r 14)) : Ct l yX3_digest wsX3_digest ({ frames := 6, cells := 0, slots := 0, locals := 134 }) D (tyL cI cS) [.ref x] ((x, .inr (3, [.ref (a 0), .ref sv, .ref tl, .ref er, .int sc])) :: (er, .inl (cI, 3, .inl z)) :: stW cI a r e ([])) (some (.long (s_X3_digest sc z r e))) ((x, .inr (3, [.ref (a 0), .ref sv, .ref tl, .ref er, .int sc])) :: (er, .inl (cI, 3, .inl z)) :: stW cI a r e ([])) := by
  refine Ct.of (cc := cX3_digest) (maxL := 4) (ret := (some .long)) (by decide) rfl (Nat.le_of_ble_eq_true rfl) ?_
  intro p ev s m args below meth c A ls S hr hlk G hl
  have hx := S.1
  have hb := S.2.1
  have hown : s.vm.findClass RX3 = some m.cls := S.2.2.2.1
  have hts := S.2.2.2.2
  have hl : lv_has ls 4 [(0, .ref x)] := hl
  have hiX3 : ∀ w ∈ wsX30, w ∈ wsX3_digest := by decide +kernel
  have hf10 := hts (.fieldLink RX3 10 "StrikingWork" "now" "LStrikingWork$State;") (by decide +kernel)
  have hf29 := hts (.fieldLink RX3 29 "StrikingWork" "errors" "[I") (by decide +kernel)
  have hf33 := hts (.fieldLink RX3 33 "StrikingWork" "savedCount" "I") (by decide +kernel)
  have hk160 := hts (.constantLong RX3 160 2657) (by decide +kernel)
  have hk162 := hts (.constantLong RX3 162 31) (by decide +kernel)
  refine lv_ldc2 (v := 2657) hx hb hown hk160 dX3_digest_0 ?_
  refine lv_lstore_n (lv' := [(1, .long 2657), (0, .ref x)]) hx hb dX3_digest_3 rfl hl (by decide) rfl (fun ls hl => ?_)
  refine lv_iconst (v := 0) hx hb dX3_digest_4 (by decide) ?_
  refine lv_istore_n (lv' := [(3, .int 0), (1, .long 2657), (0, .ref x)]) hx hb dX3_digest_5 rfl hl (by decide) rfl (fun ls hl => ?_)
  refine lv_iload_n hx hb dX3_digest_6 rfl (lv_at hl 0 rfl) ?_
  refine lv_iconst (v := 3) hx hb dX3_digest_7 (by decide) ?_
  refine lv_icmp_ge (tgt := 31) hx hb dX3_digest_8 (by decide) (fun c_1 => absurd c_1 (by decide)) (fun c_1 => ?_)
  refine lv_ldc2 (v := 31) hx hb hown hk162 dX3_digest_11 ?_
  refine lv_lload_n hx hb dX3_digest_14 rfl (lv_at hl 1 rfl) ?_
  refine lv_lmul hx hb dX3_digest_15 ?_
  refine lv_aload_n hx hb dX3_digest_16 rfl (lv_at hl 2 rfl) ?_
  refine k_get (v := .ref er) S G 0 rfl rfl hiX3 3 (by decide) hf29 rfl dX3_digest_17 ?_
  refine lv_iload_n hx hb dX3_digest_20 rfl (lv_at hl 0 rfl) ?_
  refine k_iald (x := (z 0)) S G 1 0 rfl rfl (by unfold vp_in; decide) rfl dX3_digest_21 ?_
  refine lv_i2l (v := (z 0).toInt64) hx hb dX3_digest_22 rfl ?_
  refine lv_ladd hx hb dX3_digest_23 ?_
  refine lv_lstore_n (lv' := [(1, .long ((31 * 2657) + (z 0).toInt64)), (3, .int 0), (0, .ref x)]) hx hb dX3_digest_24 rfl hl (by decide) rfl (fun ls hl => ?_)
  refine lv_iinc (v := 1) (lv' := [(3, .int 1), (1, .long ((31 * 2657) + (z 0).toInt64)), (0, .ref x)]) hx hb dX3_digest_25 hl (k := 1) rfl (by decide) (by decide) rfl (fun ls hl => ?_)
  refine lv_goto (tgt := 6) hx hb dX3_digest_28 (by decide) ?_
  refine lv_iload_n hx hb dX3_digest_6 rfl (lv_at hl 0 rfl) ?_
  refine lv_iconst (v := 3) hx hb dX3_digest_7 (by decide) ?_
  refine lv_icmp_ge (tgt := 31) hx hb dX3_digest_8 (by decide) (fun c_2 => absurd c_2 (by decide)) (fun c_2 => ?_)
  refine lv_ldc2 (v := 31) hx hb hown hk162 dX3_digest_11 ?_
  refine lv_lload_n hx hb dX3_digest_14 rfl (lv_at hl 1 rfl) ?_
  refine lv_lmul hx hb dX3_digest_15 ?_
  refine lv_aload_n hx hb dX3_digest_16 rfl (lv_at hl 2 rfl) ?_
  refine k_get (v := .ref er) S G 0 rfl rfl hiX3 3 (by decide) hf29 rfl dX3_digest_17 ?_
  refine lv_iload_n hx hb dX3_digest_20 rfl (lv_at hl 0 rfl) ?_
  refine k_iald (x := (z 1)) S G 1 0 rfl rfl (by unfold vp_in; decide) rfl dX3_digest_21 ?_
  refine lv_i2l (v := (z 1).toInt64) hx hb dX3_digest_22 rfl ?_
  refine lv_ladd hx hb dX3_digest_23 ?_
  refine lv_lstore_n (lv' := [(1, .long ((31 * ((31 * 2657) + (z 0).toInt64)) + (z 1).toInt64)), (3, .int 1), (0, .ref x)]) hx hb dX3_digest_24 rfl hl (by decide) rfl (fun ls hl => ?_)
  refine lv_iinc (v := 2) (lv' := [(3, .int 2), (1, .long ((31 * ((31 * 2657) + (z 0).toInt64)) + (z 1).toInt64)), (0, .ref x)]) hx hb dX3_digest_25 hl (k := 1) rfl (by decide) (by decide) rfl (fun ls hl => ?_)
  refine lv_goto (tgt := 6) hx hb dX3_digest_28 (by decide) ?_
  refine lv_iload_n hx hb dX3_digest_6 rfl (lv_at hl 0 rfl) ?_
  refine lv_iconst (v := 3) hx hb dX3_digest_7 (by decide) ?_
  refine lv_icmp_ge (tgt := 31) hx hb dX3_digest_8 (by decide) (fun c_3 => absurd c_3 (by decide)) (fun c_3 => ?_)
  refine lv_ldc2 (v := 31) hx hb hown hk162 dX3_digest_11 ?_
  refine lv_lload_n hx hb dX3_digest_14 rfl (lv_at hl 1 rfl) ?_
  refine lv_lmul hx hb dX3_digest_15 ?_
  refine lv_aload_n hx hb dX3_digest_16 rfl (lv_at hl 2 rfl) ?_
  refine k_get (v := .ref er) S G 0 rfl rfl hiX3 3 (by decide) hf29 rfl dX3_digest_17 ?_
  refine lv_iload_n hx hb dX3_digest_20 rfl (lv_at hl 0 rfl) ?_
  refine k_iald (x := (z 2)) S G 1 0 rfl rfl (by unfold vp_in; decide) rfl dX3_digest_21 ?_
  refine lv_i2l (v := (z 2).toInt64) hx hb dX3_digest_22 rfl ?_
  refine lv_ladd hx hb dX3_digest_23 ?_
  refine lv_lstore_n (lv' := [(1, .long ((31 * ((31 * ((31 * 2657) + (z 0).toInt64)) + (z 1).toInt64)) + (z 2).toInt64)), (3, .int 2), (0, .ref x)]) hx hb dX3_digest_24 rfl hl (by decide) rfl (fun ls hl => ?_)
  refine lv_iinc (v := 3) (lv' := [(3, .int 3), (1, .long ((31 * ((31 * ((31 * 2657) + (z 0).toInt64)) + (z 1).toInt64)) + (z 2).toInt64)), (0, .ref x)]) hx hb dX3_digest_25 hl (k := 1) rfl (by decide) (by decide) rfl (fun ls hl => ?_)
  refine lv_goto (tgt := 6) hx hb dX3_digest_28 (by decide) ?_
  refine lv_iload_n hx hb dX3_digest_6 rfl (lv_at hl 0 rfl) ?_
  refine lv_iconst (v := 3) hx hb dX3_digest_7 (by decide) ?_
  refine lv_icmp_ge (tgt := 31) hx hb dX3_digest_8 (by decide) (fun c_4 => ?_) (fun c_4 => absurd c_4 (by decide))
  refine lv_aload_n hx hb dX3_digest_31 rfl (lv_at hl 2 rfl) ?_
  refine k_get (v := .ref (a 0)) S G 0 rfl rfl hiX3 0 (by decide) hf10 rfl dX3_digest_32 ?_
  refine lv_lload_n hx hb dX3_digest_35 rfl (lv_at hl 1 rfl) ?_
  refine k_callV (n := 1) (As := [.long ((31 * ((31 * ((31 * 2657) + (z 0).toInt64)) + (z 1).toInt64)) + (z 2).toInt64)]) (rest := []) (st1 := [.long (s_X0_addToHash r e ((31 * ((31 * ((31 * 2657) + (z 0).toInt64)) + (z 1).toInt64)) + (z 2).toInt64))]) (ws1 := ((x, .inr (3, [.ref (a 0), .ref sv, .ref tl, .ref er, .int sc])) :: (er, .inl (cI, 3, .inl z)) :: stW cI a r e ([]))) S G (c_X0_addToHash l D cI cS a r e ((31 * ((31 * ((31 * 2657) + (z 0).toInt64)) + (z 1).toInt64)) + (z 2).toInt64) hcn) gX3_digest_X0_addToHash rfl (by decide +kernel) ⟨⟨rfl, rfl⟩, Nat.le_of_ble_eq_true rfl, Nat.le_of_ble_eq_true rfl⟩ [2, 3, 4, 5, 6, 7, 8] (by decide) rfl [(a 0), (a 1), (a 2), (a 3), (a 4), (a 5), (a 6)] rfl rfl 2 rfl rfl rfl hl.1 rfl (Nat.le_of_ble_eq_true rfl) ⟨Nat.zero_le _, Nat.zero_le _⟩ dX3_digest_36 rfl rfl (fun H locs G => ?_)
  refine lv_lstore_n (lv' := [(1, .long (s_X0_addToHash r e ((31 * ((31 * ((31 * 2657) + (z 0).toInt64)) + (z 1).toInt64)) + (z 2).toInt64))), (3, .int 3), (0, .ref x)]) hx hb dX3_digest_39 rfl hl (by decide) rfl (fun ls hl => ?_)
  refine lv_ldc2 (v := 31) hx hb hown hk162 dX3_digest_40 ?_
  refine lv_lload_n hx hb dX3_digest_43 rfl (lv_at hl 0 rfl) ?_
  refine lv_lmul hx hb dX3_digest_44 ?_
  refine lv_aload_n hx hb dX3_digest_45 rfl (lv_at hl 2 rfl) ?_
  refine k_get (v := .int sc) S G 0 rfl rfl hiX3 4 (by decide) hf33 rfl dX3_digest_46 ?_
  refine lv_i2l (v := sc.toInt64) hx hb dX3_digest_49 rfl ?_
  refine lv_ladd hx hb dX3_digest_50 ?_
  have es : (s_X3_digest sc z r e) = ((31 * (s_X0_addToHash r e ((31 * ((31 * ((31 * 2657) + (z 0).toInt64)) + (z 1).toInt64)) + (z 2).toInt64))) + sc.toInt64) := rfl
  exact k_lret S G hr hlk dX3_digest_51 (by first | (rw [es]; done) | (rw [es]; rfl) | (simp only [es]; done) | (simp only [es]; rfl)) rfl
def s_X3_release_h (r : Nat → Int32) (e : Nat → Nat → Int32) (du : Int32) (lf : Int32) : Int32 × (Nat → Int32) × (Nat → Nat → Int32) := (if (s_X2_releaseWith 0 (r 4) (r 5) (r 6) (r 8) du).1 = 0 then (0, (upd (upd (upd r 5 (s_X2_releaseWith 0 (r 4) (r 5) (r 6) (r 8) du).2.1) 6 (s_X2_releaseWith 0 (r 4) (r 5) (r 6) (r 8) du).2.2.1) 8 (s_X2_releaseWith 0 (r 4) (r 5) (r 6) (r 8) du).2.2.2), e) else (if lf = 0 then ((s_X2_releaseWith 0 (r 4) (r 5) (r 6) (r 8) du).1, (upd (upd (upd (upd (upd r 5 (s_X2_releaseWith 0 (r 4) (r 5) (r 6) (r 8) du).2.1) 6 (s_X2_releaseWith 0 (r 4) (r 5) (r 6) (r 8) du).2.2.1) 7 ((r 7) + (s_X2_releaseWith 0 (r 4) (r 5) (r 6) (r 8) du).1)) 8 (s_X2_releaseWith 0 (r 4) (r 5) (r 6) (r 8) du).2.2.2) 14 (if 6 < ((r 14) + 1) then 6 else ((r 14) + 1))), (e3 (shf (r 0) (e 0)) (shf 0 (e 1)) (shf (s_X2_releaseWith 0 (r 4) (r 5) (r 6) (r 8) du).1 (e 2)))) else (0, (upd (upd (upd (upd r 5 (s_X2_releaseWith 0 (r 4) (r 5) (r 6) (r 8) du).2.1) 6 (s_X2_releaseWith 0 (r 4) (r 5) (r 6) (r 8) du).2.2.1) 8 (s_X2_releaseWith 0 (r 4) (r 5) (r 6) (r 8) du).2.2.2) 14 (if 6 < ((r 14) + 1) then 6 else ((r 14) + 1))), (e3 (shf (r 0) (e 0)) (shf 0 (e 1)) (shf (-(s_X2_releaseWith 0 (r 4) (r 5) (r 6) (r 8) du).1) (e 2))))))
set_option maxHeartbeats 4000000 in
set_option maxRecDepth 100000 in
theorem c_X3_release_h (l : Launch) (D : va_G) (cI cS : ClassId) (x : Nat) (sv : Nat) (tl : Nat) (er : Nat) (sc : Int32) (z : Nat → Int32) (a : Nat → Nat) (r : Nat → Int32) (e : Nat → Nat → Int32) (du : Int32) (lf : Int32) : Ct l yX3_release wsX3_release ({ frames := 3, cells := 0, slots := 0, locals := 64 }) D (tyL cI cS) [.ref x, .ref (a 1), .int du, .int lf] ((x, .inr (3, [.ref (a 0), .ref sv, .ref tl, .ref er, .int sc])) :: (er, .inl (cI, 3, .inl z)) :: stW cI a r e ([])) (some (.int ((s_X3_release_h r e du lf).1))) ((x, .inr (3, [.ref (a 0), .ref sv, .ref tl, .ref er, .int sc])) :: (er, .inl (cI, 3, .inl z)) :: stW cI a ((s_X3_release_h r e du lf).2.1) ((s_X3_release_h r e du lf).2.2) ([])) := by
  refine Ct.of (cc := cX3_release) (maxL := 5) (ret := (some .int)) (by decide) rfl (Nat.le_of_ble_eq_true rfl) ?_
  intro p ev s m args below meth c A ls S hr hlk G hl
  have hx := S.1
  have hb := S.2.1
  have hown : s.vm.findClass RX3 = some m.cls := S.2.2.2.1
  have hts := S.2.2.2.2
  have hl : lv_has ls 5 [(0, .ref x), (1, .ref (a 1)), (2, .int du), (3, .int lf)] := hl
  have hiX0 : ∀ w ∈ wsX00, w ∈ wsX3_release := by decide +kernel
  have hiX2 : ∀ w ∈ wsX20, w ∈ wsX3_release := by decide +kernel
  have hiX3 : ∀ w ∈ wsX30, w ∈ wsX3_release := by decide +kernel
  have hf10 := hts (.fieldLink RX3 10 "StrikingWork" "now" "LStrikingWork$State;") (by decide +kernel)
  have hf83 := hts (.fieldLink RX3 83 "StrikingWork$State" "minute" "I") (by decide +kernel)
  have hf130 := hts (.fieldLink RX3 130 "StrikingWork$Train" "sounded" "I") (by decide +kernel)
  have hf136 := hts (.fieldLink RX3 136 "StrikingWork$State" "strikes" "LStrikingWork$Strikes;") (by decide +kernel)
  have hf177 := hts (.fieldLink RX3 177 "StrikingWork$Train" "number" "I") (by decide +kernel)
  refine lv_aload_n hx hb dX3_release_0 rfl (lv_at hl 1 rfl) ?_
  refine lv_iload_n hx hb dX3_release_1 rfl (lv_at hl 2 rfl) ?_
  refine k_callV (n := 1) (As := [.int du]) (rest := []) (st1 := [.int ((s_X2_releaseWith 0 (r 4) (r 5) (r 6) (r 8) du).1)]) (ws1 := ((x, .inr (3, [.ref (a 0), .ref sv, .ref tl, .ref er, .int sc])) :: (er, .inl (cI, 3, .inl z)) :: stW cI a (upd (upd (upd r 5 ((s_X2_releaseWith 0 (r 4) (r 5) (r 6) (r 8) du).2.1)) 6 ((s_X2_releaseWith 0 (r 4) (r 5) (r 6) (r 8) du).2.2.1)) 8 ((s_X2_releaseWith 0 (r 4) (r 5) (r 6) (r 8) du).2.2.2)) e ([]))) S G (c_X2_releaseWith l D cI cS (a 1) 0 (r 4) (r 5) (r 6) (r 7) (r 8) du) gX3_release_X2_releaseWith rfl (by decide +kernel) ⟨⟨rfl, rfl⟩, Nat.le_of_ble_eq_true rfl, Nat.le_of_ble_eq_true rfl⟩ [3] (by decide) rfl [(a 1)] rfl rfl 3 rfl rfl rfl hl.1 rfl (Nat.le_of_ble_eq_true rfl) ⟨Nat.zero_le _, Nat.zero_le _⟩ dX3_release_2 rfl rfl (fun H locs G => ?_)
  generalize hu1 : (s_X2_releaseWith 0 (r 4) (r 5) (r 6) (r 8) du) = u1 at G ⊢
  refine lv_istore (lv' := [(4, .int u1.1), (0, .ref x), (1, .ref (a 1)), (2, .int du), (3, .int lf)]) hx hb dX3_release_5 hl (by decide) rfl (fun ls hl => ?_)
  refine lv_iload hx hb dX3_release_7 (lv_at hl 0 rfl) ?_
  refine lv_if_ne (tgt := 14) hx hb dX3_release_9 (by decide) (fun c_1 => ?_) (fun c_1 => ?_)
  · skip
    refine lv_aload_n hx hb dX3_release_14 rfl (lv_at hl 1 rfl) ?_
    refine k_get (v := .ref (a 0)) S G 0 rfl rfl hiX3 0 (by decide) hf10 rfl dX3_release_15 ?_
    refine k_get (v := .ref (a 3)) S G 2 rfl rfl hiX0 2 (by decide) hf136 rfl dX3_release_18 ?_
    refine lv_aload_n hx hb dX3_release_21 rfl (lv_at hl 1 rfl) ?_
    refine k_get (v := .ref (a 0)) S G 0 rfl rfl hiX3 0 (by decide) hf10 rfl dX3_release_22 ?_
    refine k_get (v := .int (r 0)) S G 2 rfl rfl hiX0 3 (by decide) hf83 rfl dX3_release_25 ?_
    refine lv_aload_n hx hb dX3_release_28 rfl (lv_at hl 2 rfl) ?_
    refine k_get (v := .int 0) S G 3 rfl rfl hiX2 0 (by decide) hf177 rfl dX3_release_29 ?_
    refine lv_iload_n hx hb dX3_release_32 rfl (lv_at hl 4 rfl) ?_
    refine lv_if_eq (tgt := 42) hx hb dX3_release_33 (by decide) (fun c_2 => ?_) (fun c_2 => ?_)
    · skip
      refine lv_iload hx hb dX3_release_42 (lv_at hl 0 rfl) ?_
      refine k_callV (n := 3) (As := [.int (r 0), .int 0, .int u1.1]) (rest := []) (st1 := []) (ws1 := ((x, .inr (3, [.ref (a 0), .ref sv, .ref tl, .ref er, .int sc])) :: (er, .inl (cI, 3, .inl z)) :: stW cI a (upd (upd (upd (upd r 5 u1.2.1) 6 u1.2.2.1) 8 u1.2.2.2) 14 (if 6 < ((r 14) + 1) then 6 else ((r 14) + 1))) (e3 (shf (r 0) (e 0)) (shf 0 (e 1)) (shf u1.1 (e 2))) ([]))) S G (c_X1_put l D cI cS (a 3) (a 4) (a 5) (a 6) (r 14) (e 0) (e 1) (e 2) (r 0) 0 u1.1) gX3_release_X1_put rfl (by decide +kernel) ⟨⟨rfl, rfl⟩, Nat.le_of_ble_eq_true rfl, Nat.le_of_ble_eq_true rfl⟩ [5, 6, 7, 8] (by decide) rfl [(a 3), (a 4), (a 5), (a 6)] rfl rfl 5 rfl rfl rfl hl.1 rfl (Nat.le_of_ble_eq_true rfl) ⟨Nat.zero_le _, Nat.zero_le _⟩ dX3_release_44 rfl rfl (fun H locs G => ?_)
      refine lv_iload_n hx hb dX3_release_47 rfl (lv_at hl 4 rfl) ?_
      refine lv_if_eq (tgt := 53) hx hb dX3_release_48 (by decide) (fun c_3 => ?_) (fun c_3 => absurd c_2 c_3)
      refine lv_aload_n hx hb dX3_release_53 rfl (lv_at hl 2 rfl) ?_
      refine lv_dup hx hb dX3_release_54 rfl ?_
      refine k_get (v := .int (r 7)) S G 3 rfl rfl hiX2 4 (by decide) hf130 rfl dX3_release_55 ?_
      refine lv_iload hx hb dX3_release_58 (lv_at hl 0 rfl) ?_
      refine lv_iadd hx hb dX3_release_60 ?_
      refine k_put (ws1 := ((x, .inr (3, [.ref (a 0), .ref sv, .ref tl, .ref er, .int sc])) :: (er, .inl (cI, 3, .inl z)) :: stW cI a (upd (upd (upd (upd (upd r 5 u1.2.1) 6 u1.2.2.1) 7 ((r 7) + u1.1)) 8 u1.2.2.2) 14 (if 6 < ((r 14) + 1) then 6 else ((r 14) + 1))) (e3 (shf (r 0) (e 0)) (shf 0 (e 1)) (shf u1.1 (e 2))) ([]))) S G 3 rfl rfl hiX2 tyX2 tyX2_ok nmX2 4 (by decide) hf130 rfl rfl rfl (Nat.le_of_ble_eq_true rfl) dX3_release_61 rfl (fun H locs G => ?_)
      refine lv_iload hx hb dX3_release_64 (lv_at hl 0 rfl) ?_
      have es : (s_X3_release_h r e du lf) = (u1.1, (upd (upd (upd (upd (upd r 5 u1.2.1) 6 u1.2.2.1) 7 ((r 7) + u1.1)) 8 u1.2.2.2) 14 (if 6 < ((r 14) + 1) then 6 else ((r 14) + 1))), (e3 (shf (r 0) (e 0)) (shf 0 (e 1)) (shf u1.1 (e 2)))) := by rw [s_X3_release_h, hu1, if_neg c_1, if_pos c_2]
      exact k_iret S G hr hlk dX3_release_66 (by first | (rw [es]; done) | (rw [es]; rfl) | (simp only [es]; done) | (simp only [es]; rfl)) (by first | (rw [es]; done) | (rw [es]; rfl) | (simp only [es]; done) | (simp only [es]; rfl))
    · skip
      refine lv_iload hx hb dX3_release_36 (lv_at hl 0 rfl) ?_
      refine lv_ineg hx hb dX3_release_38 ?_
      refine lv_goto (tgt := 44) hx hb dX3_release_39 (by decide) ?_
      refine k_callV (n := 3) (As := [.int (r 0), .int 0, .int (-u1.1)]) (rest := []) (st1 := []) (ws1 := ((x, .inr (3, [.ref (a 0), .ref sv, .ref tl, .ref er, .int sc])) :: (er, .inl (cI, 3, .inl z)) :: stW cI a (upd (upd (upd (upd r 5 u1.2.1) 6 u1.2.2.1) 8 u1.2.2.2) 14 (if 6 < ((r 14) + 1) then 6 else ((r 14) + 1))) (e3 (shf (r 0) (e 0)) (shf 0 (e 1)) (shf (-u1.1) (e 2))) ([]))) S G (c_X1_put l D cI cS (a 3) (a 4) (a 5) (a 6) (r 14) (e 0) (e 1) (e 2) (r 0) 0 (-u1.1)) gX3_release_X1_put rfl (by decide +kernel) ⟨⟨rfl, rfl⟩, Nat.le_of_ble_eq_true rfl, Nat.le_of_ble_eq_true rfl⟩ [5, 6, 7, 8] (by decide) rfl [(a 3), (a 4), (a 5), (a 6)] rfl rfl 5 rfl rfl rfl hl.1 rfl (Nat.le_of_ble_eq_true rfl) ⟨Nat.zero_le _, Nat.zero_le _⟩ dX3_release_44 rfl rfl (fun H locs G => ?_)
      refine lv_iload_n hx hb dX3_release_47 rfl (lv_at hl 4 rfl) ?_
      refine lv_if_eq (tgt := 53) hx hb dX3_release_48 (by decide) (fun c_4 => absurd c_4 c_2) (fun c_4 => ?_)
      refine lv_iconst (v := 0) hx hb dX3_release_51 (by decide) ?_
      have es : (s_X3_release_h r e du lf) = (0, (upd (upd (upd (upd r 5 u1.2.1) 6 u1.2.2.1) 8 u1.2.2.2) 14 (if 6 < ((r 14) + 1) then 6 else ((r 14) + 1))), (e3 (shf (r 0) (e 0)) (shf 0 (e 1)) (shf (-u1.1) (e 2)))) := by rw [s_X3_release_h, hu1, if_neg c_1, if_neg c_2]
      exact k_iret S G hr hlk dX3_release_52 (by first | (rw [es]; done) | (rw [es]; rfl) | (simp only [es]; done) | (simp only [es]; rfl)) (by first | (rw [es]; done) | (rw [es]; rfl) | (simp only [es]; done) | (simp only [es]; rfl))
  · skip
    refine lv_iconst (v := 0) hx hb dX3_release_12 (by decide) ?_
    have es : (s_X3_release_h r e du lf) = (0, (upd (upd (upd r 5 u1.2.1) 6 u1.2.2.1) 8 u1.2.2.2), e) := by rw [s_X3_release_h, hu1, if_pos c_1]
    exact k_iret S G hr hlk dX3_release_13 (by first | (rw [es]; done) | (rw [es]; rfl) | (simp only [es]; done) | (simp only [es]; rfl)) (by first | (rw [es]; done) | (rw [es]; rfl) | (simp only [es]; done) | (simp only [es]; rfl))
def s_X3_release_q (r : Nat → Int32) (e : Nat → Nat → Int32) (du : Int32) (lf : Int32) : Int32 × (Nat → Int32) × (Nat → Nat → Int32) := (if (s_X2_releaseWith 1 (r 9) (r 10) (r 11) (r 13) du).1 = 0 then (0, (upd (upd (upd r 10 (s_X2_releaseWith 1 (r 9) (r 10) (r 11) (r 13) du).2.1) 11 (s_X2_releaseWith 1 (r 9) (r 10) (r 11) (r 13) du).2.2.1) 13 (s_X2_releaseWith 1 (r 9) (r 10) (r 11) (r 13) du).2.2.2), e) else (if lf = 0 then ((s_X2_releaseWith 1 (r 9) (r 10) (r 11) (r 13) du).1, (upd (upd (upd (upd (upd r 10 (s_X2_releaseWith 1 (r 9) (r 10) (r 11) (r 13) du).2.1) 11 (s_X2_releaseWith 1 (r 9) (r 10) (r 11) (r 13) du).2.2.1) 12 ((r 12) + (s_X2_releaseWith 1 (r 9) (r 10) (r 11) (r 13) du).1)) 13 (s_X2_releaseWith 1 (r 9) (r 10) (r 11) (r 13) du).2.2.2) 14 (if 6 < ((r 14) + 1) then 6 else ((r 14) + 1))), (e3 (shf (r 0) (e 0)) (shf 1 (e 1)) (shf (s_X2_releaseWith 1 (r 9) (r 10) (r 11) (r 13) du).1 (e 2)))) else (0, (upd (upd (upd (upd r 10 (s_X2_releaseWith 1 (r 9) (r 10) (r 11) (r 13) du).2.1) 11 (s_X2_releaseWith 1 (r 9) (r 10) (r 11) (r 13) du).2.2.1) 13 (s_X2_releaseWith 1 (r 9) (r 10) (r 11) (r 13) du).2.2.2) 14 (if 6 < ((r 14) + 1) then 6 else ((r 14) + 1))), (e3 (shf (r 0) (e 0)) (shf 1 (e 1)) (shf (-(s_X2_releaseWith 1 (r 9) (r 10) (r 11) (r 13) du).1) (e 2))))))
set_option maxHeartbeats 4000000 in
set_option maxRecDepth 100000 in
theorem c_X3_release_q (l : Launch) (D : va_G) (cI cS : ClassId) (x : Nat) (sv : Nat) (tl : Nat) (er : Nat) (sc : Int32) (z : Nat → Int32) (a : Nat → Nat) (r : Nat → Int32) (e : Nat → Nat → Int32) (du : Int32) (lf : Int32) : Ct l yX3_release wsX3_release ({ frames := 3, cells := 0, slots := 0, locals := 64 }) D (tyL cI cS) [.ref x, .ref (a 2), .int du, .int lf] ((x, .inr (3, [.ref (a 0), .ref sv, .ref tl, .ref er, .int sc])) :: (er, .inl (cI, 3, .inl z)) :: stW cI a r e ([])) (some (.int ((s_X3_release_q r e du lf).1))) ((x, .inr (3, [.ref (a 0), .ref sv, .ref tl, .ref er, .int sc])) :: (er, .inl (cI, 3, .inl z)) :: stW cI a ((s_X3_release_q r e du lf).2.1) ((s_X3_release_q r e du lf).2.2) ([])) := by
  refine Ct.of (cc := cX3_release) (maxL := 5) (ret := (some .int)) (by decide) rfl (Nat.le_of_ble_eq_true rfl) ?_
  intro p ev s m args below meth c A ls S hr hlk G hl
  have hx := S.1
  have hb := S.2.1
  have hown : s.vm.findClass RX3 = some m.cls := S.2.2.2.1
  have hts := S.2.2.2.2
  have hl : lv_has ls 5 [(0, .ref x), (1, .ref (a 2)), (2, .int du), (3, .int lf)] := hl
  have hiX0 : ∀ w ∈ wsX00, w ∈ wsX3_release := by decide +kernel
  have hiX2 : ∀ w ∈ wsX20, w ∈ wsX3_release := by decide +kernel
  have hiX3 : ∀ w ∈ wsX30, w ∈ wsX3_release := by decide +kernel
  have hf10 := hts (.fieldLink RX3 10 "StrikingWork" "now" "LStrikingWork$State;") (by decide +kernel)
  have hf83 := hts (.fieldLink RX3 83 "StrikingWork$State" "minute" "I") (by decide +kernel)
  have hf130 := hts (.fieldLink RX3 130 "StrikingWork$Train" "sounded" "I") (by decide +kernel)
  have hf136 := hts (.fieldLink RX3 136 "StrikingWork$State" "strikes" "LStrikingWork$Strikes;") (by decide +kernel)
  have hf177 := hts (.fieldLink RX3 177 "StrikingWork$Train" "number" "I") (by decide +kernel)
  refine lv_aload_n hx hb dX3_release_0 rfl (lv_at hl 1 rfl) ?_
  refine lv_iload_n hx hb dX3_release_1 rfl (lv_at hl 2 rfl) ?_
  refine k_callV (n := 1) (As := [.int du]) (rest := []) (st1 := [.int ((s_X2_releaseWith 1 (r 9) (r 10) (r 11) (r 13) du).1)]) (ws1 := ((x, .inr (3, [.ref (a 0), .ref sv, .ref tl, .ref er, .int sc])) :: (er, .inl (cI, 3, .inl z)) :: stW cI a (upd (upd (upd r 10 ((s_X2_releaseWith 1 (r 9) (r 10) (r 11) (r 13) du).2.1)) 11 ((s_X2_releaseWith 1 (r 9) (r 10) (r 11) (r 13) du).2.2.1)) 13 ((s_X2_releaseWith 1 (r 9) (r 10) (r 11) (r 13) du).2.2.2)) e ([]))) S G (c_X2_releaseWith l D cI cS (a 2) 1 (r 9) (r 10) (r 11) (r 12) (r 13) du) gX3_release_X2_releaseWith rfl (by decide +kernel) ⟨⟨rfl, rfl⟩, Nat.le_of_ble_eq_true rfl, Nat.le_of_ble_eq_true rfl⟩ [4] (by decide) rfl [(a 2)] rfl rfl 4 rfl rfl rfl hl.1 rfl (Nat.le_of_ble_eq_true rfl) ⟨Nat.zero_le _, Nat.zero_le _⟩ dX3_release_2 rfl rfl (fun H locs G => ?_)
  generalize hu1 : (s_X2_releaseWith 1 (r 9) (r 10) (r 11) (r 13) du) = u1 at G ⊢
  refine lv_istore (lv' := [(4, .int u1.1), (0, .ref x), (1, .ref (a 2)), (2, .int du), (3, .int lf)]) hx hb dX3_release_5 hl (by decide) rfl (fun ls hl => ?_)
  refine lv_iload hx hb dX3_release_7 (lv_at hl 0 rfl) ?_
  refine lv_if_ne (tgt := 14) hx hb dX3_release_9 (by decide) (fun c_1 => ?_) (fun c_1 => ?_)
  · skip
    refine lv_aload_n hx hb dX3_release_14 rfl (lv_at hl 1 rfl) ?_
    refine k_get (v := .ref (a 0)) S G 0 rfl rfl hiX3 0 (by decide) hf10 rfl dX3_release_15 ?_
    refine k_get (v := .ref (a 3)) S G 2 rfl rfl hiX0 2 (by decide) hf136 rfl dX3_release_18 ?_
    refine lv_aload_n hx hb dX3_release_21 rfl (lv_at hl 1 rfl) ?_
    refine k_get (v := .ref (a 0)) S G 0 rfl rfl hiX3 0 (by decide) hf10 rfl dX3_release_22 ?_
    refine k_get (v := .int (r 0)) S G 2 rfl rfl hiX0 3 (by decide) hf83 rfl dX3_release_25 ?_
    refine lv_aload_n hx hb dX3_release_28 rfl (lv_at hl 2 rfl) ?_
    refine k_get (v := .int 1) S G 4 rfl rfl hiX2 0 (by decide) hf177 rfl dX3_release_29 ?_
    refine lv_iload_n hx hb dX3_release_32 rfl (lv_at hl 4 rfl) ?_
    refine lv_if_eq (tgt := 42) hx hb dX3_release_33 (by decide) (fun c_2 => ?_) (fun c_2 => ?_)
    · skip
      refine lv_iload hx hb dX3_release_42 (lv_at hl 0 rfl) ?_
      refine k_callV (n := 3) (As := [.int (r 0), .int 1, .int u1.1]) (rest := []) (st1 := []) (ws1 := ((x, .inr (3, [.ref (a 0), .ref sv, .ref tl, .ref er, .int sc])) :: (er, .inl (cI, 3, .inl z)) :: stW cI a (upd (upd (upd (upd r 10 u1.2.1) 11 u1.2.2.1) 13 u1.2.2.2) 14 (if 6 < ((r 14) + 1) then 6 else ((r 14) + 1))) (e3 (shf (r 0) (e 0)) (shf 1 (e 1)) (shf u1.1 (e 2))) ([]))) S G (c_X1_put l D cI cS (a 3) (a 4) (a 5) (a 6) (r 14) (e 0) (e 1) (e 2) (r 0) 1 u1.1) gX3_release_X1_put rfl (by decide +kernel) ⟨⟨rfl, rfl⟩, Nat.le_of_ble_eq_true rfl, Nat.le_of_ble_eq_true rfl⟩ [5, 6, 7, 8] (by decide) rfl [(a 3), (a 4), (a 5), (a 6)] rfl rfl 5 rfl rfl rfl hl.1 rfl (Nat.le_of_ble_eq_true rfl) ⟨Nat.zero_le _, Nat.zero_le _⟩ dX3_release_44 rfl rfl (fun H locs G => ?_)
      refine lv_iload_n hx hb dX3_release_47 rfl (lv_at hl 4 rfl) ?_
      refine lv_if_eq (tgt := 53) hx hb dX3_release_48 (by decide) (fun c_3 => ?_) (fun c_3 => absurd c_2 c_3)
      refine lv_aload_n hx hb dX3_release_53 rfl (lv_at hl 2 rfl) ?_
      refine lv_dup hx hb dX3_release_54 rfl ?_
      refine k_get (v := .int (r 12)) S G 4 rfl rfl hiX2 4 (by decide) hf130 rfl dX3_release_55 ?_
      refine lv_iload hx hb dX3_release_58 (lv_at hl 0 rfl) ?_
      refine lv_iadd hx hb dX3_release_60 ?_
      refine k_put (ws1 := ((x, .inr (3, [.ref (a 0), .ref sv, .ref tl, .ref er, .int sc])) :: (er, .inl (cI, 3, .inl z)) :: stW cI a (upd (upd (upd (upd (upd r 10 u1.2.1) 11 u1.2.2.1) 12 ((r 12) + u1.1)) 13 u1.2.2.2) 14 (if 6 < ((r 14) + 1) then 6 else ((r 14) + 1))) (e3 (shf (r 0) (e 0)) (shf 1 (e 1)) (shf u1.1 (e 2))) ([]))) S G 4 rfl rfl hiX2 tyX2 tyX2_ok nmX2 4 (by decide) hf130 rfl rfl rfl (Nat.le_of_ble_eq_true rfl) dX3_release_61 rfl (fun H locs G => ?_)
      refine lv_iload hx hb dX3_release_64 (lv_at hl 0 rfl) ?_
      have es : (s_X3_release_q r e du lf) = (u1.1, (upd (upd (upd (upd (upd r 10 u1.2.1) 11 u1.2.2.1) 12 ((r 12) + u1.1)) 13 u1.2.2.2) 14 (if 6 < ((r 14) + 1) then 6 else ((r 14) + 1))), (e3 (shf (r 0) (e 0)) (shf 1 (e 1)) (shf u1.1 (e 2)))) := by rw [s_X3_release_q, hu1, if_neg c_1, if_pos c_2]
      exact k_iret S G hr hlk dX3_release_66 (by first | (rw [es]; done) | (rw [es]; rfl) | (simp only [es]; done) | (simp only [es]; rfl)) (by first | (rw [es]; done) | (rw [es]; rfl) | (simp only [es]; done) | (simp only [es]; rfl))
    · skip
      refine lv_iload hx hb dX3_release_36 (lv_at hl 0 rfl) ?_
      refine lv_ineg hx hb dX3_release_38 ?_
      refine lv_goto (tgt := 44) hx hb dX3_release_39 (by decide) ?_
      refine k_callV (n := 3) (As := [.int (r 0), .int 1, .int (-u1.1)]) (rest := []) (st1 := []) (ws1 := ((x, .inr (3, [.ref (a 0), .ref sv, .ref tl, .ref er, .int sc])) :: (er, .inl (cI, 3, .inl z)) :: stW cI a (upd (upd (upd (upd r 10 u1.2.1) 11 u1.2.2.1) 13 u1.2.2.2) 14 (if 6 < ((r 14) + 1) then 6 else ((r 14) + 1))) (e3 (shf (r 0) (e 0)) (shf 1 (e 1)) (shf (-u1.1) (e 2))) ([]))) S G (c_X1_put l D cI cS (a 3) (a 4) (a 5) (a 6) (r 14) (e 0) (e 1) (e 2) (r 0) 1 (-u1.1)) gX3_release_X1_put rfl (by decide +kernel) ⟨⟨rfl, rfl⟩, Nat.le_of_ble_eq_true rfl, Nat.le_of_ble_eq_true rfl⟩ [5, 6, 7, 8] (by decide) rfl [(a 3), (a 4), (a 5), (a 6)] rfl rfl 5 rfl rfl rfl hl.1 rfl (Nat.le_of_ble_eq_true rfl) ⟨Nat.zero_le _, Nat.zero_le _⟩ dX3_release_44 rfl rfl (fun H locs G => ?_)
      refine lv_iload_n hx hb dX3_release_47 rfl (lv_at hl 4 rfl) ?_
      refine lv_if_eq (tgt := 53) hx hb dX3_release_48 (by decide) (fun c_4 => absurd c_4 c_2) (fun c_4 => ?_)
      refine lv_iconst (v := 0) hx hb dX3_release_51 (by decide) ?_
      have es : (s_X3_release_q r e du lf) = (0, (upd (upd (upd (upd r 10 u1.2.1) 11 u1.2.2.1) 13 u1.2.2.2) 14 (if 6 < ((r 14) + 1) then 6 else ((r 14) + 1))), (e3 (shf (r 0) (e 0)) (shf 1 (e 1)) (shf (-u1.1) (e 2)))) := by rw [s_X3_release_q, hu1, if_neg c_1, if_neg c_2]
      exact k_iret S G hr hlk dX3_release_52 (by first | (rw [es]; done) | (rw [es]; rfl) | (simp only [es]; done) | (simp only [es]; rfl)) (by first | (rw [es]; done) | (rw [es]; rfl) | (simp only [es]; done) | (simp only [es]; rfl))
  · skip
    refine lv_iconst (v := 0) hx hb dX3_release_12 (by decide) ?_
    have es : (s_X3_release_q r e du lf) = (0, (upd (upd (upd r 10 u1.2.1) 11 u1.2.2.1) 13 u1.2.2.2), e) := by rw [s_X3_release_q, hu1, if_pos c_1]
    exact k_iret S G hr hlk dX3_release_13 (by first | (rw [es]; done) | (rw [es]; rfl) | (simp only [es]; done) | (simp only [es]; rfl)) (by first | (rw [es]; done) | (rw [es]; rfl) | (simp only [es]; done) | (simp only [es]; rfl))
end
section
def s_X3_strikeQuarter (r : Nat → Int32) (e : Nat → Nat → Int32) : Int32 × (Nat → Int32) × (Nat → Nat → Int32) := (if (s_X0_blocksAt r (r 0)) = 0 then (if (s_X2_isReleasedAt 0 ((s_X3_release_q r e (s_X2_dueAt 1 (r 0)) (s_X0_hushesAt r (r 0))).2.1 0)) = 0 then ((s_X3_release_q r e (s_X2_dueAt 1 (r 0)) (s_X0_hushesAt r (r 0))).1, (s_X3_release_q r e (s_X2_dueAt 1 (r 0)) (s_X0_hushesAt r (r 0))).2.1, (s_X3_release_q r e (s_X2_dueAt 1 (r 0)) (s_X0_hushesAt r (r 0))).2.2) else (((s_X3_release_q r e (s_X2_dueAt 1 (r 0)) (s_X0_hushesAt r (r 0))).1 + (s_X3_release_h (s_X3_release_q r e (s_X2_dueAt 1 (r 0)) (s_X0_hushesAt r (r 0))).2.1 (s_X3_release_q r e (s_X2_dueAt 1 (r 0)) (s_X0_hushesAt r (r 0))).2.2 (s_X2_dueAt 0 ((s_X3_release_q r e (s_X2_dueAt 1 (r 0)) (s_X0_hushesAt r (r 0))).2.1 0)) (s_X0_hushesAt r (r 0))).1), (s_X3_release_h (s_X3_release_q r e (s_X2_dueAt 1 (r 0)) (s_X0_hushesAt r (r 0))).2.1 (s_X3_release_q r e (s_X2_dueAt 1 (r 0)) (s_X0_hushesAt r (r 0))).2.2 (s_X2_dueAt 0 ((s_X3_release_q r e (s_X2_dueAt 1 (r 0)) (s_X0_hushesAt r (r 0))).2.1 0)) (s_X0_hushesAt r (r 0))).2.1, (s_X3_release_h (s_X3_release_q r e (s_X2_dueAt 1 (r 0)) (s_X0_hushesAt r (r 0))).2.1 (s_X3_release_q r e (s_X2_dueAt 1 (r 0)) (s_X0_hushesAt r (r 0))).2.2 (s_X2_dueAt 0 ((s_X3_release_q r e (s_X2_dueAt 1 (r 0)) (s_X0_hushesAt r (r 0))).2.1 0)) (s_X0_hushesAt r (r 0))).2.2)) else (0, r, e))
set_option maxHeartbeats 4000000 in
set_option maxRecDepth 100000 in
theorem c_X3_strikeQuarter (l : Launch) (D : va_G) (cI cS : ClassId) (x : Nat) (sv : Nat) (tl : Nat) (er : Nat) (sc : Int32) (z : Nat → Int32) (a : Nat → Nat) (r : Nat → Int32) (e : Nat → Nat → Int32) : Ct l yX3_strikeQuarter wsX3_strikeQuarter ({ frames := 4, cells := 0, slots := 0, locals := 88 }) D (tyL cI cS) [.ref x] ((x, .inr (3, [.ref (a 0), .ref sv, .ref tl, .ref er, .int sc])) :: (er, .inl (cI, 3, .inl z)) :: stW cI a r e ([])) (some (.int ((s_X3_strikeQuarter r e).1))) ((x, .inr (3, [.ref (a 0), .ref sv, .ref tl, .ref er, .int sc])) :: (er, .inl (cI, 3, .inl z)) :: stW cI a ((s_X3_strikeQuarter r e).2.1) ((s_X3_strikeQuarter r e).2.2) ([])) := by
  refine Ct.of (cc := cX3_strikeQuarter) (maxL := 3) (ret := (some .int)) (by decide) rfl (Nat.le_of_ble_eq_true rfl) ?_
  intro p ev s m args below meth c A ls S hr hlk G hl
  have hx := S.1
  have hb := S.2.1
  have hown : s.vm.findClass RX3 = some m.cls := S.2.2.2.1
  have hts := S.2.2.2.2
  have hl : lv_has ls 3 [(0, .ref x)] := hl
  have hiX0 : ∀ w ∈ wsX00, w ∈ wsX3_strikeQuarter := by decide +kernel
  have hiX3 : ∀ w ∈ wsX30, w ∈ wsX3_strikeQuarter := by decide +kernel
  have hf10 := hts (.fieldLink RX3 10 "StrikingWork" "now" "LStrikingWork$State;") (by decide +kernel)
  have hf83 := hts (.fieldLink RX3 83 "StrikingWork$State" "minute" "I") (by decide +kernel)
  have hf171 := hts (.fieldLink RX3 171 "StrikingWork$State" "quarters" "LStrikingWork$Train;") (by decide +kernel)
  have hf174 := hts (.fieldLink RX3 174 "StrikingWork$State" "hours" "LStrikingWork$Train;") (by decide +kernel)
  refine lv_aload_n hx hb dX3_strikeQuarter_0 rfl (lv_at hl 0 rfl) ?_
  refine k_get (v := .ref (a 0)) S G 0 rfl rfl hiX3 0 (by decide) hf10 rfl dX3_strikeQuarter_1 ?_
  refine lv_aload_n hx hb dX3_strikeQuarter_4 rfl (lv_at hl 0 rfl) ?_
  refine k_get (v := .ref (a 0)) S G 0 rfl rfl hiX3 0 (by decide) hf10 rfl dX3_strikeQuarter_5 ?_
  refine k_get (v := .int (r 0)) S G 2 rfl rfl hiX0 3 (by decide) hf83 rfl dX3_strikeQuarter_8 ?_
  refine k_callV (n := 1) (As := [.int (r 0)]) (rest := []) (st1 := [.int (s_X0_blocksAt r (r 0))]) (ws1 := ((x, .inr (3, [.ref (a 0), .ref sv, .ref tl, .ref er, .int sc])) :: (er, .inl (cI, 3, .inl z)) :: stW cI a r e ([]))) S G (c_X0_blocksAt l D cI cS a r e (r 0)) gX3_strikeQuarter_X0_blocksAt rfl (by decide +kernel) ⟨⟨rfl, rfl⟩, Nat.le_of_ble_eq_true rfl, Nat.le_of_ble_eq_true rfl⟩ [2, 3, 4, 5, 6, 7, 8] (by decide) rfl [(a 0), (a 1), (a 2), (a 3), (a 4), (a 5), (a 6)] rfl rfl 2 rfl rfl rfl hl.1 rfl (Nat.le_of_ble_eq_true rfl) ⟨Nat.zero_le _, Nat.zero_le _⟩ dX3_strikeQuarter_11 rfl rfl (fun H locs G => ?_)
  refine lv_if_eq (tgt := 19) hx hb dX3_strikeQuarter_14 (by decide) (fun c_1 => ?_) (fun c_1 => ?_)
  · skip
    refine lv_aload_n hx hb dX3_strikeQuarter_19 rfl (lv_at hl 0 rfl) ?_
    refine k_get (v := .ref (a 0)) S G 0 rfl rfl hiX3 0 (by decide) hf10 rfl dX3_strikeQuarter_20 ?_
    refine lv_aload_n hx hb dX3_strikeQuarter_23 rfl (lv_at hl 0 rfl) ?_
    refine k_get (v := .ref (a 0)) S G 0 rfl rfl hiX3 0 (by decide) hf10 rfl dX3_strikeQuarter_24 ?_
    refine k_get (v := .int (r 0)) S G 2 rfl rfl hiX0 3 (by decide) hf83 rfl dX3_strikeQuarter_27 ?_
    refine k_callV (n := 1) (As := [.int (r 0)]) (rest := []) (st1 := [.int (s_X0_hushesAt r (r 0))]) (ws1 := ((x, .inr (3, [.ref (a 0), .ref sv, .ref tl, .ref er, .int sc])) :: (er, .inl (cI, 3, .inl z)) :: stW cI a r e ([]))) S G (c_X0_hushesAt l D cI cS a r e (r 0)) gX3_strikeQuarter_X0_hushesAt rfl (by decide +kernel) ⟨⟨rfl, rfl⟩, Nat.le_of_ble_eq_true rfl, Nat.le_of_ble_eq_true rfl⟩ [2, 3, 4, 5, 6, 7, 8] (by decide) rfl [(a 0), (a 1), (a 2), (a 3), (a 4), (a 5), (a 6)] rfl rfl 2 rfl rfl rfl hl.1 rfl (Nat.le_of_ble_eq_true rfl) ⟨Nat.zero_le _, Nat.zero_le _⟩ dX3_strikeQuarter_30 rfl rfl (fun H locs G => ?_)
    refine lv_istore_n (lv' := [(1, .int (s_X0_hushesAt r (r 0))), (0, .ref x)]) hx hb dX3_strikeQuarter_33 rfl hl (by decide) rfl (fun ls hl => ?_)
    refine lv_aload_n hx hb dX3_strikeQuarter_34 rfl (lv_at hl 1 rfl) ?_
    refine lv_aload_n hx hb dX3_strikeQuarter_35 rfl (lv_at hl 1 rfl) ?_
    refine k_get (v := .ref (a 0)) S G 0 rfl rfl hiX3 0 (by decide) hf10 rfl dX3_strikeQuarter_36 ?_
    refine k_get (v := .ref (a 2)) S G 2 rfl rfl hiX0 1 (by decide) hf171 rfl dX3_strikeQuarter_39 ?_
    refine lv_aload_n hx hb dX3_strikeQuarter_42 rfl (lv_at hl 1 rfl) ?_
    refine k_get (v := .ref (a 0)) S G 0 rfl rfl hiX3 0 (by decide) hf10 rfl dX3_strikeQuarter_43 ?_
    refine k_get (v := .ref (a 2)) S G 2 rfl rfl hiX0 1 (by decide) hf171 rfl dX3_strikeQuarter_46 ?_
    refine lv_aload_n hx hb dX3_strikeQuarter_49 rfl (lv_at hl 1 rfl) ?_
    refine k_get (v := .ref (a 0)) S G 0 rfl rfl hiX3 0 (by decide) hf10 rfl dX3_strikeQuarter_50 ?_
    refine k_get (v := .int (r 0)) S G 2 rfl rfl hiX0 3 (by decide) hf83 rfl dX3_strikeQuarter_53 ?_
    refine k_callV (n := 1) (As := [.int (r 0)]) (rest := [.ref (a 2), .ref x]) (st1 := [.int (s_X2_dueAt 1 (r 0)), .ref (a 2), .ref x]) (ws1 := ((x, .inr (3, [.ref (a 0), .ref sv, .ref tl, .ref er, .int sc])) :: (er, .inl (cI, 3, .inl z)) :: stW cI a r e ([]))) S G (c_X2_dueAt l D cI cS (a 2) 1 (r 9) (r 10) (r 11) (r 12) (r 13) (r 0)) gX3_strikeQuarter_X2_dueAt rfl (by decide +kernel) ⟨⟨rfl, rfl⟩, Nat.le_of_ble_eq_true rfl, Nat.le_of_ble_eq_true rfl⟩ [4] (by decide) rfl [(a 2)] rfl rfl 4 rfl rfl rfl hl.1 rfl (Nat.le_of_ble_eq_true rfl) ⟨Nat.zero_le _, Nat.zero_le _⟩ dX3_strikeQuarter_56 rfl rfl (fun H locs G => ?_)
    refine lv_iload_n hx hb dX3_strikeQuarter_59 rfl (lv_at hl 0 rfl) ?_
    refine k_callV (n := 3) (As := [.ref (a 2), .int (s_X2_dueAt 1 (r 0)), .int (s_X0_hushesAt r (r 0))]) (rest := []) (st1 := [.int ((s_X3_release_q r e (s_X2_dueAt 1 (r 0)) (s_X0_hushesAt r (r 0))).1)]) (ws1 := ((x, .inr (3, [.ref (a 0), .ref sv, .ref tl, .ref er, .int sc])) :: (er, .inl (cI, 3, .inl z)) :: stW cI a ((s_X3_release_q r e (s_X2_dueAt 1 (r 0)) (s_X0_hushesAt r (r 0))).2.1) ((s_X3_release_q r e (s_X2_dueAt 1 (r 0)) (s_X0_hushesAt r (r 0))).2.2) ([]))) S G (c_X3_release_q l D cI cS x sv tl er sc z a r e (s_X2_dueAt 1 (r 0)) (s_X0_hushesAt r (r 0))) gX3_strikeQuarter_X3_release rfl (by decide +kernel) ⟨⟨rfl, rfl⟩, Nat.le_of_ble_eq_true rfl, Nat.le_of_ble_eq_true rfl⟩ [0, 1, 2, 3, 4, 5, 6, 7, 8] (by decide) rfl [x, er, (a 0), (a 1), (a 2), (a 3), (a 4), (a 5), (a 6)] rfl rfl 0 rfl rfl rfl hl.1 rfl (Nat.le_of_ble_eq_true rfl) ⟨Nat.zero_le _, Nat.zero_le _⟩ dX3_strikeQuarter_60 rfl rfl (fun H locs G => ?_)
    generalize hu1 : (s_X3_release_q r e (s_X2_dueAt 1 (r 0)) (s_X0_hushesAt r (r 0))) = u1 at G ⊢
    refine lv_istore_n (lv' := [(2, .int u1.1), (1, .int (s_X0_hushesAt r (r 0))), (0, .ref x)]) hx hb dX3_strikeQuarter_63 rfl hl (by decide) rfl (fun ls hl => ?_)
    refine lv_aload_n hx hb dX3_strikeQuarter_64 rfl (lv_at hl 2 rfl) ?_
    refine k_get (v := .ref (a 0)) S G 0 rfl rfl hiX3 0 (by decide) hf10 rfl dX3_strikeQuarter_65 ?_
    refine k_get (v := .ref (a 1)) S G 2 rfl rfl hiX0 0 (by decide) hf174 rfl dX3_strikeQuarter_68 ?_
    refine lv_aload_n hx hb dX3_strikeQuarter_71 rfl (lv_at hl 2 rfl) ?_
    refine k_get (v := .ref (a 0)) S G 0 rfl rfl hiX3 0 (by decide) hf10 rfl dX3_strikeQuarter_72 ?_
    refine k_get (v := .int (u1.2.1 0)) S G 2 rfl rfl hiX0 3 (by decide) hf83 rfl dX3_strikeQuarter_75 ?_
    refine k_callV (n := 1) (As := [.int (u1.2.1 0)]) (rest := []) (st1 := [.int (s_X2_isReleasedAt 0 (u1.2.1 0))]) (ws1 := ((x, .inr (3, [.ref (a 0), .ref sv, .ref tl, .ref er, .int sc])) :: (er, .inl (cI, 3, .inl z)) :: stW cI a u1.2.1 u1.2.2 ([]))) S G (c_X2_isReleasedAt l D cI cS (a 1) 0 (u1.2.1 4) (u1.2.1 5) (u1.2.1 6) (u1.2.1 7) (u1.2.1 8) (u1.2.1 0)) gX3_strikeQuarter_X2_isReleasedAt rfl (by decide +kernel) ⟨⟨rfl, rfl⟩, Nat.le_of_ble_eq_true rfl, Nat.le_of_ble_eq_true rfl⟩ [3] (by decide) rfl [(a 1)] rfl rfl 3 rfl rfl rfl hl.1 rfl (Nat.le_of_ble_eq_true rfl) ⟨Nat.zero_le _, Nat.zero_le _⟩ dX3_strikeQuarter_78 rfl rfl (fun H locs G => ?_)
    refine lv_if_eq (tgt := 116) hx hb dX3_strikeQuarter_81 (by decide) (fun c_2 => ?_) (fun c_2 => ?_)
    · skip
      refine lv_iload_n hx hb dX3_strikeQuarter_116 rfl (lv_at hl 0 rfl) ?_
      have es : (s_X3_strikeQuarter r e) = (u1.1, u1.2.1, u1.2.2) := by rw [s_X3_strikeQuarter, hu1, if_pos c_1, if_pos c_2]
      exact k_iret S G hr hlk dX3_strikeQuarter_117 (by first | (rw [es]; done) | (rw [es]; rfl) | (simp only [es]; done) | (simp only [es]; rfl)) (by first | (rw [es]; done) | (rw [es]; rfl) | (simp only [es]; done) | (simp only [es]; rfl))
    · skip
      refine lv_iload_n hx hb dX3_strikeQuarter_84 rfl (lv_at hl 0 rfl) ?_
      refine lv_aload_n hx hb dX3_strikeQuarter_85 rfl (lv_at hl 2 rfl) ?_
      refine lv_aload_n hx hb dX3_strikeQuarter_86 rfl (lv_at hl 2 rfl) ?_
      refine k_get (v := .ref (a 0)) S G 0 rfl rfl hiX3 0 (by decide) hf10 rfl dX3_strikeQuarter_87 ?_
      refine k_get (v := .ref (a 1)) S G 2 rfl rfl hiX0 0 (by decide) hf174 rfl dX3_strikeQuarter_90 ?_
      refine lv_aload_n hx hb dX3_strikeQuarter_93 rfl (lv_at hl 2 rfl) ?_
      refine k_get (v := .ref (a 0)) S G 0 rfl rfl hiX3 0 (by decide) hf10 rfl dX3_strikeQuarter_94 ?_
      refine k_get (v := .ref (a 1)) S G 2 rfl rfl hiX0 0 (by decide) hf174 rfl dX3_strikeQuarter_97 ?_
      refine lv_aload_n hx hb dX3_strikeQuarter_100 rfl (lv_at hl 2 rfl) ?_
      refine k_get (v := .ref (a 0)) S G 0 rfl rfl hiX3 0 (by decide) hf10 rfl dX3_strikeQuarter_101 ?_
      refine k_get (v := .int (u1.2.1 0)) S G 2 rfl rfl hiX0 3 (by decide) hf83 rfl dX3_strikeQuarter_104 ?_
      refine k_callV (n := 1) (As := [.int (u1.2.1 0)]) (rest := [.ref (a 1), .ref x, .int u1.1]) (st1 := [.int (s_X2_dueAt 0 (u1.2.1 0)), .ref (a 1), .ref x, .int u1.1]) (ws1 := ((x, .inr (3, [.ref (a 0), .ref sv, .ref tl, .ref er, .int sc])) :: (er, .inl (cI, 3, .inl z)) :: stW cI a u1.2.1 u1.2.2 ([]))) S G (c_X2_dueAt l D cI cS (a 1) 0 (u1.2.1 4) (u1.2.1 5) (u1.2.1 6) (u1.2.1 7) (u1.2.1 8) (u1.2.1 0)) gX3_strikeQuarter_X2_dueAt rfl (by decide +kernel) ⟨⟨rfl, rfl⟩, Nat.le_of_ble_eq_true rfl, Nat.le_of_ble_eq_true rfl⟩ [3] (by decide) rfl [(a 1)] rfl rfl 3 rfl rfl rfl hl.1 rfl (Nat.le_of_ble_eq_true rfl) ⟨Nat.zero_le _, Nat.zero_le _⟩ dX3_strikeQuarter_107 rfl rfl (fun H locs G => ?_)
      refine lv_iload_n hx hb dX3_strikeQuarter_110 rfl (lv_at hl 1 rfl) ?_
      refine k_callV (n := 3) (As := [.ref (a 1), .int (s_X2_dueAt 0 (u1.2.1 0)), .int (s_X0_hushesAt r (r 0))]) (rest := [.int u1.1]) (st1 := [.int ((s_X3_release_h u1.2.1 u1.2.2 (s_X2_dueAt 0 (u1.2.1 0)) (s_X0_hushesAt r (r 0))).1), .int u1.1]) (ws1 := ((x, .inr (3, [.ref (a 0), .ref sv, .ref tl, .ref er, .int sc])) :: (er, .inl (cI, 3, .inl z)) :: stW cI a ((s_X3_release_h u1.2.1 u1.2.2 (s_X2_dueAt 0 (u1.2.1 0)) (s_X0_hushesAt r (r 0))).2.1) ((s_X3_release_h u1.2.1 u1.2.2 (s_X2_dueAt 0 (u1.2.1 0)) (s_X0_hushesAt r (r 0))).2.2) ([]))) S G (c_X3_release_h l D cI cS x sv tl er sc z a u1.2.1 u1.2.2 (s_X2_dueAt 0 (u1.2.1 0)) (s_X0_hushesAt r (r 0))) gX3_strikeQuarter_X3_release rfl (by decide +kernel) ⟨⟨rfl, rfl⟩, Nat.le_of_ble_eq_true rfl, Nat.le_of_ble_eq_true rfl⟩ [0, 1, 2, 3, 4, 5, 6, 7, 8] (by decide) rfl [x, er, (a 0), (a 1), (a 2), (a 3), (a 4), (a 5), (a 6)] rfl rfl 0 rfl rfl rfl hl.1 rfl (Nat.le_of_ble_eq_true rfl) ⟨Nat.zero_le _, Nat.zero_le _⟩ dX3_strikeQuarter_111 rfl rfl (fun H locs G => ?_)
      generalize hu2 : (s_X3_release_h u1.2.1 u1.2.2 (s_X2_dueAt 0 (u1.2.1 0)) (s_X0_hushesAt r (r 0))) = u2 at G ⊢
      refine lv_iadd hx hb dX3_strikeQuarter_114 ?_
      refine lv_istore_n (lv' := [(2, .int (u1.1 + u2.1)), (1, .int (s_X0_hushesAt r (r 0))), (0, .ref x)]) hx hb dX3_strikeQuarter_115 rfl hl (by decide) rfl (fun ls hl => ?_)
      refine lv_iload_n hx hb dX3_strikeQuarter_116 rfl (lv_at hl 0 rfl) ?_
      have es : (s_X3_strikeQuarter r e) = ((u1.1 + u2.1), u2.2.1, u2.2.2) := by rw [s_X3_strikeQuarter, hu1, hu2, if_pos c_1, if_neg c_2]
      exact k_iret S G hr hlk dX3_strikeQuarter_117 (by first | (rw [es]; done) | (rw [es]; rfl) | (simp only [es]; done) | (simp only [es]; rfl)) (by first | (rw [es]; done) | (rw [es]; rfl) | (simp only [es]; done) | (simp only [es]; rfl))
  · skip
    refine lv_iconst (v := 0) hx hb dX3_strikeQuarter_17 (by decide) ?_
    have es : (s_X3_strikeQuarter r e) = (0, r, e) := by rw [s_X3_strikeQuarter, if_neg c_1]
    exact k_iret S G hr hlk dX3_strikeQuarter_18 (by first | (rw [es]; done) | (rw [es]; rfl) | (simp only [es]; done) | (simp only [es]; rfl)) (by first | (rw [es]; done) | (rw [es]; rfl) | (simp only [es]; done) | (simp only [es]; rfl))
end
section
def rot {α : Type} (f : Nat → α) : Nat → α := fun i => if i = 4 then f 0 else f (i + 1)
theorem Gd.arrq {s : State} {H : Heap} {locs : List Loc} {D : va_G} {A : Nat → Prop} {a : Nat} {tys : List (ClassId × FieldType)} {ws ws1 : va_W} {H0 : Heap} (G : Gd D tys A H0 s ws H locs) (q0 : Nat) {cA : ClassId} {n : Nat} {f : Nat → Option Nat} (g : Nat → Option Nat) (ha : ws[q0]? = some (a, .inl (cA, n, .inr (.inr (.inr (.inr f)))))) (hfg : ∀ i, i < n → f i = g i) (hw : ws.set q0 (a, .inl (cA, n, .inr (.inr (.inr (.inr g))))) = ws1) : Gd D tys A H0 s ws1 H locs := by
  subst hw
  refine ⟨G.1, ?_, G.2.2.1.set ha, G.2.2.2.1, G.2.2.2.2⟩
  refine G.2.1.set G.2.2.1 ha ?_ (fun _ _ => rfl)
  have h0 : H[a]? = some (vp_cell cA (n, .inr (.inr (.inr (.inr f))))) := G.2.1 q0 _ ha
  show H[a]? = some (vp_cell cA (n, .inr (.inr (.inr (.inr g)))))
  rw [h0, vp_cell_q, vp_cell_q]
  congr 1
  unfold arrV
  congr 2
  funext j
  show va_rf (f j.val) = va_rf (g j.val)
  rw [hfg j.val j.isLt]
def scOk (sc : Int32) : Prop := 0 ≤ sc ∧ sc ≤ 5
theorem scOk_cases {sc : Int32} (h : scOk sc) : sc = 0 ∨ sc = 1 ∨ sc = 2 ∨ sc = 3 ∨ sc = 4 ∨ sc = 5 := by
  obtain ⟨N, hN, rfl⟩ : ∃ N : Nat, N ≤ 5 ∧ sc = nI N := nI_of2 (M := 5) (by decide) (Int32.not_lt.mpr h.1) h.2
  rcases (show N = 0 ∨ N = 1 ∨ N = 2 ∨ N = 3 ∨ N = 4 ∨ N = 5 by omega) with rfl | rfl | rfl | rfl | rfl | rfl <;> decide
def sSc (sc : Int32) : Int32 := if sc = 5 then 5 else sc + 1
def sSa (sc : Int32) (sa : Nat → Nat → Nat) : Nat → Nat → Nat := if sc = 5 then rot sa else sa
def sSr (sc : Int32) (sr : Nat → Nat → Int32) (r : Nat → Int32) : Nat → Nat → Int32 := if sc = 5 then va_up (rot sr) 4 r else va_up sr sc.toNatClampNeg r
def sSe (sc : Int32) (se : Nat → Nat → Nat → Int32) (e : Nat → Nat → Int32) : Nat → Nat → Nat → Int32 := if sc = 5 then va_up (rot se) 4 e else va_up se sc.toNatClampNeg e
set_option maxHeartbeats 4000000 in
set_option maxRecDepth 100000 in
theorem c_X3_dropOldestSaved (l : Launch) (D : va_G) (cI cS : ClassId) (x : Nat) (sv : Nat) (tl : Nat) (er : Nat) (sc : Int32) (z : Nat → Int32) (a : Nat → Nat) (r : Nat → Int32) (e : Nat → Nat → Int32) (n0 : Int32) (m0 : Int32) (p0 : Int32) (w0 : Int32) (s0 : Int32) (f0 : Int32) (sa : Nat → Nat → Nat) (sr : Nat → Nat → Int32) (se : Nat → Nat → Nat → Int32) : Ct l yX3_dropOldestSaved wsX3_dropOldestSaved ({ frames := 0, cells := 0, slots := 0, locals := 0 }) D (tyL cI cS) [.ref x] ((x, .inr (3, [.ref (a 0), .ref sv, .ref tl, .ref er, .int sc])) :: (er, .inl (cI, 3, .inl z)) :: stW cI a r e ((tl, .inr (2, [.int n0, .int m0, .int p0, .int w0, .int s0, .int f0])) :: (sv, .inl (cS, 5, .inr (.inr (.inr (.inr (fun i => some (sa i 0))))))) :: stW cI (sa 0) (sr 0) (se 0) (stW cI (sa 1) (sr 1) (se 1) (stW cI (sa 2) (sr 2) (se 2) (stW cI (sa 3) (sr 3) (se 3) (stW cI (sa 4) (sr 4) (se 4) ([]))))))) none ((x, .inr (3, [.ref (a 0), .ref sv, .ref tl, .ref er, .int 4])) :: (er, .inl (cI, 3, .inl z)) :: stW cI a r e ((tl, .inr (2, [.int n0, .int m0, .int p0, .int w0, .int s0, .int f0])) :: (sv, .inl (cS, 5, .inr (.inr (.inr (.inr (fun i => some ((rot sa) i 0))))))) :: stW cI (rot sa 0) (rot sr 0) (rot se 0) (stW cI (rot sa 1) (rot sr 1) (rot se 1) (stW cI (rot sa 2) (rot sr 2) (rot se 2) (stW cI (rot sa 3) (rot sr 3) (rot se 3) (stW cI (rot sa 4) (rot sr 4) (rot se 4) ([]))))))) := by
  refine Ct.of (cc := cX3_dropOldestSaved) (maxL := 3) (ret := none) (by decide) rfl (Nat.le_of_ble_eq_true rfl) ?_
  intro p ev s m args below meth c A ls S hr hlk G hl
  have hx := S.1
  have hb := S.2.1
  have hown : s.vm.findClass RX3 = some m.cls := S.2.2.2.1
  have hts := S.2.2.2.2
  have hl : lv_has ls 3 [(0, .ref x)] := hl
  have hiX3 : ∀ w ∈ wsX30, w ∈ wsX3_dropOldestSaved := by decide +kernel
  have hf16 := hts (.fieldLink RX3 16 "StrikingWork" "saved" "[LStrikingWork$State;") (by decide +kernel)
  have hf33 := hts (.fieldLink RX3 33 "StrikingWork" "savedCount" "I") (by decide +kernel)
  refine lv_aload_n hx hb dX3_dropOldestSaved_0 rfl (lv_at hl 0 rfl) ?_
  refine k_get (v := .ref sv) S G 0 rfl rfl hiX3 1 (by decide) hf16 rfl dX3_dropOldestSaved_1 ?_
  refine lv_iconst (v := 0) hx hb dX3_dropOldestSaved_4 (by decide) ?_
  refine k_aald (x := ((sa 0) 0)) S G 10 1 rfl rfl (by unfold vp_in; decide) rfl dX3_dropOldestSaved_5 ?_
  refine lv_astore_n (lv' := [(1, .ref ((sa 0) 0)), (0, .ref x)]) hx hb dX3_dropOldestSaved_6 rfl hl (by decide) rfl (fun ls hl => ?_)
  refine lv_iconst (v := 1) hx hb dX3_dropOldestSaved_7 (by decide) ?_
  refine lv_istore_n (lv' := [(2, .int 1), (1, .ref ((sa 0) 0)), (0, .ref x)]) hx hb dX3_dropOldestSaved_8 rfl hl (by decide) rfl (fun ls hl => ?_)
  refine lv_iload_n hx hb dX3_dropOldestSaved_9 rfl (lv_at hl 0 rfl) ?_
  refine lv_iconst (v := 5) hx hb dX3_dropOldestSaved_10 (by decide) ?_
  refine lv_icmp_ge (tgt := 34) hx hb dX3_dropOldestSaved_11 (by decide) (fun c_1 => absurd c_1 (by decide)) (fun c_1 => ?_)
  refine lv_aload_n hx hb dX3_dropOldestSaved_14 rfl (lv_at hl 2 rfl) ?_
  refine k_get (v := .ref sv) S G 0 rfl rfl hiX3 1 (by decide) hf16 rfl dX3_dropOldestSaved_15 ?_
  refine lv_iload_n hx hb dX3_dropOldestSaved_18 rfl (lv_at hl 0 rfl) ?_
  refine lv_iconst (v := 1) hx hb dX3_dropOldestSaved_19 (by decide) ?_
  refine lv_isub hx hb dX3_dropOldestSaved_20 ?_
  refine lv_lit (v := 0) (by decide) ?_
  refine lv_aload_n hx hb dX3_dropOldestSaved_21 rfl (lv_at hl 2 rfl) ?_
  refine k_get (v := .ref sv) S G 0 rfl rfl hiX3 1 (by decide) hf16 rfl dX3_dropOldestSaved_22 ?_
  refine lv_iload_n hx hb dX3_dropOldestSaved_25 rfl (lv_at hl 0 rfl) ?_
  refine k_aald (x := ((sa 1) 0)) S G 10 1 rfl rfl (by unfold vp_in; decide) rfl dX3_dropOldestSaved_26 ?_
  refine k_aast (ws1 := ((x, .inr (3, [.ref (a 0), .ref sv, .ref tl, .ref er, .int sc])) :: (er, .inl (cI, 3, .inl z)) :: stW cI a r e ((tl, .inr (2, [.int n0, .int m0, .int p0, .int w0, .int s0, .int f0])) :: (sv, .inl (cS, 5, .inr (.inr (.inr (.inr (va_up (fun i => some (sa i 0)) 0 (some ((sa 1) 0)))))))) :: stW cI (sa 0) (sr 0) (se 0) (stW cI (sa 1) (sr 1) (se 1) (stW cI (sa 2) (sr 2) (se 2) (stW cI (sa 3) (sr 3) (se 3) (stW cI (sa 4) (sr 4) (se 4) ([])))))))) S G 10 1 18 0 rfl rfl rfl rfl (by unfold vp_in; decide) dX3_dropOldestSaved_27 rfl (fun H locs G => ?_)
  refine lv_iinc (v := 2) (lv' := [(2, .int 2), (1, .ref ((sa 0) 0)), (0, .ref x)]) hx hb dX3_dropOldestSaved_28 hl (k := 0) rfl (by decide) (by decide) rfl (fun ls hl => ?_)
  refine lv_goto (tgt := 9) hx hb dX3_dropOldestSaved_31 (by decide) ?_
  refine lv_iload_n hx hb dX3_dropOldestSaved_9 rfl (lv_at hl 0 rfl) ?_
  refine lv_iconst (v := 5) hx hb dX3_dropOldestSaved_10 (by decide) ?_
  refine lv_icmp_ge (tgt := 34) hx hb dX3_dropOldestSaved_11 (by decide) (fun c_2 => absurd c_2 (by decide)) (fun c_2 => ?_)
  refine lv_aload_n hx hb dX3_dropOldestSaved_14 rfl (lv_at hl 2 rfl) ?_
  refine k_get (v := .ref sv) S G 0 rfl rfl hiX3 1 (by decide) hf16 rfl dX3_dropOldestSaved_15 ?_
  refine lv_iload_n hx hb dX3_dropOldestSaved_18 rfl (lv_at hl 0 rfl) ?_
  refine lv_iconst (v := 1) hx hb dX3_dropOldestSaved_19 (by decide) ?_
  refine lv_isub hx hb dX3_dropOldestSaved_20 ?_
  refine lv_lit (v := 1) (by decide) ?_
  refine lv_aload_n hx hb dX3_dropOldestSaved_21 rfl (lv_at hl 2 rfl) ?_
  refine k_get (v := .ref sv) S G 0 rfl rfl hiX3 1 (by decide) hf16 rfl dX3_dropOldestSaved_22 ?_
  refine lv_iload_n hx hb dX3_dropOldestSaved_25 rfl (lv_at hl 0 rfl) ?_
  refine k_aald (x := ((sa 2) 0)) S G 10 1 rfl rfl (by unfold vp_in; decide) rfl dX3_dropOldestSaved_26 ?_
  refine k_aast (ws1 := ((x, .inr (3, [.ref (a 0), .ref sv, .ref tl, .ref er, .int sc])) :: (er, .inl (cI, 3, .inl z)) :: stW cI a r e ((tl, .inr (2, [.int n0, .int m0, .int p0, .int w0, .int s0, .int f0])) :: (sv, .inl (cS, 5, .inr (.inr (.inr (.inr (va_up (va_up (fun i => some (sa i 0)) 0 (some ((sa 1) 0))) 1 (some ((sa 2) 0)))))))) :: stW cI (sa 0) (sr 0) (se 0) (stW cI (sa 1) (sr 1) (se 1) (stW cI (sa 2) (sr 2) (se 2) (stW cI (sa 3) (sr 3) (se 3) (stW cI (sa 4) (sr 4) (se 4) ([])))))))) S G 10 1 25 0 rfl rfl rfl rfl (by unfold vp_in; decide) dX3_dropOldestSaved_27 rfl (fun H locs G => ?_)
  refine lv_iinc (v := 3) (lv' := [(2, .int 3), (1, .ref ((sa 0) 0)), (0, .ref x)]) hx hb dX3_dropOldestSaved_28 hl (k := 0) rfl (by decide) (by decide) rfl (fun ls hl => ?_)
  refine lv_goto (tgt := 9) hx hb dX3_dropOldestSaved_31 (by decide) ?_
  refine lv_iload_n hx hb dX3_dropOldestSaved_9 rfl (lv_at hl 0 rfl) ?_
  refine lv_iconst (v := 5) hx hb dX3_dropOldestSaved_10 (by decide) ?_
  refine lv_icmp_ge (tgt := 34) hx hb dX3_dropOldestSaved_11 (by decide) (fun c_3 => absurd c_3 (by decide)) (fun c_3 => ?_)
  refine lv_aload_n hx hb dX3_dropOldestSaved_14 rfl (lv_at hl 2 rfl) ?_
  refine k_get (v := .ref sv) S G 0 rfl rfl hiX3 1 (by decide) hf16 rfl dX3_dropOldestSaved_15 ?_
  refine lv_iload_n hx hb dX3_dropOldestSaved_18 rfl (lv_at hl 0 rfl) ?_
  refine lv_iconst (v := 1) hx hb dX3_dropOldestSaved_19 (by decide) ?_
  refine lv_isub hx hb dX3_dropOldestSaved_20 ?_
  refine lv_lit (v := 2) (by decide) ?_
  refine lv_aload_n hx hb dX3_dropOldestSaved_21 rfl (lv_at hl 2 rfl) ?_
  refine k_get (v := .ref sv) S G 0 rfl rfl hiX3 1 (by decide) hf16 rfl dX3_dropOldestSaved_22 ?_
  refine lv_iload_n hx hb dX3_dropOldestSaved_25 rfl (lv_at hl 0 rfl) ?_
  refine k_aald (x := ((sa 3) 0)) S G 10 1 rfl rfl (by unfold vp_in; decide) rfl dX3_dropOldestSaved_26 ?_
  refine k_aast (ws1 := ((x, .inr (3, [.ref (a 0), .ref sv, .ref tl, .ref er, .int sc])) :: (er, .inl (cI, 3, .inl z)) :: stW cI a r e ((tl, .inr (2, [.int n0, .int m0, .int p0, .int w0, .int s0, .int f0])) :: (sv, .inl (cS, 5, .inr (.inr (.inr (.inr (va_up (va_up (va_up (fun i => some (sa i 0)) 0 (some ((sa 1) 0))) 1 (some ((sa 2) 0))) 2 (some ((sa 3) 0)))))))) :: stW cI (sa 0) (sr 0) (se 0) (stW cI (sa 1) (sr 1) (se 1) (stW cI (sa 2) (sr 2) (se 2) (stW cI (sa 3) (sr 3) (se 3) (stW cI (sa 4) (sr 4) (se 4) ([])))))))) S G 10 1 32 0 rfl rfl rfl rfl (by unfold vp_in; decide) dX3_dropOldestSaved_27 rfl (fun H locs G => ?_)
  refine lv_iinc (v := 4) (lv' := [(2, .int 4), (1, .ref ((sa 0) 0)), (0, .ref x)]) hx hb dX3_dropOldestSaved_28 hl (k := 0) rfl (by decide) (by decide) rfl (fun ls hl => ?_)
  refine lv_goto (tgt := 9) hx hb dX3_dropOldestSaved_31 (by decide) ?_
  refine lv_iload_n hx hb dX3_dropOldestSaved_9 rfl (lv_at hl 0 rfl) ?_
  refine lv_iconst (v := 5) hx hb dX3_dropOldestSaved_10 (by decide) ?_
  refine lv_icmp_ge (tgt := 34) hx hb dX3_dropOldestSaved_11 (by decide) (fun c_4 => absurd c_4 (by decide)) (fun c_4 => ?_)
  refine lv_aload_n hx hb dX3_dropOldestSaved_14 rfl (lv_at hl 2 rfl) ?_
  refine k_get (v := .ref sv) S G 0 rfl rfl hiX3 1 (by decide) hf16 rfl dX3_dropOldestSaved_15 ?_
  refine lv_iload_n hx hb dX3_dropOldestSaved_18 rfl (lv_at hl 0 rfl) ?_
  refine lv_iconst (v := 1) hx hb dX3_dropOldestSaved_19 (by decide) ?_
  refine lv_isub hx hb dX3_dropOldestSaved_20 ?_
  refine lv_lit (v := 3) (by decide) ?_
  refine lv_aload_n hx hb dX3_dropOldestSaved_21 rfl (lv_at hl 2 rfl) ?_
  refine k_get (v := .ref sv) S G 0 rfl rfl hiX3 1 (by decide) hf16 rfl dX3_dropOldestSaved_22 ?_
  refine lv_iload_n hx hb dX3_dropOldestSaved_25 rfl (lv_at hl 0 rfl) ?_
  refine k_aald (x := ((sa 4) 0)) S G 10 1 rfl rfl (by unfold vp_in; decide) rfl dX3_dropOldestSaved_26 ?_
  refine k_aast (ws1 := ((x, .inr (3, [.ref (a 0), .ref sv, .ref tl, .ref er, .int sc])) :: (er, .inl (cI, 3, .inl z)) :: stW cI a r e ((tl, .inr (2, [.int n0, .int m0, .int p0, .int w0, .int s0, .int f0])) :: (sv, .inl (cS, 5, .inr (.inr (.inr (.inr (va_up (va_up (va_up (va_up (fun i => some (sa i 0)) 0 (some ((sa 1) 0))) 1 (some ((sa 2) 0))) 2 (some ((sa 3) 0))) 3 (some ((sa 4) 0)))))))) :: stW cI (sa 0) (sr 0) (se 0) (stW cI (sa 1) (sr 1) (se 1) (stW cI (sa 2) (sr 2) (se 2) (stW cI (sa 3) (sr 3) (se 3) (stW cI (sa 4) (sr 4) (se 4) ([])))))))) S G 10 1 39 0 rfl rfl rfl rfl (by unfold vp_in; decide) dX3_dropOldestSaved_27 rfl (fun H locs G => ?_)
  refine lv_iinc (v := 5) (lv' := [(2, .int 5), (1, .ref ((sa 0) 0)), (0, .ref x)]) hx hb dX3_dropOldestSaved_28 hl (k := 0) rfl (by decide) (by decide) rfl (fun ls hl => ?_)
  refine lv_goto (tgt := 9) hx hb dX3_dropOldestSaved_31 (by decide) ?_
  refine lv_iload_n hx hb dX3_dropOldestSaved_9 rfl (lv_at hl 0 rfl) ?_
  refine lv_iconst (v := 5) hx hb dX3_dropOldestSaved_10 (by decide) ?_
  refine lv_icmp_ge (tgt := 34) hx hb dX3_dropOldestSaved_11 (by decide) (fun c_5 => ?_) (fun c_5 => absurd c_5 (by decide))
  refine lv_aload_n hx hb dX3_dropOldestSaved_34 rfl (lv_at hl 2 rfl) ?_
  refine k_get (v := .ref sv) S G 0 rfl rfl hiX3 1 (by decide) hf16 rfl dX3_dropOldestSaved_35 ?_
  refine lv_iconst (v := 4) hx hb dX3_dropOldestSaved_38 (by decide) ?_
  refine lv_aload_n hx hb dX3_dropOldestSaved_39 rfl (lv_at hl 1 rfl) ?_
  refine k_aast (ws1 := ((x, .inr (3, [.ref (a 0), .ref sv, .ref tl, .ref er, .int sc])) :: (er, .inl (cI, 3, .inl z)) :: stW cI a r e ((tl, .inr (2, [.int n0, .int m0, .int p0, .int w0, .int s0, .int f0])) :: (sv, .inl (cS, 5, .inr (.inr (.inr (.inr (va_up (va_up (va_up (va_up (va_up (fun i => some (sa i 0)) 0 (some ((sa 1) 0))) 1 (some ((sa 2) 0))) 2 (some ((sa 3) 0))) 3 (some ((sa 4) 0))) 4 (some ((sa 0) 0)))))))) :: stW cI (sa 0) (sr 0) (se 0) (stW cI (sa 1) (sr 1) (se 1) (stW cI (sa 2) (sr 2) (se 2) (stW cI (sa 3) (sr 3) (se 3) (stW cI (sa 4) (sr 4) (se 4) ([])))))))) S G 10 1 11 0 rfl rfl rfl rfl (by unfold vp_in; decide) dX3_dropOldestSaved_40 rfl (fun H locs G => ?_)
  refine lv_aload_n hx hb dX3_dropOldestSaved_41 rfl (lv_at hl 2 rfl) ?_
  refine lv_iconst (v := 4) hx hb dX3_dropOldestSaved_42 (by decide) ?_
  refine k_put (ws1 := ((x, .inr (3, [.ref (a 0), .ref sv, .ref tl, .ref er, .int 4])) :: (er, .inl (cI, 3, .inl z)) :: stW cI a r e ((tl, .inr (2, [.int n0, .int m0, .int p0, .int w0, .int s0, .int f0])) :: (sv, .inl (cS, 5, .inr (.inr (.inr (.inr (va_up (va_up (va_up (va_up (va_up (fun i => some (sa i 0)) 0 (some ((sa 1) 0))) 1 (some ((sa 2) 0))) 2 (some ((sa 3) 0))) 3 (some ((sa 4) 0))) 4 (some ((sa 0) 0)))))))) :: stW cI (sa 0) (sr 0) (se 0) (stW cI (sa 1) (sr 1) (se 1) (stW cI (sa 2) (sr 2) (se 2) (stW cI (sa 3) (sr 3) (se 3) (stW cI (sa 4) (sr 4) (se 4) ([])))))))) S G 0 rfl rfl hiX3 tyX3 tyX3_ok nmX3 4 (by decide) hf33 rfl rfl rfl (Nat.le_of_ble_eq_true rfl) dX3_dropOldestSaved_43 rfl (fun H locs G => ?_)
  have G := Gd.arrq (ws1 := ((x, .inr (3, [.ref (a 0), .ref sv, .ref tl, .ref er, .int 4])) :: (er, .inl (cI, 3, .inl z)) :: stW cI a r e ((tl, .inr (2, [.int n0, .int m0, .int p0, .int w0, .int s0, .int f0])) :: (sv, .inl (cS, 5, .inr (.inr (.inr (.inr (fun i => some ((rot sa) i 0))))))) :: stW cI (sa 0) (sr 0) (se 0) (stW cI (sa 1) (sr 1) (se 1) (stW cI (sa 2) (sr 2) (se 2) (stW cI (sa 3) (sr 3) (se 3) (stW cI (sa 4) (sr 4) (se 4) ([])))))))) G 10 (fun i => some (rot sa i 0)) rfl (fun i hi => by rcases (show i = 0 ∨ i = 1 ∨ i = 2 ∨ i = 3 ∨ i = 4 by omega) with rfl | rfl | rfl | rfl | rfl <;> rfl) rfl
  have G := Gd.sub (ws1 := ((x, .inr (3, [.ref (a 0), .ref sv, .ref tl, .ref er, .int 4])) :: (er, .inl (cI, 3, .inl z)) :: stW cI a r e ((tl, .inr (2, [.int n0, .int m0, .int p0, .int w0, .int s0, .int f0])) :: (sv, .inl (cS, 5, .inr (.inr (.inr (.inr (fun i => some ((rot sa) i 0))))))) :: stW cI (rot sa 0) (rot sr 0) (rot se 0) (stW cI (rot sa 1) (rot sr 1) (rot se 1) (stW cI (rot sa 2) (rot sr 2) (rot se 2) (stW cI (rot sa 3) (rot sr 3) (rot se 3) (stW cI (rot sa 4) (rot sr 4) (rot se 4) ([])))))))) G [0, 1, 2, 3, 4, 5, 6, 7, 8, 9, 10, 18, 19, 20, 21, 22, 23, 24, 25, 26, 27, 28, 29, 30, 31, 32, 33, 34, 35, 36, 37, 38, 39, 40, 41, 42, 43, 44, 45, 11, 12, 13, 14, 15, 16, 17] (by decide +kernel) rfl
  exact k_vret S G hr hlk dX3_dropOldestSaved_46 rfl
set_option maxHeartbeats 4000000 in
set_option maxRecDepth 100000 in
theorem c_X3_save_5 (l : Launch) (D : va_G) (cI cS : ClassId) (x : Nat) (sv : Nat) (tl : Nat) (er : Nat) (z : Nat → Int32) (a : Nat → Nat) (r : Nat → Int32) (e : Nat → Nat → Int32) (n0 : Int32) (m0 : Int32) (p0 : Int32) (w0 : Int32) (s0 : Int32) (f0 : Int32) (sa : Nat → Nat → Nat) (sr : Nat → Nat → Int32) (se : Nat → Nat → Nat → Int32) : Ct l yX3_save wsX3_save ({ frames := 2, cells := 0, slots := 0, locals := 43 }) D (tyL cI cS) [.ref x] ((x, .inr (3, [.ref (a 0), .ref sv, .ref tl, .ref er, .int 5])) :: (er, .inl (cI, 3, .inl z)) :: stW cI a r e ((tl, .inr (2, [.int n0, .int m0, .int p0, .int w0, .int s0, .int f0])) :: (sv, .inl (cS, 5, .inr (.inr (.inr (.inr (fun i => some (sa i 0))))))) :: stW cI (sa 0) (sr 0) (se 0) (stW cI (sa 1) (sr 1) (se 1) (stW cI (sa 2) (sr 2) (se 2) (stW cI (sa 3) (sr 3) (se 3) (stW cI (sa 4) (sr 4) (se 4) ([]))))))) none ((x, .inr (3, [.ref (a 0), .ref sv, .ref tl, .ref er, .int 5])) :: (er, .inl (cI, 3, .inl z)) :: stW cI a r e ((tl, .inr (2, [.int n0, .int m0, .int p0, .int w0, .int s0, .int f0])) :: (sv, .inl (cS, 5, .inr (.inr (.inr (.inr (fun i => some ((rot sa) i 0))))))) :: stW cI (rot sa 0) (rot sr 0) (rot se 0) (stW cI (rot sa 1) (rot sr 1) (rot se 1) (stW cI (rot sa 2) (rot sr 2) (rot se 2) (stW cI (rot sa 3) (rot sr 3) (rot se 3) (stW cI (rot sa 4) r e ([]))))))) := by
  refine Ct.of (cc := cX3_save) (maxL := 1) (ret := none) (by decide) rfl (Nat.le_of_ble_eq_true rfl) ?_
  intro p ev s m args below meth c A ls S hr hlk G hl
  have hx := S.1
  have hb := S.2.1
  have hown : s.vm.findClass RX3 = some m.cls := S.2.2.2.1
  have hts := S.2.2.2.2
  have hl : lv_has ls 1 [(0, .ref x)] := hl
  have hiX3 : ∀ w ∈ wsX30, w ∈ wsX3_save := by decide +kernel
  have hf10 := hts (.fieldLink RX3 10 "StrikingWork" "now" "LStrikingWork$State;") (by decide +kernel)
  have hf16 := hts (.fieldLink RX3 16 "StrikingWork" "saved" "[LStrikingWork$State;") (by decide +kernel)
  have hf33 := hts (.fieldLink RX3 33 "StrikingWork" "savedCount" "I") (by decide +kernel)
  refine lv_aload_n hx hb dX3_save_0 rfl (lv_at hl 0 rfl) ?_
  refine k_get (v := .int 5) S G 0 rfl rfl hiX3 4 (by decide) hf33 rfl dX3_save_1 ?_
  refine lv_iconst (v := 5) hx hb dX3_save_4 (by decide) ?_
  refine lv_icmp_lt (tgt := 12) hx hb dX3_save_5 (by decide) (fun c_1 => absurd c_1 (by decide)) (fun c_1 => ?_)
  refine lv_aload_n hx hb dX3_save_8 rfl (lv_at hl 0 rfl) ?_
  refine k_callA (n := 0) (As := []) (rest := []) (st1 := []) (ws1 := ((x, .inr (3, [.ref (a 0), .ref sv, .ref tl, .ref er, .int 4])) :: (er, .inl (cI, 3, .inl z)) :: stW cI a r e ((tl, .inr (2, [.int n0, .int m0, .int p0, .int w0, .int s0, .int f0])) :: (sv, .inl (cS, 5, .inr (.inr (.inr (.inr (fun i => some ((rot sa) i 0))))))) :: stW cI (rot sa 0) (rot sr 0) (rot se 0) (stW cI (rot sa 1) (rot sr 1) (rot se 1) (stW cI (rot sa 2) (rot sr 2) (rot se 2) (stW cI (rot sa 3) (rot sr 3) (rot se 3) (stW cI (rot sa 4) (rot sr 4) (rot se 4) ([])))))))) S G (c_X3_dropOldestSaved l D cI cS x sv tl er 5 z a r e n0 m0 p0 w0 s0 f0 sa sr se) gX3_save_X3_dropOldestSaved rfl (by decide +kernel) ⟨⟨rfl, rfl⟩, Nat.le_of_ble_eq_true rfl, Nat.le_of_ble_eq_true rfl⟩ 0 rfl rfl rfl hl.1 rfl (Nat.le_of_ble_eq_true rfl) ⟨Nat.zero_le _, Nat.zero_le _⟩ dX3_save_9 rfl rfl (fun H locs G => ?_)
  refine lv_aload_n hx hb dX3_save_12 rfl (lv_at hl 0 rfl) ?_
  refine k_get (v := .ref sv) S G 0 rfl rfl hiX3 1 (by decide) hf16 rfl dX3_save_13 ?_
  refine lv_aload_n hx hb dX3_save_16 rfl (lv_at hl 0 rfl) ?_
  refine k_get (v := .int 4) S G 0 rfl rfl hiX3 4 (by decide) hf33 rfl dX3_save_17 ?_
  refine k_aald (x := ((rot sa 4) 0)) S G 10 1 rfl rfl (by unfold vp_in; decide) rfl dX3_save_20 ?_
  refine lv_aload_n hx hb dX3_save_21 rfl (lv_at hl 0 rfl) ?_
  refine k_get (v := .ref (a 0)) S G 0 rfl rfl hiX3 0 (by decide) hf10 rfl dX3_save_22 ?_
  refine k_callV (n := 1) (As := [.ref (a 0)]) (rest := []) (st1 := []) (ws1 := ((x, .inr (3, [.ref (a 0), .ref sv, .ref tl, .ref er, .int 4])) :: (er, .inl (cI, 3, .inl z)) :: stW cI a r e ((tl, .inr (2, [.int n0, .int m0, .int p0, .int w0, .int s0, .int f0])) :: (sv, .inl (cS, 5, .inr (.inr (.inr (.inr (fun i => some ((rot sa) i 0))))))) :: stW cI (rot sa 0) (rot sr 0) (rot se 0) (stW cI (rot sa 1) (rot sr 1) (rot se 1) (stW cI (rot sa 2) (rot sr 2) (rot se 2) (stW cI (rot sa 3) (rot sr 3) (rot se 3) (stW cI (rot sa 4) r e ([])))))))) S G (c_X0_copyFrom l D cI cS (rot sa 4) (rot sr 4) (rot se 4) a r e) gX3_save_X0_copyFrom rfl (by decide +kernel) ⟨⟨rfl, rfl⟩, Nat.le_of_ble_eq_true rfl, Nat.le_of_ble_eq_true rfl⟩ [39, 40, 41, 42, 43, 44, 45, 2, 3, 4, 5, 6, 7, 8] (by decide) rfl [((rot sa 4) 0), ((rot sa 4) 1), ((rot sa 4) 2), ((rot sa 4) 3), ((rot sa 4) 4), ((rot sa 4) 5), ((rot sa 4) 6), (a 0), (a 1), (a 2), (a 3), (a 4), (a 5), (a 6)] rfl rfl 39 rfl rfl rfl hl.1 rfl (Nat.le_of_ble_eq_true rfl) ⟨Nat.zero_le _, Nat.zero_le _⟩ dX3_save_25 rfl rfl (fun H locs G => ?_)
  refine lv_aload_n hx hb dX3_save_28 rfl (lv_at hl 0 rfl) ?_
  refine lv_dup hx hb dX3_save_29 rfl ?_
  refine k_get (v := .int 4) S G 0 rfl rfl hiX3 4 (by decide) hf33 rfl dX3_save_30 ?_
  refine lv_iconst (v := 1) hx hb dX3_save_33 (by decide) ?_
  refine lv_iadd hx hb dX3_save_34 ?_
  refine lv_lit (v := 5) (by decide) ?_
  refine k_put (ws1 := ((x, .inr (3, [.ref (a 0), .ref sv, .ref tl, .ref er, .int 5])) :: (er, .inl (cI, 3, .inl z)) :: stW cI a r e ((tl, .inr (2, [.int n0, .int m0, .int p0, .int w0, .int s0, .int f0])) :: (sv, .inl (cS, 5, .inr (.inr (.inr (.inr (fun i => some ((rot sa) i 0))))))) :: stW cI (rot sa 0) (rot sr 0) (rot se 0) (stW cI (rot sa 1) (rot sr 1) (rot se 1) (stW cI (rot sa 2) (rot sr 2) (rot se 2) (stW cI (rot sa 3) (rot sr 3) (rot se 3) (stW cI (rot sa 4) r e ([])))))))) S G 0 rfl rfl hiX3 tyX3 tyX3_ok nmX3 4 (by decide) hf33 rfl rfl rfl (Nat.le_of_ble_eq_true rfl) dX3_save_35 rfl (fun H locs G => ?_)
  exact k_vret S G hr hlk dX3_save_38 rfl
set_option maxHeartbeats 4000000 in
set_option maxRecDepth 100000 in
theorem c_X3_save_0 (l : Launch) (D : va_G) (cI cS : ClassId) (x : Nat) (sv : Nat) (tl : Nat) (er : Nat) (z : Nat → Int32) (a : Nat → Nat) (r : Nat → Int32) (e : Nat → Nat → Int32) (n0 : Int32) (m0 : Int32) (p0 : Int32) (w0 : Int32) (s0 : Int32) (f0 : Int32) (sa : Nat → Nat → Nat) (sr : Nat → Nat → Int32) (se : Nat → Nat → Nat → Int32) : Ct l yX3_save wsX3_save ({ frames := 2, cells := 0, slots := 0, locals := 43 }) D (tyL cI cS) [.ref x] ((x, .inr (3, [.ref (a 0), .ref sv, .ref tl, .ref er, .int 0])) :: (er, .inl (cI, 3, .inl z)) :: stW cI a r e ((tl, .inr (2, [.int n0, .int m0, .int p0, .int w0, .int s0, .int f0])) :: (sv, .inl (cS, 5, .inr (.inr (.inr (.inr (fun i => some (sa i 0))))))) :: stW cI (sa 0) (sr 0) (se 0) (stW cI (sa 1) (sr 1) (se 1) (stW cI (sa 2) (sr 2) (se 2) (stW cI (sa 3) (sr 3) (se 3) (stW cI (sa 4) (sr 4) (se 4) ([]))))))) none ((x, .inr (3, [.ref (a 0), .ref sv, .ref tl, .ref er, .int 1])) :: (er, .inl (cI, 3, .inl z)) :: stW cI a r e ((tl, .inr (2, [.int n0, .int m0, .int p0, .int w0, .int s0, .int f0])) :: (sv, .inl (cS, 5, .inr (.inr (.inr (.inr (fun i => some (sa i 0))))))) :: stW cI (sa 0) r e (stW cI (sa 1) (sr 1) (se 1) (stW cI (sa 2) (sr 2) (se 2) (stW cI (sa 3) (sr 3) (se 3) (stW cI (sa 4) (sr 4) (se 4) ([]))))))) := by
  refine Ct.of (cc := cX3_save) (maxL := 1) (ret := none) (by decide) rfl (Nat.le_of_ble_eq_true rfl) ?_
  intro p ev s m args below meth c A ls S hr hlk G hl
  have hx := S.1
  have hb := S.2.1
  have hown : s.vm.findClass RX3 = some m.cls := S.2.2.2.1
  have hts := S.2.2.2.2
  have hl : lv_has ls 1 [(0, .ref x)] := hl
  have hiX3 : ∀ w ∈ wsX30, w ∈ wsX3_save := by decide +kernel
  have hf10 := hts (.fieldLink RX3 10 "StrikingWork" "now" "LStrikingWork$State;") (by decide +kernel)
  have hf16 := hts (.fieldLink RX3 16 "StrikingWork" "saved" "[LStrikingWork$State;") (by decide +kernel)
  have hf33 := hts (.fieldLink RX3 33 "StrikingWork" "savedCount" "I") (by decide +kernel)
  refine lv_aload_n hx hb dX3_save_0 rfl (lv_at hl 0 rfl) ?_
  refine k_get (v := .int 0) S G 0 rfl rfl hiX3 4 (by decide) hf33 rfl dX3_save_1 ?_
  refine lv_iconst (v := 5) hx hb dX3_save_4 (by decide) ?_
  refine lv_icmp_lt (tgt := 12) hx hb dX3_save_5 (by decide) (fun c_1 => ?_) (fun c_1 => absurd c_1 (by decide))
  refine lv_aload_n hx hb dX3_save_12 rfl (lv_at hl 0 rfl) ?_
  refine k_get (v := .ref sv) S G 0 rfl rfl hiX3 1 (by decide) hf16 rfl dX3_save_13 ?_
  refine lv_aload_n hx hb dX3_save_16 rfl (lv_at hl 0 rfl) ?_
  refine k_get (v := .int 0) S G 0 rfl rfl hiX3 4 (by decide) hf33 rfl dX3_save_17 ?_
  refine k_aald (x := ((sa 0) 0)) S G 10 1 rfl rfl (by unfold vp_in; decide) rfl dX3_save_20 ?_
  refine lv_aload_n hx hb dX3_save_21 rfl (lv_at hl 0 rfl) ?_
  refine k_get (v := .ref (a 0)) S G 0 rfl rfl hiX3 0 (by decide) hf10 rfl dX3_save_22 ?_
  refine k_callV (n := 1) (As := [.ref (a 0)]) (rest := []) (st1 := []) (ws1 := ((x, .inr (3, [.ref (a 0), .ref sv, .ref tl, .ref er, .int 0])) :: (er, .inl (cI, 3, .inl z)) :: stW cI a r e ((tl, .inr (2, [.int n0, .int m0, .int p0, .int w0, .int s0, .int f0])) :: (sv, .inl (cS, 5, .inr (.inr (.inr (.inr (fun i => some (sa i 0))))))) :: stW cI (sa 0) r e (stW cI (sa 1) (sr 1) (se 1) (stW cI (sa 2) (sr 2) (se 2) (stW cI (sa 3) (sr 3) (se 3) (stW cI (sa 4) (sr 4) (se 4) ([])))))))) S G (c_X0_copyFrom l D cI cS (sa 0) (sr 0) (se 0) a r e) gX3_save_X0_copyFrom rfl (by decide +kernel) ⟨⟨rfl, rfl⟩, Nat.le_of_ble_eq_true rfl, Nat.le_of_ble_eq_true rfl⟩ [11, 12, 13, 14, 15, 16, 17, 2, 3, 4, 5, 6, 7, 8] (by decide) rfl [((sa 0) 0), ((sa 0) 1), ((sa 0) 2), ((sa 0) 3), ((sa 0) 4), ((sa 0) 5), ((sa 0) 6), (a 0), (a 1), (a 2), (a 3), (a 4), (a 5), (a 6)] rfl rfl 11 rfl rfl rfl hl.1 rfl (Nat.le_of_ble_eq_true rfl) ⟨Nat.zero_le _, Nat.zero_le _⟩ dX3_save_25 rfl rfl (fun H locs G => ?_)
  refine lv_aload_n hx hb dX3_save_28 rfl (lv_at hl 0 rfl) ?_
  refine lv_dup hx hb dX3_save_29 rfl ?_
  refine k_get (v := .int 0) S G 0 rfl rfl hiX3 4 (by decide) hf33 rfl dX3_save_30 ?_
  refine lv_iconst (v := 1) hx hb dX3_save_33 (by decide) ?_
  refine lv_iadd hx hb dX3_save_34 ?_
  refine lv_lit (v := 1) (by decide) ?_
  refine k_put (ws1 := ((x, .inr (3, [.ref (a 0), .ref sv, .ref tl, .ref er, .int 1])) :: (er, .inl (cI, 3, .inl z)) :: stW cI a r e ((tl, .inr (2, [.int n0, .int m0, .int p0, .int w0, .int s0, .int f0])) :: (sv, .inl (cS, 5, .inr (.inr (.inr (.inr (fun i => some (sa i 0))))))) :: stW cI (sa 0) r e (stW cI (sa 1) (sr 1) (se 1) (stW cI (sa 2) (sr 2) (se 2) (stW cI (sa 3) (sr 3) (se 3) (stW cI (sa 4) (sr 4) (se 4) ([])))))))) S G 0 rfl rfl hiX3 tyX3 tyX3_ok nmX3 4 (by decide) hf33 rfl rfl rfl (Nat.le_of_ble_eq_true rfl) dX3_save_35 rfl (fun H locs G => ?_)
  exact k_vret S G hr hlk dX3_save_38 rfl
set_option maxHeartbeats 4000000 in
set_option maxRecDepth 100000 in
theorem c_X3_save_1 (l : Launch) (D : va_G) (cI cS : ClassId) (x : Nat) (sv : Nat) (tl : Nat) (er : Nat) (z : Nat → Int32) (a : Nat → Nat) (r : Nat → Int32) (e : Nat → Nat → Int32) (n0 : Int32) (m0 : Int32) (p0 : Int32) (w0 : Int32) (s0 : Int32) (f0 : Int32) (sa : Nat → Nat → Nat) (sr : Nat → Nat → Int32) (se : Nat → Nat → Nat → Int32) : Ct l yX3_save wsX3_save ({ frames := 2, cells := 0, slots := 0, locals := 43 }) D (tyL cI cS) [.ref x] ((x, .inr (3, [.ref (a 0), .ref sv, .ref tl, .ref er, .int 1])) :: (er, .inl (cI, 3, .inl z)) :: stW cI a r e ((tl, .inr (2, [.int n0, .int m0, .int p0, .int w0, .int s0, .int f0])) :: (sv, .inl (cS, 5, .inr (.inr (.inr (.inr (fun i => some (sa i 0))))))) :: stW cI (sa 0) (sr 0) (se 0) (stW cI (sa 1) (sr 1) (se 1) (stW cI (sa 2) (sr 2) (se 2) (stW cI (sa 3) (sr 3) (se 3) (stW cI (sa 4) (sr 4) (se 4) ([]))))))) none ((x, .inr (3, [.ref (a 0), .ref sv, .ref tl, .ref er, .int 2])) :: (er, .inl (cI, 3, .inl z)) :: stW cI a r e ((tl, .inr (2, [.int n0, .int m0, .int p0, .int w0, .int s0, .int f0])) :: (sv, .inl (cS, 5, .inr (.inr (.inr (.inr (fun i => some (sa i 0))))))) :: stW cI (sa 0) (sr 0) (se 0) (stW cI (sa 1) r e (stW cI (sa 2) (sr 2) (se 2) (stW cI (sa 3) (sr 3) (se 3) (stW cI (sa 4) (sr 4) (se 4) ([]))))))) := by
  refine Ct.of (cc := cX3_save) (maxL := 1) (ret := none) (by decide) rfl (Nat.le_of_ble_eq_true rfl) ?_
  intro p ev s m args below meth c A ls S hr hlk G hl
  have hx := S.1
  have hb := S.2.1
  have hown : s.vm.findClass RX3 = some m.cls := S.2.2.2.1
  have hts := S.2.2.2.2
  have hl : lv_has ls 1 [(0, .ref x)] := hl
  have hiX3 : ∀ w ∈ wsX30, w ∈ wsX3_save := by decide +kernel
  have hf10 := hts (.fieldLink RX3 10 "StrikingWork" "now" "LStrikingWork$State;") (by decide +kernel)
  have hf16 := hts (.fieldLink RX3 16 "StrikingWork" "saved" "[LStrikingWork$State;") (by decide +kernel)
  have hf33 := hts (.fieldLink RX3 33 "StrikingWork" "savedCount" "I") (by decide +kernel)
  refine lv_aload_n hx hb dX3_save_0 rfl (lv_at hl 0 rfl) ?_
  refine k_get (v := .int 1) S G 0 rfl rfl hiX3 4 (by decide) hf33 rfl dX3_save_1 ?_
  refine lv_iconst (v := 5) hx hb dX3_save_4 (by decide) ?_
  refine lv_icmp_lt (tgt := 12) hx hb dX3_save_5 (by decide) (fun c_1 => ?_) (fun c_1 => absurd c_1 (by decide))
  refine lv_aload_n hx hb dX3_save_12 rfl (lv_at hl 0 rfl) ?_
  refine k_get (v := .ref sv) S G 0 rfl rfl hiX3 1 (by decide) hf16 rfl dX3_save_13 ?_
  refine lv_aload_n hx hb dX3_save_16 rfl (lv_at hl 0 rfl) ?_
  refine k_get (v := .int 1) S G 0 rfl rfl hiX3 4 (by decide) hf33 rfl dX3_save_17 ?_
  refine k_aald (x := ((sa 1) 0)) S G 10 1 rfl rfl (by unfold vp_in; decide) rfl dX3_save_20 ?_
  refine lv_aload_n hx hb dX3_save_21 rfl (lv_at hl 0 rfl) ?_
  refine k_get (v := .ref (a 0)) S G 0 rfl rfl hiX3 0 (by decide) hf10 rfl dX3_save_22 ?_
  refine k_callV (n := 1) (As := [.ref (a 0)]) (rest := []) (st1 := []) (ws1 := ((x, .inr (3, [.ref (a 0), .ref sv, .ref tl, .ref er, .int 1])) :: (er, .inl (cI, 3, .inl z)) :: stW cI a r e ((tl, .inr (2, [.int n0, .int m0, .int p0, .int w0, .int s0, .int f0])) :: (sv, .inl (cS, 5, .inr (.inr (.inr (.inr (fun i => some (sa i 0))))))) :: stW cI (sa 0) (sr 0) (se 0) (stW cI (sa 1) r e (stW cI (sa 2) (sr 2) (se 2) (stW cI (sa 3) (sr 3) (se 3) (stW cI (sa 4) (sr 4) (se 4) ([])))))))) S G (c_X0_copyFrom l D cI cS (sa 1) (sr 1) (se 1) a r e) gX3_save_X0_copyFrom rfl (by decide +kernel) ⟨⟨rfl, rfl⟩, Nat.le_of_ble_eq_true rfl, Nat.le_of_ble_eq_true rfl⟩ [18, 19, 20, 21, 22, 23, 24, 2, 3, 4, 5, 6, 7, 8] (by decide) rfl [((sa 1) 0), ((sa 1) 1), ((sa 1) 2), ((sa 1) 3), ((sa 1) 4), ((sa 1) 5), ((sa 1) 6), (a 0), (a 1), (a 2), (a 3), (a 4), (a 5), (a 6)] rfl rfl 18 rfl rfl rfl hl.1 rfl (Nat.le_of_ble_eq_true rfl) ⟨Nat.zero_le _, Nat.zero_le _⟩ dX3_save_25 rfl rfl (fun H locs G => ?_)
  refine lv_aload_n hx hb dX3_save_28 rfl (lv_at hl 0 rfl) ?_
  refine lv_dup hx hb dX3_save_29 rfl ?_
  refine k_get (v := .int 1) S G 0 rfl rfl hiX3 4 (by decide) hf33 rfl dX3_save_30 ?_
  refine lv_iconst (v := 1) hx hb dX3_save_33 (by decide) ?_
  refine lv_iadd hx hb dX3_save_34 ?_
  refine lv_lit (v := 2) (by decide) ?_
  refine k_put (ws1 := ((x, .inr (3, [.ref (a 0), .ref sv, .ref tl, .ref er, .int 2])) :: (er, .inl (cI, 3, .inl z)) :: stW cI a r e ((tl, .inr (2, [.int n0, .int m0, .int p0, .int w0, .int s0, .int f0])) :: (sv, .inl (cS, 5, .inr (.inr (.inr (.inr (fun i => some (sa i 0))))))) :: stW cI (sa 0) (sr 0) (se 0) (stW cI (sa 1) r e (stW cI (sa 2) (sr 2) (se 2) (stW cI (sa 3) (sr 3) (se 3) (stW cI (sa 4) (sr 4) (se 4) ([])))))))) S G 0 rfl rfl hiX3 tyX3 tyX3_ok nmX3 4 (by decide) hf33 rfl rfl rfl (Nat.le_of_ble_eq_true rfl) dX3_save_35 rfl (fun H locs G => ?_)
  exact k_vret S G hr hlk dX3_save_38 rfl
set_option maxHeartbeats 4000000 in
set_option maxRecDepth 100000 in
theorem c_X3_save_2 (l : Launch) (D : va_G) (cI cS : ClassId) (x : Nat) (sv : Nat) (tl : Nat) (er : Nat) (z : Nat → Int32) (a : Nat → Nat) (r : Nat → Int32) (e : Nat → Nat → Int32) (n0 : Int32) (m0 : Int32) (p0 : Int32) (w0 : Int32) (s0 : Int32) (f0 : Int32) (sa : Nat → Nat → Nat) (sr : Nat → Nat → Int32) (se : Nat → Nat → Nat → Int32) : Ct l yX3_save wsX3_save ({ frames := 2, cells := 0, slots := 0, locals := 43 }) D (tyL cI cS) [.ref x] ((x, .inr (3, [.ref (a 0), .ref sv, .ref tl, .ref er, .int 2])) :: (er, .inl (cI, 3, .inl z)) :: stW cI a r e ((tl, .inr (2, [.int n0, .int m0, .int p0, .int w0, .int s0, .int f0])) :: (sv, .inl (cS, 5, .inr (.inr (.inr (.inr (fun i => some (sa i 0))))))) :: stW cI (sa 0) (sr 0) (se 0) (stW cI (sa 1) (sr 1) (se 1) (stW cI (sa 2) (sr 2) (se 2) (stW cI (sa 3) (sr 3) (se 3) (stW cI (sa 4) (sr 4) (se 4) ([]))))))) none ((x, .inr (3, [.ref (a 0), .ref sv, .ref tl, .ref er, .int 3])) :: (er, .inl (cI, 3, .inl z)) :: stW cI a r e ((tl, .inr (2, [.int n0, .int m0, .int p0, .int w0, .int s0, .int f0])) :: (sv, .inl (cS, 5, .inr (.inr (.inr (.inr (fun i => some (sa i 0))))))) :: stW cI (sa 0) (sr 0) (se 0) (stW cI (sa 1) (sr 1) (se 1) (stW cI (sa 2) r e (stW cI (sa 3) (sr 3) (se 3) (stW cI (sa 4) (sr 4) (se 4) ([]))))))) := by
  refine Ct.of (cc := cX3_save) (maxL := 1) (ret := none) (by decide) rfl (Nat.le_of_ble_eq_true rfl) ?_
  intro p ev s m args below meth c A ls S hr hlk G hl
  have hx := S.1
  have hb := S.2.1
  have hown : s.vm.findClass RX3 = some m.cls := S.2.2.2.1
  have hts := S.2.2.2.2
  have hl : lv_has ls 1 [(0, .ref x)] := hl
  have hiX3 : ∀ w ∈ wsX30, w ∈ wsX3_save := by decide +kernel
  have hf10 := hts (.fieldLink RX3 10 "StrikingWork" "now" "LStrikingWork$State;") (by decide +kernel)
  have hf16 := hts (.fieldLink RX3 16 "StrikingWork" "saved" "[LStrikingWork$State;") (by decide +kernel)
  have hf33 := hts (.fieldLink RX3 33 "StrikingWork" "savedCount" "I") (by decide +kernel)
  refine lv_aload_n hx hb dX3_save_0 rfl (lv_at hl 0 rfl) ?_
  refine k_get (v := .int 2) S G 0 rfl rfl hiX3 4 (by decide) hf33 rfl dX3_save_1 ?_
  refine lv_iconst (v := 5) hx hb dX3_save_4 (by decide) ?_
  refine lv_icmp_lt (tgt := 12) hx hb dX3_save_5 (by decide) (fun c_1 => ?_) (fun c_1 => absurd c_1 (by decide))
  refine lv_aload_n hx hb dX3_save_12 rfl (lv_at hl 0 rfl) ?_
  refine k_get (v := .ref sv) S G 0 rfl rfl hiX3 1 (by decide) hf16 rfl dX3_save_13 ?_
  refine lv_aload_n hx hb dX3_save_16 rfl (lv_at hl 0 rfl) ?_
  refine k_get (v := .int 2) S G 0 rfl rfl hiX3 4 (by decide) hf33 rfl dX3_save_17 ?_
  refine k_aald (x := ((sa 2) 0)) S G 10 1 rfl rfl (by unfold vp_in; decide) rfl dX3_save_20 ?_
  refine lv_aload_n hx hb dX3_save_21 rfl (lv_at hl 0 rfl) ?_
  refine k_get (v := .ref (a 0)) S G 0 rfl rfl hiX3 0 (by decide) hf10 rfl dX3_save_22 ?_
  refine k_callV (n := 1) (As := [.ref (a 0)]) (rest := []) (st1 := []) (ws1 := ((x, .inr (3, [.ref (a 0), .ref sv, .ref tl, .ref er, .int 2])) :: (er, .inl (cI, 3, .inl z)) :: stW cI a r e ((tl, .inr (2, [.int n0, .int m0, .int p0, .int w0, .int s0, .int f0])) :: (sv, .inl (cS, 5, .inr (.inr (.inr (.inr (fun i => some (sa i 0))))))) :: stW cI (sa 0) (sr 0) (se 0) (stW cI (sa 1) (sr 1) (se 1) (stW cI (sa 2) r e (stW cI (sa 3) (sr 3) (se 3) (stW cI (sa 4) (sr 4) (se 4) ([])))))))) S G (c_X0_copyFrom l D cI cS (sa 2) (sr 2) (se 2) a r e) gX3_save_X0_copyFrom rfl (by decide +kernel) ⟨⟨rfl, rfl⟩, Nat.le_of_ble_eq_true rfl, Nat.le_of_ble_eq_true rfl⟩ [25, 26, 27, 28, 29, 30, 31, 2, 3, 4, 5, 6, 7, 8] (by decide) rfl [((sa 2) 0), ((sa 2) 1), ((sa 2) 2), ((sa 2) 3), ((sa 2) 4), ((sa 2) 5), ((sa 2) 6), (a 0), (a 1), (a 2), (a 3), (a 4), (a 5), (a 6)] rfl rfl 25 rfl rfl rfl hl.1 rfl (Nat.le_of_ble_eq_true rfl) ⟨Nat.zero_le _, Nat.zero_le _⟩ dX3_save_25 rfl rfl (fun H locs G => ?_)
  refine lv_aload_n hx hb dX3_save_28 rfl (lv_at hl 0 rfl) ?_
  refine lv_dup hx hb dX3_save_29 rfl ?_
  refine k_get (v := .int 2) S G 0 rfl rfl hiX3 4 (by decide) hf33 rfl dX3_save_30 ?_
  refine lv_iconst (v := 1) hx hb dX3_save_33 (by decide) ?_
  refine lv_iadd hx hb dX3_save_34 ?_
  refine lv_lit (v := 3) (by decide) ?_
  refine k_put (ws1 := ((x, .inr (3, [.ref (a 0), .ref sv, .ref tl, .ref er, .int 3])) :: (er, .inl (cI, 3, .inl z)) :: stW cI a r e ((tl, .inr (2, [.int n0, .int m0, .int p0, .int w0, .int s0, .int f0])) :: (sv, .inl (cS, 5, .inr (.inr (.inr (.inr (fun i => some (sa i 0))))))) :: stW cI (sa 0) (sr 0) (se 0) (stW cI (sa 1) (sr 1) (se 1) (stW cI (sa 2) r e (stW cI (sa 3) (sr 3) (se 3) (stW cI (sa 4) (sr 4) (se 4) ([])))))))) S G 0 rfl rfl hiX3 tyX3 tyX3_ok nmX3 4 (by decide) hf33 rfl rfl rfl (Nat.le_of_ble_eq_true rfl) dX3_save_35 rfl (fun H locs G => ?_)
  exact k_vret S G hr hlk dX3_save_38 rfl
set_option maxHeartbeats 4000000 in
set_option maxRecDepth 100000 in
theorem c_X3_save_3 (l : Launch) (D : va_G) (cI cS : ClassId) (x : Nat) (sv : Nat) (tl : Nat) (er : Nat) (z : Nat → Int32) (a : Nat → Nat) (r : Nat → Int32) (e : Nat → Nat → Int32) (n0 : Int32) (m0 : Int32) (p0 : Int32) (w0 : Int32) (s0 : Int32) (f0 : Int32) (sa : Nat → Nat → Nat) (sr : Nat → Nat → Int32) (se : Nat → Nat → Nat → Int32) : Ct l yX3_save wsX3_save ({ frames := 2, cells := 0, slots := 0, locals := 43 }) D (tyL cI cS) [.ref x] ((x, .inr (3, [.ref (a 0), .ref sv, .ref tl, .ref er, .int 3])) :: (er, .inl (cI, 3, .inl z)) :: stW cI a r e ((tl, .inr (2, [.int n0, .int m0, .int p0, .int w0, .int s0, .int f0])) :: (sv, .inl (cS, 5, .inr (.inr (.inr (.inr (fun i => some (sa i 0))))))) :: stW cI (sa 0) (sr 0) (se 0) (stW cI (sa 1) (sr 1) (se 1) (stW cI (sa 2) (sr 2) (se 2) (stW cI (sa 3) (sr 3) (se 3) (stW cI (sa 4) (sr 4) (se 4) ([]))))))) none ((x, .inr (3, [.ref (a 0), .ref sv, .ref tl, .ref er, .int 4])) :: (er, .inl (cI, 3, .inl z)) :: stW cI a r e ((tl, .inr (2, [.int n0, .int m0, .int p0, .int w0, .int s0, .int f0])) :: (sv, .inl (cS, 5, .inr (.inr (.inr (.inr (fun i => some (sa i 0))))))) :: stW cI (sa 0) (sr 0) (se 0) (stW cI (sa 1) (sr 1) (se 1) (stW cI (sa 2) (sr 2) (se 2) (stW cI (sa 3) r e (stW cI (sa 4) (sr 4) (se 4) ([]))))))) := by
  refine Ct.of (cc := cX3_save) (maxL := 1) (ret := none) (by decide) rfl (Nat.le_of_ble_eq_true rfl) ?_
  intro p ev s m args below meth c A ls S hr hlk G hl
  have hx := S.1
  have hb := S.2.1
  have hown : s.vm.findClass RX3 = some m.cls := S.2.2.2.1
  have hts := S.2.2.2.2
  have hl : lv_has ls 1 [(0, .ref x)] := hl
  have hiX3 : ∀ w ∈ wsX30, w ∈ wsX3_save := by decide +kernel
  have hf10 := hts (.fieldLink RX3 10 "StrikingWork" "now" "LStrikingWork$State;") (by decide +kernel)
  have hf16 := hts (.fieldLink RX3 16 "StrikingWork" "saved" "[LStrikingWork$State;") (by decide +kernel)
  have hf33 := hts (.fieldLink RX3 33 "StrikingWork" "savedCount" "I") (by decide +kernel)
  refine lv_aload_n hx hb dX3_save_0 rfl (lv_at hl 0 rfl) ?_
  refine k_get (v := .int 3) S G 0 rfl rfl hiX3 4 (by decide) hf33 rfl dX3_save_1 ?_
  refine lv_iconst (v := 5) hx hb dX3_save_4 (by decide) ?_
  refine lv_icmp_lt (tgt := 12) hx hb dX3_save_5 (by decide) (fun c_1 => ?_) (fun c_1 => absurd c_1 (by decide))
  refine lv_aload_n hx hb dX3_save_12 rfl (lv_at hl 0 rfl) ?_
  refine k_get (v := .ref sv) S G 0 rfl rfl hiX3 1 (by decide) hf16 rfl dX3_save_13 ?_
  refine lv_aload_n hx hb dX3_save_16 rfl (lv_at hl 0 rfl) ?_
  refine k_get (v := .int 3) S G 0 rfl rfl hiX3 4 (by decide) hf33 rfl dX3_save_17 ?_
  refine k_aald (x := ((sa 3) 0)) S G 10 1 rfl rfl (by unfold vp_in; decide) rfl dX3_save_20 ?_
  refine lv_aload_n hx hb dX3_save_21 rfl (lv_at hl 0 rfl) ?_
  refine k_get (v := .ref (a 0)) S G 0 rfl rfl hiX3 0 (by decide) hf10 rfl dX3_save_22 ?_
  refine k_callV (n := 1) (As := [.ref (a 0)]) (rest := []) (st1 := []) (ws1 := ((x, .inr (3, [.ref (a 0), .ref sv, .ref tl, .ref er, .int 3])) :: (er, .inl (cI, 3, .inl z)) :: stW cI a r e ((tl, .inr (2, [.int n0, .int m0, .int p0, .int w0, .int s0, .int f0])) :: (sv, .inl (cS, 5, .inr (.inr (.inr (.inr (fun i => some (sa i 0))))))) :: stW cI (sa 0) (sr 0) (se 0) (stW cI (sa 1) (sr 1) (se 1) (stW cI (sa 2) (sr 2) (se 2) (stW cI (sa 3) r e (stW cI (sa 4) (sr 4) (se 4) ([])))))))) S G (c_X0_copyFrom l D cI cS (sa 3) (sr 3) (se 3) a r e) gX3_save_X0_copyFrom rfl (by decide +kernel) ⟨⟨rfl, rfl⟩, Nat.le_of_ble_eq_true rfl, Nat.le_of_ble_eq_true rfl⟩ [32, 33, 34, 35, 36, 37, 38, 2, 3, 4, 5, 6, 7, 8] (by decide) rfl [((sa 3) 0), ((sa 3) 1), ((sa 3) 2), ((sa 3) 3), ((sa 3) 4), ((sa 3) 5), ((sa 3) 6), (a 0), (a 1), (a 2), (a 3), (a 4), (a 5), (a 6)] rfl rfl 32 rfl rfl rfl hl.1 rfl (Nat.le_of_ble_eq_true rfl) ⟨Nat.zero_le _, Nat.zero_le _⟩ dX3_save_25 rfl rfl (fun H locs G => ?_)
  refine lv_aload_n hx hb dX3_save_28 rfl (lv_at hl 0 rfl) ?_
  refine lv_dup hx hb dX3_save_29 rfl ?_
  refine k_get (v := .int 3) S G 0 rfl rfl hiX3 4 (by decide) hf33 rfl dX3_save_30 ?_
  refine lv_iconst (v := 1) hx hb dX3_save_33 (by decide) ?_
  refine lv_iadd hx hb dX3_save_34 ?_
  refine lv_lit (v := 4) (by decide) ?_
  refine k_put (ws1 := ((x, .inr (3, [.ref (a 0), .ref sv, .ref tl, .ref er, .int 4])) :: (er, .inl (cI, 3, .inl z)) :: stW cI a r e ((tl, .inr (2, [.int n0, .int m0, .int p0, .int w0, .int s0, .int f0])) :: (sv, .inl (cS, 5, .inr (.inr (.inr (.inr (fun i => some (sa i 0))))))) :: stW cI (sa 0) (sr 0) (se 0) (stW cI (sa 1) (sr 1) (se 1) (stW cI (sa 2) (sr 2) (se 2) (stW cI (sa 3) r e (stW cI (sa 4) (sr 4) (se 4) ([])))))))) S G 0 rfl rfl hiX3 tyX3 tyX3_ok nmX3 4 (by decide) hf33 rfl rfl rfl (Nat.le_of_ble_eq_true rfl) dX3_save_35 rfl (fun H locs G => ?_)
  exact k_vret S G hr hlk dX3_save_38 rfl
set_option maxHeartbeats 4000000 in
set_option maxRecDepth 100000 in
theorem c_X3_save_4 (l : Launch) (D : va_G) (cI cS : ClassId) (x : Nat) (sv : Nat) (tl : Nat) (er : Nat) (z : Nat → Int32) (a : Nat → Nat) (r : Nat → Int32) (e : Nat → Nat → Int32) (n0 : Int32) (m0 : Int32) (p0 : Int32) (w0 : Int32) (s0 : Int32) (f0 : Int32) (sa : Nat → Nat → Nat) (sr : Nat → Nat → Int32) (se : Nat → Nat → Nat → Int32) : Ct l yX3_save wsX3_save ({ frames := 2, cells := 0, slots := 0, locals := 43 }) D (tyL cI cS) [.ref x] ((x, .inr (3, [.ref (a 0), .ref sv, .ref tl, .ref er, .int 4])) :: (er, .inl (cI, 3, .inl z)) :: stW cI a r e ((tl, .inr (2, [.int n0, .int m0, .int p0, .int w0, .int s0, .int f0])) :: (sv, .inl (cS, 5, .inr (.inr (.inr (.inr (fun i => some (sa i 0))))))) :: stW cI (sa 0) (sr 0) (se 0) (stW cI (sa 1) (sr 1) (se 1) (stW cI (sa 2) (sr 2) (se 2) (stW cI (sa 3) (sr 3) (se 3) (stW cI (sa 4) (sr 4) (se 4) ([]))))))) none ((x, .inr (3, [.ref (a 0), .ref sv, .ref tl, .ref er, .int 5])) :: (er, .inl (cI, 3, .inl z)) :: stW cI a r e ((tl, .inr (2, [.int n0, .int m0, .int p0, .int w0, .int s0, .int f0])) :: (sv, .inl (cS, 5, .inr (.inr (.inr (.inr (fun i => some (sa i 0))))))) :: stW cI (sa 0) (sr 0) (se 0) (stW cI (sa 1) (sr 1) (se 1) (stW cI (sa 2) (sr 2) (se 2) (stW cI (sa 3) (sr 3) (se 3) (stW cI (sa 4) r e ([]))))))) := by
  refine Ct.of (cc := cX3_save) (maxL := 1) (ret := none) (by decide) rfl (Nat.le_of_ble_eq_true rfl) ?_
  intro p ev s m args below meth c A ls S hr hlk G hl
  have hx := S.1
  have hb := S.2.1
  have hown : s.vm.findClass RX3 = some m.cls := S.2.2.2.1
  have hts := S.2.2.2.2
  have hl : lv_has ls 1 [(0, .ref x)] := hl
  have hiX3 : ∀ w ∈ wsX30, w ∈ wsX3_save := by decide +kernel
  have hf10 := hts (.fieldLink RX3 10 "StrikingWork" "now" "LStrikingWork$State;") (by decide +kernel)
  have hf16 := hts (.fieldLink RX3 16 "StrikingWork" "saved" "[LStrikingWork$State;") (by decide +kernel)
  have hf33 := hts (.fieldLink RX3 33 "StrikingWork" "savedCount" "I") (by decide +kernel)
  refine lv_aload_n hx hb dX3_save_0 rfl (lv_at hl 0 rfl) ?_
  refine k_get (v := .int 4) S G 0 rfl rfl hiX3 4 (by decide) hf33 rfl dX3_save_1 ?_
  refine lv_iconst (v := 5) hx hb dX3_save_4 (by decide) ?_
  refine lv_icmp_lt (tgt := 12) hx hb dX3_save_5 (by decide) (fun c_1 => ?_) (fun c_1 => absurd c_1 (by decide))
  refine lv_aload_n hx hb dX3_save_12 rfl (lv_at hl 0 rfl) ?_
  refine k_get (v := .ref sv) S G 0 rfl rfl hiX3 1 (by decide) hf16 rfl dX3_save_13 ?_
  refine lv_aload_n hx hb dX3_save_16 rfl (lv_at hl 0 rfl) ?_
  refine k_get (v := .int 4) S G 0 rfl rfl hiX3 4 (by decide) hf33 rfl dX3_save_17 ?_
  refine k_aald (x := ((sa 4) 0)) S G 10 1 rfl rfl (by unfold vp_in; decide) rfl dX3_save_20 ?_
  refine lv_aload_n hx hb dX3_save_21 rfl (lv_at hl 0 rfl) ?_
  refine k_get (v := .ref (a 0)) S G 0 rfl rfl hiX3 0 (by decide) hf10 rfl dX3_save_22 ?_
  refine k_callV (n := 1) (As := [.ref (a 0)]) (rest := []) (st1 := []) (ws1 := ((x, .inr (3, [.ref (a 0), .ref sv, .ref tl, .ref er, .int 4])) :: (er, .inl (cI, 3, .inl z)) :: stW cI a r e ((tl, .inr (2, [.int n0, .int m0, .int p0, .int w0, .int s0, .int f0])) :: (sv, .inl (cS, 5, .inr (.inr (.inr (.inr (fun i => some (sa i 0))))))) :: stW cI (sa 0) (sr 0) (se 0) (stW cI (sa 1) (sr 1) (se 1) (stW cI (sa 2) (sr 2) (se 2) (stW cI (sa 3) (sr 3) (se 3) (stW cI (sa 4) r e ([])))))))) S G (c_X0_copyFrom l D cI cS (sa 4) (sr 4) (se 4) a r e) gX3_save_X0_copyFrom rfl (by decide +kernel) ⟨⟨rfl, rfl⟩, Nat.le_of_ble_eq_true rfl, Nat.le_of_ble_eq_true rfl⟩ [39, 40, 41, 42, 43, 44, 45, 2, 3, 4, 5, 6, 7, 8] (by decide) rfl [((sa 4) 0), ((sa 4) 1), ((sa 4) 2), ((sa 4) 3), ((sa 4) 4), ((sa 4) 5), ((sa 4) 6), (a 0), (a 1), (a 2), (a 3), (a 4), (a 5), (a 6)] rfl rfl 39 rfl rfl rfl hl.1 rfl (Nat.le_of_ble_eq_true rfl) ⟨Nat.zero_le _, Nat.zero_le _⟩ dX3_save_25 rfl rfl (fun H locs G => ?_)
  refine lv_aload_n hx hb dX3_save_28 rfl (lv_at hl 0 rfl) ?_
  refine lv_dup hx hb dX3_save_29 rfl ?_
  refine k_get (v := .int 4) S G 0 rfl rfl hiX3 4 (by decide) hf33 rfl dX3_save_30 ?_
  refine lv_iconst (v := 1) hx hb dX3_save_33 (by decide) ?_
  refine lv_iadd hx hb dX3_save_34 ?_
  refine lv_lit (v := 5) (by decide) ?_
  refine k_put (ws1 := ((x, .inr (3, [.ref (a 0), .ref sv, .ref tl, .ref er, .int 5])) :: (er, .inl (cI, 3, .inl z)) :: stW cI a r e ((tl, .inr (2, [.int n0, .int m0, .int p0, .int w0, .int s0, .int f0])) :: (sv, .inl (cS, 5, .inr (.inr (.inr (.inr (fun i => some (sa i 0))))))) :: stW cI (sa 0) (sr 0) (se 0) (stW cI (sa 1) (sr 1) (se 1) (stW cI (sa 2) (sr 2) (se 2) (stW cI (sa 3) (sr 3) (se 3) (stW cI (sa 4) r e ([])))))))) S G 0 rfl rfl hiX3 tyX3 tyX3_ok nmX3 4 (by decide) hf33 rfl rfl rfl (Nat.le_of_ble_eq_true rfl) dX3_save_35 rfl (fun H locs G => ?_)
  exact k_vret S G hr hlk dX3_save_38 rfl
set_option maxHeartbeats 4000000 in
set_option maxRecDepth 100000 in
theorem c_X3_save (l : Launch) (D : va_G) (cI cS : ClassId) (x : Nat) (sv : Nat) (tl : Nat) (er : Nat) (sc : Int32) (z : Nat → Int32) (a : Nat → Nat) (r : Nat → Int32) (e : Nat → Nat → Int32) (n0 : Int32) (m0 : Int32) (p0 : Int32) (w0 : Int32) (s0 : Int32) (f0 : Int32) (sa : Nat → Nat → Nat) (sr : Nat → Nat → Int32) (se : Nat → Nat → Nat → Int32) (hsc : scOk sc) : Ct l yX3_save wsX3_save ({ frames := 2, cells := 0, slots := 0, locals := 43 }) D (tyL cI cS) [.ref x] ((x, .inr (3, [.ref (a 0), .ref sv, .ref tl, .ref er, .int sc])) :: (er, .inl (cI, 3, .inl z)) :: stW cI a r e ((tl, .inr (2, [.int n0, .int m0, .int p0, .int w0, .int s0, .int f0])) :: (sv, .inl (cS, 5, .inr (.inr (.inr (.inr (fun i => some (sa i 0))))))) :: svW cI sa sr se ([]))) none ((x, .inr (3, [.ref (a 0), .ref sv, .ref tl, .ref er, .int (sSc sc)])) :: (er, .inl (cI, 3, .inl z)) :: stW cI a r e ((tl, .inr (2, [.int n0, .int m0, .int p0, .int w0, .int s0, .int f0])) :: (sv, .inl (cS, 5, .inr (.inr (.inr (.inr (fun i => some ((sSa sc sa) i 0))))))) :: svW cI (sSa sc sa) (sSr sc sr r) (sSe sc se e) ([]))) := by
  rcases scOk_cases hsc with rfl | rfl | rfl | rfl | rfl | rfl
  · exact c_X3_save_0 l D cI cS x sv tl er z a r e n0 m0 p0 w0 s0 f0 sa sr se
  · exact c_X3_save_1 l D cI cS x sv tl er z a r e n0 m0 p0 w0 s0 f0 sa sr se
  · exact c_X3_save_2 l D cI cS x sv tl er z a r e n0 m0 p0 w0 s0 f0 sa sr se
  · exact c_X3_save_3 l D cI cS x sv tl er z a r e n0 m0 p0 w0 s0 f0 sa sr se
  · exact c_X3_save_4 l D cI cS x sv tl er z a r e n0 m0 p0 w0 s0 f0 sa sr se
  · exact c_X3_save_5 l D cI cS x sv tl er z a r e n0 m0 p0 w0 s0 f0 sa sr se
end
