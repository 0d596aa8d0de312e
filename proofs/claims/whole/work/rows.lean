section
-- ===== PART A: goes FIRST, ahead of the names: the tables' words, and 'selects' of the private methods out of them =====
/-- a private method of a class that the tables say can be made, by its rows of tables_1 -/
def lw_okq (q : MethodName × Nat) : Prop := (q.1.cls ≠ "java/lang/invoke/MethodHandle" ∧ q.1.cls ≠ "java/lang/invoke/VarHandle") ∧ Cond.instantiable q.1.cls q.2 ∈ tables_1 ∧ Cond.privateMethod q.1 ∈ tables_1 ∧ Cond.instanceMethod q.1 ∈ tables_1
theorem lw_p0 : lw_okq (⟨"BoardClock", "firstWrong", "()I"⟩, 10) := ⟨⟨by decide +kernel, by decide +kernel⟩, List.mem_of_getElem? (i := 8) (by decide +kernel), List.mem_of_getElem? (i := 189) (by decide +kernel), List.mem_of_getElem? (i := 190) (by decide +kernel)⟩
theorem lw_p1 : lw_okq (⟨"BoardClock", "remember", "()V"⟩, 10) := ⟨⟨by decide +kernel, by decide +kernel⟩, List.mem_of_getElem? (i := 8) (by decide +kernel), List.mem_of_getElem? (i := 279) (by decide +kernel), List.mem_of_getElem? (i := 280) (by decide +kernel)⟩
theorem lw_p2 : lw_okq (⟨"BoardClock", "changeStep", "(I)I"⟩, 10) := ⟨⟨by decide +kernel, by decide +kernel⟩, List.mem_of_getElem? (i := 8) (by decide +kernel), List.mem_of_getElem? (i := 366) (by decide +kernel), List.mem_of_getElem? (i := 367) (by decide +kernel)⟩
theorem lw_p3 : lw_okq (⟨"BoardClock", "changeWider", "(I)I"⟩, 10) := ⟨⟨by decide +kernel, by decide +kernel⟩, List.mem_of_getElem? (i := 8) (by decide +kernel), List.mem_of_getElem? (i := 370) (by decide +kernel), List.mem_of_getElem? (i := 371) (by decide +kernel)⟩
theorem lw_p4 : lw_okq (⟨"BoardClock", "actByDraws", "()V"⟩, 10) := ⟨⟨by decide +kernel, by decide +kernel⟩, List.mem_of_getElem? (i := 8) (by decide +kernel), List.mem_of_getElem? (i := 425) (by decide +kernel), List.mem_of_getElem? (i := 426) (by decide +kernel)⟩
theorem lw_p5 : lw_okq (⟨"BoardClock", "draw", "(I)I"⟩, 10) := ⟨⟨by decide +kernel, by decide +kernel⟩, List.mem_of_getElem? (i := 8) (by decide +kernel), List.mem_of_getElem? (i := 429) (by decide +kernel), List.mem_of_getElem? (i := 430) (by decide +kernel)⟩
theorem lw_p6 : lw_okq (⟨"BoardClockModel", "spanNow", "()I"⟩, 8) := ⟨⟨by decide +kernel, by decide +kernel⟩, List.mem_of_getElem? (i := 490) (by decide +kernel), List.mem_of_getElem? (i := 531) (by decide +kernel), List.mem_of_getElem? (i := 532) (by decide +kernel)⟩
theorem lw_p7 : lw_okq (⟨"BoardClockModel", "offAt", "(J)J"⟩, 8) := ⟨⟨by decide +kernel, by decide +kernel⟩, List.mem_of_getElem? (i := 490) (by decide +kernel), List.mem_of_getElem? (i := 536) (by decide +kernel), List.mem_of_getElem? (i := 537) (by decide +kernel)⟩
theorem lw_p8 : lw_okq (⟨"BoardClockModel", "holds", "()Z"⟩, 8) := ⟨⟨by decide +kernel, by decide +kernel⟩, List.mem_of_getElem? (i := 490) (by decide +kernel), List.mem_of_getElem? (i := 541) (by decide +kernel), List.mem_of_getElem? (i := 542) (by decide +kernel)⟩
theorem lw_p9 : lw_okq (⟨"BoardClockModel", "aim", "()J"⟩, 8) := ⟨⟨by decide +kernel, by decide +kernel⟩, List.mem_of_getElem? (i := 490) (by decide +kernel), List.mem_of_getElem? (i := 546) (by decide +kernel), List.mem_of_getElem? (i := 547) (by decide +kernel)⟩
theorem lw_p10 : lw_okq (⟨"BoardClockModel", "allRings", "()J"⟩, 8) := ⟨⟨by decide +kernel, by decide +kernel⟩, List.mem_of_getElem? (i := 490) (by decide +kernel), List.mem_of_getElem? (i := 553) (by decide +kernel), List.mem_of_getElem? (i := 554) (by decide +kernel)⟩
theorem lw_p11 : lw_okq (⟨"BoardClockModel", "ringsAt", "(I)J"⟩, 8) := ⟨⟨by decide +kernel, by decide +kernel⟩, List.mem_of_getElem? (i := 490) (by decide +kernel), List.mem_of_getElem? (i := 557) (by decide +kernel), List.mem_of_getElem? (i := 558) (by decide +kernel)⟩
theorem lw_p12 : lw_okq (⟨"BoardClockModel", "untilDone", "()I"⟩, 8) := ⟨⟨by decide +kernel, by decide +kernel⟩, List.mem_of_getElem? (i := 490) (by decide +kernel), List.mem_of_getElem? (i := 561) (by decide +kernel), List.mem_of_getElem? (i := 562) (by decide +kernel)⟩
theorem lw_p13 : lw_okq (⟨"BoardClockModel", "wrong", "()I"⟩, 8) := ⟨⟨by decide +kernel, by decide +kernel⟩, List.mem_of_getElem? (i := 490) (by decide +kernel), List.mem_of_getElem? (i := 566) (by decide +kernel), List.mem_of_getElem? (i := 567) (by decide +kernel)⟩
theorem lw_p14 : lw_okq (⟨"BoardClockModel", "minuteNow", "()J"⟩, 8) := ⟨⟨by decide +kernel, by decide +kernel⟩, List.mem_of_getElem? (i := 490) (by decide +kernel), List.mem_of_getElem? (i := 570) (by decide +kernel), List.mem_of_getElem? (i := 571) (by decide +kernel)⟩
theorem lw_p15 : lw_okq (⟨"BoardClockModel", "isAlarm", "(I)Z"⟩, 8) := ⟨⟨by decide +kernel, by decide +kernel⟩, List.mem_of_getElem? (i := 490) (by decide +kernel), List.mem_of_getElem? (i := 600) (by decide +kernel), List.mem_of_getElem? (i := 601) (by decide +kernel)⟩
def lw_privs_1 : List (MethodName × Nat) := [(⟨"BoardClock", "firstWrong", "()I"⟩, 10), (⟨"BoardClock", "remember", "()V"⟩, 10), (⟨"BoardClock", "changeStep", "(I)I"⟩, 10), (⟨"BoardClock", "changeWider", "(I)I"⟩, 10), (⟨"BoardClock", "actByDraws", "()V"⟩, 10), (⟨"BoardClock", "draw", "(I)I"⟩, 10), (⟨"BoardClockModel", "spanNow", "()I"⟩, 8), (⟨"BoardClockModel", "offAt", "(J)J"⟩, 8), (⟨"BoardClockModel", "holds", "()Z"⟩, 8), (⟨"BoardClockModel", "aim", "()J"⟩, 8), (⟨"BoardClockModel", "allRings", "()J"⟩, 8), (⟨"BoardClockModel", "ringsAt", "(I)J"⟩, 8), (⟨"BoardClockModel", "untilDone", "()I"⟩, 8), (⟨"BoardClockModel", "wrong", "()I"⟩, 8), (⟨"BoardClockModel", "minuteNow", "()J"⟩, 8), (⟨"BoardClockModel", "isAlarm", "(I)Z"⟩, 8)]
theorem lw_r1 : ∀ q ∈ lw_privs_1, lw_okq q := List.forall_mem_cons.mpr ⟨lw_p0, List.forall_mem_cons.mpr ⟨lw_p1, List.forall_mem_cons.mpr ⟨lw_p2, List.forall_mem_cons.mpr ⟨lw_p3, List.forall_mem_cons.mpr ⟨lw_p4, List.forall_mem_cons.mpr ⟨lw_p5, List.forall_mem_cons.mpr ⟨lw_p6, List.forall_mem_cons.mpr ⟨lw_p7, List.forall_mem_cons.mpr ⟨lw_p8, List.forall_mem_cons.mpr ⟨lw_p9, List.forall_mem_cons.mpr ⟨lw_p10, List.forall_mem_cons.mpr ⟨lw_p11, List.forall_mem_cons.mpr ⟨lw_p12, List.forall_mem_cons.mpr ⟨lw_p13, List.forall_mem_cons.mpr ⟨lw_p14, List.forall_mem_cons.mpr ⟨lw_p15, fun _ h => absurd h List.not_mem_nil⟩⟩⟩⟩⟩⟩⟩⟩⟩⟩⟩⟩⟩⟩⟩⟩
theorem lw_p16 : lw_okq (⟨"BoardClockModel", "next", "(I)J"⟩, 8) := ⟨⟨by decide +kernel, by decide +kernel⟩, List.mem_of_getElem? (i := 490) (by decide +kernel), List.mem_of_getElem? (i := 605) (by decide +kernel), List.mem_of_getElem? (i := 606) (by decide +kernel)⟩
theorem lw_p17 : lw_okq (⟨"BoardClockModel", "fits", "(IJ)Z"⟩, 8) := ⟨⟨by decide +kernel, by decide +kernel⟩, List.mem_of_getElem? (i := 490) (by decide +kernel), List.mem_of_getElem? (i := 609) (by decide +kernel), List.mem_of_getElem? (i := 610) (by decide +kernel)⟩
theorem lw_p18 : lw_okq (⟨"BoardClockModel", "notes", "()V"⟩, 8) := ⟨⟨by decide +kernel, by decide +kernel⟩, List.mem_of_getElem? (i := 490) (by decide +kernel), List.mem_of_getElem? (i := 624) (by decide +kernel), List.mem_of_getElem? (i := 625) (by decide +kernel)⟩
theorem lw_p19 : lw_okq (⟨"BoardClockModel", "goes", "(I)I"⟩, 8) := ⟨⟨by decide +kernel, by decide +kernel⟩, List.mem_of_getElem? (i := 490) (by decide +kernel), List.mem_of_getElem? (i := 631) (by decide +kernel), List.mem_of_getElem? (i := 632) (by decide +kernel)⟩
theorem lw_p20 : lw_okq (⟨"BoardClockModel", "boardAfter", "(I)J"⟩, 8) := ⟨⟨by decide +kernel, by decide +kernel⟩, List.mem_of_getElem? (i := 490) (by decide +kernel), List.mem_of_getElem? (i := 635) (by decide +kernel), List.mem_of_getElem? (i := 636) (by decide +kernel)⟩
theorem lw_p21 : lw_okq (⟨"BoardClockModel", "spread", "(I)J"⟩, 8) := ⟨⟨by decide +kernel, by decide +kernel⟩, List.mem_of_getElem? (i := 490) (by decide +kernel), List.mem_of_getElem? (i := 639) (by decide +kernel), List.mem_of_getElem? (i := 640) (by decide +kernel)⟩
theorem lw_p22 : lw_okq (⟨"BoardClockModel", "gone", "(I)J"⟩, 8) := ⟨⟨by decide +kernel, by decide +kernel⟩, List.mem_of_getElem? (i := 490) (by decide +kernel), List.mem_of_getElem? (i := 646) (by decide +kernel), List.mem_of_getElem? (i := 647) (by decide +kernel)⟩
theorem lw_p23 : lw_okq (⟨"BoardClockModel", "between", "(IJ)J"⟩, 8) := ⟨⟨by decide +kernel, by decide +kernel⟩, List.mem_of_getElem? (i := 490) (by decide +kernel), List.mem_of_getElem? (i := 653) (by decide +kernel), List.mem_of_getElem? (i := 654) (by decide +kernel)⟩
theorem lw_p24 : lw_okq (⟨"BoardClockModel", "restAfter", "(I)J"⟩, 8) := ⟨⟨by decide +kernel, by decide +kernel⟩, List.mem_of_getElem? (i := 490) (by decide +kernel), List.mem_of_getElem? (i := 658) (by decide +kernel), List.mem_of_getElem? (i := 659) (by decide +kernel)⟩
theorem lw_p25 : lw_okq (⟨"BoardClockModel", "wider", "()J"⟩, 8) := ⟨⟨by decide +kernel, by decide +kernel⟩, List.mem_of_getElem? (i := 490) (by decide +kernel), List.mem_of_getElem? (i := 663) (by decide +kernel), List.mem_of_getElem? (i := 664) (by decide +kernel)⟩
theorem lw_p26 : lw_okq (⟨"BoardClockModel", "hears", "(JJ)I"⟩, 8) := ⟨⟨by decide +kernel, by decide +kernel⟩, List.mem_of_getElem? (i := 490) (by decide +kernel), List.mem_of_getElem? (i := 697) (by decide +kernel), List.mem_of_getElem? (i := 698) (by decide +kernel)⟩
theorem lw_p27 : lw_okq (⟨"BoardClockModel", "learns", "(J)V"⟩, 8) := ⟨⟨by decide +kernel, by decide +kernel⟩, List.mem_of_getElem? (i := 490) (by decide +kernel), List.mem_of_getElem? (i := 701) (by decide +kernel), List.mem_of_getElem? (i := 702) (by decide +kernel)⟩
theorem lw_p28 : lw_okq (⟨"BoardClockModel", "draw", "(I)J"⟩, 8) := ⟨⟨by decide +kernel, by decide +kernel⟩, List.mem_of_getElem? (i := 490) (by decide +kernel), List.mem_of_getElem? (i := 730) (by decide +kernel), List.mem_of_getElem? (i := 731) (by decide +kernel)⟩
def lw_privs_2 : List (MethodName × Nat) := [(⟨"BoardClockModel", "next", "(I)J"⟩, 8), (⟨"BoardClockModel", "fits", "(IJ)Z"⟩, 8), (⟨"BoardClockModel", "notes", "()V"⟩, 8), (⟨"BoardClockModel", "goes", "(I)I"⟩, 8), (⟨"BoardClockModel", "boardAfter", "(I)J"⟩, 8), (⟨"BoardClockModel", "spread", "(I)J"⟩, 8), (⟨"BoardClockModel", "gone", "(I)J"⟩, 8), (⟨"BoardClockModel", "between", "(IJ)J"⟩, 8), (⟨"BoardClockModel", "restAfter", "(I)J"⟩, 8), (⟨"BoardClockModel", "wider", "()J"⟩, 8), (⟨"BoardClockModel", "hears", "(JJ)I"⟩, 8), (⟨"BoardClockModel", "learns", "(J)V"⟩, 8), (⟨"BoardClockModel", "draw", "(I)J"⟩, 8)]
theorem lw_r2 : ∀ q ∈ lw_privs_2, lw_okq q := List.forall_mem_cons.mpr ⟨lw_p16, List.forall_mem_cons.mpr ⟨lw_p17, List.forall_mem_cons.mpr ⟨lw_p18, List.forall_mem_cons.mpr ⟨lw_p19, List.forall_mem_cons.mpr ⟨lw_p20, List.forall_mem_cons.mpr ⟨lw_p21, List.forall_mem_cons.mpr ⟨lw_p22, List.forall_mem_cons.mpr ⟨lw_p23, List.forall_mem_cons.mpr ⟨lw_p24, List.forall_mem_cons.mpr ⟨lw_p25, List.forall_mem_cons.mpr ⟨lw_p26, List.forall_mem_cons.mpr ⟨lw_p27, List.forall_mem_cons.mpr ⟨lw_p28, fun _ h => absurd h List.not_mem_nil⟩⟩⟩⟩⟩⟩⟩⟩⟩⟩⟩⟩⟩
def lw_privs : List (MethodName × Nat) := lw_privs_1 ++ (lw_privs_2)
def lw_tbl : List Cond := k2_sels lw_privs ++ tables_1
theorem lw_privs_ok : ∀ q ∈ lw_privs, lw_okq q := by
  show ∀ q ∈ lw_privs_1 ++ (lw_privs_2), lw_okq q
  exact List.forall_mem_append.mpr ⟨lw_r1, lw_r2⟩
end
section
/-! ===== BEGIN words of one list among another's, by their places ===== -/
theorem goodIn_r {big : List Cond} (ws : List Cond) (ps : List Nat) (hp : ws = ps.filterMap (fun i => big[i]?)) (h : ws.all goodWord = true) : GoodIn big ws := by
  intro w hw
  have h1 := List.all_eq_true.mp h w hw
  rw [hp] at hw
  obtain ⟨i, -, hi⟩ := List.mem_filterMap.mp hw
  have hm : w ∈ big := by first | exact List.mem_of_getElem? hi | exact List.getElem?_mem hi
  exact ⟨hm, good_of_word h1⟩
theorem goodIn_app {big a b : List Cond} (ha : GoodIn big a) (hb : GoodIn big b) : GoodIn big (a ++ b) := fun w h => (List.mem_append.mp h).elim (ha w) (hb w)
theorem goodIn_ca {big a b : List Cond} {c : Cond} (ha : GoodIn big (c :: a)) (hb : GoodIn big b) : GoodIn big (c :: (a ++ b)) := fun w h => (List.mem_cons.mp h).elim (fun e => ha w (List.mem_cons.mpr (Or.inl e))) (fun h => (List.mem_append.mp h).elim (fun h => ha w (List.mem_cons.mpr (Or.inr h))) (hb w))
theorem goodIn_sub {big ws : List Cond} (hm : ∀ w ∈ ws, w ∈ big) (h : ws.all goodWord = true) : GoodIn big ws := fun w hw => ⟨hm w hw, good_of_word (List.all_eq_true.mp h w hw)⟩
/-! ===== END ===== -/

/-! ===== BEGIN printed: names, fields, word lists, decode rows ===== -/
def RX0 : String := "BoardClock$Alarms"
def TX0 : u_T := fun k => match k with
  | 0 => ("BoardClock$Alarms", "count", "I", false)
  | 1 => ("BoardClock$Alarms", "minutes", "[I", true)
  | 2 => ("BoardClock$Alarms", "hours", "[I", true)
  | 3 => ("BoardClock$Alarms", "weekdays", "[I", true)
  | _ => ("BoardClock$Alarms", "rung", "[I", true)
def tyX0 : Nat → FieldType := fun k => match k with
  | 0 => .int
  | 1 => .array .int
  | 2 => .array .int
  | 3 => .array .int
  | _ => .array .int
abbrev wsX00 : List Cond := u_ws RX0 TX0 5
theorem nmX0 : ∀ a, a < 5 → ∀ b, b < 5 → a ≠ b → (TX0 a).2.1 ≠ (TX0 b).2.1 := by decide +kernel
theorem tyX0_ok : ∀ k, k < 5 → parseFieldDescriptor (TX0 k).2.2.1 = some (tyX0 k) := by decide +kernel
abbrev cX0_init : ByteArray := prog_2_method_1_code
def yX0_init : MethodName := ⟨RX0, "<init>", "()V"⟩
abbrev cX0_copyFrom : ByteArray := prog_2_method_2_code
def yX0_copyFrom : MethodName := ⟨RX0, "copyFrom", "(LBoardClock$Alarms;)V"⟩
abbrev cX0_has : ByteArray := prog_2_method_3_code
def yX0_has : MethodName := ⟨RX0, "has", "(I)Z"⟩
abbrev cX0_add : ByteArray := prog_2_method_4_code
def yX0_add : MethodName := ⟨RX0, "add", "(III)I"⟩
abbrev cX0_remove : ByteArray := prog_2_method_5_code
def yX0_remove : MethodName := ⟨RX0, "remove", "(I)V"⟩
abbrev cX0_totalRings : ByteArray := prog_2_method_6_code
def yX0_totalRings : MethodName := ⟨RX0, "totalRings", "()I"⟩
abbrev cX0_ring : ByteArray := prog_2_method_7_code
def yX0_ring : MethodName := ⟨RX0, "ring", "(JJ)I"⟩
abbrev cX0_ringsToCome : ByteArray := prog_2_method_8_code
def yX0_ringsToCome : MethodName := ⟨RX0, "ringsToCome", "(JJ)I"⟩
abbrev cX0_countFitting : ByteArray := prog_2_method_9_code
def yX0_countFitting : MethodName := ⟨RX0, "countFitting", "(IJJ)I"⟩
abbrev cX0_nextFit : ByteArray := prog_2_method_10_code
def yX0_nextFit : MethodName := ⟨RX0, "nextFit", "(IJ)J"⟩
abbrev cX0_fitsDay : ByteArray := prog_2_method_11_code
def yX0_fitsDay : MethodName := ⟨RX0, "fitsDay", "(IJ)Z"⟩
abbrev cX0_fitsHour : ByteArray := prog_2_method_12_code
def yX0_fitsHour : MethodName := ⟨RX0, "fitsHour", "(IJ)Z"⟩
abbrev cX0_fitsMinute : ByteArray := prog_2_method_13_code
def yX0_fitsMinute : MethodName := ⟨RX0, "fitsMinute", "(IJ)Z"⟩
def RX1 : String := "BoardClock$State"
def TX1 : u_T := fun k => match k with
  | 0 => ("BoardClock$State", "trueTime", "J", false)
  | 1 => ("BoardClock$State", "boardTime", "J", false)
  | 2 => ("BoardClock$State", "ahead", "J", false)
  | 3 => ("BoardClock$State", "warmth", "I", false)
  | 4 => ("BoardClock$State", "top", "I", false)
  | 5 => ("BoardClock$State", "curve", "I", false)
  | 6 => ("BoardClock$State", "base", "I", false)
  | 7 => ("BoardClock$State", "rest", "I", false)
  | 8 => ("BoardClock$State", "step", "I", false)
  | 9 => ("BoardClock$State", "width", "I", false)
  | 10 => ("BoardClock$State", "wider", "I", false)
  | 11 => ("BoardClock$State", "powered", "Z", false)
  | 12 => ("BoardClock$State", "broken", "I", false)
  | 13 => ("BoardClock$State", "ticks", "I", false)
  | 14 => ("BoardClock$State", "tickSpan", "I", false)
  | 15 => ("BoardClock$State", "steady", "Z", false)
  | 16 => ("BoardClock$State", "learned", "[I", true)
  | _ => ("BoardClock$State", "alarms", "LBoardClock$Alarms;", true)
def tyX1 : Nat → FieldType := fun k => match k with
  | 0 => .long
  | 1 => .long
  | 2 => .long
  | 3 => .int
  | 4 => .int
  | 5 => .int
  | 6 => .int
  | 7 => .int
  | 8 => .int
  | 9 => .int
  | 10 => .int
  | 11 => .boolean
  | 12 => .int
  | 13 => .int
  | 14 => .int
  | 15 => .boolean
  | 16 => .array .int
  | _ => .object "BoardClock$Alarms"
abbrev wsX10 : List Cond := u_ws RX1 TX1 18
theorem nmX1 : ∀ a, a < 18 → ∀ b, b < 18 → a ≠ b → (TX1 a).2.1 ≠ (TX1 b).2.1 := by decide +kernel
theorem tyX1_ok : ∀ k, k < 18 → parseFieldDescriptor (TX1 k).2.2.1 = some (tyX1 k) := by decide +kernel
abbrev cX1_init : ByteArray := prog_3_method_1_code
def yX1_init : MethodName := ⟨RX1, "<init>", "()V"⟩
abbrev cX1_copyFrom : ByteArray := prog_3_method_2_code
def yX1_copyFrom : MethodName := ⟨RX1, "copyFrom", "(LBoardClock$State;)V"⟩
abbrev cX1_aim : ByteArray := prog_3_method_3_code
def yX1_aim : MethodName := ⟨RX1, "aim", "()J"⟩
abbrev cX1_minuteNumber : ByteArray := prog_3_method_4_code
def yX1_minuteNumber : MethodName := ⟨RX1, "minuteNumber", "()J"⟩
abbrev cX1_offAt : ByteArray := prog_3_method_5_code
def yX1_offAt : MethodName := ⟨RX1, "offAt", "(I)I"⟩
abbrev cX1_fitOf : ByteArray := prog_3_method_6_code
def yX1_fitOf : MethodName := ⟨RX1, "fitOf", "(I)I"⟩
abbrev cX1_learnedOf : ByteArray := prog_3_method_7_code
def yX1_learnedOf : MethodName := ⟨RX1, "learnedOf", "(I)I"⟩
abbrev cX1_isWithinBounds : ByteArray := prog_3_method_8_code
def yX1_isWithinBounds : MethodName := ⟨RX1, "isWithinBounds", "()Z"⟩
abbrev cX1_sixteenthsAfter : ByteArray := prog_3_method_9_code
def yX1_sixteenthsAfter : MethodName := ⟨RX1, "sixteenthsAfter", "(I)J"⟩
abbrev cX1_stepsAfter : ByteArray := prog_3_method_10_code
def yX1_stepsAfter : MethodName := ⟨RX1, "stepsAfter", "(I)J"⟩
abbrev cX1_boardTimeAfter : ByteArray := prog_3_method_11_code
def yX1_boardTimeAfter : MethodName := ⟨RX1, "boardTimeAfter", "(I)J"⟩
abbrev cX1_widthPerTick : ByteArray := prog_3_method_12_code
def yX1_widthPerTick : MethodName := ⟨RX1, "widthPerTick", "()I"⟩
abbrev cX1_pass : ByteArray := prog_3_method_13_code
def yX1_pass : MethodName := ⟨RX1, "pass", "(I)I"⟩
abbrev cX1_noteTicks : ByteArray := prog_3_method_14_code
def yX1_noteTicks : MethodName := ⟨RX1, "noteTicks", "(I)V"⟩
abbrev cX1_takeIn : ByteArray := prog_3_method_15_code
def yX1_takeIn : MethodName := ⟨RX1, "takeIn", "(II)Z"⟩
abbrev cX1_learnFrom : ByteArray := prog_3_method_16_code
def yX1_learnFrom : MethodName := ⟨RX1, "learnFrom", "(J)V"⟩
abbrev cX1_aimBetween : ByteArray := prog_3_method_17_code
def yX1_aimBetween : MethodName := ⟨RX1, "aimBetween", "(JJ)V"⟩
abbrev cX1_ticksUntilDone : ByteArray := prog_3_method_18_code
def yX1_ticksUntilDone : MethodName := ⟨RX1, "ticksUntilDone", "()I"⟩
abbrev cX1_ticksUntilWide : ByteArray := prog_3_method_19_code
def yX1_ticksUntilWide : MethodName := ⟨RX1, "ticksUntilWide", "(J)I"⟩
def RX2 : String := "BoardClock"
def TX2 : u_T := fun k => match k with
  | 0 => ("BoardClock", "now", "LBoardClock$State;", true)
  | 1 => ("BoardClock", "theSeed", "I", false)
  | 2 => ("BoardClock", "past", "[LBoardClock$State;", true)
  | 3 => ("BoardClock", "nextPast", "I", false)
  | 4 => ("BoardClock", "undoable", "I", false)
  | 5 => ("BoardClock", "images", "[LBoardClock$State;", true)
  | 6 => ("BoardClock", "imageSeeds", "[I", true)
  | 7 => ("BoardClock", "imageKept", "[Z", true)
  | 8 => ("BoardClock", "book", "[I", true)
  | _ => ("BoardClock", "entries", "I", false)
def tyX2 : Nat → FieldType := fun k => match k with
  | 0 => .object "BoardClock$State"
  | 1 => .int
  | 2 => .array (.object "BoardClock$State")
  | 3 => .int
  | 4 => .int
  | 5 => .array (.object "BoardClock$State")
  | 6 => .array .int
  | 7 => .array .boolean
  | 8 => .array .int
  | _ => .int
abbrev wsX20 : List Cond := u_ws RX2 TX2 10
theorem nmX2 : ∀ a, a < 10 → ∀ b, b < 10 → a ≠ b → (TX2 a).2.1 ≠ (TX2 b).2.1 := by decide +kernel
theorem tyX2_ok : ∀ k, k < 10 → parseFieldDescriptor (TX2 k).2.2.1 = some (tyX2 k) := by decide +kernel
abbrev cX2_init : ByteArray := prog_1_method_1_code
def yX2_init : MethodName := ⟨RX2, "<init>", "()V"⟩
abbrev cX2_told : ByteArray := prog_1_method_2_code
def yX2_told : MethodName := ⟨RX2, "told", "(I)I"⟩
abbrev cX2_time : ByteArray := prog_1_method_3_code
def yX2_time : MethodName := ⟨RX2, "time", "(I)J"⟩
abbrev cX2_calendar : ByteArray := prog_1_method_4_code
def yX2_calendar : MethodName := ⟨RX2, "calendar", "(I)I"⟩
abbrev cX2_span : ByteArray := prog_1_method_5_code
def yX2_span : MethodName := ⟨RX2, "span", "(II)I"⟩
abbrev cX2_alarmAt : ByteArray := prog_1_method_6_code
def yX2_alarmAt : MethodName := ⟨RX2, "alarmAt", "(II)I"⟩
abbrev cX2_tick : ByteArray := prog_1_method_7_code
def yX2_tick : MethodName := ⟨RX2, "tick", "(I)I"⟩
abbrev cX2_warm : ByteArray := prog_1_method_8_code
def yX2_warm : MethodName := ⟨RX2, "warm", "(I)I"⟩
abbrev cX2_crystal : ByteArray := prog_1_method_9_code
def yX2_crystal : MethodName := ⟨RX2, "crystal", "(III)I"⟩
abbrev cX2_bound : ByteArray := prog_1_method_10_code
def yX2_bound : MethodName := ⟨RX2, "bound", "(II)I"⟩
abbrev cX2_power : ByteArray := prog_1_method_11_code
def yX2_power : MethodName := ⟨RX2, "power", "(Z)I"⟩
abbrev cX2_hear : ByteArray := prog_1_method_12_code
def yX2_hear : MethodName := ⟨RX2, "hear", "(II)I"⟩
abbrev cX2_alarm : ByteArray := prog_1_method_13_code
def yX2_alarm : MethodName := ⟨RX2, "alarm", "(III)I"⟩
abbrev cX2_drop : ByteArray := prog_1_method_14_code
def yX2_drop : MethodName := ⟨RX2, "drop", "(I)I"⟩
abbrev cX2_learn : ByteArray := prog_1_method_15_code
def yX2_learn : MethodName := ⟨RX2, "learn", "(II)I"⟩
abbrev cX2_drift : ByteArray := prog_1_method_16_code
def yX2_drift : MethodName := ⟨RX2, "drift", "(I)I"⟩
abbrev cX2_undo : ByteArray := prog_1_method_17_code
def yX2_undo : MethodName := ⟨RX2, "undo", "(I)I"⟩
abbrev cX2_evenly : ByteArray := prog_1_method_18_code
def yX2_evenly : MethodName := ⟨RX2, "evenly", "(III)I"⟩
abbrev cX2_after : ByteArray := prog_1_method_19_code
def yX2_after : MethodName := ⟨RX2, "after", "(I)J"⟩
abbrev cX2_rings : ByteArray := prog_1_method_20_code
def yX2_rings : MethodName := ⟨RX2, "rings", "(I)I"⟩
abbrev cX2_untilWide : ByteArray := prog_1_method_21_code
def yX2_untilWide : MethodName := ⟨RX2, "untilWide", "(I)I"⟩
abbrev cX2_write : ByteArray := prog_1_method_22_code
def yX2_write : MethodName := ⟨RX2, "write", "(I)I"⟩
abbrev cX2_tear : ByteArray := prog_1_method_23_code
def yX2_tear : MethodName := ⟨RX2, "tear", "()I"⟩
abbrev cX2_seed : ByteArray := prog_1_method_24_code
def yX2_seed : MethodName := ⟨RX2, "seed", "(I)I"⟩
abbrev cX2_keep : ByteArray := prog_1_method_25_code
def yX2_keep : MethodName := ⟨RX2, "keep", "(I)I"⟩
abbrev cX2_goBack : ByteArray := prog_1_method_26_code
def yX2_goBack : MethodName := ⟨RX2, "goBack", "(I)I"⟩
abbrev cX2_remember : ByteArray := prog_1_method_27_code
def yX2_remember : MethodName := ⟨RX2, "remember", "()V"⟩
abbrev cX2_changeStep : ByteArray := prog_1_method_28_code
def yX2_changeStep : MethodName := ⟨RX2, "changeStep", "(I)I"⟩
abbrev cX2_changeWider : ByteArray := prog_1_method_29_code
def yX2_changeWider : MethodName := ⟨RX2, "changeWider", "(I)I"⟩
abbrev cX2_actByDraws : ByteArray := prog_1_method_30_code
def yX2_actByDraws : MethodName := ⟨RX2, "actByDraws", "()V"⟩
abbrev cX2_draw : ByteArray := prog_1_method_31_code
def yX2_draw : MethodName := ⟨RX2, "draw", "(I)I"⟩
abbrev cX2_firstWrong : ByteArray := prog_1_method_32_code
def yX2_firstWrong : MethodName := ⟨RX2, "firstWrong", "()I"⟩
abbrev cX2_asInt : ByteArray := prog_1_method_33_code
def yX2_asInt : MethodName := ⟨RX2, "asInt", "(Z)I"⟩
abbrev cX2_isWithin : ByteArray := prog_1_method_34_code
def yX2_isWithin : MethodName := ⟨RX2, "isWithin", "(III)Z"⟩
abbrev cX2_heldBetween : ByteArray := prog_1_method_35_code
def yX2_heldBetween : MethodName := ⟨RX2, "heldBetween", "(JJJ)J"⟩
abbrev cX2_isSpan : ByteArray := prog_1_method_36_code
def yX2_isSpan : MethodName := ⟨RX2, "isSpan", "(I)Z"⟩
abbrev cX2_spanOf : ByteArray := prog_1_method_37_code
def yX2_spanOf : MethodName := ⟨RX2, "spanOf", "(I)I"⟩
abbrev cX2_minuteOf : ByteArray := prog_1_method_38_code
def yX2_minuteOf : MethodName := ⟨RX2, "minuteOf", "(J)I"⟩
abbrev cX2_hourOf : ByteArray := prog_1_method_39_code
def yX2_hourOf : MethodName := ⟨RX2, "hourOf", "(J)I"⟩
abbrev cX2_weekdayOf : ByteArray := prog_1_method_40_code
def yX2_weekdayOf : MethodName := ⟨RX2, "weekdayOf", "(J)I"⟩
def RX3 : String := "BoardClockModel"
def TX3 : u_T := fun k => match k with
  | 0 => ("BoardClockModel", "st", "[J", true)
  | 1 => ("BoardClockModel", "past", "[J", true)
  | 2 => ("BoardClockModel", "deeds", "I", false)
  | 3 => ("BoardClockModel", "images", "[J", true)
  | 4 => ("BoardClockModel", "isKept", "[Z", true)
  | 5 => ("BoardClockModel", "book", "[I", true)
  | 6 => ("BoardClockModel", "entries", "I", false)
  | _ => ("BoardClockModel", "seed", "J", false)
def tyX3 : Nat → FieldType := fun k => match k with
  | 0 => .array .long
  | 1 => .array .long
  | 2 => .int
  | 3 => .array .long
  | 4 => .array .boolean
  | 5 => .array .int
  | 6 => .int
  | _ => .long
abbrev wsX30 : List Cond := u_ws RX3 TX3 8
theorem nmX3 : ∀ a, a < 8 → ∀ b, b < 8 → a ≠ b → (TX3 a).2.1 ≠ (TX3 b).2.1 := by decide +kernel
theorem tyX3_ok : ∀ k, k < 8 → parseFieldDescriptor (TX3 k).2.2.1 = some (tyX3 k) := by decide +kernel
abbrev cX3_init : ByteArray := prog_5_method_1_code
def yX3_init : MethodName := ⟨RX3, "<init>", "()V"⟩
abbrev cX3_in : ByteArray := prog_5_method_2_code
def yX3_in : MethodName := ⟨RX3, "in", "(JJJ)Z"⟩
abbrev cX3_bring : ByteArray := prog_5_method_3_code
def yX3_bring : MethodName := ⟨RX3, "bring", "([JI[JII)V"⟩
abbrev cX3_down : ByteArray := prog_5_method_4_code
def yX3_down : MethodName := ⟨RX3, "down", "(JJ)J"⟩
abbrev cX3_lesser : ByteArray := prog_5_method_5_code
def yX3_lesser : MethodName := ⟨RX3, "lesser", "(JJ)J"⟩
abbrev cX3_greater : ByteArray := prog_5_method_6_code
def yX3_greater : MethodName := ⟨RX3, "greater", "(JJ)J"⟩
abbrev cX3_size : ByteArray := prog_5_method_7_code
def yX3_size : MethodName := ⟨RX3, "size", "(J)J"⟩
abbrev cX3_offAt : ByteArray := prog_5_method_8_code
def yX3_offAt : MethodName := ⟨RX3, "offAt", "(J)J"⟩
abbrev cX3_spanNow : ByteArray := prog_5_method_9_code
def yX3_spanNow : MethodName := ⟨RX3, "spanNow", "()I"⟩
abbrev cX3_aim : ByteArray := prog_5_method_10_code
def yX3_aim : MethodName := ⟨RX3, "aim", "()J"⟩
abbrev cX3_spread : ByteArray := prog_5_method_11_code
def yX3_spread : MethodName := ⟨RX3, "spread", "(I)J"⟩
abbrev cX3_restAfter : ByteArray := prog_5_method_12_code
def yX3_restAfter : MethodName := ⟨RX3, "restAfter", "(I)J"⟩
abbrev cX3_gone : ByteArray := prog_5_method_13_code
def yX3_gone : MethodName := ⟨RX3, "gone", "(I)J"⟩
abbrev cX3_boardAfter : ByteArray := prog_5_method_14_code
def yX3_boardAfter : MethodName := ⟨RX3, "boardAfter", "(I)J"⟩
abbrev cX3_wider : ByteArray := prog_5_method_15_code
def yX3_wider : MethodName := ⟨RX3, "wider", "()J"⟩
abbrev cX3_fitsIn : ByteArray := prog_5_method_16_code
def yX3_fitsIn : MethodName := ⟨RX3, "fitsIn", "(JJ)Z"⟩
abbrev cX3_fits : ByteArray := prog_5_method_17_code
def yX3_fits : MethodName := ⟨RX3, "fits", "(IJ)Z"⟩
abbrev cX3_minuteNow : ByteArray := prog_5_method_18_code
def yX3_minuteNow : MethodName := ⟨RX3, "minuteNow", "()J"⟩
abbrev cX3_between : ByteArray := prog_5_method_19_code
def yX3_between : MethodName := ⟨RX3, "between", "(IJ)J"⟩
abbrev cX3_ringsAt : ByteArray := prog_5_method_20_code
def yX3_ringsAt : MethodName := ⟨RX3, "ringsAt", "(I)J"⟩
abbrev cX3_goes : ByteArray := prog_5_method_21_code
def yX3_goes : MethodName := ⟨RX3, "goes", "(I)I"⟩
abbrev cX3_learns : ByteArray := prog_5_method_22_code
def yX3_learns : MethodName := ⟨RX3, "learns", "(J)V"⟩
abbrev cX3_hears : ByteArray := prog_5_method_23_code
def yX3_hears : MethodName := ⟨RX3, "hears", "(JJ)I"⟩
abbrev cX3_allRings : ByteArray := prog_5_method_24_code
def yX3_allRings : MethodName := ⟨RX3, "allRings", "()J"⟩
abbrev cX3_untilDone : ByteArray := prog_5_method_25_code
def yX3_untilDone : MethodName := ⟨RX3, "untilDone", "()I"⟩
abbrev cX3_wrong : ByteArray := prog_5_method_26_code
def yX3_wrong : MethodName := ⟨RX3, "wrong", "()I"⟩
abbrev cX3_holds : ByteArray := prog_5_method_27_code
def yX3_holds : MethodName := ⟨RX3, "holds", "()Z"⟩
abbrev cX3_told : ByteArray := prog_5_method_28_code
def yX3_told : MethodName := ⟨RX3, "told", "(I)I"⟩
abbrev cX3_time : ByteArray := prog_5_method_29_code
def yX3_time : MethodName := ⟨RX3, "time", "(I)J"⟩
abbrev cX3_calendar : ByteArray := prog_5_method_30_code
def yX3_calendar : MethodName := ⟨RX3, "calendar", "(I)I"⟩
abbrev cX3_span : ByteArray := prog_5_method_31_code
def yX3_span : MethodName := ⟨RX3, "span", "(II)I"⟩
abbrev cX3_next : ByteArray := prog_5_method_32_code
def yX3_next : MethodName := ⟨RX3, "next", "(I)J"⟩
abbrev cX3_isAlarm : ByteArray := prog_5_method_33_code
def yX3_isAlarm : MethodName := ⟨RX3, "isAlarm", "(I)Z"⟩
abbrev cX3_alarmAt : ByteArray := prog_5_method_34_code
def yX3_alarmAt : MethodName := ⟨RX3, "alarmAt", "(II)I"⟩
abbrev cX3_notes : ByteArray := prog_5_method_35_code
def yX3_notes : MethodName := ⟨RX3, "notes", "()V"⟩
abbrev cX3_tick : ByteArray := prog_5_method_36_code
def yX3_tick : MethodName := ⟨RX3, "tick", "(I)I"⟩
abbrev cX3_warm : ByteArray := prog_5_method_37_code
def yX3_warm : MethodName := ⟨RX3, "warm", "(I)I"⟩
abbrev cX3_crystal : ByteArray := prog_5_method_38_code
def yX3_crystal : MethodName := ⟨RX3, "crystal", "(III)I"⟩
abbrev cX3_bound : ByteArray := prog_5_method_39_code
def yX3_bound : MethodName := ⟨RX3, "bound", "(II)I"⟩
abbrev cX3_power : ByteArray := prog_5_method_40_code
def yX3_power : MethodName := ⟨RX3, "power", "(Z)I"⟩
abbrev cX3_hear : ByteArray := prog_5_method_41_code
def yX3_hear : MethodName := ⟨RX3, "hear", "(II)I"⟩
abbrev cX3_alarm : ByteArray := prog_5_method_42_code
def yX3_alarm : MethodName := ⟨RX3, "alarm", "(III)I"⟩
abbrev cX3_drop : ByteArray := prog_5_method_43_code
def yX3_drop : MethodName := ⟨RX3, "drop", "(I)I"⟩
abbrev cX3_learn : ByteArray := prog_5_method_44_code
def yX3_learn : MethodName := ⟨RX3, "learn", "(II)I"⟩
abbrev cX3_draw : ByteArray := prog_5_method_45_code
def yX3_draw : MethodName := ⟨RX3, "draw", "(I)J"⟩
abbrev cX3_drift : ByteArray := prog_5_method_46_code
def yX3_drift : MethodName := ⟨RX3, "drift", "(I)I"⟩
abbrev cX3_undo : ByteArray := prog_5_method_47_code
def yX3_undo : MethodName := ⟨RX3, "undo", "(I)I"⟩
abbrev cX3_evenly : ByteArray := prog_5_method_48_code
def yX3_evenly : MethodName := ⟨RX3, "evenly", "(III)I"⟩
abbrev cX3_after : ByteArray := prog_5_method_49_code
def yX3_after : MethodName := ⟨RX3, "after", "(I)J"⟩
abbrev cX3_rings : ByteArray := prog_5_method_50_code
def yX3_rings : MethodName := ⟨RX3, "rings", "(I)I"⟩
abbrev cX3_untilWide : ByteArray := prog_5_method_51_code
def yX3_untilWide : MethodName := ⟨RX3, "untilWide", "(I)I"⟩
abbrev cX3_write : ByteArray := prog_5_method_52_code
def yX3_write : MethodName := ⟨RX3, "write", "(I)I"⟩
abbrev cX3_tear : ByteArray := prog_5_method_53_code
def yX3_tear : MethodName := ⟨RX3, "tear", "()I"⟩
abbrev cX3_seed : ByteArray := prog_5_method_54_code
def yX3_seed : MethodName := ⟨RX3, "seed", "(I)I"⟩
abbrev cX3_keep : ByteArray := prog_5_method_55_code
def yX3_keep : MethodName := ⟨RX3, "keep", "(I)I"⟩
abbrev cX3_goBack : ByteArray := prog_5_method_56_code
def yX3_goBack : MethodName := ⟨RX3, "goBack", "(I)I"⟩
def RJ9 : String := "java/lang/Math"
def TJ9 : u_T := fun k => match k with
  | _ => ("", "", "", false)
def tyJ9 : Nat → FieldType := fun k => match k with
  | _ => .int
abbrev wsJ90 : List Cond := u_ws RJ9 TJ9 0
theorem nmJ9 : ∀ a, a < 0 → ∀ b, b < 0 → a ≠ b → (TJ9 a).2.1 ≠ (TJ9 b).2.1 := by decide +kernel
theorem tyJ9_ok : ∀ k, k < 0 → parseFieldDescriptor (TJ9 k).2.2.1 = some (tyJ9 k) := by decide +kernel
abbrev cJ9_floorDiv_f86c9 : ByteArray := prog_6_method_49_code
def yJ9_floorDiv_f86c9 : MethodName := ⟨RJ9, "floorDiv", "(JJ)J"⟩
abbrev cJ9_floorMod_7cf53 : ByteArray := prog_6_method_50_code
def yJ9_floorMod_7cf53 : MethodName := ⟨RJ9, "floorMod", "(II)I"⟩
abbrev cJ9_floorMod_f86c9 : ByteArray := prog_6_method_52_code
def yJ9_floorMod_f86c9 : MethodName := ⟨RJ9, "floorMod", "(JJ)J"⟩
abbrev cJ9_abs_067f4 : ByteArray := prog_6_method_61_code
def yJ9_abs_067f4 : MethodName := ⟨RJ9, "abs", "(J)J"⟩
abbrev cJ9_max_f86c9 : ByteArray := prog_6_method_66_code
def yJ9_max_f86c9 : MethodName := ⟨RJ9, "max", "(JJ)J"⟩
abbrev cJ9_min_7cf53 : ByteArray := prog_6_method_69_code
def yJ9_min_7cf53 : MethodName := ⟨RJ9, "min", "(II)I"⟩
abbrev cJ9_min_f86c9 : ByteArray := prog_6_method_70_code
def yJ9_min_f86c9 : MethodName := ⟨RJ9, "min", "(JJ)J"⟩
def RJ10 : String := "java/lang/System"
def TJ10 : u_T := fun k => match k with
  | _ => ("", "", "", false)
def tyJ10 : Nat → FieldType := fun k => match k with
  | _ => .int
abbrev wsJ100 : List Cond := u_ws RJ10 TJ10 0
theorem nmJ10 : ∀ a, a < 0 → ∀ b, b < 0 → a ≠ b → (TJ10 a).2.1 ≠ (TJ10 b).2.1 := by decide +kernel
theorem tyJ10_ok : ∀ k, k < 0 → parseFieldDescriptor (TJ10 k).2.2.1 = some (tyJ10 k) := by decide +kernel
def RL : String := "BoardClockLaw"
abbrev cL_law : ByteArray := code
def yL_law : MethodName := ⟨RL, "law", "([I)Z"⟩
def wsX0_init : List Cond := .code yX0_init cX0_init 1 none :: ([.methodLink RX0 3 objectInit, .instanceMethod objectInit, .code objectInit ⟨#[0xb1]⟩ 1 none, .fieldLink RX0 9 "BoardClock$Alarms" "count" "I", .arrayClass .int, .fieldLink RX0 15 "BoardClock$Alarms" "minutes" "[I", .fieldLink RX0 19 "BoardClock$Alarms" "hours" "[I", .fieldLink RX0 22 "BoardClock$Alarms" "weekdays" "[I", .fieldLink RX0 25 "BoardClock$Alarms" "rung" "[I"] ++ wsX00)
def wsX0_copyFrom : List Cond := .code yX0_copyFrom cX0_copyFrom 2 none :: ([.fieldLink RX0 9 "BoardClock$Alarms" "count" "I", .fieldLink RX0 15 "BoardClock$Alarms" "minutes" "[I", .methodLink RX0 28 arraycopyName, .native arraycopyName, .static arraycopyName, .initialized "java/lang/System", .fieldLink RX0 19 "BoardClock$Alarms" "hours" "[I", .fieldLink RX0 22 "BoardClock$Alarms" "weekdays" "[I", .fieldLink RX0 25 "BoardClock$Alarms" "rung" "[I"] ++ wsX00)
def wsX0_has : List Cond := .code yX0_has cX0_has 2 (some .boolean) :: ([.fieldLink RX0 9 "BoardClock$Alarms" "count" "I"] ++ wsX00)
def wsX0_add : List Cond := .code yX0_add cX0_add 5 (some .int) :: ([.fieldLink RX0 9 "BoardClock$Alarms" "count" "I", .constant RX0 34 (-1000000004), .fieldLink RX0 15 "BoardClock$Alarms" "minutes" "[I", .fieldLink RX0 19 "BoardClock$Alarms" "hours" "[I", .fieldLink RX0 22 "BoardClock$Alarms" "weekdays" "[I", .fieldLink RX0 25 "BoardClock$Alarms" "rung" "[I"] ++ wsX00)
def wsX0_remove : List Cond := .code yX0_remove cX0_remove 3 none :: ([.fieldLink RX0 9 "BoardClock$Alarms" "count" "I", .fieldLink RX0 15 "BoardClock$Alarms" "minutes" "[I", .fieldLink RX0 19 "BoardClock$Alarms" "hours" "[I", .fieldLink RX0 22 "BoardClock$Alarms" "weekdays" "[I", .fieldLink RX0 25 "BoardClock$Alarms" "rung" "[I", .methodLink RX0 35 yX0_has, .instanceMethod yX0_has, .selects RX0 yX0_has yX0_has, .initialized RX0, .code yX0_has cX0_has 2 (some .boolean)] ++ wsX00)
def wsX0_totalRings : List Cond := .code yX0_totalRings cX0_totalRings 3 (some .int) :: ([.fieldLink RX0 9 "BoardClock$Alarms" "count" "I", .fieldLink RX0 25 "BoardClock$Alarms" "rung" "[I"] ++ wsX00)
def wsX2_weekdayOf : List Cond := .code yX2_weekdayOf cX2_weekdayOf 2 (some .int) :: ([.constantLong RX2 258 (1440), .constantLong RX2 260 (7)])
def wsX0_fitsDay : List Cond := .code yX0_fitsDay cX0_fitsDay 4 (some .boolean) :: ([.fieldLink RX0 22 "BoardClock$Alarms" "weekdays" "[I", .methodLink RX0 35 yX0_has, .instanceMethod yX0_has, .selects RX0 yX0_has yX0_has, .initialized RX0, .code yX0_has cX0_has 2 (some .boolean), .fieldLink RX0 9 "BoardClock$Alarms" "count" "I", .static yX2_weekdayOf, .initialized RX2, .code yX2_weekdayOf cX2_weekdayOf 2 (some .int), .constantLong RX2 258 (1440), .constantLong RX2 260 (7)] ++ wsX00)
def wsX2_hourOf : List Cond := .code yX2_hourOf cX2_hourOf 2 (some .int) :: ([.constantLong RX2 254 (60), .constantLong RX2 256 (24)])
def wsX0_fitsHour : List Cond := .code yX0_fitsHour cX0_fitsHour 4 (some .boolean) :: ([.fieldLink RX0 19 "BoardClock$Alarms" "hours" "[I", .methodLink RX0 35 yX0_has, .instanceMethod yX0_has, .selects RX0 yX0_has yX0_has, .initialized RX0, .code yX0_has cX0_has 2 (some .boolean), .fieldLink RX0 9 "BoardClock$Alarms" "count" "I", .static yX2_hourOf, .initialized RX2, .code yX2_hourOf cX2_hourOf 2 (some .int), .constantLong RX2 254 (60), .constantLong RX2 256 (24)] ++ wsX00)
def wsX2_minuteOf : List Cond := .code yX2_minuteOf cX2_minuteOf 2 (some .int) :: ([.constantLong RX2 254 (60)])
def wsX0_fitsMinute : List Cond := .code yX0_fitsMinute cX0_fitsMinute 4 (some .boolean) :: ([.fieldLink RX0 15 "BoardClock$Alarms" "minutes" "[I", .methodLink RX0 35 yX0_has, .instanceMethod yX0_has, .selects RX0 yX0_has yX0_has, .initialized RX0, .code yX0_has cX0_has 2 (some .boolean), .fieldLink RX0 9 "BoardClock$Alarms" "count" "I", .static yX2_minuteOf, .initialized RX2, .code yX2_minuteOf cX2_minuteOf 2 (some .int), .constantLong RX2 254 (60)] ++ wsX00)
def wsX0_countFitting_r1 : List Cond := [Cond.methodLink RX0 50 yX0_fitsDay, Cond.instanceMethod yX0_fitsDay, Cond.selects RX0 yX0_fitsDay yX0_fitsDay, Cond.initialized RX0, Cond.code yX0_fitsDay cX0_fitsDay 4 (some .boolean), Cond.fieldLink RX0 22 "BoardClock$Alarms" "weekdays" "[I", Cond.methodLink RX0 35 yX0_has, Cond.instanceMethod yX0_has, Cond.selects RX0 yX0_has yX0_has, Cond.code yX0_has cX0_has 2 (some .boolean), Cond.fieldLink RX0 9 "BoardClock$Alarms" "count" "I", Cond.static yX2_weekdayOf, Cond.initialized RX2, Cond.code yX2_weekdayOf cX2_weekdayOf 2 (some .int), Cond.constantLong RX2 258 (1440), Cond.constantLong RX2 260 (7), Cond.methodLink RX0 54 yX0_fitsHour, Cond.instanceMethod yX0_fitsHour, Cond.selects RX0 yX0_fitsHour yX0_fitsHour, Cond.code yX0_fitsHour cX0_fitsHour 4 (some .boolean), Cond.fieldLink RX0 19 "BoardClock$Alarms" "hours" "[I", Cond.static yX2_hourOf, Cond.code yX2_hourOf cX2_hourOf 2 (some .int), Cond.constantLong RX2 254 (60)]
def wsX0_countFitting_r2 : List Cond := [Cond.constantLong RX2 256 (24), Cond.methodLink RX0 57 yX0_fitsMinute, Cond.instanceMethod yX0_fitsMinute, Cond.selects RX0 yX0_fitsMinute yX0_fitsMinute, Cond.code yX0_fitsMinute cX0_fitsMinute 4 (some .boolean), Cond.fieldLink RX0 15 "BoardClock$Alarms" "minutes" "[I", Cond.static yX2_minuteOf, Cond.code yX2_minuteOf cX2_minuteOf 2 (some .int)]
def wsX0_countFitting : List Cond := .code yX0_countFitting cX0_countFitting 9 (some .int) :: ((wsX0_countFitting_r1 ++ wsX0_countFitting_r2) ++ wsX00)
def wsX0_ring_r1 : List Cond := [Cond.fieldLink RX0 9 "BoardClock$Alarms" "count" "I", Cond.fieldLink RX0 25 "BoardClock$Alarms" "rung" "[I", Cond.constant RX0 43 (99999), Cond.methodLink RX0 44 Lib.Math.min.name, Cond.static Lib.Math.min.name, Cond.initialized "java/lang/Math", Cond.code Lib.Math.min.name Lib.Math.min.code 2 (some .int), Cond.methodLink RX0 39 yX0_countFitting, Cond.instanceMethod yX0_countFitting, Cond.selects RX0 yX0_countFitting yX0_countFitting, Cond.initialized RX0, Cond.code yX0_countFitting cX0_countFitting 9 (some .int), Cond.methodLink RX0 50 yX0_fitsDay, Cond.instanceMethod yX0_fitsDay, Cond.selects RX0 yX0_fitsDay yX0_fitsDay, Cond.code yX0_fitsDay cX0_fitsDay 4 (some .boolean), Cond.fieldLink RX0 22 "BoardClock$Alarms" "weekdays" "[I", Cond.methodLink RX0 35 yX0_has, Cond.instanceMethod yX0_has, Cond.selects RX0 yX0_has yX0_has, Cond.code yX0_has cX0_has 2 (some .boolean), Cond.static yX2_weekdayOf, Cond.initialized RX2, Cond.code yX2_weekdayOf cX2_weekdayOf 2 (some .int)]
def wsX0_ring_r2 : List Cond := [Cond.constantLong RX2 258 (1440), Cond.constantLong RX2 260 (7), Cond.methodLink RX0 54 yX0_fitsHour, Cond.instanceMethod yX0_fitsHour, Cond.selects RX0 yX0_fitsHour yX0_fitsHour, Cond.code yX0_fitsHour cX0_fitsHour 4 (some .boolean), Cond.fieldLink RX0 19 "BoardClock$Alarms" "hours" "[I", Cond.static yX2_hourOf, Cond.code yX2_hourOf cX2_hourOf 2 (some .int), Cond.constantLong RX2 254 (60), Cond.constantLong RX2 256 (24), Cond.methodLink RX0 57 yX0_fitsMinute, Cond.instanceMethod yX0_fitsMinute, Cond.selects RX0 yX0_fitsMinute yX0_fitsMinute, Cond.code yX0_fitsMinute cX0_fitsMinute 4 (some .boolean), Cond.fieldLink RX0 15 "BoardClock$Alarms" "minutes" "[I", Cond.static yX2_minuteOf, Cond.code yX2_minuteOf cX2_minuteOf 2 (some .int)]
def wsX0_ring : List Cond := .code yX0_ring cX0_ring 8 (some .int) :: ((wsX0_ring_r1 ++ wsX0_ring_r2) ++ wsX00)
def wsX0_ringsToCome_r1 : List Cond := [Cond.fieldLink RX0 9 "BoardClock$Alarms" "count" "I", Cond.constant RX0 43 (99999), Cond.fieldLink RX0 25 "BoardClock$Alarms" "rung" "[I", Cond.methodLink RX0 44 Lib.Math.min.name, Cond.static Lib.Math.min.name, Cond.initialized "java/lang/Math", Cond.code Lib.Math.min.name Lib.Math.min.code 2 (some .int), Cond.methodLink RX0 39 yX0_countFitting, Cond.instanceMethod yX0_countFitting, Cond.selects RX0 yX0_countFitting yX0_countFitting, Cond.initialized RX0, Cond.code yX0_countFitting cX0_countFitting 9 (some .int), Cond.methodLink RX0 50 yX0_fitsDay, Cond.instanceMethod yX0_fitsDay, Cond.selects RX0 yX0_fitsDay yX0_fitsDay, Cond.code yX0_fitsDay cX0_fitsDay 4 (some .boolean), Cond.fieldLink RX0 22 "BoardClock$Alarms" "weekdays" "[I", Cond.methodLink RX0 35 yX0_has, Cond.instanceMethod yX0_has, Cond.selects RX0 yX0_has yX0_has, Cond.code yX0_has cX0_has 2 (some .boolean), Cond.static yX2_weekdayOf, Cond.initialized RX2, Cond.code yX2_weekdayOf cX2_weekdayOf 2 (some .int)]
def wsX0_ringsToCome_r2 : List Cond := [Cond.constantLong RX2 258 (1440), Cond.constantLong RX2 260 (7), Cond.methodLink RX0 54 yX0_fitsHour, Cond.instanceMethod yX0_fitsHour, Cond.selects RX0 yX0_fitsHour yX0_fitsHour, Cond.code yX0_fitsHour cX0_fitsHour 4 (some .boolean), Cond.fieldLink RX0 19 "BoardClock$Alarms" "hours" "[I", Cond.static yX2_hourOf, Cond.code yX2_hourOf cX2_hourOf 2 (some .int), Cond.constantLong RX2 254 (60), Cond.constantLong RX2 256 (24), Cond.methodLink RX0 57 yX0_fitsMinute, Cond.instanceMethod yX0_fitsMinute, Cond.selects RX0 yX0_fitsMinute yX0_fitsMinute, Cond.code yX0_fitsMinute cX0_fitsMinute 4 (some .boolean), Cond.fieldLink RX0 15 "BoardClock$Alarms" "minutes" "[I", Cond.static yX2_minuteOf, Cond.code yX2_minuteOf cX2_minuteOf 2 (some .int)]
def wsX0_ringsToCome : List Cond := .code yX0_ringsToCome cX0_ringsToCome 7 (some .int) :: ((wsX0_ringsToCome_r1 ++ wsX0_ringsToCome_r2) ++ wsX00)
def wsX0_nextFit_r1 : List Cond := [Cond.constantLong RX0 60 (1440), Cond.constantLong RX0 62 (60), Cond.constantLong RX0 64 (-1), Cond.methodLink RX0 50 yX0_fitsDay, Cond.instanceMethod yX0_fitsDay, Cond.selects RX0 yX0_fitsDay yX0_fitsDay, Cond.initialized RX0, Cond.code yX0_fitsDay cX0_fitsDay 4 (some .boolean), Cond.fieldLink RX0 22 "BoardClock$Alarms" "weekdays" "[I", Cond.methodLink RX0 35 yX0_has, Cond.instanceMethod yX0_has, Cond.selects RX0 yX0_has yX0_has, Cond.code yX0_has cX0_has 2 (some .boolean), Cond.fieldLink RX0 9 "BoardClock$Alarms" "count" "I", Cond.static yX2_weekdayOf, Cond.initialized RX2, Cond.code yX2_weekdayOf cX2_weekdayOf 2 (some .int), Cond.constantLong RX2 258 (1440), Cond.constantLong RX2 260 (7), Cond.methodLink RX0 54 yX0_fitsHour, Cond.instanceMethod yX0_fitsHour, Cond.selects RX0 yX0_fitsHour yX0_fitsHour, Cond.code yX0_fitsHour cX0_fitsHour 4 (some .boolean), Cond.fieldLink RX0 19 "BoardClock$Alarms" "hours" "[I"]
def wsX0_nextFit_r2 : List Cond := [Cond.static yX2_hourOf, Cond.code yX2_hourOf cX2_hourOf 2 (some .int), Cond.constantLong RX2 254 (60), Cond.constantLong RX2 256 (24), Cond.methodLink RX0 57 yX0_fitsMinute, Cond.instanceMethod yX0_fitsMinute, Cond.selects RX0 yX0_fitsMinute yX0_fitsMinute, Cond.code yX0_fitsMinute cX0_fitsMinute 4 (some .boolean), Cond.fieldLink RX0 15 "BoardClock$Alarms" "minutes" "[I", Cond.static yX2_minuteOf, Cond.code yX2_minuteOf cX2_minuteOf 2 (some .int)]
def wsX0_nextFit : List Cond := .code yX0_nextFit cX0_nextFit 7 (some .long) :: ((wsX0_nextFit_r1 ++ wsX0_nextFit_r2) ++ wsX00)
def wsX1_init_r1 : List Cond := [Cond.methodLink RX1 3 objectInit, Cond.instanceMethod objectInit, Cond.code objectInit ⟨#[0xb1]⟩ 1 none, Cond.fieldLink RX1 9 "BoardClock$State" "trueTime" "J", Cond.fieldLink RX1 15 "BoardClock$State" "boardTime" "J", Cond.fieldLink RX1 18 "BoardClock$State" "ahead" "J", Cond.fieldLink RX1 21 "BoardClock$State" "warmth" "I", Cond.fieldLink RX1 25 "BoardClock$State" "top" "I", Cond.fieldLink RX1 28 "BoardClock$State" "curve" "I", Cond.fieldLink RX1 31 "BoardClock$State" "base" "I", Cond.fieldLink RX1 34 "BoardClock$State" "rest" "I", Cond.fieldLink RX1 37 "BoardClock$State" "step" "I", Cond.fieldLink RX1 40 "BoardClock$State" "width" "I", Cond.fieldLink RX1 43 "BoardClock$State" "wider" "I", Cond.fieldLink RX1 46 "BoardClock$State" "powered" "Z", Cond.fieldLink RX1 50 "BoardClock$State" "broken" "I", Cond.fieldLink RX1 53 "BoardClock$State" "ticks" "I", Cond.fieldLink RX1 56 "BoardClock$State" "tickSpan" "I", Cond.fieldLink RX1 59 "BoardClock$State" "steady" "Z", Cond.arrayClass .int, Cond.fieldLink RX1 62 "BoardClock$State" "learned" "[I", Cond.classLink RX1 66 RX0, Cond.instantiable RX0 5, Cond.initialized RX0]
def wsX1_init_r2 : List Cond := [Cond.fieldLink RX1 69 "BoardClock$State" "alarms" "LBoardClock$Alarms;", Cond.instanceMethod yX0_init, Cond.code yX0_init cX0_init 1 none, Cond.methodLink RX0 3 objectInit, Cond.fieldLink RX0 9 "BoardClock$Alarms" "count" "I", Cond.fieldLink RX0 15 "BoardClock$Alarms" "minutes" "[I", Cond.fieldLink RX0 19 "BoardClock$Alarms" "hours" "[I", Cond.fieldLink RX0 22 "BoardClock$Alarms" "weekdays" "[I", Cond.fieldLink RX0 25 "BoardClock$Alarms" "rung" "[I"]
def wsX1_init : List Cond := .code yX1_init cX1_init 1 none :: ((wsX1_init_r1 ++ wsX1_init_r2) ++ wsX10 ++ wsX00)
def wsX1_copyFrom_r1 : List Cond := [Cond.fieldLink RX1 9 "BoardClock$State" "trueTime" "J", Cond.fieldLink RX1 15 "BoardClock$State" "boardTime" "J", Cond.fieldLink RX1 18 "BoardClock$State" "ahead" "J", Cond.fieldLink RX1 21 "BoardClock$State" "warmth" "I", Cond.fieldLink RX1 25 "BoardClock$State" "top" "I", Cond.fieldLink RX1 28 "BoardClock$State" "curve" "I", Cond.fieldLink RX1 31 "BoardClock$State" "base" "I", Cond.fieldLink RX1 34 "BoardClock$State" "rest" "I", Cond.fieldLink RX1 37 "BoardClock$State" "step" "I", Cond.fieldLink RX1 40 "BoardClock$State" "width" "I", Cond.fieldLink RX1 43 "BoardClock$State" "wider" "I", Cond.fieldLink RX1 46 "BoardClock$State" "powered" "Z", Cond.fieldLink RX1 50 "BoardClock$State" "broken" "I", Cond.fieldLink RX1 53 "BoardClock$State" "ticks" "I", Cond.fieldLink RX1 56 "BoardClock$State" "tickSpan" "I", Cond.fieldLink RX1 59 "BoardClock$State" "steady" "Z", Cond.fieldLink RX1 62 "BoardClock$State" "learned" "[I", Cond.methodLink RX1 73 arraycopyName, Cond.native arraycopyName, Cond.static arraycopyName, Cond.initialized "java/lang/System", Cond.fieldLink RX1 69 "BoardClock$State" "alarms" "LBoardClock$Alarms;", Cond.methodLink RX1 79 yX0_copyFrom, Cond.instanceMethod yX0_copyFrom]
def wsX1_copyFrom_r2 : List Cond := [Cond.selects RX0 yX0_copyFrom yX0_copyFrom, Cond.initialized RX0, Cond.code yX0_copyFrom cX0_copyFrom 2 none, Cond.fieldLink RX0 9 "BoardClock$Alarms" "count" "I", Cond.fieldLink RX0 15 "BoardClock$Alarms" "minutes" "[I", Cond.methodLink RX0 28 arraycopyName, Cond.fieldLink RX0 19 "BoardClock$Alarms" "hours" "[I", Cond.fieldLink RX0 22 "BoardClock$Alarms" "weekdays" "[I", Cond.fieldLink RX0 25 "BoardClock$Alarms" "rung" "[I"]
def wsX1_copyFrom : List Cond := .code yX1_copyFrom cX1_copyFrom 2 none :: ((wsX1_copyFrom_r1 ++ wsX1_copyFrom_r2) ++ wsX10 ++ wsX00)
def wsX1_aim : List Cond := .code yX1_aim cX1_aim 1 (some .long) :: ([.fieldLink RX1 15 "BoardClock$State" "boardTime" "J", .fieldLink RX1 18 "BoardClock$State" "ahead" "J"] ++ wsX10)
def wsX1_minuteNumber : List Cond := .code yX1_minuteNumber cX1_minuteNumber 1 (some .long) :: ([.fieldLink RX1 15 "BoardClock$State" "boardTime" "J", .constantLong RX1 83 (60000)] ++ wsX10)
def wsX1_offAt : List Cond := .code yX1_offAt cX1_offAt 3 (some .int) :: ([.fieldLink RX1 25 "BoardClock$State" "top" "I", .fieldLink RX1 31 "BoardClock$State" "base" "I", .fieldLink RX1 28 "BoardClock$State" "curve" "I"] ++ wsX10)
def wsX2_isSpan : List Cond := .code yX2_isSpan cX2_isSpan 1 (some .boolean) :: ([])
def wsX1_learnedOf : List Cond := .code yX1_learnedOf cX1_learnedOf 2 (some .int) :: ([.fieldLink RX1 62 "BoardClock$State" "learned" "[I", .static yX2_isSpan, .initialized RX2, .code yX2_isSpan cX2_isSpan 1 (some .boolean)] ++ wsX10)
def wsX1_fitOf : List Cond := .code yX1_fitOf cX1_fitOf 3 (some .int) :: ([.methodLink RX1 85 yX1_learnedOf, .instanceMethod yX1_learnedOf, .selects RX1 yX1_learnedOf yX1_learnedOf, .initialized RX1, .code yX1_learnedOf cX1_learnedOf 2 (some .int), .fieldLink RX1 62 "BoardClock$State" "learned" "[I", .static yX2_isSpan, .initialized RX2, .code yX2_isSpan cX2_isSpan 1 (some .boolean), .methodLink RX1 89 yX1_offAt, .instanceMethod yX1_offAt, .selects RX1 yX1_offAt yX1_offAt, .code yX1_offAt cX1_offAt 3 (some .int), .fieldLink RX1 25 "BoardClock$State" "top" "I", .fieldLink RX1 31 "BoardClock$State" "base" "I", .fieldLink RX1 28 "BoardClock$State" "curve" "I"] ++ wsX10)
def wsX1_isWithinBounds : List Cond := .code yX1_isWithinBounds cX1_isWithinBounds 1 (some .boolean) :: ([.fieldLink RX1 9 "BoardClock$State" "trueTime" "J", .methodLink RX1 100 Lib.MathLoose.abs_long.x, .static Lib.MathLoose.abs_long.x, .initialized "java/lang/Math", .code Lib.MathLoose.abs_long.x Lib.MathLoose.abs_long.code 2 (some .long), .constantLong RX1 106 (16), .fieldLink RX1 40 "BoardClock$State" "width" "I", .methodLink RX1 96 yX1_aim, .instanceMethod yX1_aim, .selects RX1 yX1_aim yX1_aim, .initialized RX1, .code yX1_aim cX1_aim 1 (some .long), .fieldLink RX1 15 "BoardClock$State" "boardTime" "J", .fieldLink RX1 18 "BoardClock$State" "ahead" "J"] ++ wsX10)
def wsX2_spanOf : List Cond := .code yX2_spanOf cX2_spanOf 1 (some .int) :: ([])
def wsX1_sixteenthsAfter : List Cond := .code yX1_sixteenthsAfter cX1_sixteenthsAfter 2 (some .long) :: ([.fieldLink RX1 34 "BoardClock$State" "rest" "I", .fieldLink RX1 21 "BoardClock$State" "warmth" "I", .static yX2_spanOf, .initialized RX2, .code yX2_spanOf cX2_spanOf 1 (some .int), .methodLink RX1 85 yX1_learnedOf, .instanceMethod yX1_learnedOf, .selects RX1 yX1_learnedOf yX1_learnedOf, .initialized RX1, .code yX1_learnedOf cX1_learnedOf 2 (some .int), .fieldLink RX1 62 "BoardClock$State" "learned" "[I", .static yX2_isSpan, .code yX2_isSpan cX2_isSpan 1 (some .boolean)] ++ wsX10)
def wsX2_heldBetween : List Cond := .code yX2_heldBetween cX2_heldBetween 6 (some .long) :: ([.methodLink RX2 248 Lib.MathLoose.min_long.x, .static Lib.MathLoose.min_long.x, .initialized "java/lang/Math", .code Lib.MathLoose.min_long.x Lib.MathLoose.min_long.code 4 (some .long), .methodLink RX2 251 Lib.MathLoose.max_long.x, .static Lib.MathLoose.max_long.x, .code Lib.MathLoose.max_long.x Lib.MathLoose.max_long.code 4 (some .long)])
def wsX1_stepsAfter : List Cond := .code yX1_stepsAfter cX1_stepsAfter 4 (some .long) :: ([.fieldLink RX1 37 "BoardClock$State" "step" "I", .fieldLink RX1 18 "BoardClock$State" "ahead" "J", .static yX2_heldBetween, .initialized RX2, .code yX2_heldBetween cX2_heldBetween 6 (some .long), .methodLink RX2 248 Lib.MathLoose.min_long.x, .static Lib.MathLoose.min_long.x, .initialized "java/lang/Math", .code Lib.MathLoose.min_long.x Lib.MathLoose.min_long.code 4 (some .long), .methodLink RX2 251 Lib.MathLoose.max_long.x, .static Lib.MathLoose.max_long.x, .code Lib.MathLoose.max_long.x Lib.MathLoose.max_long.code 4 (some .long)] ++ wsX10)
def wsJ9_floorDiv_f86c9 : List Cond := .code yJ9_floorDiv_f86c9 cJ9_floorDiv_f86c9 6 (some .long) :: ([])
def wsX1_boardTimeAfter_r1 : List Cond := [Cond.fieldLink RX1 15 "BoardClock$State" "boardTime" "J", Cond.constantLong RX1 83 (60000), Cond.fieldLink RX1 21 "BoardClock$State" "warmth" "I", Cond.fieldLink RX1 46 "BoardClock$State" "powered" "Z", Cond.constantLong RX1 106 (16), Cond.methodLink RX1 89 yX1_offAt, Cond.instanceMethod yX1_offAt, Cond.selects RX1 yX1_offAt yX1_offAt, Cond.initialized RX1, Cond.code yX1_offAt cX1_offAt 3 (some .int), Cond.fieldLink RX1 25 "BoardClock$State" "top" "I", Cond.fieldLink RX1 31 "BoardClock$State" "base" "I", Cond.fieldLink RX1 28 "BoardClock$State" "curve" "I", Cond.methodLink RX1 115 yX1_sixteenthsAfter, Cond.instanceMethod yX1_sixteenthsAfter, Cond.selects RX1 yX1_sixteenthsAfter yX1_sixteenthsAfter, Cond.code yX1_sixteenthsAfter cX1_sixteenthsAfter 2 (some .long), Cond.fieldLink RX1 34 "BoardClock$State" "rest" "I", Cond.static yX2_spanOf, Cond.initialized RX2, Cond.code yX2_spanOf cX2_spanOf 1 (some .int), Cond.methodLink RX1 85 yX1_learnedOf, Cond.instanceMethod yX1_learnedOf, Cond.selects RX1 yX1_learnedOf yX1_learnedOf]
def wsX1_boardTimeAfter_r2 : List Cond := [Cond.code yX1_learnedOf cX1_learnedOf 2 (some .int), Cond.fieldLink RX1 62 "BoardClock$State" "learned" "[I", Cond.static yX2_isSpan, Cond.code yX2_isSpan cX2_isSpan 1 (some .boolean), Cond.methodLink RX1 119 yJ9_floorDiv_f86c9, Cond.static yJ9_floorDiv_f86c9, Cond.initialized RJ9, Cond.code yJ9_floorDiv_f86c9 cJ9_floorDiv_f86c9 6 (some .long), Cond.methodLink RX1 123 yX1_stepsAfter, Cond.instanceMethod yX1_stepsAfter, Cond.selects RX1 yX1_stepsAfter yX1_stepsAfter, Cond.code yX1_stepsAfter cX1_stepsAfter 4 (some .long), Cond.fieldLink RX1 37 "BoardClock$State" "step" "I", Cond.fieldLink RX1 18 "BoardClock$State" "ahead" "J", Cond.static yX2_heldBetween, Cond.code yX2_heldBetween cX2_heldBetween 6 (some .long), Cond.methodLink RX2 248 Lib.MathLoose.min_long.x, Cond.static Lib.MathLoose.min_long.x, Cond.initialized "java/lang/Math", Cond.code Lib.MathLoose.min_long.x Lib.MathLoose.min_long.code 4 (some .long), Cond.methodLink RX2 251 Lib.MathLoose.max_long.x, Cond.static Lib.MathLoose.max_long.x, Cond.code Lib.MathLoose.max_long.x Lib.MathLoose.max_long.code 4 (some .long)]
def wsX1_boardTimeAfter : List Cond := .code yX1_boardTimeAfter cX1_boardTimeAfter 4 (some .long) :: ((wsX1_boardTimeAfter_r1 ++ wsX1_boardTimeAfter_r2) ++ wsX10)
def wsX1_widthPerTick : List Cond := .code yX1_widthPerTick cX1_widthPerTick 1 (some .int) :: ([.fieldLink RX1 46 "BoardClock$State" "powered" "Z", .fieldLink RX1 43 "BoardClock$State" "wider" "I"] ++ wsX10)
def wsX1_noteTicks : List Cond := .code yX1_noteTicks cX1_noteTicks 3 none :: ([.fieldLink RX1 21 "BoardClock$State" "warmth" "I", .fieldLink RX1 53 "BoardClock$State" "ticks" "I", .fieldLink RX1 56 "BoardClock$State" "tickSpan" "I", .fieldLink RX1 46 "BoardClock$State" "powered" "Z", .fieldLink RX1 59 "BoardClock$State" "steady" "Z", .static yX2_spanOf, .initialized RX2, .code yX2_spanOf cX2_spanOf 1 (some .int)] ++ wsX10)
def wsJ9_floorMod_f86c9 : List Cond := .code yJ9_floorMod_f86c9 cJ9_floorMod_f86c9 6 (some .long) :: ([])
def wsX1_pass_r1 : List Cond := [Cond.fieldLink RX1 9 "BoardClock$State" "trueTime" "J", Cond.constantLong RX1 83 (60000), Cond.fieldLink RX1 15 "BoardClock$State" "boardTime" "J", Cond.fieldLink RX1 46 "BoardClock$State" "powered" "Z", Cond.fieldLink RX1 18 "BoardClock$State" "ahead" "J", Cond.constantLong RX1 106 (16), Cond.fieldLink RX1 34 "BoardClock$State" "rest" "I", Cond.fieldLink RX1 40 "BoardClock$State" "width" "I", Cond.constantLong RX1 143 (999999999), Cond.methodLink RX1 145 Lib.MathLoose.min_long.x, Cond.static Lib.MathLoose.min_long.x, Cond.initialized "java/lang/Math", Cond.code Lib.MathLoose.min_long.x Lib.MathLoose.min_long.code 4 (some .long), Cond.fieldLink RX1 69 "BoardClock$State" "alarms" "LBoardClock$Alarms;", Cond.methodLink RX1 126 yX1_minuteNumber, Cond.instanceMethod yX1_minuteNumber, Cond.selects RX1 yX1_minuteNumber yX1_minuteNumber, Cond.initialized RX1, Cond.code yX1_minuteNumber cX1_minuteNumber 1 (some .long), Cond.methodLink RX1 129 yX1_noteTicks, Cond.instanceMethod yX1_noteTicks, Cond.selects RX1 yX1_noteTicks yX1_noteTicks, Cond.code yX1_noteTicks cX1_noteTicks 3 none, Cond.fieldLink RX1 21 "BoardClock$State" "warmth" "I"]
def wsX1_pass_r2 : List Cond := [Cond.fieldLink RX1 53 "BoardClock$State" "ticks" "I", Cond.fieldLink RX1 56 "BoardClock$State" "tickSpan" "I", Cond.fieldLink RX1 59 "BoardClock$State" "steady" "Z", Cond.static yX2_spanOf, Cond.initialized RX2, Cond.code yX2_spanOf cX2_spanOf 1 (some .int), Cond.methodLink RX1 133 yX1_boardTimeAfter, Cond.instanceMethod yX1_boardTimeAfter, Cond.selects RX1 yX1_boardTimeAfter yX1_boardTimeAfter, Cond.code yX1_boardTimeAfter cX1_boardTimeAfter 4 (some .long), Cond.methodLink RX1 89 yX1_offAt, Cond.instanceMethod yX1_offAt, Cond.selects RX1 yX1_offAt yX1_offAt, Cond.code yX1_offAt cX1_offAt 3 (some .int), Cond.fieldLink RX1 25 "BoardClock$State" "top" "I", Cond.fieldLink RX1 31 "BoardClock$State" "base" "I", Cond.fieldLink RX1 28 "BoardClock$State" "curve" "I", Cond.methodLink RX1 115 yX1_sixteenthsAfter, Cond.instanceMethod yX1_sixteenthsAfter, Cond.selects RX1 yX1_sixteenthsAfter yX1_sixteenthsAfter, Cond.code yX1_sixteenthsAfter cX1_sixteenthsAfter 2 (some .long), Cond.methodLink RX1 85 yX1_learnedOf, Cond.instanceMethod yX1_learnedOf, Cond.selects RX1 yX1_learnedOf yX1_learnedOf]
def wsX1_pass_r3 : List Cond := [Cond.code yX1_learnedOf cX1_learnedOf 2 (some .int), Cond.fieldLink RX1 62 "BoardClock$State" "learned" "[I", Cond.static yX2_isSpan, Cond.code yX2_isSpan cX2_isSpan 1 (some .boolean), Cond.methodLink RX1 119 yJ9_floorDiv_f86c9, Cond.static yJ9_floorDiv_f86c9, Cond.initialized RJ9, Cond.code yJ9_floorDiv_f86c9 cJ9_floorDiv_f86c9 6 (some .long), Cond.methodLink RX1 123 yX1_stepsAfter, Cond.instanceMethod yX1_stepsAfter, Cond.selects RX1 yX1_stepsAfter yX1_stepsAfter, Cond.code yX1_stepsAfter cX1_stepsAfter 4 (some .long), Cond.fieldLink RX1 37 "BoardClock$State" "step" "I", Cond.static yX2_heldBetween, Cond.code yX2_heldBetween cX2_heldBetween 6 (some .long), Cond.methodLink RX2 248 Lib.MathLoose.min_long.x, Cond.methodLink RX2 251 Lib.MathLoose.max_long.x, Cond.static Lib.MathLoose.max_long.x, Cond.code Lib.MathLoose.max_long.x Lib.MathLoose.max_long.code 4 (some .long), Cond.methodLink RX1 136 yJ9_floorMod_f86c9, Cond.static yJ9_floorMod_f86c9, Cond.code yJ9_floorMod_f86c9 cJ9_floorMod_f86c9 6 (some .long), Cond.methodLink RX1 139 yX1_widthPerTick, Cond.instanceMethod yX1_widthPerTick]
def wsX1_pass_r4 : List Cond := [Cond.selects RX1 yX1_widthPerTick yX1_widthPerTick, Cond.code yX1_widthPerTick cX1_widthPerTick 1 (some .int), Cond.fieldLink RX1 43 "BoardClock$State" "wider" "I", Cond.methodLink RX1 148 yX0_ring, Cond.instanceMethod yX0_ring, Cond.selects RX0 yX0_ring yX0_ring, Cond.initialized RX0, Cond.code yX0_ring cX0_ring 8 (some .int), Cond.fieldLink RX0 9 "BoardClock$Alarms" "count" "I", Cond.fieldLink RX0 25 "BoardClock$Alarms" "rung" "[I", Cond.constant RX0 43 (99999), Cond.methodLink RX0 44 Lib.Math.min.name, Cond.static Lib.Math.min.name, Cond.code Lib.Math.min.name Lib.Math.min.code 2 (some .int), Cond.methodLink RX0 39 yX0_countFitting, Cond.instanceMethod yX0_countFitting, Cond.selects RX0 yX0_countFitting yX0_countFitting, Cond.code yX0_countFitting cX0_countFitting 9 (some .int), Cond.methodLink RX0 50 yX0_fitsDay, Cond.instanceMethod yX0_fitsDay, Cond.selects RX0 yX0_fitsDay yX0_fitsDay, Cond.code yX0_fitsDay cX0_fitsDay 4 (some .boolean), Cond.fieldLink RX0 22 "BoardClock$Alarms" "weekdays" "[I", Cond.methodLink RX0 35 yX0_has]
def wsX1_pass_r5 : List Cond := [Cond.instanceMethod yX0_has, Cond.selects RX0 yX0_has yX0_has, Cond.code yX0_has cX0_has 2 (some .boolean), Cond.static yX2_weekdayOf, Cond.code yX2_weekdayOf cX2_weekdayOf 2 (some .int), Cond.constantLong RX2 258 (1440), Cond.constantLong RX2 260 (7), Cond.methodLink RX0 54 yX0_fitsHour, Cond.instanceMethod yX0_fitsHour, Cond.selects RX0 yX0_fitsHour yX0_fitsHour, Cond.code yX0_fitsHour cX0_fitsHour 4 (some .boolean), Cond.fieldLink RX0 19 "BoardClock$Alarms" "hours" "[I", Cond.static yX2_hourOf, Cond.code yX2_hourOf cX2_hourOf 2 (some .int), Cond.constantLong RX2 254 (60), Cond.constantLong RX2 256 (24), Cond.methodLink RX0 57 yX0_fitsMinute, Cond.instanceMethod yX0_fitsMinute, Cond.selects RX0 yX0_fitsMinute yX0_fitsMinute, Cond.code yX0_fitsMinute cX0_fitsMinute 4 (some .boolean), Cond.fieldLink RX0 15 "BoardClock$Alarms" "minutes" "[I", Cond.static yX2_minuteOf, Cond.code yX2_minuteOf cX2_minuteOf 2 (some .int)]
def wsX1_pass : List Cond := .code yX1_pass cX1_pass 4 (some .int) :: ((wsX1_pass_r1 ++ (wsX1_pass_r2 ++ (wsX1_pass_r3 ++ (wsX1_pass_r4 ++ wsX1_pass_r5)))) ++ wsX10 ++ wsX00)
def wsX1_learnFrom_r1 : List Cond := [Cond.fieldLink RX1 53 "BoardClock$State" "ticks" "I", Cond.fieldLink RX1 59 "BoardClock$State" "steady" "Z", Cond.fieldLink RX1 56 "BoardClock$State" "tickSpan" "I", Cond.constantLong RX1 106 (16), Cond.constantLong RX1 163 (2), Cond.fieldLink RX1 62 "BoardClock$State" "learned" "[I", Cond.constantLong RX1 165 (-9999), Cond.constantLong RX1 167 (9999), Cond.static yX2_isSpan, Cond.initialized RX2, Cond.code yX2_isSpan cX2_isSpan 1 (some .boolean), Cond.methodLink RX1 96 yX1_aim, Cond.instanceMethod yX1_aim, Cond.selects RX1 yX1_aim yX1_aim, Cond.initialized RX1, Cond.code yX1_aim cX1_aim 1 (some .long), Cond.fieldLink RX1 15 "BoardClock$State" "boardTime" "J", Cond.fieldLink RX1 18 "BoardClock$State" "ahead" "J", Cond.static yX2_heldBetween, Cond.code yX2_heldBetween cX2_heldBetween 6 (some .long), Cond.methodLink RX2 248 Lib.MathLoose.min_long.x, Cond.static Lib.MathLoose.min_long.x, Cond.initialized "java/lang/Math", Cond.code Lib.MathLoose.min_long.x Lib.MathLoose.min_long.code 4 (some .long)]
def wsX1_learnFrom_r2 : List Cond := [Cond.methodLink RX2 251 Lib.MathLoose.max_long.x, Cond.static Lib.MathLoose.max_long.x, Cond.code Lib.MathLoose.max_long.x Lib.MathLoose.max_long.code 4 (some .long)]
def wsX1_learnFrom : List Cond := .code yX1_learnFrom cX1_learnFrom 5 none :: ((wsX1_learnFrom_r1 ++ wsX1_learnFrom_r2) ++ wsX10)
def wsX1_aimBetween : List Cond := .code yX1_aimBetween cX1_aimBetween 7 none :: ([.constantLong RX1 169 (32), .constantLong RX1 106 (16), .methodLink RX1 156 Lib.MathLoose.max_long.x, .static Lib.MathLoose.max_long.x, .initialized "java/lang/Math", .code Lib.MathLoose.max_long.x Lib.MathLoose.max_long.code 4 (some .long), .fieldLink RX1 40 "BoardClock$State" "width" "I", .fieldLink RX1 15 "BoardClock$State" "boardTime" "J", .fieldLink RX1 18 "BoardClock$State" "ahead" "J", .methodLink RX1 119 yJ9_floorDiv_f86c9, .static yJ9_floorDiv_f86c9, .initialized RJ9, .code yJ9_floorDiv_f86c9 cJ9_floorDiv_f86c9 6 (some .long)] ++ wsX10)
def wsX1_takeIn_r1 : List Cond := [Cond.fieldLink RX1 9 "BoardClock$State" "trueTime" "J", Cond.constantLong RX1 106 (16), Cond.fieldLink RX1 40 "BoardClock$State" "width" "I", Cond.methodLink RX1 156 Lib.MathLoose.max_long.x, Cond.static Lib.MathLoose.max_long.x, Cond.initialized "java/lang/Math", Cond.code Lib.MathLoose.max_long.x Lib.MathLoose.max_long.code 4 (some .long), Cond.methodLink RX1 145 Lib.MathLoose.min_long.x, Cond.static Lib.MathLoose.min_long.x, Cond.code Lib.MathLoose.min_long.x Lib.MathLoose.min_long.code 4 (some .long), Cond.fieldLink RX1 50 "BoardClock$State" "broken" "I", Cond.fieldLink RX1 53 "BoardClock$State" "ticks" "I", Cond.methodLink RX1 152 yX1_learnFrom, Cond.instanceMethod yX1_learnFrom, Cond.selects RX1 yX1_learnFrom yX1_learnFrom, Cond.initialized RX1, Cond.code yX1_learnFrom cX1_learnFrom 5 none, Cond.fieldLink RX1 59 "BoardClock$State" "steady" "Z", Cond.fieldLink RX1 56 "BoardClock$State" "tickSpan" "I", Cond.constantLong RX1 163 (2), Cond.fieldLink RX1 62 "BoardClock$State" "learned" "[I", Cond.constantLong RX1 165 (-9999), Cond.constantLong RX1 167 (9999), Cond.static yX2_isSpan]
def wsX1_takeIn_r2 : List Cond := [Cond.initialized RX2, Cond.code yX2_isSpan cX2_isSpan 1 (some .boolean), Cond.methodLink RX1 96 yX1_aim, Cond.instanceMethod yX1_aim, Cond.selects RX1 yX1_aim yX1_aim, Cond.code yX1_aim cX1_aim 1 (some .long), Cond.fieldLink RX1 15 "BoardClock$State" "boardTime" "J", Cond.fieldLink RX1 18 "BoardClock$State" "ahead" "J", Cond.static yX2_heldBetween, Cond.code yX2_heldBetween cX2_heldBetween 6 (some .long), Cond.methodLink RX2 248 Lib.MathLoose.min_long.x, Cond.methodLink RX2 251 Lib.MathLoose.max_long.x, Cond.methodLink RX1 159 yX1_aimBetween, Cond.instanceMethod yX1_aimBetween, Cond.selects RX1 yX1_aimBetween yX1_aimBetween, Cond.code yX1_aimBetween cX1_aimBetween 7 none, Cond.constantLong RX1 169 (32), Cond.methodLink RX1 119 yJ9_floorDiv_f86c9, Cond.static yJ9_floorDiv_f86c9, Cond.initialized RJ9, Cond.code yJ9_floorDiv_f86c9 cJ9_floorDiv_f86c9 6 (some .long)]
def wsX1_takeIn : List Cond := .code yX1_takeIn cX1_takeIn 14 (some .boolean) :: ((wsX1_takeIn_r1 ++ wsX1_takeIn_r2) ++ wsX10)
def wsX1_ticksUntilDone : List Cond := .code yX1_ticksUntilDone cX1_ticksUntilDone 3 (some .int) :: ([.fieldLink RX1 18 "BoardClock$State" "ahead" "J", .fieldLink RX1 46 "BoardClock$State" "powered" "Z", .fieldLink RX1 37 "BoardClock$State" "step" "I", .methodLink RX1 100 Lib.MathLoose.abs_long.x, .static Lib.MathLoose.abs_long.x, .initialized "java/lang/Math", .code Lib.MathLoose.abs_long.x Lib.MathLoose.abs_long.code 2 (some .long), .constantLong RX1 171 (2000)] ++ wsX10)
def wsX1_ticksUntilWide : List Cond := .code yX1_ticksUntilWide cX1_ticksUntilWide 4 (some .int) :: ([.fieldLink RX1 40 "BoardClock$State" "width" "I", .methodLink RX1 139 yX1_widthPerTick, .instanceMethod yX1_widthPerTick, .selects RX1 yX1_widthPerTick yX1_widthPerTick, .initialized RX1, .code yX1_widthPerTick cX1_widthPerTick 1 (some .int), .fieldLink RX1 46 "BoardClock$State" "powered" "Z", .fieldLink RX1 43 "BoardClock$State" "wider" "I"] ++ wsX10)
def wsX2_init_r1 : List Cond := [Cond.methodLink RX2 1 objectInit, Cond.instanceMethod objectInit, Cond.code objectInit ⟨#[0xb1]⟩ 1 none, Cond.classLink RX2 7 RX1, Cond.instantiable RX1 18, Cond.initialized RX1, Cond.fieldLink RX2 10 "BoardClock" "now" "LBoardClock$State;", Cond.fieldLink RX2 16 "BoardClock" "theSeed" "I", Cond.fieldLink RX2 20 "BoardClock" "past" "[LBoardClock$State;", Cond.fieldLink RX2 24 "BoardClock" "nextPast" "I", Cond.fieldLink RX2 27 "BoardClock" "undoable" "I", Cond.fieldLink RX2 30 "BoardClock" "images" "[LBoardClock$State;", Cond.arrayClass .int, Cond.fieldLink RX2 33 "BoardClock" "imageSeeds" "[I", Cond.arrayClass .boolean, Cond.fieldLink RX2 37 "BoardClock" "imageKept" "[Z", Cond.fieldLink RX2 41 "BoardClock" "book" "[I", Cond.fieldLink RX2 44 "BoardClock" "entries" "I", Cond.instanceMethod yX1_init, Cond.code yX1_init cX1_init 1 none, Cond.methodLink RX1 3 objectInit, Cond.fieldLink RX1 9 "BoardClock$State" "trueTime" "J", Cond.fieldLink RX1 15 "BoardClock$State" "boardTime" "J", Cond.fieldLink RX1 18 "BoardClock$State" "ahead" "J"]
def wsX2_init_r2 : List Cond := [Cond.fieldLink RX1 21 "BoardClock$State" "warmth" "I", Cond.fieldLink RX1 25 "BoardClock$State" "top" "I", Cond.fieldLink RX1 28 "BoardClock$State" "curve" "I", Cond.fieldLink RX1 31 "BoardClock$State" "base" "I", Cond.fieldLink RX1 34 "BoardClock$State" "rest" "I", Cond.fieldLink RX1 37 "BoardClock$State" "step" "I", Cond.fieldLink RX1 40 "BoardClock$State" "width" "I", Cond.fieldLink RX1 43 "BoardClock$State" "wider" "I", Cond.fieldLink RX1 46 "BoardClock$State" "powered" "Z", Cond.fieldLink RX1 50 "BoardClock$State" "broken" "I", Cond.fieldLink RX1 53 "BoardClock$State" "ticks" "I", Cond.fieldLink RX1 56 "BoardClock$State" "tickSpan" "I", Cond.fieldLink RX1 59 "BoardClock$State" "steady" "Z", Cond.fieldLink RX1 62 "BoardClock$State" "learned" "[I", Cond.classLink RX1 66 RX0, Cond.instantiable RX0 5, Cond.initialized RX0, Cond.fieldLink RX1 69 "BoardClock$State" "alarms" "LBoardClock$Alarms;", Cond.instanceMethod yX0_init, Cond.code yX0_init cX0_init 1 none, Cond.methodLink RX0 3 objectInit, Cond.fieldLink RX0 9 "BoardClock$Alarms" "count" "I", Cond.fieldLink RX0 15 "BoardClock$Alarms" "minutes" "[I", Cond.fieldLink RX0 19 "BoardClock$Alarms" "hours" "[I"]
def wsX2_init_r3 : List Cond := [Cond.fieldLink RX0 22 "BoardClock$Alarms" "weekdays" "[I", Cond.fieldLink RX0 25 "BoardClock$Alarms" "rung" "[I"]
def wsX2_init : List Cond := .code yX2_init cX2_init 2 none :: ((wsX2_init_r1 ++ (wsX2_init_r2 ++ wsX2_init_r3)) ++ wsX10 ++ wsX20 ++ wsX00)
def wsX2_asInt : List Cond := .code yX2_asInt cX2_asInt 1 (some .int) :: ([])
def wsX2_firstWrong : List Cond := .code yX2_firstWrong cX2_firstWrong 4 (some .int) :: ([.fieldLink RX2 10 "BoardClock" "now" "LBoardClock$State;", .fieldLink RX2 44 "BoardClock" "entries" "I", .fieldLink RX2 41 "BoardClock" "book" "[I", .methodLink RX2 123 yX1_minuteNumber, .instanceMethod yX1_minuteNumber, .selects RX1 yX1_minuteNumber yX1_minuteNumber, .initialized RX1, .code yX1_minuteNumber cX1_minuteNumber 1 (some .long), .fieldLink RX1 15 "BoardClock$State" "boardTime" "J", .constantLong RX1 83 (60000)] ++ wsX20 ++ wsX10)
def wsX2_told_r1 : List Cond := [Cond.fieldLink RX2 10 "BoardClock" "now" "LBoardClock$State;", Cond.fieldLink RX2 47 "BoardClock$State" "warmth" "I", Cond.fieldLink RX2 57 "BoardClock$State" "rest" "I", Cond.fieldLink RX2 60 "BoardClock$State" "ahead" "J", Cond.fieldLink RX2 68 "BoardClock$State" "width" "I", Cond.fieldLink RX2 71 "BoardClock$State" "step" "I", Cond.fieldLink RX2 74 "BoardClock$State" "wider" "I", Cond.fieldLink RX2 77 "BoardClock$State" "powered" "Z", Cond.fieldLink RX2 81 "BoardClock$State" "ticks" "I", Cond.fieldLink RX2 84 "BoardClock$State" "broken" "I", Cond.fieldLink RX2 91 "BoardClock$State" "alarms" "LBoardClock$Alarms;", Cond.fieldLink RX2 95 "BoardClock$Alarms" "count" "I", Cond.fieldLink RX2 44 "BoardClock" "entries" "I", Cond.fieldLink RX2 27 "BoardClock" "undoable" "I", Cond.constant RX2 110 (-1000000002), Cond.methodLink RX2 50 yX2_spanOf, Cond.static yX2_spanOf, Cond.initialized RX2, Cond.code yX2_spanOf cX2_spanOf 1 (some .int), Cond.methodLink RX2 54 yX1_offAt, Cond.instanceMethod yX1_offAt, Cond.selects RX1 yX1_offAt yX1_offAt, Cond.initialized RX1, Cond.code yX1_offAt cX1_offAt 3 (some .int)]
def wsX2_told_r2 : List Cond := [Cond.fieldLink RX1 25 "BoardClock$State" "top" "I", Cond.fieldLink RX1 31 "BoardClock$State" "base" "I", Cond.fieldLink RX1 28 "BoardClock$State" "curve" "I", Cond.methodLink RX2 64 yX2_asInt, Cond.static yX2_asInt, Cond.code yX2_asInt cX2_asInt 1 (some .int), Cond.methodLink RX2 87 yX1_isWithinBounds, Cond.instanceMethod yX1_isWithinBounds, Cond.selects RX1 yX1_isWithinBounds yX1_isWithinBounds, Cond.code yX1_isWithinBounds cX1_isWithinBounds 1 (some .boolean), Cond.fieldLink RX1 9 "BoardClock$State" "trueTime" "J", Cond.methodLink RX1 100 Lib.MathLoose.abs_long.x, Cond.static Lib.MathLoose.abs_long.x, Cond.initialized "java/lang/Math", Cond.code Lib.MathLoose.abs_long.x Lib.MathLoose.abs_long.code 2 (some .long), Cond.constantLong RX1 106 (16), Cond.fieldLink RX1 40 "BoardClock$State" "width" "I", Cond.methodLink RX1 96 yX1_aim, Cond.instanceMethod yX1_aim, Cond.selects RX1 yX1_aim yX1_aim, Cond.code yX1_aim cX1_aim 1 (some .long), Cond.fieldLink RX1 15 "BoardClock$State" "boardTime" "J", Cond.fieldLink RX1 18 "BoardClock$State" "ahead" "J", Cond.methodLink RX2 100 yX0_totalRings]
def wsX2_told_r3 : List Cond := [Cond.instanceMethod yX0_totalRings, Cond.selects RX0 yX0_totalRings yX0_totalRings, Cond.initialized RX0, Cond.code yX0_totalRings cX0_totalRings 3 (some .int), Cond.fieldLink RX0 9 "BoardClock$Alarms" "count" "I", Cond.fieldLink RX0 25 "BoardClock$Alarms" "rung" "[I", Cond.methodLink RX2 104 yX1_ticksUntilDone, Cond.instanceMethod yX1_ticksUntilDone, Cond.selects RX1 yX1_ticksUntilDone yX1_ticksUntilDone, Cond.code yX1_ticksUntilDone cX1_ticksUntilDone 3 (some .int), Cond.fieldLink RX1 46 "BoardClock$State" "powered" "Z", Cond.fieldLink RX1 37 "BoardClock$State" "step" "I", Cond.constantLong RX1 171 (2000), Cond.methodLink RX2 107 yX2_firstWrong, Cond.instanceMethod yX2_firstWrong, Cond.selects RX2 yX2_firstWrong yX2_firstWrong, Cond.code yX2_firstWrong cX2_firstWrong 4 (some .int), Cond.fieldLink RX2 41 "BoardClock" "book" "[I", Cond.methodLink RX2 123 yX1_minuteNumber, Cond.instanceMethod yX1_minuteNumber, Cond.selects RX1 yX1_minuteNumber yX1_minuteNumber, Cond.code yX1_minuteNumber cX1_minuteNumber 1 (some .long), Cond.constantLong RX1 83 (60000)]
def wsX2_told : List Cond := .code yX2_told cX2_told 2 (some .int) :: ((wsX2_told_r1 ++ (wsX2_told_r2 ++ wsX2_told_r3)) ++ wsX20 ++ wsX10 ++ wsX00)
def wsX2_time : List Cond := .code yX2_time cX2_time 2 (some .long) :: ([.fieldLink RX2 10 "BoardClock" "now" "LBoardClock$State;", .fieldLink RX2 111 "BoardClock$State" "trueTime" "J", .fieldLink RX2 114 "BoardClock$State" "boardTime" "J", .constantLong RX2 121 (-1), .methodLink RX2 117 yX1_aim, .instanceMethod yX1_aim, .selects RX1 yX1_aim yX1_aim, .initialized RX1, .code yX1_aim cX1_aim 1 (some .long), .fieldLink RX1 15 "BoardClock$State" "boardTime" "J", .fieldLink RX1 18 "BoardClock$State" "ahead" "J"] ++ wsX20 ++ wsX10)
def wsX2_calendar : List Cond := .code yX2_calendar cX2_calendar 4 (some .int) :: ([.fieldLink RX2 10 "BoardClock" "now" "LBoardClock$State;", .constant RX2 110 (-1000000002), .methodLink RX2 123 yX1_minuteNumber, .instanceMethod yX1_minuteNumber, .selects RX1 yX1_minuteNumber yX1_minuteNumber, .initialized RX1, .code yX1_minuteNumber cX1_minuteNumber 1 (some .long), .fieldLink RX1 15 "BoardClock$State" "boardTime" "J", .constantLong RX1 83 (60000), .methodLink RX2 126 yX2_minuteOf, .static yX2_minuteOf, .initialized RX2, .code yX2_minuteOf cX2_minuteOf 2 (some .int), .constantLong RX2 254 (60), .methodLink RX2 130 yX2_hourOf, .static yX2_hourOf, .code yX2_hourOf cX2_hourOf 2 (some .int), .constantLong RX2 256 (24), .methodLink RX2 133 yX2_weekdayOf, .static yX2_weekdayOf, .code yX2_weekdayOf cX2_weekdayOf 2 (some .int), .constantLong RX2 258 (1440), .constantLong RX2 260 (7)] ++ wsX20 ++ wsX10)
def wsX2_span_r1 : List Cond := [Cond.constant RX2 140 (-1000000001), Cond.fieldLink RX2 10 "BoardClock" "now" "LBoardClock$State;", Cond.fieldLink RX2 141 "BoardClock$State" "learned" "[I", Cond.constant RX2 147 (100000), Cond.constant RX2 110 (-1000000002), Cond.methodLink RX2 136 yX2_isSpan, Cond.static yX2_isSpan, Cond.initialized RX2, Cond.code yX2_isSpan cX2_isSpan 1 (some .boolean), Cond.methodLink RX2 144 yX1_fitOf, Cond.instanceMethod yX1_fitOf, Cond.selects RX1 yX1_fitOf yX1_fitOf, Cond.initialized RX1, Cond.code yX1_fitOf cX1_fitOf 3 (some .int), Cond.methodLink RX1 85 yX1_learnedOf, Cond.instanceMethod yX1_learnedOf, Cond.selects RX1 yX1_learnedOf yX1_learnedOf, Cond.code yX1_learnedOf cX1_learnedOf 2 (some .int), Cond.fieldLink RX1 62 "BoardClock$State" "learned" "[I", Cond.methodLink RX1 89 yX1_offAt, Cond.instanceMethod yX1_offAt, Cond.selects RX1 yX1_offAt yX1_offAt, Cond.code yX1_offAt cX1_offAt 3 (some .int), Cond.fieldLink RX1 25 "BoardClock$State" "top" "I"]
def wsX2_span_r2 : List Cond := [Cond.fieldLink RX1 31 "BoardClock$State" "base" "I", Cond.fieldLink RX1 28 "BoardClock$State" "curve" "I"]
def wsX2_span : List Cond := .code yX2_span cX2_span 3 (some .int) :: ((wsX2_span_r1 ++ wsX2_span_r2) ++ wsX20 ++ wsX10)
def wsX2_alarmAt_r1 : List Cond := [Cond.fieldLink RX2 10 "BoardClock" "now" "LBoardClock$State;", Cond.fieldLink RX2 91 "BoardClock$State" "alarms" "LBoardClock$Alarms;", Cond.constant RX2 140 (-1000000001), Cond.fieldLink RX2 151 "BoardClock$Alarms" "minutes" "[I", Cond.fieldLink RX2 154 "BoardClock$Alarms" "hours" "[I", Cond.fieldLink RX2 157 "BoardClock$Alarms" "weekdays" "[I", Cond.fieldLink RX2 160 "BoardClock$Alarms" "rung" "[I", Cond.constant RX2 110 (-1000000002), Cond.methodLink RX2 148 yX0_has, Cond.instanceMethod yX0_has, Cond.selects RX0 yX0_has yX0_has, Cond.initialized RX0, Cond.code yX0_has cX0_has 2 (some .boolean), Cond.fieldLink RX0 9 "BoardClock$Alarms" "count" "I", Cond.methodLink RX2 123 yX1_minuteNumber, Cond.instanceMethod yX1_minuteNumber, Cond.selects RX1 yX1_minuteNumber yX1_minuteNumber, Cond.initialized RX1, Cond.code yX1_minuteNumber cX1_minuteNumber 1 (some .long), Cond.fieldLink RX1 15 "BoardClock$State" "boardTime" "J", Cond.constantLong RX1 83 (60000), Cond.methodLink RX2 163 yX0_nextFit, Cond.instanceMethod yX0_nextFit, Cond.selects RX0 yX0_nextFit yX0_nextFit]
def wsX2_alarmAt_r2 : List Cond := [Cond.code yX0_nextFit cX0_nextFit 7 (some .long), Cond.constantLong RX0 60 (1440), Cond.constantLong RX0 62 (60), Cond.constantLong RX0 64 (-1), Cond.methodLink RX0 50 yX0_fitsDay, Cond.instanceMethod yX0_fitsDay, Cond.selects RX0 yX0_fitsDay yX0_fitsDay, Cond.code yX0_fitsDay cX0_fitsDay 4 (some .boolean), Cond.fieldLink RX0 22 "BoardClock$Alarms" "weekdays" "[I", Cond.methodLink RX0 35 yX0_has, Cond.static yX2_weekdayOf, Cond.initialized RX2, Cond.code yX2_weekdayOf cX2_weekdayOf 2 (some .int), Cond.constantLong RX2 258 (1440), Cond.constantLong RX2 260 (7), Cond.methodLink RX0 54 yX0_fitsHour, Cond.instanceMethod yX0_fitsHour, Cond.selects RX0 yX0_fitsHour yX0_fitsHour, Cond.code yX0_fitsHour cX0_fitsHour 4 (some .boolean), Cond.fieldLink RX0 19 "BoardClock$Alarms" "hours" "[I", Cond.static yX2_hourOf, Cond.code yX2_hourOf cX2_hourOf 2 (some .int), Cond.constantLong RX2 254 (60), Cond.constantLong RX2 256 (24)]
def wsX2_alarmAt_r3 : List Cond := [Cond.methodLink RX0 57 yX0_fitsMinute, Cond.instanceMethod yX0_fitsMinute, Cond.selects RX0 yX0_fitsMinute yX0_fitsMinute, Cond.code yX0_fitsMinute cX0_fitsMinute 4 (some .boolean), Cond.fieldLink RX0 15 "BoardClock$Alarms" "minutes" "[I", Cond.static yX2_minuteOf, Cond.code yX2_minuteOf cX2_minuteOf 2 (some .int)]
def wsX2_alarmAt : List Cond := .code yX2_alarmAt cX2_alarmAt 4 (some .int) :: ((wsX2_alarmAt_r1 ++ (wsX2_alarmAt_r2 ++ wsX2_alarmAt_r3)) ++ wsX20 ++ wsX10 ++ wsX00)
def wsX2_isWithin : List Cond := .code yX2_isWithin cX2_isWithin 3 (some .boolean) :: ([])
def wsJ9_floorMod_7cf53 : List Cond := .code yJ9_floorMod_7cf53 cJ9_floorMod_7cf53 3 (some .int) :: ([])
def wsX2_remember_r1 : List Cond := [Cond.fieldLink RX2 20 "BoardClock" "past" "[LBoardClock$State;", Cond.fieldLink RX2 24 "BoardClock" "nextPast" "I", Cond.fieldLink RX2 10 "BoardClock" "now" "LBoardClock$State;", Cond.fieldLink RX2 27 "BoardClock" "undoable" "I", Cond.methodLink RX2 235 Lib.Math.min.name, Cond.static Lib.Math.min.name, Cond.initialized "java/lang/Math", Cond.code Lib.Math.min.name Lib.Math.min.code 2 (some .int), Cond.methodLink RX2 215 yX1_copyFrom, Cond.instanceMethod yX1_copyFrom, Cond.selects RX1 yX1_copyFrom yX1_copyFrom, Cond.initialized RX1, Cond.code yX1_copyFrom cX1_copyFrom 2 none, Cond.fieldLink RX1 9 "BoardClock$State" "trueTime" "J", Cond.fieldLink RX1 15 "BoardClock$State" "boardTime" "J", Cond.fieldLink RX1 18 "BoardClock$State" "ahead" "J", Cond.fieldLink RX1 21 "BoardClock$State" "warmth" "I", Cond.fieldLink RX1 25 "BoardClock$State" "top" "I", Cond.fieldLink RX1 28 "BoardClock$State" "curve" "I", Cond.fieldLink RX1 31 "BoardClock$State" "base" "I", Cond.fieldLink RX1 34 "BoardClock$State" "rest" "I", Cond.fieldLink RX1 37 "BoardClock$State" "step" "I", Cond.fieldLink RX1 40 "BoardClock$State" "width" "I", Cond.fieldLink RX1 43 "BoardClock$State" "wider" "I"]
def wsX2_remember_r2 : List Cond := [Cond.fieldLink RX1 46 "BoardClock$State" "powered" "Z", Cond.fieldLink RX1 50 "BoardClock$State" "broken" "I", Cond.fieldLink RX1 53 "BoardClock$State" "ticks" "I", Cond.fieldLink RX1 56 "BoardClock$State" "tickSpan" "I", Cond.fieldLink RX1 59 "BoardClock$State" "steady" "Z", Cond.fieldLink RX1 62 "BoardClock$State" "learned" "[I", Cond.methodLink RX1 73 arraycopyName, Cond.native arraycopyName, Cond.static arraycopyName, Cond.initialized "java/lang/System", Cond.fieldLink RX1 69 "BoardClock$State" "alarms" "LBoardClock$Alarms;", Cond.methodLink RX1 79 yX0_copyFrom, Cond.instanceMethod yX0_copyFrom, Cond.selects RX0 yX0_copyFrom yX0_copyFrom, Cond.initialized RX0, Cond.code yX0_copyFrom cX0_copyFrom 2 none, Cond.fieldLink RX0 9 "BoardClock$Alarms" "count" "I", Cond.fieldLink RX0 15 "BoardClock$Alarms" "minutes" "[I", Cond.methodLink RX0 28 arraycopyName, Cond.fieldLink RX0 19 "BoardClock$Alarms" "hours" "[I", Cond.fieldLink RX0 22 "BoardClock$Alarms" "weekdays" "[I", Cond.fieldLink RX0 25 "BoardClock$Alarms" "rung" "[I", Cond.methodLink RX2 209 yJ9_floorMod_7cf53, Cond.static yJ9_floorMod_7cf53]
def wsX2_remember_r3 : List Cond := [Cond.initialized RJ9, Cond.code yJ9_floorMod_7cf53 cJ9_floorMod_7cf53 3 (some .int)]
def wsX2_remember : List Cond := .code yX2_remember cX2_remember 1 none :: ((wsX2_remember_r1 ++ (wsX2_remember_r2 ++ wsX2_remember_r3)) ++ wsX20 ++ wsX10 ++ wsX00)
def wsX2_tick_r1 : List Cond := [Cond.constant RX2 110 (-1000000002), Cond.fieldLink RX2 10 "BoardClock" "now" "LBoardClock$State;", Cond.methodLink RX2 167 yX2_isWithin, Cond.static yX2_isWithin, Cond.initialized RX2, Cond.code yX2_isWithin cX2_isWithin 3 (some .boolean), Cond.methodLink RX2 171 yX2_remember, Cond.instanceMethod yX2_remember, Cond.selects RX2 yX2_remember yX2_remember, Cond.code yX2_remember cX2_remember 1 none, Cond.fieldLink RX2 20 "BoardClock" "past" "[LBoardClock$State;", Cond.fieldLink RX2 24 "BoardClock" "nextPast" "I", Cond.fieldLink RX2 27 "BoardClock" "undoable" "I", Cond.methodLink RX2 235 Lib.Math.min.name, Cond.static Lib.Math.min.name, Cond.initialized "java/lang/Math", Cond.code Lib.Math.min.name Lib.Math.min.code 2 (some .int), Cond.methodLink RX2 215 yX1_copyFrom, Cond.instanceMethod yX1_copyFrom, Cond.selects RX1 yX1_copyFrom yX1_copyFrom, Cond.initialized RX1, Cond.code yX1_copyFrom cX1_copyFrom 2 none, Cond.fieldLink RX1 9 "BoardClock$State" "trueTime" "J", Cond.fieldLink RX1 15 "BoardClock$State" "boardTime" "J"]
def wsX2_tick_r2 : List Cond := [Cond.fieldLink RX1 18 "BoardClock$State" "ahead" "J", Cond.fieldLink RX1 21 "BoardClock$State" "warmth" "I", Cond.fieldLink RX1 25 "BoardClock$State" "top" "I", Cond.fieldLink RX1 28 "BoardClock$State" "curve" "I", Cond.fieldLink RX1 31 "BoardClock$State" "base" "I", Cond.fieldLink RX1 34 "BoardClock$State" "rest" "I", Cond.fieldLink RX1 37 "BoardClock$State" "step" "I", Cond.fieldLink RX1 40 "BoardClock$State" "width" "I", Cond.fieldLink RX1 43 "BoardClock$State" "wider" "I", Cond.fieldLink RX1 46 "BoardClock$State" "powered" "Z", Cond.fieldLink RX1 50 "BoardClock$State" "broken" "I", Cond.fieldLink RX1 53 "BoardClock$State" "ticks" "I", Cond.fieldLink RX1 56 "BoardClock$State" "tickSpan" "I", Cond.fieldLink RX1 59 "BoardClock$State" "steady" "Z", Cond.fieldLink RX1 62 "BoardClock$State" "learned" "[I", Cond.methodLink RX1 73 arraycopyName, Cond.native arraycopyName, Cond.static arraycopyName, Cond.initialized "java/lang/System", Cond.fieldLink RX1 69 "BoardClock$State" "alarms" "LBoardClock$Alarms;", Cond.methodLink RX1 79 yX0_copyFrom, Cond.instanceMethod yX0_copyFrom, Cond.selects RX0 yX0_copyFrom yX0_copyFrom, Cond.initialized RX0]
def wsX2_tick_r3 : List Cond := [Cond.code yX0_copyFrom cX0_copyFrom 2 none, Cond.fieldLink RX0 9 "BoardClock$Alarms" "count" "I", Cond.fieldLink RX0 15 "BoardClock$Alarms" "minutes" "[I", Cond.methodLink RX0 28 arraycopyName, Cond.fieldLink RX0 19 "BoardClock$Alarms" "hours" "[I", Cond.fieldLink RX0 22 "BoardClock$Alarms" "weekdays" "[I", Cond.fieldLink RX0 25 "BoardClock$Alarms" "rung" "[I", Cond.methodLink RX2 209 yJ9_floorMod_7cf53, Cond.static yJ9_floorMod_7cf53, Cond.initialized RJ9, Cond.code yJ9_floorMod_7cf53 cJ9_floorMod_7cf53 3 (some .int), Cond.methodLink RX2 174 yX1_pass, Cond.instanceMethod yX1_pass, Cond.selects RX1 yX1_pass yX1_pass, Cond.code yX1_pass cX1_pass 4 (some .int), Cond.constantLong RX1 83 (60000), Cond.constantLong RX1 106 (16), Cond.constantLong RX1 143 (999999999), Cond.methodLink RX1 145 Lib.MathLoose.min_long.x, Cond.static Lib.MathLoose.min_long.x, Cond.code Lib.MathLoose.min_long.x Lib.MathLoose.min_long.code 4 (some .long), Cond.methodLink RX1 126 yX1_minuteNumber, Cond.instanceMethod yX1_minuteNumber, Cond.selects RX1 yX1_minuteNumber yX1_minuteNumber]
def wsX2_tick_r4 : List Cond := [Cond.code yX1_minuteNumber cX1_minuteNumber 1 (some .long), Cond.methodLink RX1 129 yX1_noteTicks, Cond.instanceMethod yX1_noteTicks, Cond.selects RX1 yX1_noteTicks yX1_noteTicks, Cond.code yX1_noteTicks cX1_noteTicks 3 none, Cond.static yX2_spanOf, Cond.code yX2_spanOf cX2_spanOf 1 (some .int), Cond.methodLink RX1 133 yX1_boardTimeAfter, Cond.instanceMethod yX1_boardTimeAfter, Cond.selects RX1 yX1_boardTimeAfter yX1_boardTimeAfter, Cond.code yX1_boardTimeAfter cX1_boardTimeAfter 4 (some .long), Cond.methodLink RX1 89 yX1_offAt, Cond.instanceMethod yX1_offAt, Cond.selects RX1 yX1_offAt yX1_offAt, Cond.code yX1_offAt cX1_offAt 3 (some .int), Cond.methodLink RX1 115 yX1_sixteenthsAfter, Cond.instanceMethod yX1_sixteenthsAfter, Cond.selects RX1 yX1_sixteenthsAfter yX1_sixteenthsAfter, Cond.code yX1_sixteenthsAfter cX1_sixteenthsAfter 2 (some .long), Cond.methodLink RX1 85 yX1_learnedOf, Cond.instanceMethod yX1_learnedOf, Cond.selects RX1 yX1_learnedOf yX1_learnedOf, Cond.code yX1_learnedOf cX1_learnedOf 2 (some .int), Cond.static yX2_isSpan]
def wsX2_tick_r5 : List Cond := [Cond.code yX2_isSpan cX2_isSpan 1 (some .boolean), Cond.methodLink RX1 119 yJ9_floorDiv_f86c9, Cond.static yJ9_floorDiv_f86c9, Cond.code yJ9_floorDiv_f86c9 cJ9_floorDiv_f86c9 6 (some .long), Cond.methodLink RX1 123 yX1_stepsAfter, Cond.instanceMethod yX1_stepsAfter, Cond.selects RX1 yX1_stepsAfter yX1_stepsAfter, Cond.code yX1_stepsAfter cX1_stepsAfter 4 (some .long), Cond.static yX2_heldBetween, Cond.code yX2_heldBetween cX2_heldBetween 6 (some .long), Cond.methodLink RX2 248 Lib.MathLoose.min_long.x, Cond.methodLink RX2 251 Lib.MathLoose.max_long.x, Cond.static Lib.MathLoose.max_long.x, Cond.code Lib.MathLoose.max_long.x Lib.MathLoose.max_long.code 4 (some .long), Cond.methodLink RX1 136 yJ9_floorMod_f86c9, Cond.static yJ9_floorMod_f86c9, Cond.code yJ9_floorMod_f86c9 cJ9_floorMod_f86c9 6 (some .long), Cond.methodLink RX1 139 yX1_widthPerTick, Cond.instanceMethod yX1_widthPerTick, Cond.selects RX1 yX1_widthPerTick yX1_widthPerTick, Cond.code yX1_widthPerTick cX1_widthPerTick 1 (some .int), Cond.methodLink RX1 148 yX0_ring, Cond.instanceMethod yX0_ring, Cond.selects RX0 yX0_ring yX0_ring]
def wsX2_tick_r6 : List Cond := [Cond.code yX0_ring cX0_ring 8 (some .int), Cond.constant RX0 43 (99999), Cond.methodLink RX0 44 Lib.Math.min.name, Cond.methodLink RX0 39 yX0_countFitting, Cond.instanceMethod yX0_countFitting, Cond.selects RX0 yX0_countFitting yX0_countFitting, Cond.code yX0_countFitting cX0_countFitting 9 (some .int), Cond.methodLink RX0 50 yX0_fitsDay, Cond.instanceMethod yX0_fitsDay, Cond.selects RX0 yX0_fitsDay yX0_fitsDay, Cond.code yX0_fitsDay cX0_fitsDay 4 (some .boolean), Cond.methodLink RX0 35 yX0_has, Cond.instanceMethod yX0_has, Cond.selects RX0 yX0_has yX0_has, Cond.code yX0_has cX0_has 2 (some .boolean), Cond.static yX2_weekdayOf, Cond.code yX2_weekdayOf cX2_weekdayOf 2 (some .int), Cond.constantLong RX2 258 (1440), Cond.constantLong RX2 260 (7), Cond.methodLink RX0 54 yX0_fitsHour, Cond.instanceMethod yX0_fitsHour, Cond.selects RX0 yX0_fitsHour yX0_fitsHour, Cond.code yX0_fitsHour cX0_fitsHour 4 (some .boolean), Cond.static yX2_hourOf]
def wsX2_tick_r7 : List Cond := [Cond.code yX2_hourOf cX2_hourOf 2 (some .int), Cond.constantLong RX2 254 (60), Cond.constantLong RX2 256 (24), Cond.methodLink RX0 57 yX0_fitsMinute, Cond.instanceMethod yX0_fitsMinute, Cond.selects RX0 yX0_fitsMinute yX0_fitsMinute, Cond.code yX0_fitsMinute cX0_fitsMinute 4 (some .boolean), Cond.static yX2_minuteOf, Cond.code yX2_minuteOf cX2_minuteOf 2 (some .int)]
def wsX2_tick : List Cond := .code yX2_tick cX2_tick 2 (some .int) :: ((wsX2_tick_r1 ++ (wsX2_tick_r2 ++ (wsX2_tick_r3 ++ (wsX2_tick_r4 ++ (wsX2_tick_r5 ++ (wsX2_tick_r6 ++ wsX2_tick_r7)))))) ++ wsX20 ++ wsX10 ++ wsX00)
def wsX2_warm_r1 : List Cond := [Cond.constant RX2 110 (-1000000002), Cond.fieldLink RX2 10 "BoardClock" "now" "LBoardClock$State;", Cond.fieldLink RX2 47 "BoardClock$State" "warmth" "I", Cond.methodLink RX2 167 yX2_isWithin, Cond.static yX2_isWithin, Cond.initialized RX2, Cond.code yX2_isWithin cX2_isWithin 3 (some .boolean), Cond.methodLink RX2 171 yX2_remember, Cond.instanceMethod yX2_remember, Cond.selects RX2 yX2_remember yX2_remember, Cond.code yX2_remember cX2_remember 1 none, Cond.fieldLink RX2 20 "BoardClock" "past" "[LBoardClock$State;", Cond.fieldLink RX2 24 "BoardClock" "nextPast" "I", Cond.fieldLink RX2 27 "BoardClock" "undoable" "I", Cond.methodLink RX2 235 Lib.Math.min.name, Cond.static Lib.Math.min.name, Cond.initialized "java/lang/Math", Cond.code Lib.Math.min.name Lib.Math.min.code 2 (some .int), Cond.methodLink RX2 215 yX1_copyFrom, Cond.instanceMethod yX1_copyFrom, Cond.selects RX1 yX1_copyFrom yX1_copyFrom, Cond.initialized RX1, Cond.code yX1_copyFrom cX1_copyFrom 2 none, Cond.fieldLink RX1 9 "BoardClock$State" "trueTime" "J"]
def wsX2_warm_r2 : List Cond := [Cond.fieldLink RX1 15 "BoardClock$State" "boardTime" "J", Cond.fieldLink RX1 18 "BoardClock$State" "ahead" "J", Cond.fieldLink RX1 21 "BoardClock$State" "warmth" "I", Cond.fieldLink RX1 25 "BoardClock$State" "top" "I", Cond.fieldLink RX1 28 "BoardClock$State" "curve" "I", Cond.fieldLink RX1 31 "BoardClock$State" "base" "I", Cond.fieldLink RX1 34 "BoardClock$State" "rest" "I", Cond.fieldLink RX1 37 "BoardClock$State" "step" "I", Cond.fieldLink RX1 40 "BoardClock$State" "width" "I", Cond.fieldLink RX1 43 "BoardClock$State" "wider" "I", Cond.fieldLink RX1 46 "BoardClock$State" "powered" "Z", Cond.fieldLink RX1 50 "BoardClock$State" "broken" "I", Cond.fieldLink RX1 53 "BoardClock$State" "ticks" "I", Cond.fieldLink RX1 56 "BoardClock$State" "tickSpan" "I", Cond.fieldLink RX1 59 "BoardClock$State" "steady" "Z", Cond.fieldLink RX1 62 "BoardClock$State" "learned" "[I", Cond.methodLink RX1 73 arraycopyName, Cond.native arraycopyName, Cond.static arraycopyName, Cond.initialized "java/lang/System", Cond.fieldLink RX1 69 "BoardClock$State" "alarms" "LBoardClock$Alarms;", Cond.methodLink RX1 79 yX0_copyFrom, Cond.instanceMethod yX0_copyFrom, Cond.selects RX0 yX0_copyFrom yX0_copyFrom]
def wsX2_warm_r3 : List Cond := [Cond.initialized RX0, Cond.code yX0_copyFrom cX0_copyFrom 2 none, Cond.fieldLink RX0 9 "BoardClock$Alarms" "count" "I", Cond.fieldLink RX0 15 "BoardClock$Alarms" "minutes" "[I", Cond.methodLink RX0 28 arraycopyName, Cond.fieldLink RX0 19 "BoardClock$Alarms" "hours" "[I", Cond.fieldLink RX0 22 "BoardClock$Alarms" "weekdays" "[I", Cond.fieldLink RX0 25 "BoardClock$Alarms" "rung" "[I", Cond.methodLink RX2 209 yJ9_floorMod_7cf53, Cond.static yJ9_floorMod_7cf53, Cond.initialized RJ9, Cond.code yJ9_floorMod_7cf53 cJ9_floorMod_7cf53 3 (some .int)]
def wsX2_warm : List Cond := .code yX2_warm cX2_warm 3 (some .int) :: ((wsX2_warm_r1 ++ (wsX2_warm_r2 ++ wsX2_warm_r3)) ++ wsX20 ++ wsX10 ++ wsX00)
def wsX2_crystal_r1 : List Cond := [Cond.constant RX2 110 (-1000000002), Cond.fieldLink RX2 10 "BoardClock" "now" "LBoardClock$State;", Cond.fieldLink RX2 177 "BoardClock$State" "top" "I", Cond.fieldLink RX2 180 "BoardClock$State" "curve" "I", Cond.fieldLink RX2 183 "BoardClock$State" "base" "I", Cond.fieldLink RX2 47 "BoardClock$State" "warmth" "I", Cond.methodLink RX2 167 yX2_isWithin, Cond.static yX2_isWithin, Cond.initialized RX2, Cond.code yX2_isWithin cX2_isWithin 3 (some .boolean), Cond.methodLink RX2 171 yX2_remember, Cond.instanceMethod yX2_remember, Cond.selects RX2 yX2_remember yX2_remember, Cond.code yX2_remember cX2_remember 1 none, Cond.fieldLink RX2 20 "BoardClock" "past" "[LBoardClock$State;", Cond.fieldLink RX2 24 "BoardClock" "nextPast" "I", Cond.fieldLink RX2 27 "BoardClock" "undoable" "I", Cond.methodLink RX2 235 Lib.Math.min.name, Cond.static Lib.Math.min.name, Cond.initialized "java/lang/Math", Cond.code Lib.Math.min.name Lib.Math.min.code 2 (some .int), Cond.methodLink RX2 215 yX1_copyFrom, Cond.instanceMethod yX1_copyFrom, Cond.selects RX1 yX1_copyFrom yX1_copyFrom]
def wsX2_crystal_r2 : List Cond := [Cond.initialized RX1, Cond.code yX1_copyFrom cX1_copyFrom 2 none, Cond.fieldLink RX1 9 "BoardClock$State" "trueTime" "J", Cond.fieldLink RX1 15 "BoardClock$State" "boardTime" "J", Cond.fieldLink RX1 18 "BoardClock$State" "ahead" "J", Cond.fieldLink RX1 21 "BoardClock$State" "warmth" "I", Cond.fieldLink RX1 25 "BoardClock$State" "top" "I", Cond.fieldLink RX1 28 "BoardClock$State" "curve" "I", Cond.fieldLink RX1 31 "BoardClock$State" "base" "I", Cond.fieldLink RX1 34 "BoardClock$State" "rest" "I", Cond.fieldLink RX1 37 "BoardClock$State" "step" "I", Cond.fieldLink RX1 40 "BoardClock$State" "width" "I", Cond.fieldLink RX1 43 "BoardClock$State" "wider" "I", Cond.fieldLink RX1 46 "BoardClock$State" "powered" "Z", Cond.fieldLink RX1 50 "BoardClock$State" "broken" "I", Cond.fieldLink RX1 53 "BoardClock$State" "ticks" "I", Cond.fieldLink RX1 56 "BoardClock$State" "tickSpan" "I", Cond.fieldLink RX1 59 "BoardClock$State" "steady" "Z", Cond.fieldLink RX1 62 "BoardClock$State" "learned" "[I", Cond.methodLink RX1 73 arraycopyName, Cond.native arraycopyName, Cond.static arraycopyName, Cond.initialized "java/lang/System", Cond.fieldLink RX1 69 "BoardClock$State" "alarms" "LBoardClock$Alarms;"]
def wsX2_crystal_r3 : List Cond := [Cond.methodLink RX1 79 yX0_copyFrom, Cond.instanceMethod yX0_copyFrom, Cond.selects RX0 yX0_copyFrom yX0_copyFrom, Cond.initialized RX0, Cond.code yX0_copyFrom cX0_copyFrom 2 none, Cond.fieldLink RX0 9 "BoardClock$Alarms" "count" "I", Cond.fieldLink RX0 15 "BoardClock$Alarms" "minutes" "[I", Cond.methodLink RX0 28 arraycopyName, Cond.fieldLink RX0 19 "BoardClock$Alarms" "hours" "[I", Cond.fieldLink RX0 22 "BoardClock$Alarms" "weekdays" "[I", Cond.fieldLink RX0 25 "BoardClock$Alarms" "rung" "[I", Cond.methodLink RX2 209 yJ9_floorMod_7cf53, Cond.static yJ9_floorMod_7cf53, Cond.initialized RJ9, Cond.code yJ9_floorMod_7cf53 cJ9_floorMod_7cf53 3 (some .int), Cond.methodLink RX2 54 yX1_offAt, Cond.instanceMethod yX1_offAt, Cond.selects RX1 yX1_offAt yX1_offAt, Cond.code yX1_offAt cX1_offAt 3 (some .int)]
def wsX2_crystal : List Cond := .code yX2_crystal cX2_crystal 4 (some .int) :: ((wsX2_crystal_r1 ++ (wsX2_crystal_r2 ++ wsX2_crystal_r3)) ++ wsX20 ++ wsX10 ++ wsX00)
def wsX2_changeStep_r1 : List Cond := [Cond.constant RX2 110 (-1000000002), Cond.fieldLink RX2 10 "BoardClock" "now" "LBoardClock$State;", Cond.fieldLink RX2 71 "BoardClock$State" "step" "I", Cond.methodLink RX2 167 yX2_isWithin, Cond.static yX2_isWithin, Cond.initialized RX2, Cond.code yX2_isWithin cX2_isWithin 3 (some .boolean), Cond.methodLink RX2 171 yX2_remember, Cond.instanceMethod yX2_remember, Cond.selects RX2 yX2_remember yX2_remember, Cond.code yX2_remember cX2_remember 1 none, Cond.fieldLink RX2 20 "BoardClock" "past" "[LBoardClock$State;", Cond.fieldLink RX2 24 "BoardClock" "nextPast" "I", Cond.fieldLink RX2 27 "BoardClock" "undoable" "I", Cond.methodLink RX2 235 Lib.Math.min.name, Cond.static Lib.Math.min.name, Cond.initialized "java/lang/Math", Cond.code Lib.Math.min.name Lib.Math.min.code 2 (some .int), Cond.methodLink RX2 215 yX1_copyFrom, Cond.instanceMethod yX1_copyFrom, Cond.selects RX1 yX1_copyFrom yX1_copyFrom, Cond.initialized RX1, Cond.code yX1_copyFrom cX1_copyFrom 2 none, Cond.fieldLink RX1 9 "BoardClock$State" "trueTime" "J"]
def wsX2_changeStep_r2 : List Cond := [Cond.fieldLink RX1 15 "BoardClock$State" "boardTime" "J", Cond.fieldLink RX1 18 "BoardClock$State" "ahead" "J", Cond.fieldLink RX1 21 "BoardClock$State" "warmth" "I", Cond.fieldLink RX1 25 "BoardClock$State" "top" "I", Cond.fieldLink RX1 28 "BoardClock$State" "curve" "I", Cond.fieldLink RX1 31 "BoardClock$State" "base" "I", Cond.fieldLink RX1 34 "BoardClock$State" "rest" "I", Cond.fieldLink RX1 37 "BoardClock$State" "step" "I", Cond.fieldLink RX1 40 "BoardClock$State" "width" "I", Cond.fieldLink RX1 43 "BoardClock$State" "wider" "I", Cond.fieldLink RX1 46 "BoardClock$State" "powered" "Z", Cond.fieldLink RX1 50 "BoardClock$State" "broken" "I", Cond.fieldLink RX1 53 "BoardClock$State" "ticks" "I", Cond.fieldLink RX1 56 "BoardClock$State" "tickSpan" "I", Cond.fieldLink RX1 59 "BoardClock$State" "steady" "Z", Cond.fieldLink RX1 62 "BoardClock$State" "learned" "[I", Cond.methodLink RX1 73 arraycopyName, Cond.native arraycopyName, Cond.static arraycopyName, Cond.initialized "java/lang/System", Cond.fieldLink RX1 69 "BoardClock$State" "alarms" "LBoardClock$Alarms;", Cond.methodLink RX1 79 yX0_copyFrom, Cond.instanceMethod yX0_copyFrom, Cond.selects RX0 yX0_copyFrom yX0_copyFrom]
def wsX2_changeStep_r3 : List Cond := [Cond.initialized RX0, Cond.code yX0_copyFrom cX0_copyFrom 2 none, Cond.fieldLink RX0 9 "BoardClock$Alarms" "count" "I", Cond.fieldLink RX0 15 "BoardClock$Alarms" "minutes" "[I", Cond.methodLink RX0 28 arraycopyName, Cond.fieldLink RX0 19 "BoardClock$Alarms" "hours" "[I", Cond.fieldLink RX0 22 "BoardClock$Alarms" "weekdays" "[I", Cond.fieldLink RX0 25 "BoardClock$Alarms" "rung" "[I", Cond.methodLink RX2 209 yJ9_floorMod_7cf53, Cond.static yJ9_floorMod_7cf53, Cond.initialized RJ9, Cond.code yJ9_floorMod_7cf53 cJ9_floorMod_7cf53 3 (some .int)]
def wsX2_changeStep : List Cond := .code yX2_changeStep cX2_changeStep 3 (some .int) :: ((wsX2_changeStep_r1 ++ (wsX2_changeStep_r2 ++ wsX2_changeStep_r3)) ++ wsX20 ++ wsX10 ++ wsX00)
def wsX2_changeWider_r1 : List Cond := [Cond.constant RX2 110 (-1000000002), Cond.fieldLink RX2 10 "BoardClock" "now" "LBoardClock$State;", Cond.fieldLink RX2 74 "BoardClock$State" "wider" "I", Cond.methodLink RX2 167 yX2_isWithin, Cond.static yX2_isWithin, Cond.initialized RX2, Cond.code yX2_isWithin cX2_isWithin 3 (some .boolean), Cond.methodLink RX2 171 yX2_remember, Cond.instanceMethod yX2_remember, Cond.selects RX2 yX2_remember yX2_remember, Cond.code yX2_remember cX2_remember 1 none, Cond.fieldLink RX2 20 "BoardClock" "past" "[LBoardClock$State;", Cond.fieldLink RX2 24 "BoardClock" "nextPast" "I", Cond.fieldLink RX2 27 "BoardClock" "undoable" "I", Cond.methodLink RX2 235 Lib.Math.min.name, Cond.static Lib.Math.min.name, Cond.initialized "java/lang/Math", Cond.code Lib.Math.min.name Lib.Math.min.code 2 (some .int), Cond.methodLink RX2 215 yX1_copyFrom, Cond.instanceMethod yX1_copyFrom, Cond.selects RX1 yX1_copyFrom yX1_copyFrom, Cond.initialized RX1, Cond.code yX1_copyFrom cX1_copyFrom 2 none, Cond.fieldLink RX1 9 "BoardClock$State" "trueTime" "J"]
def wsX2_changeWider_r2 : List Cond := [Cond.fieldLink RX1 15 "BoardClock$State" "boardTime" "J", Cond.fieldLink RX1 18 "BoardClock$State" "ahead" "J", Cond.fieldLink RX1 21 "BoardClock$State" "warmth" "I", Cond.fieldLink RX1 25 "BoardClock$State" "top" "I", Cond.fieldLink RX1 28 "BoardClock$State" "curve" "I", Cond.fieldLink RX1 31 "BoardClock$State" "base" "I", Cond.fieldLink RX1 34 "BoardClock$State" "rest" "I", Cond.fieldLink RX1 37 "BoardClock$State" "step" "I", Cond.fieldLink RX1 40 "BoardClock$State" "width" "I", Cond.fieldLink RX1 43 "BoardClock$State" "wider" "I", Cond.fieldLink RX1 46 "BoardClock$State" "powered" "Z", Cond.fieldLink RX1 50 "BoardClock$State" "broken" "I", Cond.fieldLink RX1 53 "BoardClock$State" "ticks" "I", Cond.fieldLink RX1 56 "BoardClock$State" "tickSpan" "I", Cond.fieldLink RX1 59 "BoardClock$State" "steady" "Z", Cond.fieldLink RX1 62 "BoardClock$State" "learned" "[I", Cond.methodLink RX1 73 arraycopyName, Cond.native arraycopyName, Cond.static arraycopyName, Cond.initialized "java/lang/System", Cond.fieldLink RX1 69 "BoardClock$State" "alarms" "LBoardClock$Alarms;", Cond.methodLink RX1 79 yX0_copyFrom, Cond.instanceMethod yX0_copyFrom, Cond.selects RX0 yX0_copyFrom yX0_copyFrom]
def wsX2_changeWider_r3 : List Cond := [Cond.initialized RX0, Cond.code yX0_copyFrom cX0_copyFrom 2 none, Cond.fieldLink RX0 9 "BoardClock$Alarms" "count" "I", Cond.fieldLink RX0 15 "BoardClock$Alarms" "minutes" "[I", Cond.methodLink RX0 28 arraycopyName, Cond.fieldLink RX0 19 "BoardClock$Alarms" "hours" "[I", Cond.fieldLink RX0 22 "BoardClock$Alarms" "weekdays" "[I", Cond.fieldLink RX0 25 "BoardClock$Alarms" "rung" "[I", Cond.methodLink RX2 209 yJ9_floorMod_7cf53, Cond.static yJ9_floorMod_7cf53, Cond.initialized RJ9, Cond.code yJ9_floorMod_7cf53 cJ9_floorMod_7cf53 3 (some .int)]
def wsX2_changeWider : List Cond := .code yX2_changeWider cX2_changeWider 3 (some .int) :: ((wsX2_changeWider_r1 ++ (wsX2_changeWider_r2 ++ wsX2_changeWider_r3)) ++ wsX20 ++ wsX10 ++ wsX00)
def wsX2_bound_r1 : List Cond := [Cond.constant RX2 110 (-1000000002), Cond.methodLink RX2 186 yX2_changeStep, Cond.instanceMethod yX2_changeStep, Cond.selects RX2 yX2_changeStep yX2_changeStep, Cond.initialized RX2, Cond.code yX2_changeStep cX2_changeStep 3 (some .int), Cond.fieldLink RX2 10 "BoardClock" "now" "LBoardClock$State;", Cond.fieldLink RX2 71 "BoardClock$State" "step" "I", Cond.methodLink RX2 167 yX2_isWithin, Cond.static yX2_isWithin, Cond.code yX2_isWithin cX2_isWithin 3 (some .boolean), Cond.methodLink RX2 171 yX2_remember, Cond.instanceMethod yX2_remember, Cond.selects RX2 yX2_remember yX2_remember, Cond.code yX2_remember cX2_remember 1 none, Cond.fieldLink RX2 20 "BoardClock" "past" "[LBoardClock$State;", Cond.fieldLink RX2 24 "BoardClock" "nextPast" "I", Cond.fieldLink RX2 27 "BoardClock" "undoable" "I", Cond.methodLink RX2 235 Lib.Math.min.name, Cond.static Lib.Math.min.name, Cond.initialized "java/lang/Math", Cond.code Lib.Math.min.name Lib.Math.min.code 2 (some .int), Cond.methodLink RX2 215 yX1_copyFrom, Cond.instanceMethod yX1_copyFrom]
def wsX2_bound_r2 : List Cond := [Cond.selects RX1 yX1_copyFrom yX1_copyFrom, Cond.initialized RX1, Cond.code yX1_copyFrom cX1_copyFrom 2 none, Cond.fieldLink RX1 9 "BoardClock$State" "trueTime" "J", Cond.fieldLink RX1 15 "BoardClock$State" "boardTime" "J", Cond.fieldLink RX1 18 "BoardClock$State" "ahead" "J", Cond.fieldLink RX1 21 "BoardClock$State" "warmth" "I", Cond.fieldLink RX1 25 "BoardClock$State" "top" "I", Cond.fieldLink RX1 28 "BoardClock$State" "curve" "I", Cond.fieldLink RX1 31 "BoardClock$State" "base" "I", Cond.fieldLink RX1 34 "BoardClock$State" "rest" "I", Cond.fieldLink RX1 37 "BoardClock$State" "step" "I", Cond.fieldLink RX1 40 "BoardClock$State" "width" "I", Cond.fieldLink RX1 43 "BoardClock$State" "wider" "I", Cond.fieldLink RX1 46 "BoardClock$State" "powered" "Z", Cond.fieldLink RX1 50 "BoardClock$State" "broken" "I", Cond.fieldLink RX1 53 "BoardClock$State" "ticks" "I", Cond.fieldLink RX1 56 "BoardClock$State" "tickSpan" "I", Cond.fieldLink RX1 59 "BoardClock$State" "steady" "Z", Cond.fieldLink RX1 62 "BoardClock$State" "learned" "[I", Cond.methodLink RX1 73 arraycopyName, Cond.native arraycopyName, Cond.static arraycopyName, Cond.initialized "java/lang/System"]
def wsX2_bound_r3 : List Cond := [Cond.fieldLink RX1 69 "BoardClock$State" "alarms" "LBoardClock$Alarms;", Cond.methodLink RX1 79 yX0_copyFrom, Cond.instanceMethod yX0_copyFrom, Cond.selects RX0 yX0_copyFrom yX0_copyFrom, Cond.initialized RX0, Cond.code yX0_copyFrom cX0_copyFrom 2 none, Cond.fieldLink RX0 9 "BoardClock$Alarms" "count" "I", Cond.fieldLink RX0 15 "BoardClock$Alarms" "minutes" "[I", Cond.methodLink RX0 28 arraycopyName, Cond.fieldLink RX0 19 "BoardClock$Alarms" "hours" "[I", Cond.fieldLink RX0 22 "BoardClock$Alarms" "weekdays" "[I", Cond.fieldLink RX0 25 "BoardClock$Alarms" "rung" "[I", Cond.methodLink RX2 209 yJ9_floorMod_7cf53, Cond.static yJ9_floorMod_7cf53, Cond.initialized RJ9, Cond.code yJ9_floorMod_7cf53 cJ9_floorMod_7cf53 3 (some .int), Cond.methodLink RX2 189 yX2_changeWider, Cond.instanceMethod yX2_changeWider, Cond.selects RX2 yX2_changeWider yX2_changeWider, Cond.code yX2_changeWider cX2_changeWider 3 (some .int), Cond.fieldLink RX2 74 "BoardClock$State" "wider" "I"]
def wsX2_bound : List Cond := .code yX2_bound cX2_bound 3 (some .int) :: ((wsX2_bound_r1 ++ (wsX2_bound_r2 ++ wsX2_bound_r3)) ++ wsX20 ++ wsX10 ++ wsX00)
def wsX2_power_r1 : List Cond := [Cond.fieldLink RX2 10 "BoardClock" "now" "LBoardClock$State;", Cond.fieldLink RX2 77 "BoardClock$State" "powered" "Z", Cond.methodLink RX2 171 yX2_remember, Cond.instanceMethod yX2_remember, Cond.selects RX2 yX2_remember yX2_remember, Cond.initialized RX2, Cond.code yX2_remember cX2_remember 1 none, Cond.fieldLink RX2 20 "BoardClock" "past" "[LBoardClock$State;", Cond.fieldLink RX2 24 "BoardClock" "nextPast" "I", Cond.fieldLink RX2 27 "BoardClock" "undoable" "I", Cond.methodLink RX2 235 Lib.Math.min.name, Cond.static Lib.Math.min.name, Cond.initialized "java/lang/Math", Cond.code Lib.Math.min.name Lib.Math.min.code 2 (some .int), Cond.methodLink RX2 215 yX1_copyFrom, Cond.instanceMethod yX1_copyFrom, Cond.selects RX1 yX1_copyFrom yX1_copyFrom, Cond.initialized RX1, Cond.code yX1_copyFrom cX1_copyFrom 2 none, Cond.fieldLink RX1 9 "BoardClock$State" "trueTime" "J", Cond.fieldLink RX1 15 "BoardClock$State" "boardTime" "J", Cond.fieldLink RX1 18 "BoardClock$State" "ahead" "J", Cond.fieldLink RX1 21 "BoardClock$State" "warmth" "I", Cond.fieldLink RX1 25 "BoardClock$State" "top" "I"]
def wsX2_power_r2 : List Cond := [Cond.fieldLink RX1 28 "BoardClock$State" "curve" "I", Cond.fieldLink RX1 31 "BoardClock$State" "base" "I", Cond.fieldLink RX1 34 "BoardClock$State" "rest" "I", Cond.fieldLink RX1 37 "BoardClock$State" "step" "I", Cond.fieldLink RX1 40 "BoardClock$State" "width" "I", Cond.fieldLink RX1 43 "BoardClock$State" "wider" "I", Cond.fieldLink RX1 46 "BoardClock$State" "powered" "Z", Cond.fieldLink RX1 50 "BoardClock$State" "broken" "I", Cond.fieldLink RX1 53 "BoardClock$State" "ticks" "I", Cond.fieldLink RX1 56 "BoardClock$State" "tickSpan" "I", Cond.fieldLink RX1 59 "BoardClock$State" "steady" "Z", Cond.fieldLink RX1 62 "BoardClock$State" "learned" "[I", Cond.methodLink RX1 73 arraycopyName, Cond.native arraycopyName, Cond.static arraycopyName, Cond.initialized "java/lang/System", Cond.fieldLink RX1 69 "BoardClock$State" "alarms" "LBoardClock$Alarms;", Cond.methodLink RX1 79 yX0_copyFrom, Cond.instanceMethod yX0_copyFrom, Cond.selects RX0 yX0_copyFrom yX0_copyFrom, Cond.initialized RX0, Cond.code yX0_copyFrom cX0_copyFrom 2 none, Cond.fieldLink RX0 9 "BoardClock$Alarms" "count" "I", Cond.fieldLink RX0 15 "BoardClock$Alarms" "minutes" "[I"]
def wsX2_power_r3 : List Cond := [Cond.methodLink RX0 28 arraycopyName, Cond.fieldLink RX0 19 "BoardClock$Alarms" "hours" "[I", Cond.fieldLink RX0 22 "BoardClock$Alarms" "weekdays" "[I", Cond.fieldLink RX0 25 "BoardClock$Alarms" "rung" "[I", Cond.methodLink RX2 209 yJ9_floorMod_7cf53, Cond.static yJ9_floorMod_7cf53, Cond.initialized RJ9, Cond.code yJ9_floorMod_7cf53 cJ9_floorMod_7cf53 3 (some .int), Cond.methodLink RX2 64 yX2_asInt, Cond.static yX2_asInt, Cond.code yX2_asInt cX2_asInt 1 (some .int)]
def wsX2_power : List Cond := .code yX2_power cX2_power 3 (some .int) :: ((wsX2_power_r1 ++ (wsX2_power_r2 ++ wsX2_power_r3)) ++ wsX20 ++ wsX10 ++ wsX00)
def wsX2_hear_r1 : List Cond := [Cond.constant RX2 110 (-1000000002), Cond.fieldLink RX2 10 "BoardClock" "now" "LBoardClock$State;", Cond.methodLink RX2 167 yX2_isWithin, Cond.static yX2_isWithin, Cond.initialized RX2, Cond.code yX2_isWithin cX2_isWithin 3 (some .boolean), Cond.methodLink RX2 171 yX2_remember, Cond.instanceMethod yX2_remember, Cond.selects RX2 yX2_remember yX2_remember, Cond.code yX2_remember cX2_remember 1 none, Cond.fieldLink RX2 20 "BoardClock" "past" "[LBoardClock$State;", Cond.fieldLink RX2 24 "BoardClock" "nextPast" "I", Cond.fieldLink RX2 27 "BoardClock" "undoable" "I", Cond.methodLink RX2 235 Lib.Math.min.name, Cond.static Lib.Math.min.name, Cond.initialized "java/lang/Math", Cond.code Lib.Math.min.name Lib.Math.min.code 2 (some .int), Cond.methodLink RX2 215 yX1_copyFrom, Cond.instanceMethod yX1_copyFrom, Cond.selects RX1 yX1_copyFrom yX1_copyFrom, Cond.initialized RX1, Cond.code yX1_copyFrom cX1_copyFrom 2 none, Cond.fieldLink RX1 9 "BoardClock$State" "trueTime" "J", Cond.fieldLink RX1 15 "BoardClock$State" "boardTime" "J"]
def wsX2_hear_r2 : List Cond := [Cond.fieldLink RX1 18 "BoardClock$State" "ahead" "J", Cond.fieldLink RX1 21 "BoardClock$State" "warmth" "I", Cond.fieldLink RX1 25 "BoardClock$State" "top" "I", Cond.fieldLink RX1 28 "BoardClock$State" "curve" "I", Cond.fieldLink RX1 31 "BoardClock$State" "base" "I", Cond.fieldLink RX1 34 "BoardClock$State" "rest" "I", Cond.fieldLink RX1 37 "BoardClock$State" "step" "I", Cond.fieldLink RX1 40 "BoardClock$State" "width" "I", Cond.fieldLink RX1 43 "BoardClock$State" "wider" "I", Cond.fieldLink RX1 46 "BoardClock$State" "powered" "Z", Cond.fieldLink RX1 50 "BoardClock$State" "broken" "I", Cond.fieldLink RX1 53 "BoardClock$State" "ticks" "I", Cond.fieldLink RX1 56 "BoardClock$State" "tickSpan" "I", Cond.fieldLink RX1 59 "BoardClock$State" "steady" "Z", Cond.fieldLink RX1 62 "BoardClock$State" "learned" "[I", Cond.methodLink RX1 73 arraycopyName, Cond.native arraycopyName, Cond.static arraycopyName, Cond.initialized "java/lang/System", Cond.fieldLink RX1 69 "BoardClock$State" "alarms" "LBoardClock$Alarms;", Cond.methodLink RX1 79 yX0_copyFrom, Cond.instanceMethod yX0_copyFrom, Cond.selects RX0 yX0_copyFrom yX0_copyFrom, Cond.initialized RX0]
def wsX2_hear_r3 : List Cond := [Cond.code yX0_copyFrom cX0_copyFrom 2 none, Cond.fieldLink RX0 9 "BoardClock$Alarms" "count" "I", Cond.fieldLink RX0 15 "BoardClock$Alarms" "minutes" "[I", Cond.methodLink RX0 28 arraycopyName, Cond.fieldLink RX0 19 "BoardClock$Alarms" "hours" "[I", Cond.fieldLink RX0 22 "BoardClock$Alarms" "weekdays" "[I", Cond.fieldLink RX0 25 "BoardClock$Alarms" "rung" "[I", Cond.methodLink RX2 209 yJ9_floorMod_7cf53, Cond.static yJ9_floorMod_7cf53, Cond.initialized RJ9, Cond.code yJ9_floorMod_7cf53 cJ9_floorMod_7cf53 3 (some .int), Cond.methodLink RX2 192 yX1_takeIn, Cond.instanceMethod yX1_takeIn, Cond.selects RX1 yX1_takeIn yX1_takeIn, Cond.code yX1_takeIn cX1_takeIn 14 (some .boolean), Cond.constantLong RX1 106 (16), Cond.methodLink RX1 156 Lib.MathLoose.max_long.x, Cond.static Lib.MathLoose.max_long.x, Cond.code Lib.MathLoose.max_long.x Lib.MathLoose.max_long.code 4 (some .long), Cond.methodLink RX1 145 Lib.MathLoose.min_long.x, Cond.static Lib.MathLoose.min_long.x, Cond.code Lib.MathLoose.min_long.x Lib.MathLoose.min_long.code 4 (some .long), Cond.methodLink RX1 152 yX1_learnFrom, Cond.instanceMethod yX1_learnFrom]
def wsX2_hear_r4 : List Cond := [Cond.selects RX1 yX1_learnFrom yX1_learnFrom, Cond.code yX1_learnFrom cX1_learnFrom 5 none, Cond.constantLong RX1 163 (2), Cond.constantLong RX1 165 (-9999), Cond.constantLong RX1 167 (9999), Cond.static yX2_isSpan, Cond.code yX2_isSpan cX2_isSpan 1 (some .boolean), Cond.methodLink RX1 96 yX1_aim, Cond.instanceMethod yX1_aim, Cond.selects RX1 yX1_aim yX1_aim, Cond.code yX1_aim cX1_aim 1 (some .long), Cond.static yX2_heldBetween, Cond.code yX2_heldBetween cX2_heldBetween 6 (some .long), Cond.methodLink RX2 248 Lib.MathLoose.min_long.x, Cond.methodLink RX2 251 Lib.MathLoose.max_long.x, Cond.methodLink RX1 159 yX1_aimBetween, Cond.instanceMethod yX1_aimBetween, Cond.selects RX1 yX1_aimBetween yX1_aimBetween, Cond.code yX1_aimBetween cX1_aimBetween 7 none, Cond.constantLong RX1 169 (32), Cond.methodLink RX1 119 yJ9_floorDiv_f86c9, Cond.static yJ9_floorDiv_f86c9, Cond.code yJ9_floorDiv_f86c9 cJ9_floorDiv_f86c9 6 (some .long), Cond.methodLink RX2 64 yX2_asInt]
def wsX2_hear_r5 : List Cond := [Cond.static yX2_asInt, Cond.code yX2_asInt cX2_asInt 1 (some .int)]
def wsX2_hear : List Cond := .code yX2_hear cX2_hear 3 (some .int) :: ((wsX2_hear_r1 ++ (wsX2_hear_r2 ++ (wsX2_hear_r3 ++ (wsX2_hear_r4 ++ wsX2_hear_r5)))) ++ wsX20 ++ wsX10 ++ wsX00)
def wsX2_alarm_r1 : List Cond := [Cond.constant RX2 110 (-1000000002), Cond.fieldLink RX2 10 "BoardClock" "now" "LBoardClock$State;", Cond.fieldLink RX2 91 "BoardClock$State" "alarms" "LBoardClock$Alarms;", Cond.fieldLink RX2 95 "BoardClock$Alarms" "count" "I", Cond.constant RX2 196 (-1000000004), Cond.methodLink RX2 167 yX2_isWithin, Cond.static yX2_isWithin, Cond.initialized RX2, Cond.code yX2_isWithin cX2_isWithin 3 (some .boolean), Cond.methodLink RX2 171 yX2_remember, Cond.instanceMethod yX2_remember, Cond.selects RX2 yX2_remember yX2_remember, Cond.code yX2_remember cX2_remember 1 none, Cond.fieldLink RX2 20 "BoardClock" "past" "[LBoardClock$State;", Cond.fieldLink RX2 24 "BoardClock" "nextPast" "I", Cond.fieldLink RX2 27 "BoardClock" "undoable" "I", Cond.methodLink RX2 235 Lib.Math.min.name, Cond.static Lib.Math.min.name, Cond.initialized "java/lang/Math", Cond.code Lib.Math.min.name Lib.Math.min.code 2 (some .int), Cond.methodLink RX2 215 yX1_copyFrom, Cond.instanceMethod yX1_copyFrom, Cond.selects RX1 yX1_copyFrom yX1_copyFrom, Cond.initialized RX1]
def wsX2_alarm_r2 : List Cond := [Cond.code yX1_copyFrom cX1_copyFrom 2 none, Cond.fieldLink RX1 9 "BoardClock$State" "trueTime" "J", Cond.fieldLink RX1 15 "BoardClock$State" "boardTime" "J", Cond.fieldLink RX1 18 "BoardClock$State" "ahead" "J", Cond.fieldLink RX1 21 "BoardClock$State" "warmth" "I", Cond.fieldLink RX1 25 "BoardClock$State" "top" "I", Cond.fieldLink RX1 28 "BoardClock$State" "curve" "I", Cond.fieldLink RX1 31 "BoardClock$State" "base" "I", Cond.fieldLink RX1 34 "BoardClock$State" "rest" "I", Cond.fieldLink RX1 37 "BoardClock$State" "step" "I", Cond.fieldLink RX1 40 "BoardClock$State" "width" "I", Cond.fieldLink RX1 43 "BoardClock$State" "wider" "I", Cond.fieldLink RX1 46 "BoardClock$State" "powered" "Z", Cond.fieldLink RX1 50 "BoardClock$State" "broken" "I", Cond.fieldLink RX1 53 "BoardClock$State" "ticks" "I", Cond.fieldLink RX1 56 "BoardClock$State" "tickSpan" "I", Cond.fieldLink RX1 59 "BoardClock$State" "steady" "Z", Cond.fieldLink RX1 62 "BoardClock$State" "learned" "[I", Cond.methodLink RX1 73 arraycopyName, Cond.native arraycopyName, Cond.static arraycopyName, Cond.initialized "java/lang/System", Cond.fieldLink RX1 69 "BoardClock$State" "alarms" "LBoardClock$Alarms;", Cond.methodLink RX1 79 yX0_copyFrom]
def wsX2_alarm_r3 : List Cond := [Cond.instanceMethod yX0_copyFrom, Cond.selects RX0 yX0_copyFrom yX0_copyFrom, Cond.initialized RX0, Cond.code yX0_copyFrom cX0_copyFrom 2 none, Cond.fieldLink RX0 9 "BoardClock$Alarms" "count" "I", Cond.fieldLink RX0 15 "BoardClock$Alarms" "minutes" "[I", Cond.methodLink RX0 28 arraycopyName, Cond.fieldLink RX0 19 "BoardClock$Alarms" "hours" "[I", Cond.fieldLink RX0 22 "BoardClock$Alarms" "weekdays" "[I", Cond.fieldLink RX0 25 "BoardClock$Alarms" "rung" "[I", Cond.methodLink RX2 209 yJ9_floorMod_7cf53, Cond.static yJ9_floorMod_7cf53, Cond.initialized RJ9, Cond.code yJ9_floorMod_7cf53 cJ9_floorMod_7cf53 3 (some .int), Cond.methodLink RX2 197 yX0_add, Cond.instanceMethod yX0_add, Cond.selects RX0 yX0_add yX0_add, Cond.code yX0_add cX0_add 5 (some .int), Cond.constant RX0 34 (-1000000004)]
def wsX2_alarm : List Cond := .code yX2_alarm cX2_alarm 4 (some .int) :: ((wsX2_alarm_r1 ++ (wsX2_alarm_r2 ++ wsX2_alarm_r3)) ++ wsX20 ++ wsX10 ++ wsX00)
def wsX2_drop_r1 : List Cond := [Cond.fieldLink RX2 10 "BoardClock" "now" "LBoardClock$State;", Cond.fieldLink RX2 91 "BoardClock$State" "alarms" "LBoardClock$Alarms;", Cond.constant RX2 140 (-1000000001), Cond.fieldLink RX2 95 "BoardClock$Alarms" "count" "I", Cond.methodLink RX2 148 yX0_has, Cond.instanceMethod yX0_has, Cond.selects RX0 yX0_has yX0_has, Cond.initialized RX0, Cond.code yX0_has cX0_has 2 (some .boolean), Cond.fieldLink RX0 9 "BoardClock$Alarms" "count" "I", Cond.methodLink RX2 171 yX2_remember, Cond.instanceMethod yX2_remember, Cond.selects RX2 yX2_remember yX2_remember, Cond.initialized RX2, Cond.code yX2_remember cX2_remember 1 none, Cond.fieldLink RX2 20 "BoardClock" "past" "[LBoardClock$State;", Cond.fieldLink RX2 24 "BoardClock" "nextPast" "I", Cond.fieldLink RX2 27 "BoardClock" "undoable" "I", Cond.methodLink RX2 235 Lib.Math.min.name, Cond.static Lib.Math.min.name, Cond.initialized "java/lang/Math", Cond.code Lib.Math.min.name Lib.Math.min.code 2 (some .int), Cond.methodLink RX2 215 yX1_copyFrom, Cond.instanceMethod yX1_copyFrom]
def wsX2_drop_r2 : List Cond := [Cond.selects RX1 yX1_copyFrom yX1_copyFrom, Cond.initialized RX1, Cond.code yX1_copyFrom cX1_copyFrom 2 none, Cond.fieldLink RX1 9 "BoardClock$State" "trueTime" "J", Cond.fieldLink RX1 15 "BoardClock$State" "boardTime" "J", Cond.fieldLink RX1 18 "BoardClock$State" "ahead" "J", Cond.fieldLink RX1 21 "BoardClock$State" "warmth" "I", Cond.fieldLink RX1 25 "BoardClock$State" "top" "I", Cond.fieldLink RX1 28 "BoardClock$State" "curve" "I", Cond.fieldLink RX1 31 "BoardClock$State" "base" "I", Cond.fieldLink RX1 34 "BoardClock$State" "rest" "I", Cond.fieldLink RX1 37 "BoardClock$State" "step" "I", Cond.fieldLink RX1 40 "BoardClock$State" "width" "I", Cond.fieldLink RX1 43 "BoardClock$State" "wider" "I", Cond.fieldLink RX1 46 "BoardClock$State" "powered" "Z", Cond.fieldLink RX1 50 "BoardClock$State" "broken" "I", Cond.fieldLink RX1 53 "BoardClock$State" "ticks" "I", Cond.fieldLink RX1 56 "BoardClock$State" "tickSpan" "I", Cond.fieldLink RX1 59 "BoardClock$State" "steady" "Z", Cond.fieldLink RX1 62 "BoardClock$State" "learned" "[I", Cond.methodLink RX1 73 arraycopyName, Cond.native arraycopyName, Cond.static arraycopyName, Cond.initialized "java/lang/System"]
def wsX2_drop_r3 : List Cond := [Cond.fieldLink RX1 69 "BoardClock$State" "alarms" "LBoardClock$Alarms;", Cond.methodLink RX1 79 yX0_copyFrom, Cond.instanceMethod yX0_copyFrom, Cond.selects RX0 yX0_copyFrom yX0_copyFrom, Cond.code yX0_copyFrom cX0_copyFrom 2 none, Cond.fieldLink RX0 15 "BoardClock$Alarms" "minutes" "[I", Cond.methodLink RX0 28 arraycopyName, Cond.fieldLink RX0 19 "BoardClock$Alarms" "hours" "[I", Cond.fieldLink RX0 22 "BoardClock$Alarms" "weekdays" "[I", Cond.fieldLink RX0 25 "BoardClock$Alarms" "rung" "[I", Cond.methodLink RX2 209 yJ9_floorMod_7cf53, Cond.static yJ9_floorMod_7cf53, Cond.initialized RJ9, Cond.code yJ9_floorMod_7cf53 cJ9_floorMod_7cf53 3 (some .int), Cond.methodLink RX2 201 yX0_remove, Cond.instanceMethod yX0_remove, Cond.selects RX0 yX0_remove yX0_remove, Cond.code yX0_remove cX0_remove 3 none, Cond.methodLink RX0 35 yX0_has]
def wsX2_drop : List Cond := .code yX2_drop cX2_drop 2 (some .int) :: ((wsX2_drop_r1 ++ (wsX2_drop_r2 ++ wsX2_drop_r3)) ++ wsX20 ++ wsX10 ++ wsX00)
def wsX2_learn_r1 : List Cond := [Cond.constant RX2 140 (-1000000001), Cond.constant RX2 110 (-1000000002), Cond.fieldLink RX2 10 "BoardClock" "now" "LBoardClock$State;", Cond.fieldLink RX2 141 "BoardClock$State" "learned" "[I", Cond.methodLink RX2 136 yX2_isSpan, Cond.static yX2_isSpan, Cond.initialized RX2, Cond.code yX2_isSpan cX2_isSpan 1 (some .boolean), Cond.methodLink RX2 167 yX2_isWithin, Cond.static yX2_isWithin, Cond.code yX2_isWithin cX2_isWithin 3 (some .boolean), Cond.methodLink RX2 171 yX2_remember, Cond.instanceMethod yX2_remember, Cond.selects RX2 yX2_remember yX2_remember, Cond.code yX2_remember cX2_remember 1 none, Cond.fieldLink RX2 20 "BoardClock" "past" "[LBoardClock$State;", Cond.fieldLink RX2 24 "BoardClock" "nextPast" "I", Cond.fieldLink RX2 27 "BoardClock" "undoable" "I", Cond.methodLink RX2 235 Lib.Math.min.name, Cond.static Lib.Math.min.name, Cond.initialized "java/lang/Math", Cond.code Lib.Math.min.name Lib.Math.min.code 2 (some .int), Cond.methodLink RX2 215 yX1_copyFrom, Cond.instanceMethod yX1_copyFrom]
def wsX2_learn_r2 : List Cond := [Cond.selects RX1 yX1_copyFrom yX1_copyFrom, Cond.initialized RX1, Cond.code yX1_copyFrom cX1_copyFrom 2 none, Cond.fieldLink RX1 9 "BoardClock$State" "trueTime" "J", Cond.fieldLink RX1 15 "BoardClock$State" "boardTime" "J", Cond.fieldLink RX1 18 "BoardClock$State" "ahead" "J", Cond.fieldLink RX1 21 "BoardClock$State" "warmth" "I", Cond.fieldLink RX1 25 "BoardClock$State" "top" "I", Cond.fieldLink RX1 28 "BoardClock$State" "curve" "I", Cond.fieldLink RX1 31 "BoardClock$State" "base" "I", Cond.fieldLink RX1 34 "BoardClock$State" "rest" "I", Cond.fieldLink RX1 37 "BoardClock$State" "step" "I", Cond.fieldLink RX1 40 "BoardClock$State" "width" "I", Cond.fieldLink RX1 43 "BoardClock$State" "wider" "I", Cond.fieldLink RX1 46 "BoardClock$State" "powered" "Z", Cond.fieldLink RX1 50 "BoardClock$State" "broken" "I", Cond.fieldLink RX1 53 "BoardClock$State" "ticks" "I", Cond.fieldLink RX1 56 "BoardClock$State" "tickSpan" "I", Cond.fieldLink RX1 59 "BoardClock$State" "steady" "Z", Cond.fieldLink RX1 62 "BoardClock$State" "learned" "[I", Cond.methodLink RX1 73 arraycopyName, Cond.native arraycopyName, Cond.static arraycopyName, Cond.initialized "java/lang/System"]
def wsX2_learn_r3 : List Cond := [Cond.fieldLink RX1 69 "BoardClock$State" "alarms" "LBoardClock$Alarms;", Cond.methodLink RX1 79 yX0_copyFrom, Cond.instanceMethod yX0_copyFrom, Cond.selects RX0 yX0_copyFrom yX0_copyFrom, Cond.initialized RX0, Cond.code yX0_copyFrom cX0_copyFrom 2 none, Cond.fieldLink RX0 9 "BoardClock$Alarms" "count" "I", Cond.fieldLink RX0 15 "BoardClock$Alarms" "minutes" "[I", Cond.methodLink RX0 28 arraycopyName, Cond.fieldLink RX0 19 "BoardClock$Alarms" "hours" "[I", Cond.fieldLink RX0 22 "BoardClock$Alarms" "weekdays" "[I", Cond.fieldLink RX0 25 "BoardClock$Alarms" "rung" "[I", Cond.methodLink RX2 209 yJ9_floorMod_7cf53, Cond.static yJ9_floorMod_7cf53, Cond.initialized RJ9, Cond.code yJ9_floorMod_7cf53 cJ9_floorMod_7cf53 3 (some .int)]
def wsX2_learn : List Cond := .code yX2_learn cX2_learn 4 (some .int) :: ((wsX2_learn_r1 ++ (wsX2_learn_r2 ++ wsX2_learn_r3)) ++ wsX20 ++ wsX10 ++ wsX00)
def wsX2_draw : List Cond := .code yX2_draw cX2_draw 2 (some .int) :: ([.fieldLink RX2 16 "BoardClock" "theSeed" "I", .constantLong RX2 241 (1103515245), .constantLong RX2 243 (12345), .constantLong RX2 245 (2147483647), .constant RX2 247 (65536)] ++ wsX20)
def wsX2_actByDraws_r1 : List Cond := [Cond.fieldLink RX2 10 "BoardClock" "now" "LBoardClock$State;", Cond.fieldLink RX2 47 "BoardClock$State" "warmth" "I", Cond.methodLink RX2 171 yX2_remember, Cond.instanceMethod yX2_remember, Cond.selects RX2 yX2_remember yX2_remember, Cond.initialized RX2, Cond.code yX2_remember cX2_remember 1 none, Cond.fieldLink RX2 20 "BoardClock" "past" "[LBoardClock$State;", Cond.fieldLink RX2 24 "BoardClock" "nextPast" "I", Cond.fieldLink RX2 27 "BoardClock" "undoable" "I", Cond.methodLink RX2 235 Lib.Math.min.name, Cond.static Lib.Math.min.name, Cond.initialized "java/lang/Math", Cond.code Lib.Math.min.name Lib.Math.min.code 2 (some .int), Cond.methodLink RX2 215 yX1_copyFrom, Cond.instanceMethod yX1_copyFrom, Cond.selects RX1 yX1_copyFrom yX1_copyFrom, Cond.initialized RX1, Cond.code yX1_copyFrom cX1_copyFrom 2 none, Cond.fieldLink RX1 9 "BoardClock$State" "trueTime" "J", Cond.fieldLink RX1 15 "BoardClock$State" "boardTime" "J", Cond.fieldLink RX1 18 "BoardClock$State" "ahead" "J", Cond.fieldLink RX1 21 "BoardClock$State" "warmth" "I", Cond.fieldLink RX1 25 "BoardClock$State" "top" "I"]
def wsX2_actByDraws_r2 : List Cond := [Cond.fieldLink RX1 28 "BoardClock$State" "curve" "I", Cond.fieldLink RX1 31 "BoardClock$State" "base" "I", Cond.fieldLink RX1 34 "BoardClock$State" "rest" "I", Cond.fieldLink RX1 37 "BoardClock$State" "step" "I", Cond.fieldLink RX1 40 "BoardClock$State" "width" "I", Cond.fieldLink RX1 43 "BoardClock$State" "wider" "I", Cond.fieldLink RX1 46 "BoardClock$State" "powered" "Z", Cond.fieldLink RX1 50 "BoardClock$State" "broken" "I", Cond.fieldLink RX1 53 "BoardClock$State" "ticks" "I", Cond.fieldLink RX1 56 "BoardClock$State" "tickSpan" "I", Cond.fieldLink RX1 59 "BoardClock$State" "steady" "Z", Cond.fieldLink RX1 62 "BoardClock$State" "learned" "[I", Cond.methodLink RX1 73 arraycopyName, Cond.native arraycopyName, Cond.static arraycopyName, Cond.initialized "java/lang/System", Cond.fieldLink RX1 69 "BoardClock$State" "alarms" "LBoardClock$Alarms;", Cond.methodLink RX1 79 yX0_copyFrom, Cond.instanceMethod yX0_copyFrom, Cond.selects RX0 yX0_copyFrom yX0_copyFrom, Cond.initialized RX0, Cond.code yX0_copyFrom cX0_copyFrom 2 none, Cond.fieldLink RX0 9 "BoardClock$Alarms" "count" "I", Cond.fieldLink RX0 15 "BoardClock$Alarms" "minutes" "[I"]
def wsX2_actByDraws_r3 : List Cond := [Cond.methodLink RX0 28 arraycopyName, Cond.fieldLink RX0 19 "BoardClock$Alarms" "hours" "[I", Cond.fieldLink RX0 22 "BoardClock$Alarms" "weekdays" "[I", Cond.fieldLink RX0 25 "BoardClock$Alarms" "rung" "[I", Cond.methodLink RX2 209 yJ9_floorMod_7cf53, Cond.static yJ9_floorMod_7cf53, Cond.initialized RJ9, Cond.code yJ9_floorMod_7cf53 cJ9_floorMod_7cf53 3 (some .int), Cond.methodLink RX2 238 yX2_draw, Cond.instanceMethod yX2_draw, Cond.selects RX2 yX2_draw yX2_draw, Cond.code yX2_draw cX2_draw 2 (some .int), Cond.fieldLink RX2 16 "BoardClock" "theSeed" "I", Cond.constantLong RX2 241 (1103515245), Cond.constantLong RX2 243 (12345), Cond.constantLong RX2 245 (2147483647), Cond.constant RX2 247 (65536), Cond.methodLink RX2 192 yX1_takeIn, Cond.instanceMethod yX1_takeIn, Cond.selects RX1 yX1_takeIn yX1_takeIn, Cond.code yX1_takeIn cX1_takeIn 14 (some .boolean), Cond.constantLong RX1 106 (16), Cond.methodLink RX1 156 Lib.MathLoose.max_long.x, Cond.static Lib.MathLoose.max_long.x]
def wsX2_actByDraws_r4 : List Cond := [Cond.code Lib.MathLoose.max_long.x Lib.MathLoose.max_long.code 4 (some .long), Cond.methodLink RX1 145 Lib.MathLoose.min_long.x, Cond.static Lib.MathLoose.min_long.x, Cond.code Lib.MathLoose.min_long.x Lib.MathLoose.min_long.code 4 (some .long), Cond.methodLink RX1 152 yX1_learnFrom, Cond.instanceMethod yX1_learnFrom, Cond.selects RX1 yX1_learnFrom yX1_learnFrom, Cond.code yX1_learnFrom cX1_learnFrom 5 none, Cond.constantLong RX1 163 (2), Cond.constantLong RX1 165 (-9999), Cond.constantLong RX1 167 (9999), Cond.static yX2_isSpan, Cond.code yX2_isSpan cX2_isSpan 1 (some .boolean), Cond.methodLink RX1 96 yX1_aim, Cond.instanceMethod yX1_aim, Cond.selects RX1 yX1_aim yX1_aim, Cond.code yX1_aim cX1_aim 1 (some .long), Cond.static yX2_heldBetween, Cond.code yX2_heldBetween cX2_heldBetween 6 (some .long), Cond.methodLink RX2 248 Lib.MathLoose.min_long.x, Cond.methodLink RX2 251 Lib.MathLoose.max_long.x, Cond.methodLink RX1 159 yX1_aimBetween, Cond.instanceMethod yX1_aimBetween, Cond.selects RX1 yX1_aimBetween yX1_aimBetween]
def wsX2_actByDraws_r5 : List Cond := [Cond.code yX1_aimBetween cX1_aimBetween 7 none, Cond.constantLong RX1 169 (32), Cond.methodLink RX1 119 yJ9_floorDiv_f86c9, Cond.static yJ9_floorDiv_f86c9, Cond.code yJ9_floorDiv_f86c9 cJ9_floorDiv_f86c9 6 (some .long), Cond.methodLink RX2 174 yX1_pass, Cond.instanceMethod yX1_pass, Cond.selects RX1 yX1_pass yX1_pass, Cond.code yX1_pass cX1_pass 4 (some .int), Cond.constantLong RX1 83 (60000), Cond.constantLong RX1 143 (999999999), Cond.methodLink RX1 126 yX1_minuteNumber, Cond.instanceMethod yX1_minuteNumber, Cond.selects RX1 yX1_minuteNumber yX1_minuteNumber, Cond.code yX1_minuteNumber cX1_minuteNumber 1 (some .long), Cond.methodLink RX1 129 yX1_noteTicks, Cond.instanceMethod yX1_noteTicks, Cond.selects RX1 yX1_noteTicks yX1_noteTicks, Cond.code yX1_noteTicks cX1_noteTicks 3 none, Cond.static yX2_spanOf, Cond.code yX2_spanOf cX2_spanOf 1 (some .int), Cond.methodLink RX1 133 yX1_boardTimeAfter, Cond.instanceMethod yX1_boardTimeAfter, Cond.selects RX1 yX1_boardTimeAfter yX1_boardTimeAfter]
def wsX2_actByDraws_r6 : List Cond := [Cond.code yX1_boardTimeAfter cX1_boardTimeAfter 4 (some .long), Cond.methodLink RX1 89 yX1_offAt, Cond.instanceMethod yX1_offAt, Cond.selects RX1 yX1_offAt yX1_offAt, Cond.code yX1_offAt cX1_offAt 3 (some .int), Cond.methodLink RX1 115 yX1_sixteenthsAfter, Cond.instanceMethod yX1_sixteenthsAfter, Cond.selects RX1 yX1_sixteenthsAfter yX1_sixteenthsAfter, Cond.code yX1_sixteenthsAfter cX1_sixteenthsAfter 2 (some .long), Cond.methodLink RX1 85 yX1_learnedOf, Cond.instanceMethod yX1_learnedOf, Cond.selects RX1 yX1_learnedOf yX1_learnedOf, Cond.code yX1_learnedOf cX1_learnedOf 2 (some .int), Cond.methodLink RX1 123 yX1_stepsAfter, Cond.instanceMethod yX1_stepsAfter, Cond.selects RX1 yX1_stepsAfter yX1_stepsAfter, Cond.code yX1_stepsAfter cX1_stepsAfter 4 (some .long), Cond.methodLink RX1 136 yJ9_floorMod_f86c9, Cond.static yJ9_floorMod_f86c9, Cond.code yJ9_floorMod_f86c9 cJ9_floorMod_f86c9 6 (some .long), Cond.methodLink RX1 139 yX1_widthPerTick, Cond.instanceMethod yX1_widthPerTick, Cond.selects RX1 yX1_widthPerTick yX1_widthPerTick, Cond.code yX1_widthPerTick cX1_widthPerTick 1 (some .int)]
def wsX2_actByDraws_r7 : List Cond := [Cond.methodLink RX1 148 yX0_ring, Cond.instanceMethod yX0_ring, Cond.selects RX0 yX0_ring yX0_ring, Cond.code yX0_ring cX0_ring 8 (some .int), Cond.constant RX0 43 (99999), Cond.methodLink RX0 44 Lib.Math.min.name, Cond.methodLink RX0 39 yX0_countFitting, Cond.instanceMethod yX0_countFitting, Cond.selects RX0 yX0_countFitting yX0_countFitting, Cond.code yX0_countFitting cX0_countFitting 9 (some .int), Cond.methodLink RX0 50 yX0_fitsDay, Cond.instanceMethod yX0_fitsDay, Cond.selects RX0 yX0_fitsDay yX0_fitsDay, Cond.code yX0_fitsDay cX0_fitsDay 4 (some .boolean), Cond.methodLink RX0 35 yX0_has, Cond.instanceMethod yX0_has, Cond.selects RX0 yX0_has yX0_has, Cond.code yX0_has cX0_has 2 (some .boolean), Cond.static yX2_weekdayOf, Cond.code yX2_weekdayOf cX2_weekdayOf 2 (some .int), Cond.constantLong RX2 258 (1440), Cond.constantLong RX2 260 (7), Cond.methodLink RX0 54 yX0_fitsHour, Cond.instanceMethod yX0_fitsHour]
def wsX2_actByDraws_r8 : List Cond := [Cond.selects RX0 yX0_fitsHour yX0_fitsHour, Cond.code yX0_fitsHour cX0_fitsHour 4 (some .boolean), Cond.static yX2_hourOf, Cond.code yX2_hourOf cX2_hourOf 2 (some .int), Cond.constantLong RX2 254 (60), Cond.constantLong RX2 256 (24), Cond.methodLink RX0 57 yX0_fitsMinute, Cond.instanceMethod yX0_fitsMinute, Cond.selects RX0 yX0_fitsMinute yX0_fitsMinute, Cond.code yX0_fitsMinute cX0_fitsMinute 4 (some .boolean), Cond.static yX2_minuteOf, Cond.code yX2_minuteOf cX2_minuteOf 2 (some .int)]
def wsX2_actByDraws : List Cond := .code yX2_actByDraws cX2_actByDraws 4 none :: ((wsX2_actByDraws_r1 ++ (wsX2_actByDraws_r2 ++ (wsX2_actByDraws_r3 ++ (wsX2_actByDraws_r4 ++ (wsX2_actByDraws_r5 ++ (wsX2_actByDraws_r6 ++ (wsX2_actByDraws_r7 ++ wsX2_actByDraws_r8))))))) ++ wsX20 ++ wsX10 ++ wsX00)
def wsX2_drift_r1 : List Cond := [Cond.constant RX2 110 (-1000000002), Cond.fieldLink RX2 10 "BoardClock" "now" "LBoardClock$State;", Cond.fieldLink RX2 91 "BoardClock$State" "alarms" "LBoardClock$Alarms;", Cond.methodLink RX2 167 yX2_isWithin, Cond.static yX2_isWithin, Cond.initialized RX2, Cond.code yX2_isWithin cX2_isWithin 3 (some .boolean), Cond.methodLink RX2 205 yX2_actByDraws, Cond.instanceMethod yX2_actByDraws, Cond.selects RX2 yX2_actByDraws yX2_actByDraws, Cond.code yX2_actByDraws cX2_actByDraws 4 none, Cond.fieldLink RX2 47 "BoardClock$State" "warmth" "I", Cond.methodLink RX2 171 yX2_remember, Cond.instanceMethod yX2_remember, Cond.selects RX2 yX2_remember yX2_remember, Cond.code yX2_remember cX2_remember 1 none, Cond.fieldLink RX2 20 "BoardClock" "past" "[LBoardClock$State;", Cond.fieldLink RX2 24 "BoardClock" "nextPast" "I", Cond.fieldLink RX2 27 "BoardClock" "undoable" "I", Cond.methodLink RX2 235 Lib.Math.min.name, Cond.static Lib.Math.min.name, Cond.initialized "java/lang/Math", Cond.code Lib.Math.min.name Lib.Math.min.code 2 (some .int), Cond.methodLink RX2 215 yX1_copyFrom]
def wsX2_drift_r2 : List Cond := [Cond.instanceMethod yX1_copyFrom, Cond.selects RX1 yX1_copyFrom yX1_copyFrom, Cond.initialized RX1, Cond.code yX1_copyFrom cX1_copyFrom 2 none, Cond.fieldLink RX1 9 "BoardClock$State" "trueTime" "J", Cond.fieldLink RX1 15 "BoardClock$State" "boardTime" "J", Cond.fieldLink RX1 18 "BoardClock$State" "ahead" "J", Cond.fieldLink RX1 21 "BoardClock$State" "warmth" "I", Cond.fieldLink RX1 25 "BoardClock$State" "top" "I", Cond.fieldLink RX1 28 "BoardClock$State" "curve" "I", Cond.fieldLink RX1 31 "BoardClock$State" "base" "I", Cond.fieldLink RX1 34 "BoardClock$State" "rest" "I", Cond.fieldLink RX1 37 "BoardClock$State" "step" "I", Cond.fieldLink RX1 40 "BoardClock$State" "width" "I", Cond.fieldLink RX1 43 "BoardClock$State" "wider" "I", Cond.fieldLink RX1 46 "BoardClock$State" "powered" "Z", Cond.fieldLink RX1 50 "BoardClock$State" "broken" "I", Cond.fieldLink RX1 53 "BoardClock$State" "ticks" "I", Cond.fieldLink RX1 56 "BoardClock$State" "tickSpan" "I", Cond.fieldLink RX1 59 "BoardClock$State" "steady" "Z", Cond.fieldLink RX1 62 "BoardClock$State" "learned" "[I", Cond.methodLink RX1 73 arraycopyName, Cond.native arraycopyName, Cond.static arraycopyName]
def wsX2_drift_r3 : List Cond := [Cond.initialized "java/lang/System", Cond.fieldLink RX1 69 "BoardClock$State" "alarms" "LBoardClock$Alarms;", Cond.methodLink RX1 79 yX0_copyFrom, Cond.instanceMethod yX0_copyFrom, Cond.selects RX0 yX0_copyFrom yX0_copyFrom, Cond.initialized RX0, Cond.code yX0_copyFrom cX0_copyFrom 2 none, Cond.fieldLink RX0 9 "BoardClock$Alarms" "count" "I", Cond.fieldLink RX0 15 "BoardClock$Alarms" "minutes" "[I", Cond.methodLink RX0 28 arraycopyName, Cond.fieldLink RX0 19 "BoardClock$Alarms" "hours" "[I", Cond.fieldLink RX0 22 "BoardClock$Alarms" "weekdays" "[I", Cond.fieldLink RX0 25 "BoardClock$Alarms" "rung" "[I", Cond.methodLink RX2 209 yJ9_floorMod_7cf53, Cond.static yJ9_floorMod_7cf53, Cond.initialized RJ9, Cond.code yJ9_floorMod_7cf53 cJ9_floorMod_7cf53 3 (some .int), Cond.methodLink RX2 238 yX2_draw, Cond.instanceMethod yX2_draw, Cond.selects RX2 yX2_draw yX2_draw, Cond.code yX2_draw cX2_draw 2 (some .int), Cond.fieldLink RX2 16 "BoardClock" "theSeed" "I", Cond.constantLong RX2 241 (1103515245), Cond.constantLong RX2 243 (12345)]
def wsX2_drift_r4 : List Cond := [Cond.constantLong RX2 245 (2147483647), Cond.constant RX2 247 (65536), Cond.methodLink RX2 192 yX1_takeIn, Cond.instanceMethod yX1_takeIn, Cond.selects RX1 yX1_takeIn yX1_takeIn, Cond.code yX1_takeIn cX1_takeIn 14 (some .boolean), Cond.constantLong RX1 106 (16), Cond.methodLink RX1 156 Lib.MathLoose.max_long.x, Cond.static Lib.MathLoose.max_long.x, Cond.code Lib.MathLoose.max_long.x Lib.MathLoose.max_long.code 4 (some .long), Cond.methodLink RX1 145 Lib.MathLoose.min_long.x, Cond.static Lib.MathLoose.min_long.x, Cond.code Lib.MathLoose.min_long.x Lib.MathLoose.min_long.code 4 (some .long), Cond.methodLink RX1 152 yX1_learnFrom, Cond.instanceMethod yX1_learnFrom, Cond.selects RX1 yX1_learnFrom yX1_learnFrom, Cond.code yX1_learnFrom cX1_learnFrom 5 none, Cond.constantLong RX1 163 (2), Cond.constantLong RX1 165 (-9999), Cond.constantLong RX1 167 (9999), Cond.static yX2_isSpan, Cond.code yX2_isSpan cX2_isSpan 1 (some .boolean), Cond.methodLink RX1 96 yX1_aim, Cond.instanceMethod yX1_aim]
def wsX2_drift_r5 : List Cond := [Cond.selects RX1 yX1_aim yX1_aim, Cond.code yX1_aim cX1_aim 1 (some .long), Cond.static yX2_heldBetween, Cond.code yX2_heldBetween cX2_heldBetween 6 (some .long), Cond.methodLink RX2 248 Lib.MathLoose.min_long.x, Cond.methodLink RX2 251 Lib.MathLoose.max_long.x, Cond.methodLink RX1 159 yX1_aimBetween, Cond.instanceMethod yX1_aimBetween, Cond.selects RX1 yX1_aimBetween yX1_aimBetween, Cond.code yX1_aimBetween cX1_aimBetween 7 none, Cond.constantLong RX1 169 (32), Cond.methodLink RX1 119 yJ9_floorDiv_f86c9, Cond.static yJ9_floorDiv_f86c9, Cond.code yJ9_floorDiv_f86c9 cJ9_floorDiv_f86c9 6 (some .long), Cond.methodLink RX2 174 yX1_pass, Cond.instanceMethod yX1_pass, Cond.selects RX1 yX1_pass yX1_pass, Cond.code yX1_pass cX1_pass 4 (some .int), Cond.constantLong RX1 83 (60000), Cond.constantLong RX1 143 (999999999), Cond.methodLink RX1 126 yX1_minuteNumber, Cond.instanceMethod yX1_minuteNumber, Cond.selects RX1 yX1_minuteNumber yX1_minuteNumber, Cond.code yX1_minuteNumber cX1_minuteNumber 1 (some .long)]
def wsX2_drift_r6 : List Cond := [Cond.methodLink RX1 129 yX1_noteTicks, Cond.instanceMethod yX1_noteTicks, Cond.selects RX1 yX1_noteTicks yX1_noteTicks, Cond.code yX1_noteTicks cX1_noteTicks 3 none, Cond.static yX2_spanOf, Cond.code yX2_spanOf cX2_spanOf 1 (some .int), Cond.methodLink RX1 133 yX1_boardTimeAfter, Cond.instanceMethod yX1_boardTimeAfter, Cond.selects RX1 yX1_boardTimeAfter yX1_boardTimeAfter, Cond.code yX1_boardTimeAfter cX1_boardTimeAfter 4 (some .long), Cond.methodLink RX1 89 yX1_offAt, Cond.instanceMethod yX1_offAt, Cond.selects RX1 yX1_offAt yX1_offAt, Cond.code yX1_offAt cX1_offAt 3 (some .int), Cond.methodLink RX1 115 yX1_sixteenthsAfter, Cond.instanceMethod yX1_sixteenthsAfter, Cond.selects RX1 yX1_sixteenthsAfter yX1_sixteenthsAfter, Cond.code yX1_sixteenthsAfter cX1_sixteenthsAfter 2 (some .long), Cond.methodLink RX1 85 yX1_learnedOf, Cond.instanceMethod yX1_learnedOf, Cond.selects RX1 yX1_learnedOf yX1_learnedOf, Cond.code yX1_learnedOf cX1_learnedOf 2 (some .int), Cond.methodLink RX1 123 yX1_stepsAfter, Cond.instanceMethod yX1_stepsAfter]
def wsX2_drift_r7 : List Cond := [Cond.selects RX1 yX1_stepsAfter yX1_stepsAfter, Cond.code yX1_stepsAfter cX1_stepsAfter 4 (some .long), Cond.methodLink RX1 136 yJ9_floorMod_f86c9, Cond.static yJ9_floorMod_f86c9, Cond.code yJ9_floorMod_f86c9 cJ9_floorMod_f86c9 6 (some .long), Cond.methodLink RX1 139 yX1_widthPerTick, Cond.instanceMethod yX1_widthPerTick, Cond.selects RX1 yX1_widthPerTick yX1_widthPerTick, Cond.code yX1_widthPerTick cX1_widthPerTick 1 (some .int), Cond.methodLink RX1 148 yX0_ring, Cond.instanceMethod yX0_ring, Cond.selects RX0 yX0_ring yX0_ring, Cond.code yX0_ring cX0_ring 8 (some .int), Cond.constant RX0 43 (99999), Cond.methodLink RX0 44 Lib.Math.min.name, Cond.methodLink RX0 39 yX0_countFitting, Cond.instanceMethod yX0_countFitting, Cond.selects RX0 yX0_countFitting yX0_countFitting, Cond.code yX0_countFitting cX0_countFitting 9 (some .int), Cond.methodLink RX0 50 yX0_fitsDay, Cond.instanceMethod yX0_fitsDay, Cond.selects RX0 yX0_fitsDay yX0_fitsDay, Cond.code yX0_fitsDay cX0_fitsDay 4 (some .boolean), Cond.methodLink RX0 35 yX0_has]
def wsX2_drift_r8 : List Cond := [Cond.instanceMethod yX0_has, Cond.selects RX0 yX0_has yX0_has, Cond.code yX0_has cX0_has 2 (some .boolean), Cond.static yX2_weekdayOf, Cond.code yX2_weekdayOf cX2_weekdayOf 2 (some .int), Cond.constantLong RX2 258 (1440), Cond.constantLong RX2 260 (7), Cond.methodLink RX0 54 yX0_fitsHour, Cond.instanceMethod yX0_fitsHour, Cond.selects RX0 yX0_fitsHour yX0_fitsHour, Cond.code yX0_fitsHour cX0_fitsHour 4 (some .boolean), Cond.static yX2_hourOf, Cond.code yX2_hourOf cX2_hourOf 2 (some .int), Cond.constantLong RX2 254 (60), Cond.constantLong RX2 256 (24), Cond.methodLink RX0 57 yX0_fitsMinute, Cond.instanceMethod yX0_fitsMinute, Cond.selects RX0 yX0_fitsMinute yX0_fitsMinute, Cond.code yX0_fitsMinute cX0_fitsMinute 4 (some .boolean), Cond.static yX2_minuteOf, Cond.code yX2_minuteOf cX2_minuteOf 2 (some .int), Cond.methodLink RX2 100 yX0_totalRings, Cond.instanceMethod yX0_totalRings, Cond.selects RX0 yX0_totalRings yX0_totalRings]
def wsX2_drift_r9 : List Cond := [Cond.code yX0_totalRings cX0_totalRings 3 (some .int)]
def wsX2_drift : List Cond := .code yX2_drift cX2_drift 3 (some .int) :: ((wsX2_drift_r1 ++ (wsX2_drift_r2 ++ (wsX2_drift_r3 ++ (wsX2_drift_r4 ++ (wsX2_drift_r5 ++ (wsX2_drift_r6 ++ (wsX2_drift_r7 ++ (wsX2_drift_r8 ++ wsX2_drift_r9)))))))) ++ wsX20 ++ wsX10 ++ wsX00)
def wsX2_undo_r1 : List Cond := [Cond.constant RX2 110 (-1000000002), Cond.fieldLink RX2 27 "BoardClock" "undoable" "I", Cond.constant RX2 208 (-1000000003), Cond.fieldLink RX2 24 "BoardClock" "nextPast" "I", Cond.fieldLink RX2 10 "BoardClock" "now" "LBoardClock$State;", Cond.fieldLink RX2 20 "BoardClock" "past" "[LBoardClock$State;", Cond.methodLink RX2 167 yX2_isWithin, Cond.static yX2_isWithin, Cond.initialized RX2, Cond.code yX2_isWithin cX2_isWithin 3 (some .boolean), Cond.methodLink RX2 209 yJ9_floorMod_7cf53, Cond.static yJ9_floorMod_7cf53, Cond.initialized RJ9, Cond.code yJ9_floorMod_7cf53 cJ9_floorMod_7cf53 3 (some .int), Cond.methodLink RX2 215 yX1_copyFrom, Cond.instanceMethod yX1_copyFrom, Cond.selects RX1 yX1_copyFrom yX1_copyFrom, Cond.initialized RX1, Cond.code yX1_copyFrom cX1_copyFrom 2 none, Cond.fieldLink RX1 9 "BoardClock$State" "trueTime" "J", Cond.fieldLink RX1 15 "BoardClock$State" "boardTime" "J", Cond.fieldLink RX1 18 "BoardClock$State" "ahead" "J", Cond.fieldLink RX1 21 "BoardClock$State" "warmth" "I", Cond.fieldLink RX1 25 "BoardClock$State" "top" "I"]
def wsX2_undo_r2 : List Cond := [Cond.fieldLink RX1 28 "BoardClock$State" "curve" "I", Cond.fieldLink RX1 31 "BoardClock$State" "base" "I", Cond.fieldLink RX1 34 "BoardClock$State" "rest" "I", Cond.fieldLink RX1 37 "BoardClock$State" "step" "I", Cond.fieldLink RX1 40 "BoardClock$State" "width" "I", Cond.fieldLink RX1 43 "BoardClock$State" "wider" "I", Cond.fieldLink RX1 46 "BoardClock$State" "powered" "Z", Cond.fieldLink RX1 50 "BoardClock$State" "broken" "I", Cond.fieldLink RX1 53 "BoardClock$State" "ticks" "I", Cond.fieldLink RX1 56 "BoardClock$State" "tickSpan" "I", Cond.fieldLink RX1 59 "BoardClock$State" "steady" "Z", Cond.fieldLink RX1 62 "BoardClock$State" "learned" "[I", Cond.methodLink RX1 73 arraycopyName, Cond.native arraycopyName, Cond.static arraycopyName, Cond.initialized "java/lang/System", Cond.fieldLink RX1 69 "BoardClock$State" "alarms" "LBoardClock$Alarms;", Cond.methodLink RX1 79 yX0_copyFrom, Cond.instanceMethod yX0_copyFrom, Cond.selects RX0 yX0_copyFrom yX0_copyFrom, Cond.initialized RX0, Cond.code yX0_copyFrom cX0_copyFrom 2 none, Cond.fieldLink RX0 9 "BoardClock$Alarms" "count" "I", Cond.fieldLink RX0 15 "BoardClock$Alarms" "minutes" "[I"]
def wsX2_undo_r3 : List Cond := [Cond.methodLink RX0 28 arraycopyName, Cond.fieldLink RX0 19 "BoardClock$Alarms" "hours" "[I", Cond.fieldLink RX0 22 "BoardClock$Alarms" "weekdays" "[I", Cond.fieldLink RX0 25 "BoardClock$Alarms" "rung" "[I"]
def wsX2_undo : List Cond := .code yX2_undo cX2_undo 2 (some .int) :: ((wsX2_undo_r1 ++ (wsX2_undo_r2 ++ wsX2_undo_r3)) ++ wsX20 ++ wsX10 ++ wsX00)
def wsX2_evenly : List Cond := .code yX2_evenly cX2_evenly 4 (some .int) :: ([.constant RX2 110 (-1000000002), .methodLink RX2 167 yX2_isWithin, .static yX2_isWithin, .initialized RX2, .code yX2_isWithin cX2_isWithin 3 (some .boolean), .methodLink RX2 64 yX2_asInt, .static yX2_asInt, .code yX2_asInt cX2_asInt 1 (some .int)])
def wsX2_after_r1 : List Cond := [Cond.constantLong RX2 121 (-1), Cond.fieldLink RX2 10 "BoardClock" "now" "LBoardClock$State;", Cond.methodLink RX2 167 yX2_isWithin, Cond.static yX2_isWithin, Cond.initialized RX2, Cond.code yX2_isWithin cX2_isWithin 3 (some .boolean), Cond.methodLink RX2 219 yX1_boardTimeAfter, Cond.instanceMethod yX1_boardTimeAfter, Cond.selects RX1 yX1_boardTimeAfter yX1_boardTimeAfter, Cond.initialized RX1, Cond.code yX1_boardTimeAfter cX1_boardTimeAfter 4 (some .long), Cond.fieldLink RX1 15 "BoardClock$State" "boardTime" "J", Cond.constantLong RX1 83 (60000), Cond.fieldLink RX1 21 "BoardClock$State" "warmth" "I", Cond.fieldLink RX1 46 "BoardClock$State" "powered" "Z", Cond.constantLong RX1 106 (16), Cond.methodLink RX1 89 yX1_offAt, Cond.instanceMethod yX1_offAt, Cond.selects RX1 yX1_offAt yX1_offAt, Cond.code yX1_offAt cX1_offAt 3 (some .int), Cond.fieldLink RX1 25 "BoardClock$State" "top" "I", Cond.fieldLink RX1 31 "BoardClock$State" "base" "I", Cond.fieldLink RX1 28 "BoardClock$State" "curve" "I", Cond.methodLink RX1 115 yX1_sixteenthsAfter]
def wsX2_after_r2 : List Cond := [Cond.instanceMethod yX1_sixteenthsAfter, Cond.selects RX1 yX1_sixteenthsAfter yX1_sixteenthsAfter, Cond.code yX1_sixteenthsAfter cX1_sixteenthsAfter 2 (some .long), Cond.fieldLink RX1 34 "BoardClock$State" "rest" "I", Cond.static yX2_spanOf, Cond.code yX2_spanOf cX2_spanOf 1 (some .int), Cond.methodLink RX1 85 yX1_learnedOf, Cond.instanceMethod yX1_learnedOf, Cond.selects RX1 yX1_learnedOf yX1_learnedOf, Cond.code yX1_learnedOf cX1_learnedOf 2 (some .int), Cond.fieldLink RX1 62 "BoardClock$State" "learned" "[I", Cond.static yX2_isSpan, Cond.code yX2_isSpan cX2_isSpan 1 (some .boolean), Cond.methodLink RX1 119 yJ9_floorDiv_f86c9, Cond.static yJ9_floorDiv_f86c9, Cond.initialized RJ9, Cond.code yJ9_floorDiv_f86c9 cJ9_floorDiv_f86c9 6 (some .long), Cond.methodLink RX1 123 yX1_stepsAfter, Cond.instanceMethod yX1_stepsAfter, Cond.selects RX1 yX1_stepsAfter yX1_stepsAfter, Cond.code yX1_stepsAfter cX1_stepsAfter 4 (some .long), Cond.fieldLink RX1 37 "BoardClock$State" "step" "I", Cond.fieldLink RX1 18 "BoardClock$State" "ahead" "J", Cond.static yX2_heldBetween]
def wsX2_after_r3 : List Cond := [Cond.code yX2_heldBetween cX2_heldBetween 6 (some .long), Cond.methodLink RX2 248 Lib.MathLoose.min_long.x, Cond.static Lib.MathLoose.min_long.x, Cond.initialized "java/lang/Math", Cond.code Lib.MathLoose.min_long.x Lib.MathLoose.min_long.code 4 (some .long), Cond.methodLink RX2 251 Lib.MathLoose.max_long.x, Cond.static Lib.MathLoose.max_long.x, Cond.code Lib.MathLoose.max_long.x Lib.MathLoose.max_long.code 4 (some .long)]
def wsX2_after : List Cond := .code yX2_after cX2_after 2 (some .long) :: ((wsX2_after_r1 ++ (wsX2_after_r2 ++ wsX2_after_r3)) ++ wsX20 ++ wsX10)
def wsX2_rings_r1 : List Cond := [Cond.constant RX2 110 (-1000000002), Cond.fieldLink RX2 10 "BoardClock" "now" "LBoardClock$State;", Cond.fieldLink RX2 91 "BoardClock$State" "alarms" "LBoardClock$Alarms;", Cond.constantLong RX2 223 (60000), Cond.methodLink RX2 167 yX2_isWithin, Cond.static yX2_isWithin, Cond.initialized RX2, Cond.code yX2_isWithin cX2_isWithin 3 (some .boolean), Cond.methodLink RX2 123 yX1_minuteNumber, Cond.instanceMethod yX1_minuteNumber, Cond.selects RX1 yX1_minuteNumber yX1_minuteNumber, Cond.initialized RX1, Cond.code yX1_minuteNumber cX1_minuteNumber 1 (some .long), Cond.fieldLink RX1 15 "BoardClock$State" "boardTime" "J", Cond.constantLong RX1 83 (60000), Cond.methodLink RX2 219 yX1_boardTimeAfter, Cond.instanceMethod yX1_boardTimeAfter, Cond.selects RX1 yX1_boardTimeAfter yX1_boardTimeAfter, Cond.code yX1_boardTimeAfter cX1_boardTimeAfter 4 (some .long), Cond.fieldLink RX1 21 "BoardClock$State" "warmth" "I", Cond.fieldLink RX1 46 "BoardClock$State" "powered" "Z", Cond.constantLong RX1 106 (16), Cond.methodLink RX1 89 yX1_offAt, Cond.instanceMethod yX1_offAt]
def wsX2_rings_r2 : List Cond := [Cond.selects RX1 yX1_offAt yX1_offAt, Cond.code yX1_offAt cX1_offAt 3 (some .int), Cond.fieldLink RX1 25 "BoardClock$State" "top" "I", Cond.fieldLink RX1 31 "BoardClock$State" "base" "I", Cond.fieldLink RX1 28 "BoardClock$State" "curve" "I", Cond.methodLink RX1 115 yX1_sixteenthsAfter, Cond.instanceMethod yX1_sixteenthsAfter, Cond.selects RX1 yX1_sixteenthsAfter yX1_sixteenthsAfter, Cond.code yX1_sixteenthsAfter cX1_sixteenthsAfter 2 (some .long), Cond.fieldLink RX1 34 "BoardClock$State" "rest" "I", Cond.static yX2_spanOf, Cond.code yX2_spanOf cX2_spanOf 1 (some .int), Cond.methodLink RX1 85 yX1_learnedOf, Cond.instanceMethod yX1_learnedOf, Cond.selects RX1 yX1_learnedOf yX1_learnedOf, Cond.code yX1_learnedOf cX1_learnedOf 2 (some .int), Cond.fieldLink RX1 62 "BoardClock$State" "learned" "[I", Cond.static yX2_isSpan, Cond.code yX2_isSpan cX2_isSpan 1 (some .boolean), Cond.methodLink RX1 119 yJ9_floorDiv_f86c9, Cond.static yJ9_floorDiv_f86c9, Cond.initialized RJ9, Cond.code yJ9_floorDiv_f86c9 cJ9_floorDiv_f86c9 6 (some .long), Cond.methodLink RX1 123 yX1_stepsAfter]
def wsX2_rings_r3 : List Cond := [Cond.instanceMethod yX1_stepsAfter, Cond.selects RX1 yX1_stepsAfter yX1_stepsAfter, Cond.code yX1_stepsAfter cX1_stepsAfter 4 (some .long), Cond.fieldLink RX1 37 "BoardClock$State" "step" "I", Cond.fieldLink RX1 18 "BoardClock$State" "ahead" "J", Cond.static yX2_heldBetween, Cond.code yX2_heldBetween cX2_heldBetween 6 (some .long), Cond.methodLink RX2 248 Lib.MathLoose.min_long.x, Cond.static Lib.MathLoose.min_long.x, Cond.initialized "java/lang/Math", Cond.code Lib.MathLoose.min_long.x Lib.MathLoose.min_long.code 4 (some .long), Cond.methodLink RX2 251 Lib.MathLoose.max_long.x, Cond.static Lib.MathLoose.max_long.x, Cond.code Lib.MathLoose.max_long.x Lib.MathLoose.max_long.code 4 (some .long), Cond.methodLink RX2 225 yX0_ringsToCome, Cond.instanceMethod yX0_ringsToCome, Cond.selects RX0 yX0_ringsToCome yX0_ringsToCome, Cond.initialized RX0, Cond.code yX0_ringsToCome cX0_ringsToCome 7 (some .int), Cond.fieldLink RX0 9 "BoardClock$Alarms" "count" "I", Cond.constant RX0 43 (99999), Cond.fieldLink RX0 25 "BoardClock$Alarms" "rung" "[I", Cond.methodLink RX0 44 Lib.Math.min.name, Cond.static Lib.Math.min.name]
def wsX2_rings_r4 : List Cond := [Cond.code Lib.Math.min.name Lib.Math.min.code 2 (some .int), Cond.methodLink RX0 39 yX0_countFitting, Cond.instanceMethod yX0_countFitting, Cond.selects RX0 yX0_countFitting yX0_countFitting, Cond.code yX0_countFitting cX0_countFitting 9 (some .int), Cond.methodLink RX0 50 yX0_fitsDay, Cond.instanceMethod yX0_fitsDay, Cond.selects RX0 yX0_fitsDay yX0_fitsDay, Cond.code yX0_fitsDay cX0_fitsDay 4 (some .boolean), Cond.fieldLink RX0 22 "BoardClock$Alarms" "weekdays" "[I", Cond.methodLink RX0 35 yX0_has, Cond.instanceMethod yX0_has, Cond.selects RX0 yX0_has yX0_has, Cond.code yX0_has cX0_has 2 (some .boolean), Cond.static yX2_weekdayOf, Cond.code yX2_weekdayOf cX2_weekdayOf 2 (some .int), Cond.constantLong RX2 258 (1440), Cond.constantLong RX2 260 (7), Cond.methodLink RX0 54 yX0_fitsHour, Cond.instanceMethod yX0_fitsHour, Cond.selects RX0 yX0_fitsHour yX0_fitsHour, Cond.code yX0_fitsHour cX0_fitsHour 4 (some .boolean), Cond.fieldLink RX0 19 "BoardClock$Alarms" "hours" "[I", Cond.static yX2_hourOf]
def wsX2_rings_r5 : List Cond := [Cond.code yX2_hourOf cX2_hourOf 2 (some .int), Cond.constantLong RX2 254 (60), Cond.constantLong RX2 256 (24), Cond.methodLink RX0 57 yX0_fitsMinute, Cond.instanceMethod yX0_fitsMinute, Cond.selects RX0 yX0_fitsMinute yX0_fitsMinute, Cond.code yX0_fitsMinute cX0_fitsMinute 4 (some .boolean), Cond.fieldLink RX0 15 "BoardClock$Alarms" "minutes" "[I", Cond.static yX2_minuteOf, Cond.code yX2_minuteOf cX2_minuteOf 2 (some .int)]
def wsX2_rings : List Cond := .code yX2_rings cX2_rings 2 (some .int) :: ((wsX2_rings_r1 ++ (wsX2_rings_r2 ++ (wsX2_rings_r3 ++ (wsX2_rings_r4 ++ wsX2_rings_r5)))) ++ wsX20 ++ wsX10 ++ wsX00)
def wsX2_untilWide : List Cond := .code yX2_untilWide cX2_untilWide 2 (some .int) :: ([.constant RX2 229 (99999), .constant RX2 110 (-1000000002), .fieldLink RX2 10 "BoardClock" "now" "LBoardClock$State;", .constantLong RX2 230 (16), .methodLink RX2 167 yX2_isWithin, .static yX2_isWithin, .initialized RX2, .code yX2_isWithin cX2_isWithin 3 (some .boolean), .methodLink RX2 232 yX1_ticksUntilWide, .instanceMethod yX1_ticksUntilWide, .selects RX1 yX1_ticksUntilWide yX1_ticksUntilWide, .initialized RX1, .code yX1_ticksUntilWide cX1_ticksUntilWide 4 (some .int), .fieldLink RX1 40 "BoardClock$State" "width" "I", .methodLink RX1 139 yX1_widthPerTick, .instanceMethod yX1_widthPerTick, .selects RX1 yX1_widthPerTick yX1_widthPerTick, .code yX1_widthPerTick cX1_widthPerTick 1 (some .int), .fieldLink RX1 46 "BoardClock$State" "powered" "Z", .fieldLink RX1 43 "BoardClock$State" "wider" "I"] ++ wsX20 ++ wsX10)
def wsX2_write : List Cond := .code yX2_write cX2_write 2 (some .int) :: ([.fieldLink RX2 44 "BoardClock" "entries" "I", .constant RX2 196 (-1000000004), .fieldLink RX2 41 "BoardClock" "book" "[I"] ++ wsX20)
def wsX2_tear : List Cond := .code yX2_tear cX2_tear 2 (some .int) :: ([.fieldLink RX2 44 "BoardClock" "entries" "I"] ++ wsX20)
def wsX2_seed : List Cond := .code yX2_seed cX2_seed 3 (some .int) :: ([.constant RX2 110 (-1000000002), .fieldLink RX2 16 "BoardClock" "theSeed" "I"] ++ wsX20)
def wsX2_keep_r1 : List Cond := [Cond.constant RX2 140 (-1000000001), Cond.fieldLink RX2 30 "BoardClock" "images" "[LBoardClock$State;", Cond.fieldLink RX2 10 "BoardClock" "now" "LBoardClock$State;", Cond.fieldLink RX2 33 "BoardClock" "imageSeeds" "[I", Cond.fieldLink RX2 16 "BoardClock" "theSeed" "I", Cond.fieldLink RX2 37 "BoardClock" "imageKept" "[Z", Cond.fieldLink RX2 27 "BoardClock" "undoable" "I", Cond.methodLink RX2 167 yX2_isWithin, Cond.static yX2_isWithin, Cond.initialized RX2, Cond.code yX2_isWithin cX2_isWithin 3 (some .boolean), Cond.methodLink RX2 215 yX1_copyFrom, Cond.instanceMethod yX1_copyFrom, Cond.selects RX1 yX1_copyFrom yX1_copyFrom, Cond.initialized RX1, Cond.code yX1_copyFrom cX1_copyFrom 2 none, Cond.fieldLink RX1 9 "BoardClock$State" "trueTime" "J", Cond.fieldLink RX1 15 "BoardClock$State" "boardTime" "J", Cond.fieldLink RX1 18 "BoardClock$State" "ahead" "J", Cond.fieldLink RX1 21 "BoardClock$State" "warmth" "I", Cond.fieldLink RX1 25 "BoardClock$State" "top" "I", Cond.fieldLink RX1 28 "BoardClock$State" "curve" "I", Cond.fieldLink RX1 31 "BoardClock$State" "base" "I", Cond.fieldLink RX1 34 "BoardClock$State" "rest" "I"]
def wsX2_keep_r2 : List Cond := [Cond.fieldLink RX1 37 "BoardClock$State" "step" "I", Cond.fieldLink RX1 40 "BoardClock$State" "width" "I", Cond.fieldLink RX1 43 "BoardClock$State" "wider" "I", Cond.fieldLink RX1 46 "BoardClock$State" "powered" "Z", Cond.fieldLink RX1 50 "BoardClock$State" "broken" "I", Cond.fieldLink RX1 53 "BoardClock$State" "ticks" "I", Cond.fieldLink RX1 56 "BoardClock$State" "tickSpan" "I", Cond.fieldLink RX1 59 "BoardClock$State" "steady" "Z", Cond.fieldLink RX1 62 "BoardClock$State" "learned" "[I", Cond.methodLink RX1 73 arraycopyName, Cond.native arraycopyName, Cond.static arraycopyName, Cond.initialized "java/lang/System", Cond.fieldLink RX1 69 "BoardClock$State" "alarms" "LBoardClock$Alarms;", Cond.methodLink RX1 79 yX0_copyFrom, Cond.instanceMethod yX0_copyFrom, Cond.selects RX0 yX0_copyFrom yX0_copyFrom, Cond.initialized RX0, Cond.code yX0_copyFrom cX0_copyFrom 2 none, Cond.fieldLink RX0 9 "BoardClock$Alarms" "count" "I", Cond.fieldLink RX0 15 "BoardClock$Alarms" "minutes" "[I", Cond.methodLink RX0 28 arraycopyName, Cond.fieldLink RX0 19 "BoardClock$Alarms" "hours" "[I", Cond.fieldLink RX0 22 "BoardClock$Alarms" "weekdays" "[I"]
def wsX2_keep_r3 : List Cond := [Cond.fieldLink RX0 25 "BoardClock$Alarms" "rung" "[I"]
def wsX2_keep : List Cond := .code yX2_keep cX2_keep 2 (some .int) :: ((wsX2_keep_r1 ++ (wsX2_keep_r2 ++ wsX2_keep_r3)) ++ wsX20 ++ wsX10 ++ wsX00)
def wsX2_goBack_r1 : List Cond := [Cond.constant RX2 140 (-1000000001), Cond.fieldLink RX2 37 "BoardClock" "imageKept" "[Z", Cond.constant RX2 208 (-1000000003), Cond.fieldLink RX2 10 "BoardClock" "now" "LBoardClock$State;", Cond.fieldLink RX2 30 "BoardClock" "images" "[LBoardClock$State;", Cond.fieldLink RX2 33 "BoardClock" "imageSeeds" "[I", Cond.fieldLink RX2 16 "BoardClock" "theSeed" "I", Cond.fieldLink RX2 27 "BoardClock" "undoable" "I", Cond.methodLink RX2 167 yX2_isWithin, Cond.static yX2_isWithin, Cond.initialized RX2, Cond.code yX2_isWithin cX2_isWithin 3 (some .boolean), Cond.methodLink RX2 215 yX1_copyFrom, Cond.instanceMethod yX1_copyFrom, Cond.selects RX1 yX1_copyFrom yX1_copyFrom, Cond.initialized RX1, Cond.code yX1_copyFrom cX1_copyFrom 2 none, Cond.fieldLink RX1 9 "BoardClock$State" "trueTime" "J", Cond.fieldLink RX1 15 "BoardClock$State" "boardTime" "J", Cond.fieldLink RX1 18 "BoardClock$State" "ahead" "J", Cond.fieldLink RX1 21 "BoardClock$State" "warmth" "I", Cond.fieldLink RX1 25 "BoardClock$State" "top" "I", Cond.fieldLink RX1 28 "BoardClock$State" "curve" "I", Cond.fieldLink RX1 31 "BoardClock$State" "base" "I"]
def wsX2_goBack_r2 : List Cond := [Cond.fieldLink RX1 34 "BoardClock$State" "rest" "I", Cond.fieldLink RX1 37 "BoardClock$State" "step" "I", Cond.fieldLink RX1 40 "BoardClock$State" "width" "I", Cond.fieldLink RX1 43 "BoardClock$State" "wider" "I", Cond.fieldLink RX1 46 "BoardClock$State" "powered" "Z", Cond.fieldLink RX1 50 "BoardClock$State" "broken" "I", Cond.fieldLink RX1 53 "BoardClock$State" "ticks" "I", Cond.fieldLink RX1 56 "BoardClock$State" "tickSpan" "I", Cond.fieldLink RX1 59 "BoardClock$State" "steady" "Z", Cond.fieldLink RX1 62 "BoardClock$State" "learned" "[I", Cond.methodLink RX1 73 arraycopyName, Cond.native arraycopyName, Cond.static arraycopyName, Cond.initialized "java/lang/System", Cond.fieldLink RX1 69 "BoardClock$State" "alarms" "LBoardClock$Alarms;", Cond.methodLink RX1 79 yX0_copyFrom, Cond.instanceMethod yX0_copyFrom, Cond.selects RX0 yX0_copyFrom yX0_copyFrom, Cond.initialized RX0, Cond.code yX0_copyFrom cX0_copyFrom 2 none, Cond.fieldLink RX0 9 "BoardClock$Alarms" "count" "I", Cond.fieldLink RX0 15 "BoardClock$Alarms" "minutes" "[I", Cond.methodLink RX0 28 arraycopyName, Cond.fieldLink RX0 19 "BoardClock$Alarms" "hours" "[I"]
def wsX2_goBack_r3 : List Cond := [Cond.fieldLink RX0 22 "BoardClock$Alarms" "weekdays" "[I", Cond.fieldLink RX0 25 "BoardClock$Alarms" "rung" "[I"]
def wsX2_goBack : List Cond := .code yX2_goBack cX2_goBack 2 (some .int) :: ((wsX2_goBack_r1 ++ (wsX2_goBack_r2 ++ wsX2_goBack_r3)) ++ wsX20 ++ wsX10 ++ wsX00)
def wsX3_init : List Cond := .code yX3_init cX3_init 1 none :: ([.methodLink RX3 1 objectInit, .instanceMethod objectInit, .code objectInit ⟨#[0xb1]⟩ 1 none, .arrayClass .long, .fieldLink RX3 7 "BoardClockModel" "st" "[J", .fieldLink RX3 13 "BoardClockModel" "past" "[J", .fieldLink RX3 16 "BoardClockModel" "images" "[J", .arrayClass .boolean, .fieldLink RX3 19 "BoardClockModel" "isKept" "[Z", .arrayClass .int, .fieldLink RX3 23 "BoardClockModel" "book" "[I", .constantLong RX3 27 (25), .constantLong RX3 29 (3), .constantLong RX3 31 (20), .constantLong RX3 33 (160), .constantLong RX3 35 (-1)] ++ wsX30)
def wsX3_in : List Cond := .code yX3_in cX3_in 6 (some .boolean) :: ([])
def wsX3_bring : List Cond := .code yX3_bring cX3_bring 6 none :: ([])
def wsX3_down : List Cond := .code yX3_down cX3_down 6 (some .long) :: ([])
def wsX3_lesser : List Cond := .code yX3_lesser cX3_lesser 4 (some .long) :: ([])
def wsX3_greater : List Cond := .code yX3_greater cX3_greater 4 (some .long) :: ([])
def wsX3_size : List Cond := .code yX3_size cX3_size 2 (some .long) :: ([])
def wsX3_offAt : List Cond := .code yX3_offAt cX3_offAt 5 (some .long) :: ([.fieldLink RX3 7 "BoardClockModel" "st" "[J", .constantLong RX3 37 (100)] ++ wsX30)
def wsX3_spanNow : List Cond := .code yX3_spanNow cX3_spanNow 1 (some .int) :: ([.fieldLink RX3 7 "BoardClockModel" "st" "[J", .constantLong RX3 31 (20), .constantLong RX3 39 (10)] ++ wsX30)
def wsX3_aim : List Cond := .code yX3_aim cX3_aim 1 (some .long) :: ([.fieldLink RX3 7 "BoardClockModel" "st" "[J"] ++ wsX30)
def wsX3_spread : List Cond := .code yX3_spread cX3_spread 2 (some .long) :: ([.fieldLink RX3 7 "BoardClockModel" "st" "[J", .constantLong RX3 45 (16), .methodLink RX3 41 yX3_spanNow, .instanceMethod yX3_spanNow, .selects RX3 yX3_spanNow yX3_spanNow, .initialized RX3, .code yX3_spanNow cX3_spanNow 1 (some .int), .constantLong RX3 31 (20), .constantLong RX3 39 (10), .methodLink RX3 47 yX3_down, .static yX3_down, .code yX3_down cX3_down 6 (some .long)] ++ wsX30)
def wsX3_restAfter : List Cond := .code yX3_restAfter cX3_restAfter 2 (some .long) :: ([.fieldLink RX3 7 "BoardClockModel" "st" "[J", .constantLong RX3 45 (16), .methodLink RX3 41 yX3_spanNow, .instanceMethod yX3_spanNow, .selects RX3 yX3_spanNow yX3_spanNow, .initialized RX3, .code yX3_spanNow cX3_spanNow 1 (some .int), .constantLong RX3 31 (20), .constantLong RX3 39 (10), .methodLink RX3 51 yX3_spread, .instanceMethod yX3_spread, .selects RX3 yX3_spread yX3_spread, .code yX3_spread cX3_spread 2 (some .long), .methodLink RX3 47 yX3_down, .static yX3_down, .code yX3_down cX3_down 6 (some .long)] ++ wsX30)
def wsX3_gone : List Cond := .code yX3_gone cX3_gone 4 (some .long) :: ([.fieldLink RX3 7 "BoardClockModel" "st" "[J", .methodLink RX3 55 yX3_size, .static yX3_size, .initialized RX3, .code yX3_size cX3_size 2 (some .long), .methodLink RX3 59 yX3_lesser, .static yX3_lesser, .code yX3_lesser cX3_lesser 4 (some .long)] ++ wsX30)
def wsX3_boardAfter_r1 : List Cond := [Cond.fieldLink RX3 7 "BoardClockModel" "st" "[J", Cond.constantLong RX3 62 (60000), Cond.methodLink RX3 64 yX3_offAt, Cond.instanceMethod yX3_offAt, Cond.selects RX3 yX3_offAt yX3_offAt, Cond.initialized RX3, Cond.code yX3_offAt cX3_offAt 5 (some .long), Cond.constantLong RX3 37 (100), Cond.methodLink RX3 51 yX3_spread, Cond.instanceMethod yX3_spread, Cond.selects RX3 yX3_spread yX3_spread, Cond.code yX3_spread cX3_spread 2 (some .long), Cond.constantLong RX3 45 (16), Cond.methodLink RX3 41 yX3_spanNow, Cond.instanceMethod yX3_spanNow, Cond.selects RX3 yX3_spanNow yX3_spanNow, Cond.code yX3_spanNow cX3_spanNow 1 (some .int), Cond.constantLong RX3 31 (20), Cond.constantLong RX3 39 (10), Cond.methodLink RX3 47 yX3_down, Cond.static yX3_down, Cond.code yX3_down cX3_down 6 (some .long), Cond.methodLink RX3 67 yX3_gone, Cond.instanceMethod yX3_gone]
def wsX3_boardAfter_r2 : List Cond := [Cond.selects RX3 yX3_gone yX3_gone, Cond.code yX3_gone cX3_gone 4 (some .long), Cond.methodLink RX3 55 yX3_size, Cond.static yX3_size, Cond.code yX3_size cX3_size 2 (some .long), Cond.methodLink RX3 59 yX3_lesser, Cond.static yX3_lesser, Cond.code yX3_lesser cX3_lesser 4 (some .long)]
def wsX3_boardAfter : List Cond := .code yX3_boardAfter cX3_boardAfter 4 (some .long) :: ((wsX3_boardAfter_r1 ++ wsX3_boardAfter_r2) ++ wsX30)
def wsX3_wider : List Cond := .code yX3_wider cX3_wider 1 (some .long) :: ([.fieldLink RX3 7 "BoardClockModel" "st" "[J", .constantLong RX3 70 (4)] ++ wsX30)
def wsX3_fitsIn : List Cond := .code yX3_fitsIn cX3_fitsIn 4 (some .boolean) :: ([.constantLong RX3 35 (-1)])
def wsX3_fits : List Cond := .code yX3_fits cX3_fits 5 (some .boolean) :: ([.fieldLink RX3 7 "BoardClockModel" "st" "[J", .constantLong RX3 72 (60), .constantLong RX3 78 (24), .constantLong RX3 80 (1440), .constantLong RX3 82 (7), .methodLink RX3 74 yX3_fitsIn, .static yX3_fitsIn, .initialized RX3, .code yX3_fitsIn cX3_fitsIn 4 (some .boolean), .constantLong RX3 35 (-1)] ++ wsX30)
def wsX3_minuteNow : List Cond := .code yX3_minuteNow cX3_minuteNow 1 (some .long) :: ([.fieldLink RX3 7 "BoardClockModel" "st" "[J", .constantLong RX3 62 (60000)] ++ wsX30)
def wsX3_between : List Cond := .code yX3_between cX3_between 8 (some .long) :: ([.constantLong RX3 62 (60000), .methodLink RX3 84 yX3_minuteNow, .instanceMethod yX3_minuteNow, .selects RX3 yX3_minuteNow yX3_minuteNow, .initialized RX3, .code yX3_minuteNow cX3_minuteNow 1 (some .long), .fieldLink RX3 7 "BoardClockModel" "st" "[J", .methodLink RX3 88 yX3_fits, .instanceMethod yX3_fits, .selects RX3 yX3_fits yX3_fits, .code yX3_fits cX3_fits 5 (some .boolean), .constantLong RX3 72 (60), .constantLong RX3 78 (24), .constantLong RX3 80 (1440), .constantLong RX3 82 (7), .methodLink RX3 74 yX3_fitsIn, .static yX3_fitsIn, .code yX3_fitsIn cX3_fitsIn 4 (some .boolean), .constantLong RX3 35 (-1)] ++ wsX30)
def wsX3_ringsAt : List Cond := .code yX3_ringsAt cX3_ringsAt 2 (some .long) :: ([.fieldLink RX3 7 "BoardClockModel" "st" "[J"] ++ wsX30)
def wsX3_goes_r1 : List Cond := [Cond.fieldLink RX3 7 "BoardClockModel" "st" "[J", Cond.constantLong RX3 99 (99999), Cond.constantLong RX3 62 (60000), Cond.constantLong RX3 107 (999999999), Cond.constantLong RX3 112 (9), Cond.methodLink RX3 92 yX3_boardAfter, Cond.instanceMethod yX3_boardAfter, Cond.selects RX3 yX3_boardAfter yX3_boardAfter, Cond.initialized RX3, Cond.code yX3_boardAfter cX3_boardAfter 4 (some .long), Cond.methodLink RX3 64 yX3_offAt, Cond.instanceMethod yX3_offAt, Cond.selects RX3 yX3_offAt yX3_offAt, Cond.code yX3_offAt cX3_offAt 5 (some .long), Cond.constantLong RX3 37 (100), Cond.methodLink RX3 51 yX3_spread, Cond.instanceMethod yX3_spread, Cond.selects RX3 yX3_spread yX3_spread, Cond.code yX3_spread cX3_spread 2 (some .long), Cond.constantLong RX3 45 (16), Cond.methodLink RX3 41 yX3_spanNow, Cond.instanceMethod yX3_spanNow, Cond.selects RX3 yX3_spanNow yX3_spanNow, Cond.code yX3_spanNow cX3_spanNow 1 (some .int)]
def wsX3_goes_r2 : List Cond := [Cond.constantLong RX3 31 (20), Cond.constantLong RX3 39 (10), Cond.methodLink RX3 47 yX3_down, Cond.static yX3_down, Cond.code yX3_down cX3_down 6 (some .long), Cond.methodLink RX3 67 yX3_gone, Cond.instanceMethod yX3_gone, Cond.selects RX3 yX3_gone yX3_gone, Cond.code yX3_gone cX3_gone 4 (some .long), Cond.methodLink RX3 55 yX3_size, Cond.static yX3_size, Cond.code yX3_size cX3_size 2 (some .long), Cond.methodLink RX3 59 yX3_lesser, Cond.static yX3_lesser, Cond.code yX3_lesser cX3_lesser 4 (some .long), Cond.methodLink RX3 95 yX3_between, Cond.instanceMethod yX3_between, Cond.selects RX3 yX3_between yX3_between, Cond.code yX3_between cX3_between 8 (some .long), Cond.methodLink RX3 84 yX3_minuteNow, Cond.instanceMethod yX3_minuteNow, Cond.selects RX3 yX3_minuteNow yX3_minuteNow, Cond.code yX3_minuteNow cX3_minuteNow 1 (some .long), Cond.methodLink RX3 88 yX3_fits]
def wsX3_goes_r3 : List Cond := [Cond.instanceMethod yX3_fits, Cond.selects RX3 yX3_fits yX3_fits, Cond.code yX3_fits cX3_fits 5 (some .boolean), Cond.constantLong RX3 72 (60), Cond.constantLong RX3 78 (24), Cond.constantLong RX3 80 (1440), Cond.constantLong RX3 82 (7), Cond.methodLink RX3 74 yX3_fitsIn, Cond.static yX3_fitsIn, Cond.code yX3_fitsIn cX3_fitsIn 4 (some .boolean), Cond.constantLong RX3 35 (-1), Cond.methodLink RX3 101 yX3_ringsAt, Cond.instanceMethod yX3_ringsAt, Cond.selects RX3 yX3_ringsAt yX3_ringsAt, Cond.code yX3_ringsAt cX3_ringsAt 2 (some .long), Cond.methodLink RX3 104 yX3_restAfter, Cond.instanceMethod yX3_restAfter, Cond.selects RX3 yX3_restAfter yX3_restAfter, Cond.code yX3_restAfter cX3_restAfter 2 (some .long), Cond.methodLink RX3 109 yX3_wider, Cond.instanceMethod yX3_wider, Cond.selects RX3 yX3_wider yX3_wider, Cond.code yX3_wider cX3_wider 1 (some .long), Cond.constantLong RX3 70 (4)]
def wsX3_goes : List Cond := .code yX3_goes cX3_goes 8 (some .int) :: ((wsX3_goes_r1 ++ (wsX3_goes_r2 ++ wsX3_goes_r3)) ++ wsX30)
def wsX3_learns : List Cond := .code yX3_learns cX3_learns 6 none :: ([.fieldLink RX3 7 "BoardClockModel" "st" "[J", .constantLong RX3 112 (9), .constantLong RX3 45 (16), .constantLong RX3 117 (2), .constantLong RX3 119 (-9999), .constantLong RX3 121 (9999), .methodLink RX3 114 yX3_aim, .instanceMethod yX3_aim, .selects RX3 yX3_aim yX3_aim, .initialized RX3, .code yX3_aim cX3_aim 1 (some .long), .methodLink RX3 59 yX3_lesser, .static yX3_lesser, .code yX3_lesser cX3_lesser 4 (some .long), .methodLink RX3 123 yX3_greater, .static yX3_greater, .code yX3_greater cX3_greater 4 (some .long)] ++ wsX30)
def wsX3_hears_r1 : List Cond := [Cond.fieldLink RX3 7 "BoardClockModel" "st" "[J", Cond.constantLong RX3 45 (16), Cond.constantLong RX3 130 (32), Cond.constantLong RX3 35 (-1), Cond.methodLink RX3 126 yX3_learns, Cond.instanceMethod yX3_learns, Cond.selects RX3 yX3_learns yX3_learns, Cond.initialized RX3, Cond.code yX3_learns cX3_learns 6 none, Cond.constantLong RX3 112 (9), Cond.constantLong RX3 117 (2), Cond.constantLong RX3 119 (-9999), Cond.constantLong RX3 121 (9999), Cond.methodLink RX3 114 yX3_aim, Cond.instanceMethod yX3_aim, Cond.selects RX3 yX3_aim yX3_aim, Cond.code yX3_aim cX3_aim 1 (some .long), Cond.methodLink RX3 59 yX3_lesser, Cond.static yX3_lesser, Cond.code yX3_lesser cX3_lesser 4 (some .long), Cond.methodLink RX3 123 yX3_greater, Cond.static yX3_greater, Cond.code yX3_greater cX3_greater 4 (some .long), Cond.methodLink RX3 47 yX3_down]
def wsX3_hears_r2 : List Cond := [Cond.static yX3_down, Cond.code yX3_down cX3_down 6 (some .long), Cond.methodLink RX3 55 yX3_size, Cond.static yX3_size, Cond.code yX3_size cX3_size 2 (some .long)]
def wsX3_hears : List Cond := .code yX3_hears cX3_hears 14 (some .int) :: ((wsX3_hears_r1 ++ wsX3_hears_r2) ++ wsX30)
def wsX3_allRings : List Cond := .code yX3_allRings cX3_allRings 4 (some .long) :: ([.fieldLink RX3 7 "BoardClockModel" "st" "[J", .methodLink RX3 101 yX3_ringsAt, .instanceMethod yX3_ringsAt, .selects RX3 yX3_ringsAt yX3_ringsAt, .initialized RX3, .code yX3_ringsAt cX3_ringsAt 2 (some .long)] ++ wsX30)
def wsX3_untilDone : List Cond := .code yX3_untilDone cX3_untilDone 5 (some .int) :: ([.fieldLink RX3 7 "BoardClockModel" "st" "[J", .constantLong RX3 132 (2000), .methodLink RX3 55 yX3_size, .static yX3_size, .initialized RX3, .code yX3_size cX3_size 2 (some .long)] ++ wsX30)
def wsX3_wrong : List Cond := .code yX3_wrong cX3_wrong 2 (some .int) :: ([.fieldLink RX3 134 "BoardClockModel" "entries" "I", .fieldLink RX3 23 "BoardClockModel" "book" "[I", .methodLink RX3 84 yX3_minuteNow, .instanceMethod yX3_minuteNow, .selects RX3 yX3_minuteNow yX3_minuteNow, .initialized RX3, .code yX3_minuteNow cX3_minuteNow 1 (some .long), .fieldLink RX3 7 "BoardClockModel" "st" "[J", .constantLong RX3 62 (60000)] ++ wsX30)
def wsX3_holds : List Cond := .code yX3_holds cX3_holds 1 (some .boolean) :: ([.constantLong RX3 45 (16), .fieldLink RX3 7 "BoardClockModel" "st" "[J", .methodLink RX3 114 yX3_aim, .instanceMethod yX3_aim, .selects RX3 yX3_aim yX3_aim, .initialized RX3, .code yX3_aim cX3_aim 1 (some .long), .methodLink RX3 55 yX3_size, .static yX3_size, .code yX3_size cX3_size 2 (some .long)] ++ wsX30)
def wsX3_told_r1 : List Cond := [Cond.fieldLink RX3 7 "BoardClockModel" "st" "[J", Cond.fieldLink RX3 134 "BoardClockModel" "entries" "I", Cond.fieldLink RX3 151 "BoardClockModel" "deeds" "I", Cond.constant RX3 154 (-1000000002), Cond.methodLink RX3 41 yX3_spanNow, Cond.instanceMethod yX3_spanNow, Cond.selects RX3 yX3_spanNow yX3_spanNow, Cond.initialized RX3, Cond.code yX3_spanNow cX3_spanNow 1 (some .int), Cond.constantLong RX3 31 (20), Cond.constantLong RX3 39 (10), Cond.methodLink RX3 64 yX3_offAt, Cond.instanceMethod yX3_offAt, Cond.selects RX3 yX3_offAt yX3_offAt, Cond.code yX3_offAt cX3_offAt 5 (some .long), Cond.constantLong RX3 37 (100), Cond.methodLink RX3 138 yX3_holds, Cond.instanceMethod yX3_holds, Cond.selects RX3 yX3_holds yX3_holds, Cond.code yX3_holds cX3_holds 1 (some .boolean), Cond.constantLong RX3 45 (16), Cond.methodLink RX3 114 yX3_aim, Cond.instanceMethod yX3_aim, Cond.selects RX3 yX3_aim yX3_aim]
def wsX3_told_r2 : List Cond := [Cond.code yX3_aim cX3_aim 1 (some .long), Cond.methodLink RX3 55 yX3_size, Cond.static yX3_size, Cond.code yX3_size cX3_size 2 (some .long), Cond.methodLink RX3 142 yX3_allRings, Cond.instanceMethod yX3_allRings, Cond.selects RX3 yX3_allRings yX3_allRings, Cond.code yX3_allRings cX3_allRings 4 (some .long), Cond.methodLink RX3 101 yX3_ringsAt, Cond.instanceMethod yX3_ringsAt, Cond.selects RX3 yX3_ringsAt yX3_ringsAt, Cond.code yX3_ringsAt cX3_ringsAt 2 (some .long), Cond.methodLink RX3 145 yX3_untilDone, Cond.instanceMethod yX3_untilDone, Cond.selects RX3 yX3_untilDone yX3_untilDone, Cond.code yX3_untilDone cX3_untilDone 5 (some .int), Cond.constantLong RX3 132 (2000), Cond.methodLink RX3 148 yX3_wrong, Cond.instanceMethod yX3_wrong, Cond.selects RX3 yX3_wrong yX3_wrong, Cond.code yX3_wrong cX3_wrong 2 (some .int), Cond.fieldLink RX3 23 "BoardClockModel" "book" "[I", Cond.methodLink RX3 84 yX3_minuteNow, Cond.instanceMethod yX3_minuteNow]
def wsX3_told_r3 : List Cond := [Cond.selects RX3 yX3_minuteNow yX3_minuteNow, Cond.code yX3_minuteNow cX3_minuteNow 1 (some .long), Cond.constantLong RX3 62 (60000)]
def wsX3_told : List Cond := .code yX3_told cX3_told 2 (some .int) :: ((wsX3_told_r1 ++ (wsX3_told_r2 ++ wsX3_told_r3)) ++ wsX30)
def wsX3_time : List Cond := .code yX3_time cX3_time 2 (some .long) :: ([.fieldLink RX3 7 "BoardClockModel" "st" "[J", .constantLong RX3 35 (-1), .methodLink RX3 114 yX3_aim, .instanceMethod yX3_aim, .selects RX3 yX3_aim yX3_aim, .initialized RX3, .code yX3_aim cX3_aim 1 (some .long)] ++ wsX30)
def wsX3_calendar : List Cond := .code yX3_calendar cX3_calendar 3 (some .int) :: ([.constant RX3 154 (-1000000002), .methodLink RX3 84 yX3_minuteNow, .instanceMethod yX3_minuteNow, .selects RX3 yX3_minuteNow yX3_minuteNow, .initialized RX3, .code yX3_minuteNow cX3_minuteNow 1 (some .long), .fieldLink RX3 7 "BoardClockModel" "st" "[J", .constantLong RX3 62 (60000)] ++ wsX30)
def wsX3_span : List Cond := .code yX3_span cX3_span 5 (some .int) :: ([.constantLong RX3 155 (8), .constant RX3 161 (-1000000001), .constant RX3 154 (-1000000002), .fieldLink RX3 7 "BoardClockModel" "st" "[J", .constantLong RX3 162 (10000), .constantLong RX3 45 (16), .constantLong RX3 39 (10), .constantLong RX3 164 (15), .constantLong RX3 166 (100000), .methodLink RX3 157 yX3_in, .static yX3_in, .initialized RX3, .code yX3_in cX3_in 6 (some .boolean), .methodLink RX3 64 yX3_offAt, .instanceMethod yX3_offAt, .selects RX3 yX3_offAt yX3_offAt, .code yX3_offAt cX3_offAt 5 (some .long), .constantLong RX3 37 (100)] ++ wsX30)
def wsX3_next : List Cond := .code yX3_next cX3_next 5 (some .long) :: ([.methodLink RX3 84 yX3_minuteNow, .instanceMethod yX3_minuteNow, .selects RX3 yX3_minuteNow yX3_minuteNow, .initialized RX3, .code yX3_minuteNow cX3_minuteNow 1 (some .long), .fieldLink RX3 7 "BoardClockModel" "st" "[J", .constantLong RX3 62 (60000), .methodLink RX3 88 yX3_fits, .instanceMethod yX3_fits, .selects RX3 yX3_fits yX3_fits, .code yX3_fits cX3_fits 5 (some .boolean), .constantLong RX3 72 (60), .constantLong RX3 78 (24), .constantLong RX3 80 (1440), .constantLong RX3 82 (7), .methodLink RX3 74 yX3_fitsIn, .static yX3_fitsIn, .code yX3_fitsIn cX3_fitsIn 4 (some .boolean), .constantLong RX3 35 (-1)] ++ wsX30)
def wsX3_isAlarm : List Cond := .code yX3_isAlarm cX3_isAlarm 2 (some .boolean) :: ([.fieldLink RX3 7 "BoardClockModel" "st" "[J", .methodLink RX3 157 yX3_in, .static yX3_in, .initialized RX3, .code yX3_in cX3_in 6 (some .boolean)] ++ wsX30)
def wsX3_alarmAt_r1 : List Cond := [Cond.constant RX3 161 (-1000000001), Cond.constantLong RX3 70 (4), Cond.constant RX3 154 (-1000000002), Cond.fieldLink RX3 7 "BoardClockModel" "st" "[J", Cond.methodLink RX3 168 yX3_isAlarm, Cond.instanceMethod yX3_isAlarm, Cond.selects RX3 yX3_isAlarm yX3_isAlarm, Cond.initialized RX3, Cond.code yX3_isAlarm cX3_isAlarm 2 (some .boolean), Cond.methodLink RX3 157 yX3_in, Cond.static yX3_in, Cond.code yX3_in cX3_in 6 (some .boolean), Cond.methodLink RX3 172 yX3_next, Cond.instanceMethod yX3_next, Cond.selects RX3 yX3_next yX3_next, Cond.code yX3_next cX3_next 5 (some .long), Cond.methodLink RX3 84 yX3_minuteNow, Cond.instanceMethod yX3_minuteNow, Cond.selects RX3 yX3_minuteNow yX3_minuteNow, Cond.code yX3_minuteNow cX3_minuteNow 1 (some .long), Cond.constantLong RX3 62 (60000), Cond.methodLink RX3 88 yX3_fits, Cond.instanceMethod yX3_fits, Cond.selects RX3 yX3_fits yX3_fits]
def wsX3_alarmAt_r2 : List Cond := [Cond.code yX3_fits cX3_fits 5 (some .boolean), Cond.constantLong RX3 72 (60), Cond.constantLong RX3 78 (24), Cond.constantLong RX3 80 (1440), Cond.constantLong RX3 82 (7), Cond.methodLink RX3 74 yX3_fitsIn, Cond.static yX3_fitsIn, Cond.code yX3_fitsIn cX3_fitsIn 4 (some .boolean), Cond.constantLong RX3 35 (-1)]
def wsX3_alarmAt : List Cond := .code yX3_alarmAt cX3_alarmAt 3 (some .int) :: ((wsX3_alarmAt_r1 ++ wsX3_alarmAt_r2) ++ wsX30)
def wsX3_notes : List Cond := .code yX3_notes cX3_notes 1 none :: ([.fieldLink RX3 151 "BoardClockModel" "deeds" "I", .fieldLink RX3 13 "BoardClockModel" "past" "[J", .fieldLink RX3 7 "BoardClockModel" "st" "[J", .methodLink RX3 175 yX3_bring, .static yX3_bring, .initialized RX3, .code yX3_bring cX3_bring 6 none] ++ wsX30)
def wsX3_tick_r1 : List Cond := [Cond.constantLong RX3 132 (2000), Cond.constant RX3 154 (-1000000002), Cond.methodLink RX3 157 yX3_in, Cond.static yX3_in, Cond.initialized RX3, Cond.code yX3_in cX3_in 6 (some .boolean), Cond.methodLink RX3 179 yX3_notes, Cond.instanceMethod yX3_notes, Cond.selects RX3 yX3_notes yX3_notes, Cond.code yX3_notes cX3_notes 1 none, Cond.fieldLink RX3 151 "BoardClockModel" "deeds" "I", Cond.fieldLink RX3 13 "BoardClockModel" "past" "[J", Cond.fieldLink RX3 7 "BoardClockModel" "st" "[J", Cond.methodLink RX3 175 yX3_bring, Cond.static yX3_bring, Cond.code yX3_bring cX3_bring 6 none, Cond.methodLink RX3 182 yX3_goes, Cond.instanceMethod yX3_goes, Cond.selects RX3 yX3_goes yX3_goes, Cond.code yX3_goes cX3_goes 8 (some .int), Cond.constantLong RX3 99 (99999), Cond.constantLong RX3 62 (60000), Cond.constantLong RX3 107 (999999999), Cond.constantLong RX3 112 (9)]
def wsX3_tick_r2 : List Cond := [Cond.methodLink RX3 92 yX3_boardAfter, Cond.instanceMethod yX3_boardAfter, Cond.selects RX3 yX3_boardAfter yX3_boardAfter, Cond.code yX3_boardAfter cX3_boardAfter 4 (some .long), Cond.methodLink RX3 64 yX3_offAt, Cond.instanceMethod yX3_offAt, Cond.selects RX3 yX3_offAt yX3_offAt, Cond.code yX3_offAt cX3_offAt 5 (some .long), Cond.constantLong RX3 37 (100), Cond.methodLink RX3 51 yX3_spread, Cond.instanceMethod yX3_spread, Cond.selects RX3 yX3_spread yX3_spread, Cond.code yX3_spread cX3_spread 2 (some .long), Cond.constantLong RX3 45 (16), Cond.methodLink RX3 41 yX3_spanNow, Cond.instanceMethod yX3_spanNow, Cond.selects RX3 yX3_spanNow yX3_spanNow, Cond.code yX3_spanNow cX3_spanNow 1 (some .int), Cond.constantLong RX3 31 (20), Cond.constantLong RX3 39 (10), Cond.methodLink RX3 47 yX3_down, Cond.static yX3_down, Cond.code yX3_down cX3_down 6 (some .long), Cond.methodLink RX3 67 yX3_gone]
def wsX3_tick_r3 : List Cond := [Cond.instanceMethod yX3_gone, Cond.selects RX3 yX3_gone yX3_gone, Cond.code yX3_gone cX3_gone 4 (some .long), Cond.methodLink RX3 55 yX3_size, Cond.static yX3_size, Cond.code yX3_size cX3_size 2 (some .long), Cond.methodLink RX3 59 yX3_lesser, Cond.static yX3_lesser, Cond.code yX3_lesser cX3_lesser 4 (some .long), Cond.methodLink RX3 95 yX3_between, Cond.instanceMethod yX3_between, Cond.selects RX3 yX3_between yX3_between, Cond.code yX3_between cX3_between 8 (some .long), Cond.methodLink RX3 84 yX3_minuteNow, Cond.instanceMethod yX3_minuteNow, Cond.selects RX3 yX3_minuteNow yX3_minuteNow, Cond.code yX3_minuteNow cX3_minuteNow 1 (some .long), Cond.methodLink RX3 88 yX3_fits, Cond.instanceMethod yX3_fits, Cond.selects RX3 yX3_fits yX3_fits, Cond.code yX3_fits cX3_fits 5 (some .boolean), Cond.constantLong RX3 72 (60), Cond.constantLong RX3 78 (24), Cond.constantLong RX3 80 (1440)]
def wsX3_tick_r4 : List Cond := [Cond.constantLong RX3 82 (7), Cond.methodLink RX3 74 yX3_fitsIn, Cond.static yX3_fitsIn, Cond.code yX3_fitsIn cX3_fitsIn 4 (some .boolean), Cond.constantLong RX3 35 (-1), Cond.methodLink RX3 101 yX3_ringsAt, Cond.instanceMethod yX3_ringsAt, Cond.selects RX3 yX3_ringsAt yX3_ringsAt, Cond.code yX3_ringsAt cX3_ringsAt 2 (some .long), Cond.methodLink RX3 104 yX3_restAfter, Cond.instanceMethod yX3_restAfter, Cond.selects RX3 yX3_restAfter yX3_restAfter, Cond.code yX3_restAfter cX3_restAfter 2 (some .long), Cond.methodLink RX3 109 yX3_wider, Cond.instanceMethod yX3_wider, Cond.selects RX3 yX3_wider yX3_wider, Cond.code yX3_wider cX3_wider 1 (some .long), Cond.constantLong RX3 70 (4)]
def wsX3_tick : List Cond := .code yX3_tick cX3_tick 2 (some .int) :: ((wsX3_tick_r1 ++ (wsX3_tick_r2 ++ (wsX3_tick_r3 ++ wsX3_tick_r4))) ++ wsX30)
def wsX3_warm : List Cond := .code yX3_warm cX3_warm 3 (some .int) :: ([.constantLong RX3 186 (-20), .constantLong RX3 188 (69), .constant RX3 154 (-1000000002), .fieldLink RX3 7 "BoardClockModel" "st" "[J", .methodLink RX3 157 yX3_in, .static yX3_in, .initialized RX3, .code yX3_in cX3_in 6 (some .boolean), .methodLink RX3 179 yX3_notes, .instanceMethod yX3_notes, .selects RX3 yX3_notes yX3_notes, .code yX3_notes cX3_notes 1 none, .fieldLink RX3 151 "BoardClockModel" "deeds" "I", .fieldLink RX3 13 "BoardClockModel" "past" "[J", .methodLink RX3 175 yX3_bring, .static yX3_bring, .code yX3_bring cX3_bring 6 none] ++ wsX30)
def wsX3_crystal : List Cond := .code yX3_crystal cX3_crystal 4 (some .int) :: ([.constantLong RX3 190 (40), .constantLong RX3 31 (20), .constantLong RX3 192 (-9), .constantLong RX3 112 (9), .constant RX3 154 (-1000000002), .fieldLink RX3 7 "BoardClockModel" "st" "[J", .methodLink RX3 157 yX3_in, .static yX3_in, .initialized RX3, .code yX3_in cX3_in 6 (some .boolean), .methodLink RX3 179 yX3_notes, .instanceMethod yX3_notes, .selects RX3 yX3_notes yX3_notes, .code yX3_notes cX3_notes 1 none, .fieldLink RX3 151 "BoardClockModel" "deeds" "I", .fieldLink RX3 13 "BoardClockModel" "past" "[J", .methodLink RX3 175 yX3_bring, .static yX3_bring, .code yX3_bring cX3_bring 6 none, .methodLink RX3 64 yX3_offAt, .instanceMethod yX3_offAt, .selects RX3 yX3_offAt yX3_offAt, .code yX3_offAt cX3_offAt 5 (some .long), .constantLong RX3 37 (100)] ++ wsX30)
def wsX3_bound : List Cond := .code yX3_bound cX3_bound 4 (some .int) :: ([.constantLong RX3 194 (200), .constantLong RX3 196 (999), .constant RX3 154 (-1000000002), .fieldLink RX3 7 "BoardClockModel" "st" "[J", .methodLink RX3 157 yX3_in, .static yX3_in, .initialized RX3, .code yX3_in cX3_in 6 (some .boolean), .methodLink RX3 179 yX3_notes, .instanceMethod yX3_notes, .selects RX3 yX3_notes yX3_notes, .code yX3_notes cX3_notes 1 none, .fieldLink RX3 151 "BoardClockModel" "deeds" "I", .fieldLink RX3 13 "BoardClockModel" "past" "[J", .methodLink RX3 175 yX3_bring, .static yX3_bring, .code yX3_bring cX3_bring 6 none] ++ wsX30)
def wsX3_power : List Cond := .code yX3_power cX3_power 3 (some .int) :: ([.fieldLink RX3 7 "BoardClockModel" "st" "[J", .methodLink RX3 179 yX3_notes, .instanceMethod yX3_notes, .selects RX3 yX3_notes yX3_notes, .initialized RX3, .code yX3_notes cX3_notes 1 none, .fieldLink RX3 151 "BoardClockModel" "deeds" "I", .fieldLink RX3 13 "BoardClockModel" "past" "[J", .methodLink RX3 175 yX3_bring, .static yX3_bring, .code yX3_bring cX3_bring 6 none] ++ wsX30)
def wsX3_hear_r1 : List Cond := [Cond.constantLong RX3 119 (-9999), Cond.constantLong RX3 121 (9999), Cond.constantLong RX3 198 (5000), Cond.constant RX3 154 (-1000000002), Cond.methodLink RX3 157 yX3_in, Cond.static yX3_in, Cond.initialized RX3, Cond.code yX3_in cX3_in 6 (some .boolean), Cond.methodLink RX3 179 yX3_notes, Cond.instanceMethod yX3_notes, Cond.selects RX3 yX3_notes yX3_notes, Cond.code yX3_notes cX3_notes 1 none, Cond.fieldLink RX3 151 "BoardClockModel" "deeds" "I", Cond.fieldLink RX3 13 "BoardClockModel" "past" "[J", Cond.fieldLink RX3 7 "BoardClockModel" "st" "[J", Cond.methodLink RX3 175 yX3_bring, Cond.static yX3_bring, Cond.code yX3_bring cX3_bring 6 none, Cond.methodLink RX3 200 yX3_hears, Cond.instanceMethod yX3_hears, Cond.selects RX3 yX3_hears yX3_hears, Cond.code yX3_hears cX3_hears 14 (some .int), Cond.constantLong RX3 45 (16), Cond.constantLong RX3 130 (32)]
def wsX3_hear_r2 : List Cond := [Cond.constantLong RX3 35 (-1), Cond.methodLink RX3 126 yX3_learns, Cond.instanceMethod yX3_learns, Cond.selects RX3 yX3_learns yX3_learns, Cond.code yX3_learns cX3_learns 6 none, Cond.constantLong RX3 112 (9), Cond.constantLong RX3 117 (2), Cond.methodLink RX3 114 yX3_aim, Cond.instanceMethod yX3_aim, Cond.selects RX3 yX3_aim yX3_aim, Cond.code yX3_aim cX3_aim 1 (some .long), Cond.methodLink RX3 59 yX3_lesser, Cond.static yX3_lesser, Cond.code yX3_lesser cX3_lesser 4 (some .long), Cond.methodLink RX3 123 yX3_greater, Cond.static yX3_greater, Cond.code yX3_greater cX3_greater 4 (some .long), Cond.methodLink RX3 47 yX3_down, Cond.static yX3_down, Cond.code yX3_down cX3_down 6 (some .long), Cond.methodLink RX3 55 yX3_size, Cond.static yX3_size, Cond.code yX3_size cX3_size 2 (some .long)]
def wsX3_hear : List Cond := .code yX3_hear cX3_hear 3 (some .int) :: ((wsX3_hear_r1 ++ wsX3_hear_r2) ++ wsX30)
def wsX3_alarm : List Cond := .code yX3_alarm cX3_alarm 6 (some .int) :: ([.constantLong RX3 35 (-1), .constantLong RX3 204 (59), .constantLong RX3 206 (23), .constantLong RX3 208 (6), .constant RX3 154 (-1000000002), .fieldLink RX3 7 "BoardClockModel" "st" "[J", .constant RX3 210 (-1000000004), .methodLink RX3 157 yX3_in, .static yX3_in, .initialized RX3, .code yX3_in cX3_in 6 (some .boolean), .methodLink RX3 179 yX3_notes, .instanceMethod yX3_notes, .selects RX3 yX3_notes yX3_notes, .code yX3_notes cX3_notes 1 none, .fieldLink RX3 151 "BoardClockModel" "deeds" "I", .fieldLink RX3 13 "BoardClockModel" "past" "[J", .methodLink RX3 175 yX3_bring, .static yX3_bring, .code yX3_bring cX3_bring 6 none] ++ wsX30)
def wsX3_drop : List Cond := .code yX3_drop cX3_drop 4 (some .int) :: ([.constant RX3 161 (-1000000001), .fieldLink RX3 7 "BoardClockModel" "st" "[J", .methodLink RX3 168 yX3_isAlarm, .instanceMethod yX3_isAlarm, .selects RX3 yX3_isAlarm yX3_isAlarm, .initialized RX3, .code yX3_isAlarm cX3_isAlarm 2 (some .boolean), .methodLink RX3 157 yX3_in, .static yX3_in, .code yX3_in cX3_in 6 (some .boolean), .methodLink RX3 179 yX3_notes, .instanceMethod yX3_notes, .selects RX3 yX3_notes yX3_notes, .code yX3_notes cX3_notes 1 none, .fieldLink RX3 151 "BoardClockModel" "deeds" "I", .fieldLink RX3 13 "BoardClockModel" "past" "[J", .methodLink RX3 175 yX3_bring, .static yX3_bring, .code yX3_bring cX3_bring 6 none] ++ wsX30)
def wsX3_learn : List Cond := .code yX3_learn cX3_learn 4 (some .int) :: ([.constantLong RX3 155 (8), .constant RX3 161 (-1000000001), .constantLong RX3 119 (-9999), .constantLong RX3 121 (9999), .constant RX3 154 (-1000000002), .fieldLink RX3 7 "BoardClockModel" "st" "[J", .methodLink RX3 157 yX3_in, .static yX3_in, .initialized RX3, .code yX3_in cX3_in 6 (some .boolean), .methodLink RX3 179 yX3_notes, .instanceMethod yX3_notes, .selects RX3 yX3_notes yX3_notes, .code yX3_notes cX3_notes 1 none, .fieldLink RX3 151 "BoardClockModel" "deeds" "I", .fieldLink RX3 13 "BoardClockModel" "past" "[J", .methodLink RX3 175 yX3_bring, .static yX3_bring, .code yX3_bring cX3_bring 6 none] ++ wsX30)
def wsX3_draw : List Cond := .code yX3_draw cX3_draw 2 (some .long) :: ([.fieldLink RX3 211 "BoardClockModel" "seed" "J", .constantLong RX3 215 (1103515245), .constantLong RX3 217 (12345), .constantLong RX3 219 (2147483648), .constantLong RX3 221 (65536)] ++ wsX30)
def wsX3_drift_r1 : List Cond := [Cond.constantLong RX3 31 (20), Cond.constant RX3 154 (-1000000002), Cond.constantLong RX3 226 (500), Cond.fieldLink RX3 7 "BoardClockModel" "st" "[J", Cond.methodLink RX3 157 yX3_in, Cond.static yX3_in, Cond.initialized RX3, Cond.code yX3_in cX3_in 6 (some .boolean), Cond.methodLink RX3 223 yX3_draw, Cond.instanceMethod yX3_draw, Cond.selects RX3 yX3_draw yX3_draw, Cond.code yX3_draw cX3_draw 2 (some .long), Cond.fieldLink RX3 211 "BoardClockModel" "seed" "J", Cond.constantLong RX3 215 (1103515245), Cond.constantLong RX3 217 (12345), Cond.constantLong RX3 219 (2147483648), Cond.constantLong RX3 221 (65536), Cond.methodLink RX3 179 yX3_notes, Cond.instanceMethod yX3_notes, Cond.selects RX3 yX3_notes yX3_notes, Cond.code yX3_notes cX3_notes 1 none, Cond.fieldLink RX3 151 "BoardClockModel" "deeds" "I", Cond.fieldLink RX3 13 "BoardClockModel" "past" "[J", Cond.methodLink RX3 175 yX3_bring]
def wsX3_drift_r2 : List Cond := [Cond.static yX3_bring, Cond.code yX3_bring cX3_bring 6 none, Cond.methodLink RX3 200 yX3_hears, Cond.instanceMethod yX3_hears, Cond.selects RX3 yX3_hears yX3_hears, Cond.code yX3_hears cX3_hears 14 (some .int), Cond.constantLong RX3 45 (16), Cond.constantLong RX3 130 (32), Cond.constantLong RX3 35 (-1), Cond.methodLink RX3 126 yX3_learns, Cond.instanceMethod yX3_learns, Cond.selects RX3 yX3_learns yX3_learns, Cond.code yX3_learns cX3_learns 6 none, Cond.constantLong RX3 112 (9), Cond.constantLong RX3 117 (2), Cond.constantLong RX3 119 (-9999), Cond.constantLong RX3 121 (9999), Cond.methodLink RX3 114 yX3_aim, Cond.instanceMethod yX3_aim, Cond.selects RX3 yX3_aim yX3_aim, Cond.code yX3_aim cX3_aim 1 (some .long), Cond.methodLink RX3 59 yX3_lesser, Cond.static yX3_lesser, Cond.code yX3_lesser cX3_lesser 4 (some .long)]
def wsX3_drift_r3 : List Cond := [Cond.methodLink RX3 123 yX3_greater, Cond.static yX3_greater, Cond.code yX3_greater cX3_greater 4 (some .long), Cond.methodLink RX3 47 yX3_down, Cond.static yX3_down, Cond.code yX3_down cX3_down 6 (some .long), Cond.methodLink RX3 55 yX3_size, Cond.static yX3_size, Cond.code yX3_size cX3_size 2 (some .long), Cond.methodLink RX3 182 yX3_goes, Cond.instanceMethod yX3_goes, Cond.selects RX3 yX3_goes yX3_goes, Cond.code yX3_goes cX3_goes 8 (some .int), Cond.constantLong RX3 99 (99999), Cond.constantLong RX3 62 (60000), Cond.constantLong RX3 107 (999999999), Cond.methodLink RX3 92 yX3_boardAfter, Cond.instanceMethod yX3_boardAfter, Cond.selects RX3 yX3_boardAfter yX3_boardAfter, Cond.code yX3_boardAfter cX3_boardAfter 4 (some .long), Cond.methodLink RX3 64 yX3_offAt, Cond.instanceMethod yX3_offAt, Cond.selects RX3 yX3_offAt yX3_offAt, Cond.code yX3_offAt cX3_offAt 5 (some .long)]
def wsX3_drift_r4 : List Cond := [Cond.constantLong RX3 37 (100), Cond.methodLink RX3 51 yX3_spread, Cond.instanceMethod yX3_spread, Cond.selects RX3 yX3_spread yX3_spread, Cond.code yX3_spread cX3_spread 2 (some .long), Cond.methodLink RX3 41 yX3_spanNow, Cond.instanceMethod yX3_spanNow, Cond.selects RX3 yX3_spanNow yX3_spanNow, Cond.code yX3_spanNow cX3_spanNow 1 (some .int), Cond.constantLong RX3 39 (10), Cond.methodLink RX3 67 yX3_gone, Cond.instanceMethod yX3_gone, Cond.selects RX3 yX3_gone yX3_gone, Cond.code yX3_gone cX3_gone 4 (some .long), Cond.methodLink RX3 95 yX3_between, Cond.instanceMethod yX3_between, Cond.selects RX3 yX3_between yX3_between, Cond.code yX3_between cX3_between 8 (some .long), Cond.methodLink RX3 84 yX3_minuteNow, Cond.instanceMethod yX3_minuteNow, Cond.selects RX3 yX3_minuteNow yX3_minuteNow, Cond.code yX3_minuteNow cX3_minuteNow 1 (some .long), Cond.methodLink RX3 88 yX3_fits, Cond.instanceMethod yX3_fits]
def wsX3_drift_r5 : List Cond := [Cond.selects RX3 yX3_fits yX3_fits, Cond.code yX3_fits cX3_fits 5 (some .boolean), Cond.constantLong RX3 72 (60), Cond.constantLong RX3 78 (24), Cond.constantLong RX3 80 (1440), Cond.constantLong RX3 82 (7), Cond.methodLink RX3 74 yX3_fitsIn, Cond.static yX3_fitsIn, Cond.code yX3_fitsIn cX3_fitsIn 4 (some .boolean), Cond.methodLink RX3 101 yX3_ringsAt, Cond.instanceMethod yX3_ringsAt, Cond.selects RX3 yX3_ringsAt yX3_ringsAt, Cond.code yX3_ringsAt cX3_ringsAt 2 (some .long), Cond.methodLink RX3 104 yX3_restAfter, Cond.instanceMethod yX3_restAfter, Cond.selects RX3 yX3_restAfter yX3_restAfter, Cond.code yX3_restAfter cX3_restAfter 2 (some .long), Cond.methodLink RX3 109 yX3_wider, Cond.instanceMethod yX3_wider, Cond.selects RX3 yX3_wider yX3_wider, Cond.code yX3_wider cX3_wider 1 (some .long), Cond.constantLong RX3 70 (4), Cond.methodLink RX3 142 yX3_allRings, Cond.instanceMethod yX3_allRings]
def wsX3_drift_r6 : List Cond := [Cond.selects RX3 yX3_allRings yX3_allRings, Cond.code yX3_allRings cX3_allRings 4 (some .long)]
def wsX3_drift : List Cond := .code yX3_drift cX3_drift 9 (some .int) :: ((wsX3_drift_r1 ++ (wsX3_drift_r2 ++ (wsX3_drift_r3 ++ (wsX3_drift_r4 ++ (wsX3_drift_r5 ++ wsX3_drift_r6))))) ++ wsX30)
def wsX3_undo : List Cond := .code yX3_undo cX3_undo 2 (some .int) :: ([.constantLong RX3 31 (20), .constant RX3 154 (-1000000002), .fieldLink RX3 151 "BoardClockModel" "deeds" "I", .constant RX3 228 (-1000000003), .fieldLink RX3 13 "BoardClockModel" "past" "[J", .fieldLink RX3 7 "BoardClockModel" "st" "[J", .methodLink RX3 157 yX3_in, .static yX3_in, .initialized RX3, .code yX3_in cX3_in 6 (some .boolean), .methodLink RX3 175 yX3_bring, .static yX3_bring, .code yX3_bring cX3_bring 6 none] ++ wsX30)
def wsX3_evenly : List Cond := .code yX3_evenly cX3_evenly 4 (some .int) :: ([.constantLong RX3 196 (999), .constant RX3 154 (-1000000002), .methodLink RX3 157 yX3_in, .static yX3_in, .initialized RX3, .code yX3_in cX3_in 6 (some .boolean)])
def wsX3_after_r1 : List Cond := [Cond.constantLong RX3 132 (2000), Cond.constantLong RX3 35 (-1), Cond.methodLink RX3 157 yX3_in, Cond.static yX3_in, Cond.initialized RX3, Cond.code yX3_in cX3_in 6 (some .boolean), Cond.methodLink RX3 92 yX3_boardAfter, Cond.instanceMethod yX3_boardAfter, Cond.selects RX3 yX3_boardAfter yX3_boardAfter, Cond.code yX3_boardAfter cX3_boardAfter 4 (some .long), Cond.fieldLink RX3 7 "BoardClockModel" "st" "[J", Cond.constantLong RX3 62 (60000), Cond.methodLink RX3 64 yX3_offAt, Cond.instanceMethod yX3_offAt, Cond.selects RX3 yX3_offAt yX3_offAt, Cond.code yX3_offAt cX3_offAt 5 (some .long), Cond.constantLong RX3 37 (100), Cond.methodLink RX3 51 yX3_spread, Cond.instanceMethod yX3_spread, Cond.selects RX3 yX3_spread yX3_spread, Cond.code yX3_spread cX3_spread 2 (some .long), Cond.constantLong RX3 45 (16), Cond.methodLink RX3 41 yX3_spanNow, Cond.instanceMethod yX3_spanNow]
def wsX3_after_r2 : List Cond := [Cond.selects RX3 yX3_spanNow yX3_spanNow, Cond.code yX3_spanNow cX3_spanNow 1 (some .int), Cond.constantLong RX3 31 (20), Cond.constantLong RX3 39 (10), Cond.methodLink RX3 47 yX3_down, Cond.static yX3_down, Cond.code yX3_down cX3_down 6 (some .long), Cond.methodLink RX3 67 yX3_gone, Cond.instanceMethod yX3_gone, Cond.selects RX3 yX3_gone yX3_gone, Cond.code yX3_gone cX3_gone 4 (some .long), Cond.methodLink RX3 55 yX3_size, Cond.static yX3_size, Cond.code yX3_size cX3_size 2 (some .long), Cond.methodLink RX3 59 yX3_lesser, Cond.static yX3_lesser, Cond.code yX3_lesser cX3_lesser 4 (some .long)]
def wsX3_after : List Cond := .code yX3_after cX3_after 2 (some .long) :: ((wsX3_after_r1 ++ wsX3_after_r2) ++ wsX30)
def wsX3_rings_r1 : List Cond := [Cond.constantLong RX3 132 (2000), Cond.constant RX3 154 (-1000000002), Cond.fieldLink RX3 7 "BoardClockModel" "st" "[J", Cond.constantLong RX3 99 (99999), Cond.methodLink RX3 157 yX3_in, Cond.static yX3_in, Cond.initialized RX3, Cond.code yX3_in cX3_in 6 (some .boolean), Cond.methodLink RX3 92 yX3_boardAfter, Cond.instanceMethod yX3_boardAfter, Cond.selects RX3 yX3_boardAfter yX3_boardAfter, Cond.code yX3_boardAfter cX3_boardAfter 4 (some .long), Cond.constantLong RX3 62 (60000), Cond.methodLink RX3 64 yX3_offAt, Cond.instanceMethod yX3_offAt, Cond.selects RX3 yX3_offAt yX3_offAt, Cond.code yX3_offAt cX3_offAt 5 (some .long), Cond.constantLong RX3 37 (100), Cond.methodLink RX3 51 yX3_spread, Cond.instanceMethod yX3_spread, Cond.selects RX3 yX3_spread yX3_spread, Cond.code yX3_spread cX3_spread 2 (some .long), Cond.constantLong RX3 45 (16), Cond.methodLink RX3 41 yX3_spanNow]
def wsX3_rings_r2 : List Cond := [Cond.instanceMethod yX3_spanNow, Cond.selects RX3 yX3_spanNow yX3_spanNow, Cond.code yX3_spanNow cX3_spanNow 1 (some .int), Cond.constantLong RX3 31 (20), Cond.constantLong RX3 39 (10), Cond.methodLink RX3 47 yX3_down, Cond.static yX3_down, Cond.code yX3_down cX3_down 6 (some .long), Cond.methodLink RX3 67 yX3_gone, Cond.instanceMethod yX3_gone, Cond.selects RX3 yX3_gone yX3_gone, Cond.code yX3_gone cX3_gone 4 (some .long), Cond.methodLink RX3 55 yX3_size, Cond.static yX3_size, Cond.code yX3_size cX3_size 2 (some .long), Cond.methodLink RX3 59 yX3_lesser, Cond.static yX3_lesser, Cond.code yX3_lesser cX3_lesser 4 (some .long), Cond.methodLink RX3 101 yX3_ringsAt, Cond.instanceMethod yX3_ringsAt, Cond.selects RX3 yX3_ringsAt yX3_ringsAt, Cond.code yX3_ringsAt cX3_ringsAt 2 (some .long), Cond.methodLink RX3 95 yX3_between, Cond.instanceMethod yX3_between]
def wsX3_rings_r3 : List Cond := [Cond.selects RX3 yX3_between yX3_between, Cond.code yX3_between cX3_between 8 (some .long), Cond.methodLink RX3 84 yX3_minuteNow, Cond.instanceMethod yX3_minuteNow, Cond.selects RX3 yX3_minuteNow yX3_minuteNow, Cond.code yX3_minuteNow cX3_minuteNow 1 (some .long), Cond.methodLink RX3 88 yX3_fits, Cond.instanceMethod yX3_fits, Cond.selects RX3 yX3_fits yX3_fits, Cond.code yX3_fits cX3_fits 5 (some .boolean), Cond.constantLong RX3 72 (60), Cond.constantLong RX3 78 (24), Cond.constantLong RX3 80 (1440), Cond.constantLong RX3 82 (7), Cond.methodLink RX3 74 yX3_fitsIn, Cond.static yX3_fitsIn, Cond.code yX3_fitsIn cX3_fitsIn 4 (some .boolean), Cond.constantLong RX3 35 (-1)]
def wsX3_rings : List Cond := .code yX3_rings cX3_rings 7 (some .int) :: ((wsX3_rings_r1 ++ (wsX3_rings_r2 ++ wsX3_rings_r3)) ++ wsX30)
def wsX3_untilWide : List Cond := .code yX3_untilWide cX3_untilWide 4 (some .int) :: ([.constantLong RX3 99 (99999), .constant RX3 154 (-1000000002), .constantLong RX3 45 (16), .fieldLink RX3 7 "BoardClockModel" "st" "[J", .methodLink RX3 157 yX3_in, .static yX3_in, .initialized RX3, .code yX3_in cX3_in 6 (some .boolean), .methodLink RX3 109 yX3_wider, .instanceMethod yX3_wider, .selects RX3 yX3_wider yX3_wider, .code yX3_wider cX3_wider 1 (some .long), .constantLong RX3 70 (4)] ++ wsX30)
def wsX3_write : List Cond := .code yX3_write cX3_write 2 (some .int) :: ([.fieldLink RX3 134 "BoardClockModel" "entries" "I", .constant RX3 210 (-1000000004), .fieldLink RX3 23 "BoardClockModel" "book" "[I"] ++ wsX30)
def wsX3_tear : List Cond := .code yX3_tear cX3_tear 2 (some .int) :: ([.fieldLink RX3 134 "BoardClockModel" "entries" "I"] ++ wsX30)
def wsX3_seed : List Cond := .code yX3_seed cX3_seed 3 (some .int) :: ([.constant RX3 154 (-1000000002), .fieldLink RX3 211 "BoardClockModel" "seed" "J"] ++ wsX30)
def wsX3_keep : List Cond := .code yX3_keep cX3_keep 2 (some .int) :: ([.constant RX3 161 (-1000000001), .fieldLink RX3 19 "BoardClockModel" "isKept" "[Z", .fieldLink RX3 7 "BoardClockModel" "st" "[J", .fieldLink RX3 16 "BoardClockModel" "images" "[J", .fieldLink RX3 211 "BoardClockModel" "seed" "J", .fieldLink RX3 151 "BoardClockModel" "deeds" "I", .methodLink RX3 157 yX3_in, .static yX3_in, .initialized RX3, .code yX3_in cX3_in 6 (some .boolean), .methodLink RX3 175 yX3_bring, .static yX3_bring, .code yX3_bring cX3_bring 6 none] ++ wsX30)
def wsX3_goBack : List Cond := .code yX3_goBack cX3_goBack 2 (some .int) :: ([.constant RX3 161 (-1000000001), .fieldLink RX3 19 "BoardClockModel" "isKept" "[Z", .constant RX3 228 (-1000000003), .fieldLink RX3 16 "BoardClockModel" "images" "[J", .fieldLink RX3 7 "BoardClockModel" "st" "[J", .fieldLink RX3 211 "BoardClockModel" "seed" "J", .fieldLink RX3 151 "BoardClockModel" "deeds" "I", .methodLink RX3 157 yX3_in, .static yX3_in, .initialized RX3, .code yX3_in cX3_in 6 (some .boolean), .methodLink RX3 175 yX3_bring, .static yX3_bring, .code yX3_bring cX3_bring 6 none] ++ wsX30)
def wsJ9_abs_067f4 : List Cond := .code yJ9_abs_067f4 cJ9_abs_067f4 2 (some .long) :: ([])
def wsJ9_max_f86c9 : List Cond := .code yJ9_max_f86c9 cJ9_max_f86c9 4 (some .long) :: ([])
def wsJ9_min_7cf53 : List Cond := .code yJ9_min_7cf53 cJ9_min_7cf53 2 (some .int) :: ([])
def wsJ9_min_f86c9 : List Cond := .code yJ9_min_f86c9 cJ9_min_f86c9 4 (some .long) :: ([])
def wsL_law_r1 : List Cond := [Cond.classLink RL 7 RX2, Cond.instantiable RX2 10, Cond.initialized RX2, Cond.classLink RL 10 RX3, Cond.instantiable RX3 8, Cond.initialized RX3, Cond.methodLink RL 9 yX2_init, Cond.instanceMethod yX2_init, Cond.code yX2_init cX2_init 2 none, Cond.methodLink RX2 1 objectInit, Cond.instanceMethod objectInit, Cond.code objectInit ⟨#[0xb1]⟩ 1 none, Cond.classLink RX2 7 RX1, Cond.instantiable RX1 18, Cond.initialized RX1, Cond.fieldLink RX2 10 "BoardClock" "now" "LBoardClock$State;", Cond.fieldLink RX2 16 "BoardClock" "theSeed" "I", Cond.fieldLink RX2 20 "BoardClock" "past" "[LBoardClock$State;", Cond.fieldLink RX2 24 "BoardClock" "nextPast" "I", Cond.fieldLink RX2 27 "BoardClock" "undoable" "I", Cond.fieldLink RX2 30 "BoardClock" "images" "[LBoardClock$State;", Cond.arrayClass .int, Cond.fieldLink RX2 33 "BoardClock" "imageSeeds" "[I", Cond.arrayClass .boolean]
def wsL_law_r2 : List Cond := [Cond.fieldLink RX2 37 "BoardClock" "imageKept" "[Z", Cond.fieldLink RX2 41 "BoardClock" "book" "[I", Cond.fieldLink RX2 44 "BoardClock" "entries" "I", Cond.instanceMethod yX1_init, Cond.code yX1_init cX1_init 1 none, Cond.methodLink RX1 3 objectInit, Cond.fieldLink RX1 9 "BoardClock$State" "trueTime" "J", Cond.fieldLink RX1 15 "BoardClock$State" "boardTime" "J", Cond.fieldLink RX1 18 "BoardClock$State" "ahead" "J", Cond.fieldLink RX1 21 "BoardClock$State" "warmth" "I", Cond.fieldLink RX1 25 "BoardClock$State" "top" "I", Cond.fieldLink RX1 28 "BoardClock$State" "curve" "I", Cond.fieldLink RX1 31 "BoardClock$State" "base" "I", Cond.fieldLink RX1 34 "BoardClock$State" "rest" "I", Cond.fieldLink RX1 37 "BoardClock$State" "step" "I", Cond.fieldLink RX1 40 "BoardClock$State" "width" "I", Cond.fieldLink RX1 43 "BoardClock$State" "wider" "I", Cond.fieldLink RX1 46 "BoardClock$State" "powered" "Z", Cond.fieldLink RX1 50 "BoardClock$State" "broken" "I", Cond.fieldLink RX1 53 "BoardClock$State" "ticks" "I", Cond.fieldLink RX1 56 "BoardClock$State" "tickSpan" "I", Cond.fieldLink RX1 59 "BoardClock$State" "steady" "Z", Cond.fieldLink RX1 62 "BoardClock$State" "learned" "[I", Cond.classLink RX1 66 RX0]
def wsL_law_r3 : List Cond := [Cond.instantiable RX0 5, Cond.initialized RX0, Cond.fieldLink RX1 69 "BoardClock$State" "alarms" "LBoardClock$Alarms;", Cond.instanceMethod yX0_init, Cond.code yX0_init cX0_init 1 none, Cond.methodLink RX0 3 objectInit, Cond.fieldLink RX0 9 "BoardClock$Alarms" "count" "I", Cond.fieldLink RX0 15 "BoardClock$Alarms" "minutes" "[I", Cond.fieldLink RX0 19 "BoardClock$Alarms" "hours" "[I", Cond.fieldLink RX0 22 "BoardClock$Alarms" "weekdays" "[I", Cond.fieldLink RX0 25 "BoardClock$Alarms" "rung" "[I", Cond.methodLink RL 12 yX3_init, Cond.instanceMethod yX3_init, Cond.code yX3_init cX3_init 1 none, Cond.methodLink RX3 1 objectInit, Cond.arrayClass .long, Cond.fieldLink RX3 7 "BoardClockModel" "st" "[J", Cond.fieldLink RX3 13 "BoardClockModel" "past" "[J", Cond.fieldLink RX3 16 "BoardClockModel" "images" "[J", Cond.fieldLink RX3 19 "BoardClockModel" "isKept" "[Z", Cond.fieldLink RX3 23 "BoardClockModel" "book" "[I", Cond.constantLong RX3 27 (25), Cond.constantLong RX3 29 (3), Cond.constantLong RX3 31 (20)]
def wsL_law_r4 : List Cond := [Cond.constantLong RX3 33 (160), Cond.constantLong RX3 35 (-1), Cond.methodLink RL 13 yX2_told, Cond.instanceMethod yX2_told, Cond.selects RX2 yX2_told yX2_told, Cond.code yX2_told cX2_told 2 (some .int), Cond.fieldLink RX2 47 "BoardClock$State" "warmth" "I", Cond.fieldLink RX2 57 "BoardClock$State" "rest" "I", Cond.fieldLink RX2 60 "BoardClock$State" "ahead" "J", Cond.fieldLink RX2 68 "BoardClock$State" "width" "I", Cond.fieldLink RX2 71 "BoardClock$State" "step" "I", Cond.fieldLink RX2 74 "BoardClock$State" "wider" "I", Cond.fieldLink RX2 77 "BoardClock$State" "powered" "Z", Cond.fieldLink RX2 81 "BoardClock$State" "ticks" "I", Cond.fieldLink RX2 84 "BoardClock$State" "broken" "I", Cond.fieldLink RX2 91 "BoardClock$State" "alarms" "LBoardClock$Alarms;", Cond.fieldLink RX2 95 "BoardClock$Alarms" "count" "I", Cond.constant RX2 110 (-1000000002), Cond.methodLink RX2 50 yX2_spanOf, Cond.static yX2_spanOf, Cond.code yX2_spanOf cX2_spanOf 1 (some .int), Cond.methodLink RX2 54 yX1_offAt, Cond.instanceMethod yX1_offAt, Cond.selects RX1 yX1_offAt yX1_offAt]
def wsL_law_r5 : List Cond := [Cond.code yX1_offAt cX1_offAt 3 (some .int), Cond.methodLink RX2 64 yX2_asInt, Cond.static yX2_asInt, Cond.code yX2_asInt cX2_asInt 1 (some .int), Cond.methodLink RX2 87 yX1_isWithinBounds, Cond.instanceMethod yX1_isWithinBounds, Cond.selects RX1 yX1_isWithinBounds yX1_isWithinBounds, Cond.code yX1_isWithinBounds cX1_isWithinBounds 1 (some .boolean), Cond.methodLink RX1 100 Lib.MathLoose.abs_long.x, Cond.static Lib.MathLoose.abs_long.x, Cond.initialized "java/lang/Math", Cond.code Lib.MathLoose.abs_long.x Lib.MathLoose.abs_long.code 2 (some .long), Cond.constantLong RX1 106 (16), Cond.methodLink RX1 96 yX1_aim, Cond.instanceMethod yX1_aim, Cond.selects RX1 yX1_aim yX1_aim, Cond.code yX1_aim cX1_aim 1 (some .long), Cond.methodLink RX2 100 yX0_totalRings, Cond.instanceMethod yX0_totalRings, Cond.selects RX0 yX0_totalRings yX0_totalRings, Cond.code yX0_totalRings cX0_totalRings 3 (some .int), Cond.methodLink RX2 104 yX1_ticksUntilDone, Cond.instanceMethod yX1_ticksUntilDone, Cond.selects RX1 yX1_ticksUntilDone yX1_ticksUntilDone]
def wsL_law_r6 : List Cond := [Cond.code yX1_ticksUntilDone cX1_ticksUntilDone 3 (some .int), Cond.constantLong RX1 171 (2000), Cond.methodLink RX2 107 yX2_firstWrong, Cond.instanceMethod yX2_firstWrong, Cond.selects RX2 yX2_firstWrong yX2_firstWrong, Cond.code yX2_firstWrong cX2_firstWrong 4 (some .int), Cond.methodLink RX2 123 yX1_minuteNumber, Cond.instanceMethod yX1_minuteNumber, Cond.selects RX1 yX1_minuteNumber yX1_minuteNumber, Cond.code yX1_minuteNumber cX1_minuteNumber 1 (some .long), Cond.constantLong RX1 83 (60000), Cond.methodLink RL 17 yX3_told, Cond.instanceMethod yX3_told, Cond.selects RX3 yX3_told yX3_told, Cond.code yX3_told cX3_told 2 (some .int), Cond.fieldLink RX3 134 "BoardClockModel" "entries" "I", Cond.fieldLink RX3 151 "BoardClockModel" "deeds" "I", Cond.constant RX3 154 (-1000000002), Cond.methodLink RX3 41 yX3_spanNow, Cond.instanceMethod yX3_spanNow, Cond.selects RX3 yX3_spanNow yX3_spanNow, Cond.code yX3_spanNow cX3_spanNow 1 (some .int), Cond.constantLong RX3 39 (10), Cond.methodLink RX3 64 yX3_offAt]
def wsL_law_r7 : List Cond := [Cond.instanceMethod yX3_offAt, Cond.selects RX3 yX3_offAt yX3_offAt, Cond.code yX3_offAt cX3_offAt 5 (some .long), Cond.constantLong RX3 37 (100), Cond.methodLink RX3 138 yX3_holds, Cond.instanceMethod yX3_holds, Cond.selects RX3 yX3_holds yX3_holds, Cond.code yX3_holds cX3_holds 1 (some .boolean), Cond.constantLong RX3 45 (16), Cond.methodLink RX3 114 yX3_aim, Cond.instanceMethod yX3_aim, Cond.selects RX3 yX3_aim yX3_aim, Cond.code yX3_aim cX3_aim 1 (some .long), Cond.methodLink RX3 55 yX3_size, Cond.static yX3_size, Cond.code yX3_size cX3_size 2 (some .long), Cond.methodLink RX3 142 yX3_allRings, Cond.instanceMethod yX3_allRings, Cond.selects RX3 yX3_allRings yX3_allRings, Cond.code yX3_allRings cX3_allRings 4 (some .long), Cond.methodLink RX3 101 yX3_ringsAt, Cond.instanceMethod yX3_ringsAt, Cond.selects RX3 yX3_ringsAt yX3_ringsAt, Cond.code yX3_ringsAt cX3_ringsAt 2 (some .long)]
def wsL_law_r8 : List Cond := [Cond.methodLink RX3 145 yX3_untilDone, Cond.instanceMethod yX3_untilDone, Cond.selects RX3 yX3_untilDone yX3_untilDone, Cond.code yX3_untilDone cX3_untilDone 5 (some .int), Cond.constantLong RX3 132 (2000), Cond.methodLink RX3 148 yX3_wrong, Cond.instanceMethod yX3_wrong, Cond.selects RX3 yX3_wrong yX3_wrong, Cond.code yX3_wrong cX3_wrong 2 (some .int), Cond.methodLink RX3 84 yX3_minuteNow, Cond.instanceMethod yX3_minuteNow, Cond.selects RX3 yX3_minuteNow yX3_minuteNow, Cond.code yX3_minuteNow cX3_minuteNow 1 (some .long), Cond.constantLong RX3 62 (60000), Cond.methodLink RL 18 yX2_time, Cond.instanceMethod yX2_time, Cond.selects RX2 yX2_time yX2_time, Cond.code yX2_time cX2_time 2 (some .long), Cond.fieldLink RX2 111 "BoardClock$State" "trueTime" "J", Cond.fieldLink RX2 114 "BoardClock$State" "boardTime" "J", Cond.constantLong RX2 121 (-1), Cond.methodLink RX2 117 yX1_aim, Cond.methodLink RL 22 yX3_time, Cond.instanceMethod yX3_time]
def wsL_law_r9 : List Cond := [Cond.selects RX3 yX3_time yX3_time, Cond.code yX3_time cX3_time 2 (some .long), Cond.methodLink RL 23 yX2_calendar, Cond.instanceMethod yX2_calendar, Cond.selects RX2 yX2_calendar yX2_calendar, Cond.code yX2_calendar cX2_calendar 4 (some .int), Cond.methodLink RX2 126 yX2_minuteOf, Cond.static yX2_minuteOf, Cond.code yX2_minuteOf cX2_minuteOf 2 (some .int), Cond.constantLong RX2 254 (60), Cond.methodLink RX2 130 yX2_hourOf, Cond.static yX2_hourOf, Cond.code yX2_hourOf cX2_hourOf 2 (some .int), Cond.constantLong RX2 256 (24), Cond.methodLink RX2 133 yX2_weekdayOf, Cond.static yX2_weekdayOf, Cond.code yX2_weekdayOf cX2_weekdayOf 2 (some .int), Cond.constantLong RX2 258 (1440), Cond.constantLong RX2 260 (7), Cond.methodLink RL 26 yX3_calendar, Cond.instanceMethod yX3_calendar, Cond.selects RX3 yX3_calendar yX3_calendar, Cond.code yX3_calendar cX3_calendar 3 (some .int), Cond.methodLink RL 27 yX2_span]
def wsL_law_r10 : List Cond := [Cond.instanceMethod yX2_span, Cond.selects RX2 yX2_span yX2_span, Cond.code yX2_span cX2_span 3 (some .int), Cond.constant RX2 140 (-1000000001), Cond.fieldLink RX2 141 "BoardClock$State" "learned" "[I", Cond.constant RX2 147 (100000), Cond.methodLink RX2 136 yX2_isSpan, Cond.static yX2_isSpan, Cond.code yX2_isSpan cX2_isSpan 1 (some .boolean), Cond.methodLink RX2 144 yX1_fitOf, Cond.instanceMethod yX1_fitOf, Cond.selects RX1 yX1_fitOf yX1_fitOf, Cond.code yX1_fitOf cX1_fitOf 3 (some .int), Cond.methodLink RX1 85 yX1_learnedOf, Cond.instanceMethod yX1_learnedOf, Cond.selects RX1 yX1_learnedOf yX1_learnedOf, Cond.code yX1_learnedOf cX1_learnedOf 2 (some .int), Cond.methodLink RX1 89 yX1_offAt, Cond.methodLink RL 31 yX3_span, Cond.instanceMethod yX3_span, Cond.selects RX3 yX3_span yX3_span, Cond.code yX3_span cX3_span 5 (some .int), Cond.constantLong RX3 155 (8), Cond.constant RX3 161 (-1000000001)]
def wsL_law_r11 : List Cond := [Cond.constantLong RX3 162 (10000), Cond.constantLong RX3 164 (15), Cond.constantLong RX3 166 (100000), Cond.methodLink RX3 157 yX3_in, Cond.static yX3_in, Cond.code yX3_in cX3_in 6 (some .boolean), Cond.methodLink RL 32 yX2_alarmAt, Cond.instanceMethod yX2_alarmAt, Cond.selects RX2 yX2_alarmAt yX2_alarmAt, Cond.code yX2_alarmAt cX2_alarmAt 4 (some .int), Cond.fieldLink RX2 151 "BoardClock$Alarms" "minutes" "[I", Cond.fieldLink RX2 154 "BoardClock$Alarms" "hours" "[I", Cond.fieldLink RX2 157 "BoardClock$Alarms" "weekdays" "[I", Cond.fieldLink RX2 160 "BoardClock$Alarms" "rung" "[I", Cond.methodLink RX2 148 yX0_has, Cond.instanceMethod yX0_has, Cond.selects RX0 yX0_has yX0_has, Cond.code yX0_has cX0_has 2 (some .boolean), Cond.methodLink RX2 163 yX0_nextFit, Cond.instanceMethod yX0_nextFit, Cond.selects RX0 yX0_nextFit yX0_nextFit, Cond.code yX0_nextFit cX0_nextFit 7 (some .long), Cond.constantLong RX0 60 (1440), Cond.constantLong RX0 62 (60)]
def wsL_law_r12 : List Cond := [Cond.constantLong RX0 64 (-1), Cond.methodLink RX0 50 yX0_fitsDay, Cond.instanceMethod yX0_fitsDay, Cond.selects RX0 yX0_fitsDay yX0_fitsDay, Cond.code yX0_fitsDay cX0_fitsDay 4 (some .boolean), Cond.methodLink RX0 35 yX0_has, Cond.methodLink RX0 54 yX0_fitsHour, Cond.instanceMethod yX0_fitsHour, Cond.selects RX0 yX0_fitsHour yX0_fitsHour, Cond.code yX0_fitsHour cX0_fitsHour 4 (some .boolean), Cond.methodLink RX0 57 yX0_fitsMinute, Cond.instanceMethod yX0_fitsMinute, Cond.selects RX0 yX0_fitsMinute yX0_fitsMinute, Cond.code yX0_fitsMinute cX0_fitsMinute 4 (some .boolean), Cond.methodLink RL 35 yX3_alarmAt, Cond.instanceMethod yX3_alarmAt, Cond.selects RX3 yX3_alarmAt yX3_alarmAt, Cond.code yX3_alarmAt cX3_alarmAt 3 (some .int), Cond.constantLong RX3 70 (4), Cond.methodLink RX3 168 yX3_isAlarm, Cond.instanceMethod yX3_isAlarm, Cond.selects RX3 yX3_isAlarm yX3_isAlarm, Cond.code yX3_isAlarm cX3_isAlarm 2 (some .boolean), Cond.methodLink RX3 172 yX3_next]
def wsL_law_r13 : List Cond := [Cond.instanceMethod yX3_next, Cond.selects RX3 yX3_next yX3_next, Cond.code yX3_next cX3_next 5 (some .long), Cond.methodLink RX3 88 yX3_fits, Cond.instanceMethod yX3_fits, Cond.selects RX3 yX3_fits yX3_fits, Cond.code yX3_fits cX3_fits 5 (some .boolean), Cond.constantLong RX3 72 (60), Cond.constantLong RX3 78 (24), Cond.constantLong RX3 80 (1440), Cond.constantLong RX3 82 (7), Cond.methodLink RX3 74 yX3_fitsIn, Cond.static yX3_fitsIn, Cond.code yX3_fitsIn cX3_fitsIn 4 (some .boolean), Cond.methodLink RL 36 yX2_tick, Cond.instanceMethod yX2_tick, Cond.selects RX2 yX2_tick yX2_tick, Cond.code yX2_tick cX2_tick 2 (some .int), Cond.methodLink RX2 167 yX2_isWithin, Cond.static yX2_isWithin, Cond.code yX2_isWithin cX2_isWithin 3 (some .boolean), Cond.methodLink RX2 171 yX2_remember, Cond.instanceMethod yX2_remember, Cond.selects RX2 yX2_remember yX2_remember]
def wsL_law_r14 : List Cond := [Cond.code yX2_remember cX2_remember 1 none, Cond.methodLink RX2 235 Lib.Math.min.name, Cond.static Lib.Math.min.name, Cond.code Lib.Math.min.name Lib.Math.min.code 2 (some .int), Cond.methodLink RX2 215 yX1_copyFrom, Cond.instanceMethod yX1_copyFrom, Cond.selects RX1 yX1_copyFrom yX1_copyFrom, Cond.code yX1_copyFrom cX1_copyFrom 2 none, Cond.methodLink RX1 73 arraycopyName, Cond.native arraycopyName, Cond.static arraycopyName, Cond.initialized "java/lang/System", Cond.methodLink RX1 79 yX0_copyFrom, Cond.instanceMethod yX0_copyFrom, Cond.selects RX0 yX0_copyFrom yX0_copyFrom, Cond.code yX0_copyFrom cX0_copyFrom 2 none, Cond.methodLink RX0 28 arraycopyName, Cond.methodLink RX2 209 yJ9_floorMod_7cf53, Cond.static yJ9_floorMod_7cf53, Cond.initialized RJ9, Cond.code yJ9_floorMod_7cf53 cJ9_floorMod_7cf53 3 (some .int), Cond.methodLink RX2 174 yX1_pass, Cond.instanceMethod yX1_pass, Cond.selects RX1 yX1_pass yX1_pass]
def wsL_law_r15 : List Cond := [Cond.code yX1_pass cX1_pass 4 (some .int), Cond.constantLong RX1 143 (999999999), Cond.methodLink RX1 145 Lib.MathLoose.min_long.x, Cond.static Lib.MathLoose.min_long.x, Cond.code Lib.MathLoose.min_long.x Lib.MathLoose.min_long.code 4 (some .long), Cond.methodLink RX1 126 yX1_minuteNumber, Cond.methodLink RX1 129 yX1_noteTicks, Cond.instanceMethod yX1_noteTicks, Cond.selects RX1 yX1_noteTicks yX1_noteTicks, Cond.code yX1_noteTicks cX1_noteTicks 3 none, Cond.methodLink RX1 133 yX1_boardTimeAfter, Cond.instanceMethod yX1_boardTimeAfter, Cond.selects RX1 yX1_boardTimeAfter yX1_boardTimeAfter, Cond.code yX1_boardTimeAfter cX1_boardTimeAfter 4 (some .long), Cond.methodLink RX1 115 yX1_sixteenthsAfter, Cond.instanceMethod yX1_sixteenthsAfter, Cond.selects RX1 yX1_sixteenthsAfter yX1_sixteenthsAfter, Cond.code yX1_sixteenthsAfter cX1_sixteenthsAfter 2 (some .long), Cond.methodLink RX1 119 yJ9_floorDiv_f86c9, Cond.static yJ9_floorDiv_f86c9, Cond.code yJ9_floorDiv_f86c9 cJ9_floorDiv_f86c9 6 (some .long), Cond.methodLink RX1 123 yX1_stepsAfter, Cond.instanceMethod yX1_stepsAfter, Cond.selects RX1 yX1_stepsAfter yX1_stepsAfter]
def wsL_law_r16 : List Cond := [Cond.code yX1_stepsAfter cX1_stepsAfter 4 (some .long), Cond.static yX2_heldBetween, Cond.code yX2_heldBetween cX2_heldBetween 6 (some .long), Cond.methodLink RX2 248 Lib.MathLoose.min_long.x, Cond.methodLink RX2 251 Lib.MathLoose.max_long.x, Cond.static Lib.MathLoose.max_long.x, Cond.code Lib.MathLoose.max_long.x Lib.MathLoose.max_long.code 4 (some .long), Cond.methodLink RX1 136 yJ9_floorMod_f86c9, Cond.static yJ9_floorMod_f86c9, Cond.code yJ9_floorMod_f86c9 cJ9_floorMod_f86c9 6 (some .long), Cond.methodLink RX1 139 yX1_widthPerTick, Cond.instanceMethod yX1_widthPerTick, Cond.selects RX1 yX1_widthPerTick yX1_widthPerTick, Cond.code yX1_widthPerTick cX1_widthPerTick 1 (some .int), Cond.methodLink RX1 148 yX0_ring, Cond.instanceMethod yX0_ring, Cond.selects RX0 yX0_ring yX0_ring, Cond.code yX0_ring cX0_ring 8 (some .int), Cond.constant RX0 43 (99999), Cond.methodLink RX0 44 Lib.Math.min.name, Cond.methodLink RX0 39 yX0_countFitting, Cond.instanceMethod yX0_countFitting, Cond.selects RX0 yX0_countFitting yX0_countFitting, Cond.code yX0_countFitting cX0_countFitting 9 (some .int)]
def wsL_law_r17 : List Cond := [Cond.methodLink RL 39 yX3_tick, Cond.instanceMethod yX3_tick, Cond.selects RX3 yX3_tick yX3_tick, Cond.code yX3_tick cX3_tick 2 (some .int), Cond.methodLink RX3 179 yX3_notes, Cond.instanceMethod yX3_notes, Cond.selects RX3 yX3_notes yX3_notes, Cond.code yX3_notes cX3_notes 1 none, Cond.methodLink RX3 175 yX3_bring, Cond.static yX3_bring, Cond.code yX3_bring cX3_bring 6 none, Cond.methodLink RX3 182 yX3_goes, Cond.instanceMethod yX3_goes, Cond.selects RX3 yX3_goes yX3_goes, Cond.code yX3_goes cX3_goes 8 (some .int), Cond.constantLong RX3 99 (99999), Cond.constantLong RX3 107 (999999999), Cond.constantLong RX3 112 (9), Cond.methodLink RX3 92 yX3_boardAfter, Cond.instanceMethod yX3_boardAfter, Cond.selects RX3 yX3_boardAfter yX3_boardAfter, Cond.code yX3_boardAfter cX3_boardAfter 4 (some .long), Cond.methodLink RX3 51 yX3_spread, Cond.instanceMethod yX3_spread]
def wsL_law_r18 : List Cond := [Cond.selects RX3 yX3_spread yX3_spread, Cond.code yX3_spread cX3_spread 2 (some .long), Cond.methodLink RX3 47 yX3_down, Cond.static yX3_down, Cond.code yX3_down cX3_down 6 (some .long), Cond.methodLink RX3 67 yX3_gone, Cond.instanceMethod yX3_gone, Cond.selects RX3 yX3_gone yX3_gone, Cond.code yX3_gone cX3_gone 4 (some .long), Cond.methodLink RX3 59 yX3_lesser, Cond.static yX3_lesser, Cond.code yX3_lesser cX3_lesser 4 (some .long), Cond.methodLink RX3 95 yX3_between, Cond.instanceMethod yX3_between, Cond.selects RX3 yX3_between yX3_between, Cond.code yX3_between cX3_between 8 (some .long), Cond.methodLink RX3 104 yX3_restAfter, Cond.instanceMethod yX3_restAfter, Cond.selects RX3 yX3_restAfter yX3_restAfter, Cond.code yX3_restAfter cX3_restAfter 2 (some .long), Cond.methodLink RX3 109 yX3_wider, Cond.instanceMethod yX3_wider, Cond.selects RX3 yX3_wider yX3_wider, Cond.code yX3_wider cX3_wider 1 (some .long)]
def wsL_law_r19 : List Cond := [Cond.methodLink RL 40 yX2_warm, Cond.instanceMethod yX2_warm, Cond.selects RX2 yX2_warm yX2_warm, Cond.code yX2_warm cX2_warm 3 (some .int), Cond.methodLink RL 43 yX3_warm, Cond.instanceMethod yX3_warm, Cond.selects RX3 yX3_warm yX3_warm, Cond.code yX3_warm cX3_warm 3 (some .int), Cond.constantLong RX3 186 (-20), Cond.constantLong RX3 188 (69), Cond.methodLink RL 44 yX2_crystal, Cond.instanceMethod yX2_crystal, Cond.selects RX2 yX2_crystal yX2_crystal, Cond.code yX2_crystal cX2_crystal 4 (some .int), Cond.fieldLink RX2 177 "BoardClock$State" "top" "I", Cond.fieldLink RX2 180 "BoardClock$State" "curve" "I", Cond.fieldLink RX2 183 "BoardClock$State" "base" "I", Cond.methodLink RL 48 yX3_crystal, Cond.instanceMethod yX3_crystal, Cond.selects RX3 yX3_crystal yX3_crystal, Cond.code yX3_crystal cX3_crystal 4 (some .int), Cond.constantLong RX3 190 (40), Cond.constantLong RX3 192 (-9), Cond.methodLink RL 49 yX2_bound]
def wsL_law_r20 : List Cond := [Cond.instanceMethod yX2_bound, Cond.selects RX2 yX2_bound yX2_bound, Cond.code yX2_bound cX2_bound 3 (some .int), Cond.methodLink RX2 186 yX2_changeStep, Cond.instanceMethod yX2_changeStep, Cond.selects RX2 yX2_changeStep yX2_changeStep, Cond.code yX2_changeStep cX2_changeStep 3 (some .int), Cond.methodLink RX2 189 yX2_changeWider, Cond.instanceMethod yX2_changeWider, Cond.selects RX2 yX2_changeWider yX2_changeWider, Cond.code yX2_changeWider cX2_changeWider 3 (some .int), Cond.methodLink RL 52 yX3_bound, Cond.instanceMethod yX3_bound, Cond.selects RX3 yX3_bound yX3_bound, Cond.code yX3_bound cX3_bound 4 (some .int), Cond.constantLong RX3 194 (200), Cond.constantLong RX3 196 (999), Cond.methodLink RL 53 yX2_power, Cond.instanceMethod yX2_power, Cond.selects RX2 yX2_power yX2_power, Cond.code yX2_power cX2_power 3 (some .int), Cond.methodLink RL 57 yX3_power, Cond.instanceMethod yX3_power, Cond.selects RX3 yX3_power yX3_power]
def wsL_law_r21 : List Cond := [Cond.code yX3_power cX3_power 3 (some .int), Cond.methodLink RL 58 yX2_hear, Cond.instanceMethod yX2_hear, Cond.selects RX2 yX2_hear yX2_hear, Cond.code yX2_hear cX2_hear 3 (some .int), Cond.methodLink RX2 192 yX1_takeIn, Cond.instanceMethod yX1_takeIn, Cond.selects RX1 yX1_takeIn yX1_takeIn, Cond.code yX1_takeIn cX1_takeIn 14 (some .boolean), Cond.methodLink RX1 156 Lib.MathLoose.max_long.x, Cond.methodLink RX1 152 yX1_learnFrom, Cond.instanceMethod yX1_learnFrom, Cond.selects RX1 yX1_learnFrom yX1_learnFrom, Cond.code yX1_learnFrom cX1_learnFrom 5 none, Cond.constantLong RX1 163 (2), Cond.constantLong RX1 165 (-9999), Cond.constantLong RX1 167 (9999), Cond.methodLink RX1 159 yX1_aimBetween, Cond.instanceMethod yX1_aimBetween, Cond.selects RX1 yX1_aimBetween yX1_aimBetween, Cond.code yX1_aimBetween cX1_aimBetween 7 none, Cond.constantLong RX1 169 (32), Cond.methodLink RL 61 yX3_hear, Cond.instanceMethod yX3_hear]
def wsL_law_r22 : List Cond := [Cond.selects RX3 yX3_hear yX3_hear, Cond.code yX3_hear cX3_hear 3 (some .int), Cond.constantLong RX3 119 (-9999), Cond.constantLong RX3 121 (9999), Cond.constantLong RX3 198 (5000), Cond.methodLink RX3 200 yX3_hears, Cond.instanceMethod yX3_hears, Cond.selects RX3 yX3_hears yX3_hears, Cond.code yX3_hears cX3_hears 14 (some .int), Cond.constantLong RX3 130 (32), Cond.methodLink RX3 126 yX3_learns, Cond.instanceMethod yX3_learns, Cond.selects RX3 yX3_learns yX3_learns, Cond.code yX3_learns cX3_learns 6 none, Cond.constantLong RX3 117 (2), Cond.methodLink RX3 123 yX3_greater, Cond.static yX3_greater, Cond.code yX3_greater cX3_greater 4 (some .long), Cond.methodLink RL 62 yX2_alarm, Cond.instanceMethod yX2_alarm, Cond.selects RX2 yX2_alarm yX2_alarm, Cond.code yX2_alarm cX2_alarm 4 (some .int), Cond.constant RX2 196 (-1000000004), Cond.methodLink RX2 197 yX0_add]
def wsL_law_r23 : List Cond := [Cond.instanceMethod yX0_add, Cond.selects RX0 yX0_add yX0_add, Cond.code yX0_add cX0_add 5 (some .int), Cond.constant RX0 34 (-1000000004), Cond.methodLink RL 65 yX3_alarm, Cond.instanceMethod yX3_alarm, Cond.selects RX3 yX3_alarm yX3_alarm, Cond.code yX3_alarm cX3_alarm 6 (some .int), Cond.constantLong RX3 204 (59), Cond.constantLong RX3 206 (23), Cond.constantLong RX3 208 (6), Cond.constant RX3 210 (-1000000004), Cond.methodLink RL 66 yX2_drop, Cond.instanceMethod yX2_drop, Cond.selects RX2 yX2_drop yX2_drop, Cond.code yX2_drop cX2_drop 2 (some .int), Cond.methodLink RX2 201 yX0_remove, Cond.instanceMethod yX0_remove, Cond.selects RX0 yX0_remove yX0_remove, Cond.code yX0_remove cX0_remove 3 none, Cond.methodLink RL 69 yX3_drop, Cond.instanceMethod yX3_drop, Cond.selects RX3 yX3_drop yX3_drop, Cond.code yX3_drop cX3_drop 4 (some .int)]
def wsL_law_r24 : List Cond := [Cond.methodLink RL 70 yX2_learn, Cond.instanceMethod yX2_learn, Cond.selects RX2 yX2_learn yX2_learn, Cond.code yX2_learn cX2_learn 4 (some .int), Cond.methodLink RL 73 yX3_learn, Cond.instanceMethod yX3_learn, Cond.selects RX3 yX3_learn yX3_learn, Cond.code yX3_learn cX3_learn 4 (some .int), Cond.methodLink RL 74 yX2_drift, Cond.instanceMethod yX2_drift, Cond.selects RX2 yX2_drift yX2_drift, Cond.code yX2_drift cX2_drift 3 (some .int), Cond.methodLink RX2 205 yX2_actByDraws, Cond.instanceMethod yX2_actByDraws, Cond.selects RX2 yX2_actByDraws yX2_actByDraws, Cond.code yX2_actByDraws cX2_actByDraws 4 none, Cond.methodLink RX2 238 yX2_draw, Cond.instanceMethod yX2_draw, Cond.selects RX2 yX2_draw yX2_draw, Cond.code yX2_draw cX2_draw 2 (some .int), Cond.constantLong RX2 241 (1103515245), Cond.constantLong RX2 243 (12345), Cond.constantLong RX2 245 (2147483647), Cond.constant RX2 247 (65536)]
def wsL_law_r25 : List Cond := [Cond.methodLink RL 77 yX3_drift, Cond.instanceMethod yX3_drift, Cond.selects RX3 yX3_drift yX3_drift, Cond.code yX3_drift cX3_drift 9 (some .int), Cond.constantLong RX3 226 (500), Cond.methodLink RX3 223 yX3_draw, Cond.instanceMethod yX3_draw, Cond.selects RX3 yX3_draw yX3_draw, Cond.code yX3_draw cX3_draw 2 (some .long), Cond.fieldLink RX3 211 "BoardClockModel" "seed" "J", Cond.constantLong RX3 215 (1103515245), Cond.constantLong RX3 217 (12345), Cond.constantLong RX3 219 (2147483648), Cond.constantLong RX3 221 (65536), Cond.methodLink RL 78 yX2_undo, Cond.instanceMethod yX2_undo, Cond.selects RX2 yX2_undo yX2_undo, Cond.code yX2_undo cX2_undo 2 (some .int), Cond.constant RX2 208 (-1000000003), Cond.methodLink RL 81 yX3_undo, Cond.instanceMethod yX3_undo, Cond.selects RX3 yX3_undo yX3_undo, Cond.code yX3_undo cX3_undo 2 (some .int), Cond.constant RX3 228 (-1000000003)]
def wsL_law_r26 : List Cond := [Cond.methodLink RL 82 yX2_evenly, Cond.instanceMethod yX2_evenly, Cond.selects RX2 yX2_evenly yX2_evenly, Cond.code yX2_evenly cX2_evenly 4 (some .int), Cond.methodLink RL 85 yX3_evenly, Cond.instanceMethod yX3_evenly, Cond.selects RX3 yX3_evenly yX3_evenly, Cond.code yX3_evenly cX3_evenly 4 (some .int), Cond.methodLink RL 86 yX2_after, Cond.instanceMethod yX2_after, Cond.selects RX2 yX2_after yX2_after, Cond.code yX2_after cX2_after 2 (some .long), Cond.methodLink RX2 219 yX1_boardTimeAfter, Cond.methodLink RL 89 yX3_after, Cond.instanceMethod yX3_after, Cond.selects RX3 yX3_after yX3_after, Cond.code yX3_after cX3_after 2 (some .long), Cond.methodLink RL 90 yX2_rings, Cond.instanceMethod yX2_rings, Cond.selects RX2 yX2_rings yX2_rings, Cond.code yX2_rings cX2_rings 2 (some .int), Cond.constantLong RX2 223 (60000), Cond.methodLink RX2 225 yX0_ringsToCome, Cond.instanceMethod yX0_ringsToCome]
def wsL_law_r27 : List Cond := [Cond.selects RX0 yX0_ringsToCome yX0_ringsToCome, Cond.code yX0_ringsToCome cX0_ringsToCome 7 (some .int), Cond.methodLink RL 93 yX3_rings, Cond.instanceMethod yX3_rings, Cond.selects RX3 yX3_rings yX3_rings, Cond.code yX3_rings cX3_rings 7 (some .int), Cond.methodLink RL 94 yX2_untilWide, Cond.instanceMethod yX2_untilWide, Cond.selects RX2 yX2_untilWide yX2_untilWide, Cond.code yX2_untilWide cX2_untilWide 2 (some .int), Cond.constant RX2 229 (99999), Cond.constantLong RX2 230 (16), Cond.methodLink RX2 232 yX1_ticksUntilWide, Cond.instanceMethod yX1_ticksUntilWide, Cond.selects RX1 yX1_ticksUntilWide yX1_ticksUntilWide, Cond.code yX1_ticksUntilWide cX1_ticksUntilWide 4 (some .int), Cond.methodLink RL 97 yX3_untilWide, Cond.instanceMethod yX3_untilWide, Cond.selects RX3 yX3_untilWide yX3_untilWide, Cond.code yX3_untilWide cX3_untilWide 4 (some .int), Cond.methodLink RL 98 yX2_write, Cond.instanceMethod yX2_write, Cond.selects RX2 yX2_write yX2_write, Cond.code yX2_write cX2_write 2 (some .int)]
def wsL_law_r28 : List Cond := [Cond.methodLink RL 101 yX3_write, Cond.instanceMethod yX3_write, Cond.selects RX3 yX3_write yX3_write, Cond.code yX3_write cX3_write 2 (some .int), Cond.methodLink RL 102 yX2_tear, Cond.instanceMethod yX2_tear, Cond.selects RX2 yX2_tear yX2_tear, Cond.code yX2_tear cX2_tear 2 (some .int), Cond.methodLink RL 106 yX3_tear, Cond.instanceMethod yX3_tear, Cond.selects RX3 yX3_tear yX3_tear, Cond.code yX3_tear cX3_tear 2 (some .int), Cond.methodLink RL 107 yX2_seed, Cond.instanceMethod yX2_seed, Cond.selects RX2 yX2_seed yX2_seed, Cond.code yX2_seed cX2_seed 3 (some .int), Cond.methodLink RL 110 yX3_seed, Cond.instanceMethod yX3_seed, Cond.selects RX3 yX3_seed yX3_seed, Cond.code yX3_seed cX3_seed 3 (some .int), Cond.methodLink RL 111 yX2_keep, Cond.instanceMethod yX2_keep, Cond.selects RX2 yX2_keep yX2_keep, Cond.code yX2_keep cX2_keep 2 (some .int)]
def wsL_law_r29 : List Cond := [Cond.methodLink RL 114 yX3_keep, Cond.instanceMethod yX3_keep, Cond.selects RX3 yX3_keep yX3_keep, Cond.code yX3_keep cX3_keep 2 (some .int), Cond.methodLink RL 115 yX2_goBack, Cond.instanceMethod yX2_goBack, Cond.selects RX2 yX2_goBack yX2_goBack, Cond.code yX2_goBack cX2_goBack 2 (some .int), Cond.methodLink RL 118 yX3_goBack, Cond.instanceMethod yX3_goBack, Cond.selects RX3 yX3_goBack yX3_goBack, Cond.code yX3_goBack cX3_goBack 2 (some .int)]
def wsL_law : List Cond := (wsL_law_r1 ++ (wsL_law_r2 ++ (wsL_law_r3 ++ (wsL_law_r4 ++ (wsL_law_r5 ++ (wsL_law_r6 ++ (wsL_law_r7 ++ (wsL_law_r8 ++ (wsL_law_r9 ++ (wsL_law_r10 ++ (wsL_law_r11 ++ (wsL_law_r12 ++ (wsL_law_r13 ++ (wsL_law_r14 ++ (wsL_law_r15 ++ (wsL_law_r16 ++ (wsL_law_r17 ++ (wsL_law_r18 ++ (wsL_law_r19 ++ (wsL_law_r20 ++ (wsL_law_r21 ++ (wsL_law_r22 ++ (wsL_law_r23 ++ (wsL_law_r24 ++ (wsL_law_r25 ++ (wsL_law_r26 ++ (wsL_law_r27 ++ (wsL_law_r28 ++ wsL_law_r29)))))))))))))))))))))))))))) ++ wsX20 ++ wsX30 ++ wsX10 ++ wsX00 ++ ([] : List Cond)
theorem inlX0 : ∀ w ∈ wsX00, w ∈ wsL_law := fun _ h => List.mem_append_left _ (List.mem_append_right _ h)
theorem inlX1 : ∀ w ∈ wsX10, w ∈ wsL_law := fun _ h => List.mem_append_left _ (List.mem_append_left _ (List.mem_append_right _ h))
theorem inlX2 : ∀ w ∈ wsX20, w ∈ wsL_law := fun _ h => List.mem_append_left _ (List.mem_append_left _ (List.mem_append_left _ (List.mem_append_left _ (List.mem_append_right _ h))))
theorem inlX3 : ∀ w ∈ wsX30, w ∈ wsL_law := fun _ h => List.mem_append_left _ (List.mem_append_left _ (List.mem_append_left _ (List.mem_append_right _ h)))
end
section
theorem dX0_init_0 : decode cX0_init 0 = .ok (.aload_n 0, 1) := by decide +kernel
theorem dX0_init_1 : decode cX0_init 1 = .ok (.invokespecial 3, 3) := by decide +kernel
theorem dX0_init_4 : decode cX0_init 4 = .ok (.aload_n 0, 1) := by decide +kernel
theorem dX0_init_5 : decode cX0_init 5 = .ok (.iconst 0, 1) := by decide +kernel
theorem dX0_init_6 : decode cX0_init 6 = .ok (.putfield 9, 3) := by decide +kernel
theorem dX0_init_9 : decode cX0_init 9 = .ok (.aload_n 0, 1) := by decide +kernel
theorem dX0_init_10 : decode cX0_init 10 = .ok (.bipush 6, 2) := by decide +kernel
theorem dX0_init_12 : decode cX0_init 12 = .ok (.newarray .int, 2) := by decide +kernel
theorem dX0_init_14 : decode cX0_init 14 = .ok (.putfield 15, 3) := by decide +kernel
theorem dX0_init_17 : decode cX0_init 17 = .ok (.aload_n 0, 1) := by decide +kernel
theorem dX0_init_18 : decode cX0_init 18 = .ok (.bipush 6, 2) := by decide +kernel
theorem dX0_init_20 : decode cX0_init 20 = .ok (.newarray .int, 2) := by decide +kernel
theorem dX0_init_22 : decode cX0_init 22 = .ok (.putfield 19, 3) := by decide +kernel
theorem dX0_init_25 : decode cX0_init 25 = .ok (.aload_n 0, 1) := by decide +kernel
theorem dX0_init_26 : decode cX0_init 26 = .ok (.bipush 6, 2) := by decide +kernel
theorem dX0_init_28 : decode cX0_init 28 = .ok (.newarray .int, 2) := by decide +kernel
theorem dX0_init_30 : decode cX0_init 30 = .ok (.putfield 22, 3) := by decide +kernel
theorem dX0_init_33 : decode cX0_init 33 = .ok (.aload_n 0, 1) := by decide +kernel
theorem dX0_init_34 : decode cX0_init 34 = .ok (.bipush 6, 2) := by decide +kernel
theorem dX0_init_36 : decode cX0_init 36 = .ok (.newarray .int, 2) := by decide +kernel
theorem dX0_init_38 : decode cX0_init 38 = .ok (.putfield 25, 3) := by decide +kernel
theorem dX0_init_41 : decode cX0_init 41 = .ok (.return_, 1) := by decide +kernel
theorem dX0_copyFrom_0 : decode cX0_copyFrom 0 = .ok (.aload_n 0, 1) := by decide +kernel
theorem dX0_copyFrom_1 : decode cX0_copyFrom 1 = .ok (.aload_n 1, 1) := by decide +kernel
theorem dX0_copyFrom_2 : decode cX0_copyFrom 2 = .ok (.getfield 9, 3) := by decide +kernel
theorem dX0_copyFrom_5 : decode cX0_copyFrom 5 = .ok (.putfield 9, 3) := by decide +kernel
theorem dX0_copyFrom_8 : decode cX0_copyFrom 8 = .ok (.aload_n 1, 1) := by decide +kernel
theorem dX0_copyFrom_9 : decode cX0_copyFrom 9 = .ok (.getfield 15, 3) := by decide +kernel
theorem dX0_copyFrom_12 : decode cX0_copyFrom 12 = .ok (.iconst 0, 1) := by decide +kernel
theorem dX0_copyFrom_13 : decode cX0_copyFrom 13 = .ok (.aload_n 0, 1) := by decide +kernel
theorem dX0_copyFrom_14 : decode cX0_copyFrom 14 = .ok (.getfield 15, 3) := by decide +kernel
theorem dX0_copyFrom_17 : decode cX0_copyFrom 17 = .ok (.iconst 0, 1) := by decide +kernel
theorem dX0_copyFrom_18 : decode cX0_copyFrom 18 = .ok (.bipush 6, 2) := by decide +kernel
theorem dX0_copyFrom_20 : decode cX0_copyFrom 20 = .ok (.invokestatic 28, 3) := by decide +kernel
theorem dX0_copyFrom_23 : decode cX0_copyFrom 23 = .ok (.aload_n 1, 1) := by decide +kernel
theorem dX0_copyFrom_24 : decode cX0_copyFrom 24 = .ok (.getfield 19, 3) := by decide +kernel
theorem dX0_copyFrom_27 : decode cX0_copyFrom 27 = .ok (.iconst 0, 1) := by decide +kernel
theorem dX0_copyFrom_28 : decode cX0_copyFrom 28 = .ok (.aload_n 0, 1) := by decide +kernel
theorem dX0_copyFrom_29 : decode cX0_copyFrom 29 = .ok (.getfield 19, 3) := by decide +kernel
theorem dX0_copyFrom_32 : decode cX0_copyFrom 32 = .ok (.iconst 0, 1) := by decide +kernel
theorem dX0_copyFrom_33 : decode cX0_copyFrom 33 = .ok (.bipush 6, 2) := by decide +kernel
theorem dX0_copyFrom_35 : decode cX0_copyFrom 35 = .ok (.invokestatic 28, 3) := by decide +kernel
theorem dX0_copyFrom_38 : decode cX0_copyFrom 38 = .ok (.aload_n 1, 1) := by decide +kernel
theorem dX0_copyFrom_39 : decode cX0_copyFrom 39 = .ok (.getfield 22, 3) := by decide +kernel
theorem dX0_copyFrom_42 : decode cX0_copyFrom 42 = .ok (.iconst 0, 1) := by decide +kernel
theorem dX0_copyFrom_43 : decode cX0_copyFrom 43 = .ok (.aload_n 0, 1) := by decide +kernel
theorem dX0_copyFrom_44 : decode cX0_copyFrom 44 = .ok (.getfield 22, 3) := by decide +kernel
theorem dX0_copyFrom_47 : decode cX0_copyFrom 47 = .ok (.iconst 0, 1) := by decide +kernel
theorem dX0_copyFrom_48 : decode cX0_copyFrom 48 = .ok (.bipush 6, 2) := by decide +kernel
theorem dX0_copyFrom_50 : decode cX0_copyFrom 50 = .ok (.invokestatic 28, 3) := by decide +kernel
theorem dX0_copyFrom_53 : decode cX0_copyFrom 53 = .ok (.aload_n 1, 1) := by decide +kernel
theorem dX0_copyFrom_54 : decode cX0_copyFrom 54 = .ok (.getfield 25, 3) := by decide +kernel
theorem dX0_copyFrom_57 : decode cX0_copyFrom 57 = .ok (.iconst 0, 1) := by decide +kernel
theorem dX0_copyFrom_58 : decode cX0_copyFrom 58 = .ok (.aload_n 0, 1) := by decide +kernel
theorem dX0_copyFrom_59 : decode cX0_copyFrom 59 = .ok (.getfield 25, 3) := by decide +kernel
theorem dX0_copyFrom_62 : decode cX0_copyFrom 62 = .ok (.iconst 0, 1) := by decide +kernel
theorem dX0_copyFrom_63 : decode cX0_copyFrom 63 = .ok (.bipush 6, 2) := by decide +kernel
theorem dX0_copyFrom_65 : decode cX0_copyFrom 65 = .ok (.invokestatic 28, 3) := by decide +kernel
theorem dX0_copyFrom_68 : decode cX0_copyFrom 68 = .ok (.return_, 1) := by decide +kernel
theorem dX0_has_0 : decode cX0_has 0 = .ok (.iload_n 1, 1) := by decide +kernel
theorem dX0_has_1 : decode cX0_has 1 = .ok (.ifCond .lt 21, 3) := by decide +kernel
theorem dX0_has_4 : decode cX0_has 4 = .ok (.iload_n 1, 1) := by decide +kernel
theorem dX0_has_5 : decode cX0_has 5 = .ok (.aload_n 0, 1) := by decide +kernel
theorem dX0_has_6 : decode cX0_has 6 = .ok (.getfield 9, 3) := by decide +kernel
theorem dX0_has_9 : decode cX0_has 9 = .ok (.if_icmp .ge 13, 3) := by decide +kernel
theorem dX0_has_12 : decode cX0_has 12 = .ok (.iload_n 1, 1) := by decide +kernel
theorem dX0_has_13 : decode cX0_has 13 = .ok (.bipush 6, 2) := by decide +kernel
theorem dX0_has_15 : decode cX0_has 15 = .ok (.if_icmp .ge 7, 3) := by decide +kernel
theorem dX0_has_18 : decode cX0_has 18 = .ok (.iconst 1, 1) := by decide +kernel
theorem dX0_has_19 : decode cX0_has 19 = .ok (.goto 4, 3) := by decide +kernel
theorem dX0_has_22 : decode cX0_has 22 = .ok (.iconst 0, 1) := by decide +kernel
theorem dX0_has_23 : decode cX0_has 23 = .ok (.ireturn, 1) := by decide +kernel
theorem dX0_add_0 : decode cX0_add 0 = .ok (.aload_n 0, 1) := by decide +kernel
theorem dX0_add_1 : decode cX0_add 1 = .ok (.getfield 9, 3) := by decide +kernel
theorem dX0_add_4 : decode cX0_add 4 = .ok (.ifCond .lt 12, 3) := by decide +kernel
theorem dX0_add_7 : decode cX0_add 7 = .ok (.aload_n 0, 1) := by decide +kernel
theorem dX0_add_8 : decode cX0_add 8 = .ok (.getfield 9, 3) := by decide +kernel
theorem dX0_add_11 : decode cX0_add 11 = .ok (.bipush 6, 2) := by decide +kernel
theorem dX0_add_13 : decode cX0_add 13 = .ok (.if_icmp .lt 6, 3) := by decide +kernel
theorem dX0_add_16 : decode cX0_add 16 = .ok (.ldc 34, 2) := by decide +kernel
theorem dX0_add_18 : decode cX0_add 18 = .ok (.ireturn, 1) := by decide +kernel
theorem dX0_add_19 : decode cX0_add 19 = .ok (.aload_n 0, 1) := by decide +kernel
theorem dX0_add_20 : decode cX0_add 20 = .ok (.getfield 9, 3) := by decide +kernel
theorem dX0_add_23 : decode cX0_add 23 = .ok (.istore 4, 2) := by decide +kernel
theorem dX0_add_25 : decode cX0_add 25 = .ok (.aload_n 0, 1) := by decide +kernel
theorem dX0_add_26 : decode cX0_add 26 = .ok (.getfield 15, 3) := by decide +kernel
theorem dX0_add_29 : decode cX0_add 29 = .ok (.iload 4, 2) := by decide +kernel
theorem dX0_add_31 : decode cX0_add 31 = .ok (.iload_n 1, 1) := by decide +kernel
theorem dX0_add_32 : decode cX0_add 32 = .ok (.iastore, 1) := by decide +kernel
theorem dX0_add_33 : decode cX0_add 33 = .ok (.aload_n 0, 1) := by decide +kernel
theorem dX0_add_34 : decode cX0_add 34 = .ok (.getfield 19, 3) := by decide +kernel
theorem dX0_add_37 : decode cX0_add 37 = .ok (.iload 4, 2) := by decide +kernel
theorem dX0_add_39 : decode cX0_add 39 = .ok (.iload_n 2, 1) := by decide +kernel
theorem dX0_add_40 : decode cX0_add 40 = .ok (.iastore, 1) := by decide +kernel
theorem dX0_add_41 : decode cX0_add 41 = .ok (.aload_n 0, 1) := by decide +kernel
theorem dX0_add_42 : decode cX0_add 42 = .ok (.getfield 22, 3) := by decide +kernel
theorem dX0_add_45 : decode cX0_add 45 = .ok (.iload 4, 2) := by decide +kernel
theorem dX0_add_47 : decode cX0_add 47 = .ok (.iload_n 3, 1) := by decide +kernel
theorem dX0_add_48 : decode cX0_add 48 = .ok (.iastore, 1) := by decide +kernel
theorem dX0_add_49 : decode cX0_add 49 = .ok (.aload_n 0, 1) := by decide +kernel
theorem dX0_add_50 : decode cX0_add 50 = .ok (.getfield 25, 3) := by decide +kernel
theorem dX0_add_53 : decode cX0_add 53 = .ok (.iload 4, 2) := by decide +kernel
theorem dX0_add_55 : decode cX0_add 55 = .ok (.iconst 0, 1) := by decide +kernel
theorem dX0_add_56 : decode cX0_add 56 = .ok (.iastore, 1) := by decide +kernel
theorem dX0_add_57 : decode cX0_add 57 = .ok (.aload_n 0, 1) := by decide +kernel
theorem dX0_add_58 : decode cX0_add 58 = .ok (.dup, 1) := by decide +kernel
theorem dX0_add_59 : decode cX0_add 59 = .ok (.getfield 9, 3) := by decide +kernel
theorem dX0_add_62 : decode cX0_add 62 = .ok (.iconst 1, 1) := by decide +kernel
theorem dX0_add_63 : decode cX0_add 63 = .ok (.iadd, 1) := by decide +kernel
theorem dX0_add_64 : decode cX0_add 64 = .ok (.putfield 9, 3) := by decide +kernel
theorem dX0_add_67 : decode cX0_add 67 = .ok (.iload 4, 2) := by decide +kernel
theorem dX0_add_69 : decode cX0_add 69 = .ok (.ireturn, 1) := by decide +kernel
set_option maxRecDepth 20000 in
theorem ggX0_remove_X0_has : GoodIn wsX0_remove wsX0_has := goodIn_r _ [10, 1, 11, 12, 13, 14, 15] (by decide +kernel) (by decide +kernel)
set_option maxRecDepth 20000 in
theorem gX0_remove_X0_has : GoodIn wsX0_remove (wsV RX0 35 RX0 yX0_has wsX0_has) := goodIn_app (goodIn_of _ (by decide +kernel)) ggX0_remove_X0_has
theorem dX0_remove_0 : decode cX0_remove 0 = .ok (.aload_n 0, 1) := by decide +kernel
theorem dX0_remove_1 : decode cX0_remove 1 = .ok (.iload_n 1, 1) := by decide +kernel
theorem dX0_remove_2 : decode cX0_remove 2 = .ok (.invokevirtual 35, 3) := by decide +kernel
theorem dX0_remove_5 : decode cX0_remove 5 = .ok (.ifCond .ne 4, 3) := by decide +kernel
theorem dX0_remove_8 : decode cX0_remove 8 = .ok (.return_, 1) := by decide +kernel
theorem dX0_remove_9 : decode cX0_remove 9 = .ok (.aload_n 0, 1) := by decide +kernel
theorem dX0_remove_10 : decode cX0_remove 10 = .ok (.dup, 1) := by decide +kernel
theorem dX0_remove_11 : decode cX0_remove 11 = .ok (.getfield 9, 3) := by decide +kernel
theorem dX0_remove_14 : decode cX0_remove 14 = .ok (.iconst 1, 1) := by decide +kernel
theorem dX0_remove_15 : decode cX0_remove 15 = .ok (.isub, 1) := by decide +kernel
theorem dX0_remove_16 : decode cX0_remove 16 = .ok (.putfield 9, 3) := by decide +kernel
theorem dX0_remove_19 : decode cX0_remove 19 = .ok (.iload_n 1, 1) := by decide +kernel
theorem dX0_remove_20 : decode cX0_remove 20 = .ok (.istore_n 2, 1) := by decide +kernel
theorem dX0_remove_21 : decode cX0_remove 21 = .ok (.iload_n 2, 1) := by decide +kernel
theorem dX0_remove_22 : decode cX0_remove 22 = .ok (.aload_n 0, 1) := by decide +kernel
theorem dX0_remove_23 : decode cX0_remove 23 = .ok (.getfield 9, 3) := by decide +kernel
theorem dX0_remove_26 : decode cX0_remove 26 = .ok (.if_icmp .ge 73, 3) := by decide +kernel
theorem dX0_remove_29 : decode cX0_remove 29 = .ok (.iload_n 2, 1) := by decide +kernel
theorem dX0_remove_30 : decode cX0_remove 30 = .ok (.iconst 1, 1) := by decide +kernel
theorem dX0_remove_31 : decode cX0_remove 31 = .ok (.iadd, 1) := by decide +kernel
theorem dX0_remove_32 : decode cX0_remove 32 = .ok (.bipush 6, 2) := by decide +kernel
theorem dX0_remove_34 : decode cX0_remove 34 = .ok (.if_icmp .ge 65, 3) := by decide +kernel
theorem dX0_remove_37 : decode cX0_remove 37 = .ok (.aload_n 0, 1) := by decide +kernel
theorem dX0_remove_38 : decode cX0_remove 38 = .ok (.getfield 15, 3) := by decide +kernel
theorem dX0_remove_41 : decode cX0_remove 41 = .ok (.iload_n 2, 1) := by decide +kernel
theorem dX0_remove_42 : decode cX0_remove 42 = .ok (.aload_n 0, 1) := by decide +kernel
theorem dX0_remove_43 : decode cX0_remove 43 = .ok (.getfield 15, 3) := by decide +kernel
theorem dX0_remove_46 : decode cX0_remove 46 = .ok (.iload_n 2, 1) := by decide +kernel
theorem dX0_remove_47 : decode cX0_remove 47 = .ok (.iconst 1, 1) := by decide +kernel
theorem dX0_remove_48 : decode cX0_remove 48 = .ok (.iadd, 1) := by decide +kernel
theorem dX0_remove_49 : decode cX0_remove 49 = .ok (.iaload, 1) := by decide +kernel
theorem dX0_remove_50 : decode cX0_remove 50 = .ok (.iastore, 1) := by decide +kernel
theorem dX0_remove_51 : decode cX0_remove 51 = .ok (.aload_n 0, 1) := by decide +kernel
theorem dX0_remove_52 : decode cX0_remove 52 = .ok (.getfield 19, 3) := by decide +kernel
theorem dX0_remove_55 : decode cX0_remove 55 = .ok (.iload_n 2, 1) := by decide +kernel
theorem dX0_remove_56 : decode cX0_remove 56 = .ok (.aload_n 0, 1) := by decide +kernel
theorem dX0_remove_57 : decode cX0_remove 57 = .ok (.getfield 19, 3) := by decide +kernel
theorem dX0_remove_60 : decode cX0_remove 60 = .ok (.iload_n 2, 1) := by decide +kernel
theorem dX0_remove_61 : decode cX0_remove 61 = .ok (.iconst 1, 1) := by decide +kernel
theorem dX0_remove_62 : decode cX0_remove 62 = .ok (.iadd, 1) := by decide +kernel
theorem dX0_remove_63 : decode cX0_remove 63 = .ok (.iaload, 1) := by decide +kernel
theorem dX0_remove_64 : decode cX0_remove 64 = .ok (.iastore, 1) := by decide +kernel
theorem dX0_remove_65 : decode cX0_remove 65 = .ok (.aload_n 0, 1) := by decide +kernel
theorem dX0_remove_66 : decode cX0_remove 66 = .ok (.getfield 22, 3) := by decide +kernel
theorem dX0_remove_69 : decode cX0_remove 69 = .ok (.iload_n 2, 1) := by decide +kernel
theorem dX0_remove_70 : decode cX0_remove 70 = .ok (.aload_n 0, 1) := by decide +kernel
theorem dX0_remove_71 : decode cX0_remove 71 = .ok (.getfield 22, 3) := by decide +kernel
theorem dX0_remove_74 : decode cX0_remove 74 = .ok (.iload_n 2, 1) := by decide +kernel
theorem dX0_remove_75 : decode cX0_remove 75 = .ok (.iconst 1, 1) := by decide +kernel
theorem dX0_remove_76 : decode cX0_remove 76 = .ok (.iadd, 1) := by decide +kernel
theorem dX0_remove_77 : decode cX0_remove 77 = .ok (.iaload, 1) := by decide +kernel
theorem dX0_remove_78 : decode cX0_remove 78 = .ok (.iastore, 1) := by decide +kernel
theorem dX0_remove_79 : decode cX0_remove 79 = .ok (.aload_n 0, 1) := by decide +kernel
theorem dX0_remove_80 : decode cX0_remove 80 = .ok (.getfield 25, 3) := by decide +kernel
theorem dX0_remove_83 : decode cX0_remove 83 = .ok (.iload_n 2, 1) := by decide +kernel
theorem dX0_remove_84 : decode cX0_remove 84 = .ok (.aload_n 0, 1) := by decide +kernel
theorem dX0_remove_85 : decode cX0_remove 85 = .ok (.getfield 25, 3) := by decide +kernel
theorem dX0_remove_88 : decode cX0_remove 88 = .ok (.iload_n 2, 1) := by decide +kernel
theorem dX0_remove_89 : decode cX0_remove 89 = .ok (.iconst 1, 1) := by decide +kernel
theorem dX0_remove_90 : decode cX0_remove 90 = .ok (.iadd, 1) := by decide +kernel
theorem dX0_remove_91 : decode cX0_remove 91 = .ok (.iaload, 1) := by decide +kernel
theorem dX0_remove_92 : decode cX0_remove 92 = .ok (.iastore, 1) := by decide +kernel
theorem dX0_remove_93 : decode cX0_remove 93 = .ok (.iinc 2 1, 3) := by decide +kernel
theorem dX0_remove_96 : decode cX0_remove 96 = .ok (.goto (-75), 3) := by decide +kernel
theorem dX0_remove_99 : decode cX0_remove 99 = .ok (.return_, 1) := by decide +kernel
theorem dX0_totalRings_0 : decode cX0_totalRings 0 = .ok (.iconst 0, 1) := by decide +kernel
theorem dX0_totalRings_1 : decode cX0_totalRings 1 = .ok (.istore_n 1, 1) := by decide +kernel
theorem dX0_totalRings_2 : decode cX0_totalRings 2 = .ok (.iconst 0, 1) := by decide +kernel
theorem dX0_totalRings_3 : decode cX0_totalRings 3 = .ok (.istore_n 2, 1) := by decide +kernel
theorem dX0_totalRings_4 : decode cX0_totalRings 4 = .ok (.iload_n 2, 1) := by decide +kernel
theorem dX0_totalRings_5 : decode cX0_totalRings 5 = .ok (.aload_n 0, 1) := by decide +kernel
theorem dX0_totalRings_6 : decode cX0_totalRings 6 = .ok (.getfield 9, 3) := by decide +kernel
theorem dX0_totalRings_9 : decode cX0_totalRings 9 = .ok (.if_icmp .ge 24, 3) := by decide +kernel
theorem dX0_totalRings_12 : decode cX0_totalRings 12 = .ok (.iload_n 2, 1) := by decide +kernel
theorem dX0_totalRings_13 : decode cX0_totalRings 13 = .ok (.bipush 6, 2) := by decide +kernel
theorem dX0_totalRings_15 : decode cX0_totalRings 15 = .ok (.if_icmp .ge 18, 3) := by decide +kernel
theorem dX0_totalRings_18 : decode cX0_totalRings 18 = .ok (.iload_n 1, 1) := by decide +kernel
theorem dX0_totalRings_19 : decode cX0_totalRings 19 = .ok (.aload_n 0, 1) := by decide +kernel
theorem dX0_totalRings_20 : decode cX0_totalRings 20 = .ok (.getfield 25, 3) := by decide +kernel
theorem dX0_totalRings_23 : decode cX0_totalRings 23 = .ok (.iload_n 2, 1) := by decide +kernel
theorem dX0_totalRings_24 : decode cX0_totalRings 24 = .ok (.iaload, 1) := by decide +kernel
theorem dX0_totalRings_25 : decode cX0_totalRings 25 = .ok (.iadd, 1) := by decide +kernel
theorem dX0_totalRings_26 : decode cX0_totalRings 26 = .ok (.istore_n 1, 1) := by decide +kernel
theorem dX0_totalRings_27 : decode cX0_totalRings 27 = .ok (.iinc 2 1, 3) := by decide +kernel
theorem dX0_totalRings_30 : decode cX0_totalRings 30 = .ok (.goto (-26), 3) := by decide +kernel
theorem dX0_totalRings_33 : decode cX0_totalRings 33 = .ok (.iload_n 1, 1) := by decide +kernel
theorem dX0_totalRings_34 : decode cX0_totalRings 34 = .ok (.ireturn, 1) := by decide +kernel
set_option maxRecDepth 20000 in
theorem ggX0_ring_X0_countFitting : GoodIn wsX0_ring wsX0_countFitting := goodIn_r _ [12, 13, 14, 15, 11, 16, 17, 18, 19, 20, 21, 1, 22, 23, 24, 25, 26, 27, 28, 29, 30, 31, 32, 33, 34, 35, 36, 37, 38, 39, 40, 41, 42, 43, 44, 45, 46, 47] (by decide +kernel) (by decide +kernel)
set_option maxRecDepth 20000 in
theorem gX0_ring_X0_countFitting : GoodIn wsX0_ring (wsV RX0 39 RX0 yX0_countFitting wsX0_countFitting) := goodIn_app (goodIn_of _ (by decide +kernel)) ggX0_ring_X0_countFitting
theorem dX0_ring_0 : decode cX0_ring 0 = .ok (.iconst 0, 1) := by decide +kernel
theorem dX0_ring_1 : decode cX0_ring 1 = .ok (.istore 5, 2) := by decide +kernel
theorem dX0_ring_3 : decode cX0_ring 3 = .ok (.iconst 0, 1) := by decide +kernel
theorem dX0_ring_4 : decode cX0_ring 4 = .ok (.istore 6, 2) := by decide +kernel
theorem dX0_ring_6 : decode cX0_ring 6 = .ok (.iload 6, 2) := by decide +kernel
theorem dX0_ring_8 : decode cX0_ring 8 = .ok (.aload_n 0, 1) := by decide +kernel
theorem dX0_ring_9 : decode cX0_ring 9 = .ok (.getfield 9, 3) := by decide +kernel
theorem dX0_ring_12 : decode cX0_ring 12 = .ok (.if_icmp .ge 62, 3) := by decide +kernel
theorem dX0_ring_15 : decode cX0_ring 15 = .ok (.iload 6, 2) := by decide +kernel
theorem dX0_ring_17 : decode cX0_ring 17 = .ok (.bipush 6, 2) := by decide +kernel
theorem dX0_ring_19 : decode cX0_ring 19 = .ok (.if_icmp .ge 55, 3) := by decide +kernel
theorem dX0_ring_22 : decode cX0_ring 22 = .ok (.aload_n 0, 1) := by decide +kernel
theorem dX0_ring_23 : decode cX0_ring 23 = .ok (.iload 6, 2) := by decide +kernel
theorem dX0_ring_25 : decode cX0_ring 25 = .ok (.lload_n 1, 1) := by decide +kernel
theorem dX0_ring_26 : decode cX0_ring 26 = .ok (.lload_n 3, 1) := by decide +kernel
theorem dX0_ring_27 : decode cX0_ring 27 = .ok (.invokevirtual 39, 3) := by decide +kernel
theorem dX0_ring_30 : decode cX0_ring 30 = .ok (.istore 7, 2) := by decide +kernel
theorem dX0_ring_32 : decode cX0_ring 32 = .ok (.iload 7, 2) := by decide +kernel
theorem dX0_ring_34 : decode cX0_ring 34 = .ok (.ifCond .le 34, 3) := by decide +kernel
theorem dX0_ring_37 : decode cX0_ring 37 = .ok (.iload 5, 2) := by decide +kernel
theorem dX0_ring_39 : decode cX0_ring 39 = .ok (.iconst 1, 1) := by decide +kernel
theorem dX0_ring_40 : decode cX0_ring 40 = .ok (.iload 6, 2) := by decide +kernel
theorem dX0_ring_42 : decode cX0_ring 42 = .ok (.ishl, 1) := by decide +kernel
theorem dX0_ring_43 : decode cX0_ring 43 = .ok (.ior, 1) := by decide +kernel
theorem dX0_ring_44 : decode cX0_ring 44 = .ok (.istore 5, 2) := by decide +kernel
theorem dX0_ring_46 : decode cX0_ring 46 = .ok (.aload_n 0, 1) := by decide +kernel
theorem dX0_ring_47 : decode cX0_ring 47 = .ok (.getfield 25, 3) := by decide +kernel
theorem dX0_ring_50 : decode cX0_ring 50 = .ok (.iload 6, 2) := by decide +kernel
theorem dX0_ring_52 : decode cX0_ring 52 = .ok (.aload_n 0, 1) := by decide +kernel
theorem dX0_ring_53 : decode cX0_ring 53 = .ok (.getfield 25, 3) := by decide +kernel
theorem dX0_ring_56 : decode cX0_ring 56 = .ok (.iload 6, 2) := by decide +kernel
theorem dX0_ring_58 : decode cX0_ring 58 = .ok (.iaload, 1) := by decide +kernel
theorem dX0_ring_59 : decode cX0_ring 59 = .ok (.iload 7, 2) := by decide +kernel
theorem dX0_ring_61 : decode cX0_ring 61 = .ok (.iadd, 1) := by decide +kernel
theorem dX0_ring_62 : decode cX0_ring 62 = .ok (.ldc 43, 2) := by decide +kernel
theorem dX0_ring_64 : decode cX0_ring 64 = .ok (.invokestatic 44, 3) := by decide +kernel
theorem dX0_ring_67 : decode cX0_ring 67 = .ok (.iastore, 1) := by decide +kernel
theorem dX0_ring_68 : decode cX0_ring 68 = .ok (.iinc 6 1, 3) := by decide +kernel
theorem dX0_ring_71 : decode cX0_ring 71 = .ok (.goto (-65), 3) := by decide +kernel
theorem dX0_ring_74 : decode cX0_ring 74 = .ok (.iload 5, 2) := by decide +kernel
theorem dX0_ring_76 : decode cX0_ring 76 = .ok (.ireturn, 1) := by decide +kernel
set_option maxRecDepth 20000 in
theorem ggX0_ringsToCome_X0_countFitting : GoodIn wsX0_ringsToCome wsX0_countFitting := goodIn_r _ [12, 13, 14, 15, 11, 16, 17, 18, 19, 20, 21, 1, 22, 23, 24, 25, 26, 27, 28, 29, 30, 31, 32, 33, 34, 35, 36, 37, 38, 39, 40, 41, 42, 43, 44, 45, 46, 47] (by decide +kernel) (by decide +kernel)
set_option maxRecDepth 20000 in
theorem gX0_ringsToCome_X0_countFitting : GoodIn wsX0_ringsToCome (wsV RX0 39 RX0 yX0_countFitting wsX0_countFitting) := goodIn_app (goodIn_of _ (by decide +kernel)) ggX0_ringsToCome_X0_countFitting
theorem dX0_ringsToCome_0 : decode cX0_ringsToCome 0 = .ok (.iconst 0, 1) := by decide +kernel
theorem dX0_ringsToCome_1 : decode cX0_ringsToCome 1 = .ok (.istore 5, 2) := by decide +kernel
theorem dX0_ringsToCome_3 : decode cX0_ringsToCome 3 = .ok (.iconst 0, 1) := by decide +kernel
theorem dX0_ringsToCome_4 : decode cX0_ringsToCome 4 = .ok (.istore 6, 2) := by decide +kernel
theorem dX0_ringsToCome_6 : decode cX0_ringsToCome 6 = .ok (.iload 6, 2) := by decide +kernel
theorem dX0_ringsToCome_8 : decode cX0_ringsToCome 8 = .ok (.aload_n 0, 1) := by decide +kernel
theorem dX0_ringsToCome_9 : decode cX0_ringsToCome 9 = .ok (.getfield 9, 3) := by decide +kernel
theorem dX0_ringsToCome_12 : decode cX0_ringsToCome 12 = .ok (.if_icmp .ge 42, 3) := by decide +kernel
theorem dX0_ringsToCome_15 : decode cX0_ringsToCome 15 = .ok (.iload 6, 2) := by decide +kernel
theorem dX0_ringsToCome_17 : decode cX0_ringsToCome 17 = .ok (.bipush 6, 2) := by decide +kernel
theorem dX0_ringsToCome_19 : decode cX0_ringsToCome 19 = .ok (.if_icmp .ge 35, 3) := by decide +kernel
theorem dX0_ringsToCome_22 : decode cX0_ringsToCome 22 = .ok (.iload 5, 2) := by decide +kernel
theorem dX0_ringsToCome_24 : decode cX0_ringsToCome 24 = .ok (.aload_n 0, 1) := by decide +kernel
theorem dX0_ringsToCome_25 : decode cX0_ringsToCome 25 = .ok (.iload 6, 2) := by decide +kernel
theorem dX0_ringsToCome_27 : decode cX0_ringsToCome 27 = .ok (.lload_n 1, 1) := by decide +kernel
theorem dX0_ringsToCome_28 : decode cX0_ringsToCome 28 = .ok (.lload_n 3, 1) := by decide +kernel
theorem dX0_ringsToCome_29 : decode cX0_ringsToCome 29 = .ok (.invokevirtual 39, 3) := by decide +kernel
theorem dX0_ringsToCome_32 : decode cX0_ringsToCome 32 = .ok (.ldc 43, 2) := by decide +kernel
theorem dX0_ringsToCome_34 : decode cX0_ringsToCome 34 = .ok (.aload_n 0, 1) := by decide +kernel
theorem dX0_ringsToCome_35 : decode cX0_ringsToCome 35 = .ok (.getfield 25, 3) := by decide +kernel
theorem dX0_ringsToCome_38 : decode cX0_ringsToCome 38 = .ok (.iload 6, 2) := by decide +kernel
theorem dX0_ringsToCome_40 : decode cX0_ringsToCome 40 = .ok (.iaload, 1) := by decide +kernel
theorem dX0_ringsToCome_41 : decode cX0_ringsToCome 41 = .ok (.isub, 1) := by decide +kernel
theorem dX0_ringsToCome_42 : decode cX0_ringsToCome 42 = .ok (.invokestatic 44, 3) := by decide +kernel
theorem dX0_ringsToCome_45 : decode cX0_ringsToCome 45 = .ok (.iadd, 1) := by decide +kernel
theorem dX0_ringsToCome_46 : decode cX0_ringsToCome 46 = .ok (.istore 5, 2) := by decide +kernel
theorem dX0_ringsToCome_48 : decode cX0_ringsToCome 48 = .ok (.iinc 6 1, 3) := by decide +kernel
theorem dX0_ringsToCome_51 : decode cX0_ringsToCome 51 = .ok (.goto (-45), 3) := by decide +kernel
theorem dX0_ringsToCome_54 : decode cX0_ringsToCome 54 = .ok (.iload 5, 2) := by decide +kernel
theorem dX0_ringsToCome_56 : decode cX0_ringsToCome 56 = .ok (.ireturn, 1) := by decide +kernel
set_option maxRecDepth 20000 in
theorem ggX0_countFitting_X0_fitsDay : GoodIn wsX0_countFitting wsX0_fitsDay := goodIn_r _ [5, 6, 7, 8, 9, 4, 10, 11, 12, 13, 14, 15, 16, 33, 34, 35, 36, 37] (by decide +kernel) (by decide +kernel)
set_option maxRecDepth 20000 in
theorem gX0_countFitting_X0_fitsDay : GoodIn wsX0_countFitting (wsV RX0 50 RX0 yX0_fitsDay wsX0_fitsDay) := goodIn_app (goodIn_of _ (by decide +kernel)) ggX0_countFitting_X0_fitsDay
set_option maxRecDepth 20000 in
theorem ggX0_countFitting_X0_fitsHour : GoodIn wsX0_countFitting wsX0_fitsHour := goodIn_r _ [20, 21, 7, 8, 9, 4, 10, 11, 22, 13, 23, 24, 25, 33, 34, 35, 36, 37] (by decide +kernel) (by decide +kernel)
set_option maxRecDepth 20000 in
theorem gX0_countFitting_X0_fitsHour : GoodIn wsX0_countFitting (wsV RX0 54 RX0 yX0_fitsHour wsX0_fitsHour) := goodIn_app (goodIn_of _ (by decide +kernel)) ggX0_countFitting_X0_fitsHour
set_option maxRecDepth 20000 in
theorem ggX0_countFitting_X0_fitsMinute : GoodIn wsX0_countFitting wsX0_fitsMinute := goodIn_r _ [29, 30, 7, 8, 9, 4, 10, 11, 31, 13, 32, 24, 33, 34, 35, 36, 37] (by decide +kernel) (by decide +kernel)
set_option maxRecDepth 20000 in
theorem gX0_countFitting_X0_fitsMinute : GoodIn wsX0_countFitting (wsV RX0 57 RX0 yX0_fitsMinute wsX0_fitsMinute) := goodIn_app (goodIn_of _ (by decide +kernel)) ggX0_countFitting_X0_fitsMinute
theorem dX0_countFitting_0 : decode cX0_countFitting 0 = .ok (.iconst 0, 1) := by decide +kernel
theorem dX0_countFitting_1 : decode cX0_countFitting 1 = .ok (.istore 6, 2) := by decide +kernel
theorem dX0_countFitting_3 : decode cX0_countFitting 3 = .ok (.lload_n 2, 1) := by decide +kernel
theorem dX0_countFitting_4 : decode cX0_countFitting 4 = .ok (.lconst 1, 1) := by decide +kernel
theorem dX0_countFitting_5 : decode cX0_countFitting 5 = .ok (.ladd, 1) := by decide +kernel
theorem dX0_countFitting_6 : decode cX0_countFitting 6 = .ok (.lstore 7, 2) := by decide +kernel
theorem dX0_countFitting_8 : decode cX0_countFitting 8 = .ok (.lload 7, 2) := by decide +kernel
theorem dX0_countFitting_10 : decode cX0_countFitting 10 = .ok (.lload 4, 2) := by decide +kernel
theorem dX0_countFitting_12 : decode cX0_countFitting 12 = .ok (.lcmp, 1) := by decide +kernel
theorem dX0_countFitting_13 : decode cX0_countFitting 13 = .ok (.ifCond .gt 45, 3) := by decide +kernel
theorem dX0_countFitting_16 : decode cX0_countFitting 16 = .ok (.aload_n 0, 1) := by decide +kernel
theorem dX0_countFitting_17 : decode cX0_countFitting 17 = .ok (.iload_n 1, 1) := by decide +kernel
theorem dX0_countFitting_18 : decode cX0_countFitting 18 = .ok (.lload 7, 2) := by decide +kernel
theorem dX0_countFitting_20 : decode cX0_countFitting 20 = .ok (.invokevirtual 50, 3) := by decide +kernel
theorem dX0_countFitting_23 : decode cX0_countFitting 23 = .ok (.ifCond .eq 26, 3) := by decide +kernel
theorem dX0_countFitting_26 : decode cX0_countFitting 26 = .ok (.aload_n 0, 1) := by decide +kernel
theorem dX0_countFitting_27 : decode cX0_countFitting 27 = .ok (.iload_n 1, 1) := by decide +kernel
theorem dX0_countFitting_28 : decode cX0_countFitting 28 = .ok (.lload 7, 2) := by decide +kernel
theorem dX0_countFitting_30 : decode cX0_countFitting 30 = .ok (.invokevirtual 54, 3) := by decide +kernel
theorem dX0_countFitting_33 : decode cX0_countFitting 33 = .ok (.ifCond .eq 16, 3) := by decide +kernel
theorem dX0_countFitting_36 : decode cX0_countFitting 36 = .ok (.aload_n 0, 1) := by decide +kernel
theorem dX0_countFitting_37 : decode cX0_countFitting 37 = .ok (.iload_n 1, 1) := by decide +kernel
theorem dX0_countFitting_38 : decode cX0_countFitting 38 = .ok (.lload 7, 2) := by decide +kernel
theorem dX0_countFitting_40 : decode cX0_countFitting 40 = .ok (.invokevirtual 57, 3) := by decide +kernel
theorem dX0_countFitting_43 : decode cX0_countFitting 43 = .ok (.ifCond .eq 6, 3) := by decide +kernel
theorem dX0_countFitting_46 : decode cX0_countFitting 46 = .ok (.iinc 6 1, 3) := by decide +kernel
theorem dX0_countFitting_49 : decode cX0_countFitting 49 = .ok (.lload 7, 2) := by decide +kernel
theorem dX0_countFitting_51 : decode cX0_countFitting 51 = .ok (.lconst 1, 1) := by decide +kernel
theorem dX0_countFitting_52 : decode cX0_countFitting 52 = .ok (.ladd, 1) := by decide +kernel
theorem dX0_countFitting_53 : decode cX0_countFitting 53 = .ok (.lstore 7, 2) := by decide +kernel
theorem dX0_countFitting_55 : decode cX0_countFitting 55 = .ok (.goto (-47), 3) := by decide +kernel
theorem dX0_countFitting_58 : decode cX0_countFitting 58 = .ok (.iload 6, 2) := by decide +kernel
theorem dX0_countFitting_60 : decode cX0_countFitting 60 = .ok (.ireturn, 1) := by decide +kernel
set_option maxRecDepth 20000 in
theorem ggX0_nextFit_X0_fitsDay : GoodIn wsX0_nextFit wsX0_fitsDay := goodIn_r _ [8, 9, 10, 11, 12, 7, 13, 14, 15, 16, 17, 18, 19, 36, 37, 38, 39, 40] (by decide +kernel) (by decide +kernel)
set_option maxRecDepth 20000 in
theorem gX0_nextFit_X0_fitsDay : GoodIn wsX0_nextFit (wsV RX0 50 RX0 yX0_fitsDay wsX0_fitsDay) := goodIn_app (goodIn_of _ (by decide +kernel)) ggX0_nextFit_X0_fitsDay
set_option maxRecDepth 20000 in
theorem ggX0_nextFit_X0_fitsHour : GoodIn wsX0_nextFit wsX0_fitsHour := goodIn_r _ [23, 24, 10, 11, 12, 7, 13, 14, 25, 16, 26, 27, 28, 36, 37, 38, 39, 40] (by decide +kernel) (by decide +kernel)
set_option maxRecDepth 20000 in
theorem gX0_nextFit_X0_fitsHour : GoodIn wsX0_nextFit (wsV RX0 54 RX0 yX0_fitsHour wsX0_fitsHour) := goodIn_app (goodIn_of _ (by decide +kernel)) ggX0_nextFit_X0_fitsHour
set_option maxRecDepth 20000 in
theorem ggX0_nextFit_X0_fitsMinute : GoodIn wsX0_nextFit wsX0_fitsMinute := goodIn_r _ [32, 33, 10, 11, 12, 7, 13, 14, 34, 16, 35, 27, 36, 37, 38, 39, 40] (by decide +kernel) (by decide +kernel)
set_option maxRecDepth 20000 in
theorem gX0_nextFit_X0_fitsMinute : GoodIn wsX0_nextFit (wsV RX0 57 RX0 yX0_fitsMinute wsX0_fitsMinute) := goodIn_app (goodIn_of _ (by decide +kernel)) ggX0_nextFit_X0_fitsMinute
theorem dX0_nextFit_0 : decode cX0_nextFit 0 = .ok (.lload_n 2, 1) := by decide +kernel
theorem dX0_nextFit_1 : decode cX0_nextFit 1 = .ok (.lconst 1, 1) := by decide +kernel
theorem dX0_nextFit_2 : decode cX0_nextFit 2 = .ok (.ladd, 1) := by decide +kernel
theorem dX0_nextFit_3 : decode cX0_nextFit 3 = .ok (.lstore 4, 2) := by decide +kernel
theorem dX0_nextFit_5 : decode cX0_nextFit 5 = .ok (.iconst 0, 1) := by decide +kernel
theorem dX0_nextFit_6 : decode cX0_nextFit 6 = .ok (.istore 6, 2) := by decide +kernel
theorem dX0_nextFit_8 : decode cX0_nextFit 8 = .ok (.iload 6, 2) := by decide +kernel
theorem dX0_nextFit_10 : decode cX0_nextFit 10 = .ok (.sipush 1000, 3) := by decide +kernel
theorem dX0_nextFit_13 : decode cX0_nextFit 13 = .ok (.if_icmp .ge 85, 3) := by decide +kernel
theorem dX0_nextFit_16 : decode cX0_nextFit 16 = .ok (.aload_n 0, 1) := by decide +kernel
theorem dX0_nextFit_17 : decode cX0_nextFit 17 = .ok (.iload_n 1, 1) := by decide +kernel
theorem dX0_nextFit_18 : decode cX0_nextFit 18 = .ok (.lload 4, 2) := by decide +kernel
theorem dX0_nextFit_20 : decode cX0_nextFit 20 = .ok (.invokevirtual 50, 3) := by decide +kernel
theorem dX0_nextFit_23 : decode cX0_nextFit 23 = .ok (.ifCond .ne 20, 3) := by decide +kernel
theorem dX0_nextFit_26 : decode cX0_nextFit 26 = .ok (.lload 4, 2) := by decide +kernel
theorem dX0_nextFit_28 : decode cX0_nextFit 28 = .ok (.ldc2_w 60, 3) := by decide +kernel
theorem dX0_nextFit_31 : decode cX0_nextFit 31 = .ok (.ldiv, 1) := by decide +kernel
theorem dX0_nextFit_32 : decode cX0_nextFit 32 = .ok (.lconst 1, 1) := by decide +kernel
theorem dX0_nextFit_33 : decode cX0_nextFit 33 = .ok (.ladd, 1) := by decide +kernel
theorem dX0_nextFit_34 : decode cX0_nextFit 34 = .ok (.ldc2_w 60, 3) := by decide +kernel
theorem dX0_nextFit_37 : decode cX0_nextFit 37 = .ok (.lmul, 1) := by decide +kernel
theorem dX0_nextFit_38 : decode cX0_nextFit 38 = .ok (.lstore 4, 2) := by decide +kernel
theorem dX0_nextFit_40 : decode cX0_nextFit 40 = .ok (.goto 52, 3) := by decide +kernel
theorem dX0_nextFit_43 : decode cX0_nextFit 43 = .ok (.aload_n 0, 1) := by decide +kernel
theorem dX0_nextFit_44 : decode cX0_nextFit 44 = .ok (.iload_n 1, 1) := by decide +kernel
theorem dX0_nextFit_45 : decode cX0_nextFit 45 = .ok (.lload 4, 2) := by decide +kernel
theorem dX0_nextFit_47 : decode cX0_nextFit 47 = .ok (.invokevirtual 54, 3) := by decide +kernel
theorem dX0_nextFit_50 : decode cX0_nextFit 50 = .ok (.ifCond .ne 20, 3) := by decide +kernel
theorem dX0_nextFit_53 : decode cX0_nextFit 53 = .ok (.lload 4, 2) := by decide +kernel
theorem dX0_nextFit_55 : decode cX0_nextFit 55 = .ok (.ldc2_w 62, 3) := by decide +kernel
theorem dX0_nextFit_58 : decode cX0_nextFit 58 = .ok (.ldiv, 1) := by decide +kernel
theorem dX0_nextFit_59 : decode cX0_nextFit 59 = .ok (.lconst 1, 1) := by decide +kernel
theorem dX0_nextFit_60 : decode cX0_nextFit 60 = .ok (.ladd, 1) := by decide +kernel
theorem dX0_nextFit_61 : decode cX0_nextFit 61 = .ok (.ldc2_w 62, 3) := by decide +kernel
theorem dX0_nextFit_64 : decode cX0_nextFit 64 = .ok (.lmul, 1) := by decide +kernel
theorem dX0_nextFit_65 : decode cX0_nextFit 65 = .ok (.lstore 4, 2) := by decide +kernel
theorem dX0_nextFit_67 : decode cX0_nextFit 67 = .ok (.goto 25, 3) := by decide +kernel
theorem dX0_nextFit_70 : decode cX0_nextFit 70 = .ok (.aload_n 0, 1) := by decide +kernel
theorem dX0_nextFit_71 : decode cX0_nextFit 71 = .ok (.iload_n 1, 1) := by decide +kernel
theorem dX0_nextFit_72 : decode cX0_nextFit 72 = .ok (.lload 4, 2) := by decide +kernel
theorem dX0_nextFit_74 : decode cX0_nextFit 74 = .ok (.invokevirtual 57, 3) := by decide +kernel
theorem dX0_nextFit_77 : decode cX0_nextFit 77 = .ok (.ifCond .ne 12, 3) := by decide +kernel
theorem dX0_nextFit_80 : decode cX0_nextFit 80 = .ok (.lload 4, 2) := by decide +kernel
theorem dX0_nextFit_82 : decode cX0_nextFit 82 = .ok (.lconst 1, 1) := by decide +kernel
theorem dX0_nextFit_83 : decode cX0_nextFit 83 = .ok (.ladd, 1) := by decide +kernel
theorem dX0_nextFit_84 : decode cX0_nextFit 84 = .ok (.lstore 4, 2) := by decide +kernel
theorem dX0_nextFit_86 : decode cX0_nextFit 86 = .ok (.goto 6, 3) := by decide +kernel
theorem dX0_nextFit_89 : decode cX0_nextFit 89 = .ok (.lload 4, 2) := by decide +kernel
theorem dX0_nextFit_91 : decode cX0_nextFit 91 = .ok (.lreturn, 1) := by decide +kernel
theorem dX0_nextFit_92 : decode cX0_nextFit 92 = .ok (.iinc 6 1, 3) := by decide +kernel
theorem dX0_nextFit_95 : decode cX0_nextFit 95 = .ok (.goto (-87), 3) := by decide +kernel
theorem dX0_nextFit_98 : decode cX0_nextFit 98 = .ok (.ldc2_w 64, 3) := by decide +kernel
theorem dX0_nextFit_101 : decode cX0_nextFit 101 = .ok (.lreturn, 1) := by decide +kernel
set_option maxRecDepth 20000 in
theorem ggX0_fitsDay_X0_has : GoodIn wsX0_fitsDay wsX0_has := goodIn_r _ [6, 7, 13, 14, 15, 16, 17] (by decide +kernel) (by decide +kernel)
set_option maxRecDepth 20000 in
theorem gX0_fitsDay_X0_has : GoodIn wsX0_fitsDay (wsV RX0 35 RX0 yX0_has wsX0_has) := goodIn_app (goodIn_of _ (by decide +kernel)) ggX0_fitsDay_X0_has
set_option maxRecDepth 20000 in
theorem ggX0_fitsDay_X2_weekdayOf : GoodIn wsX0_fitsDay wsX2_weekdayOf := goodIn_r _ [10, 11, 12] (by decide +kernel) (by decide +kernel)
set_option maxRecDepth 20000 in
theorem gX0_fitsDay_X2_weekdayOf_n66 : GoodIn wsX0_fitsDay (wsX2_weekdayOf) := ggX0_fitsDay_X2_weekdayOf
theorem dX0_fitsDay_0 : decode cX0_fitsDay 0 = .ok (.aload_n 0, 1) := by decide +kernel
theorem dX0_fitsDay_1 : decode cX0_fitsDay 1 = .ok (.iload_n 1, 1) := by decide +kernel
theorem dX0_fitsDay_2 : decode cX0_fitsDay 2 = .ok (.invokevirtual 35, 3) := by decide +kernel
theorem dX0_fitsDay_5 : decode cX0_fitsDay 5 = .ok (.ifCond .eq 30, 3) := by decide +kernel
theorem dX0_fitsDay_8 : decode cX0_fitsDay 8 = .ok (.aload_n 0, 1) := by decide +kernel
theorem dX0_fitsDay_9 : decode cX0_fitsDay 9 = .ok (.getfield 22, 3) := by decide +kernel
theorem dX0_fitsDay_12 : decode cX0_fitsDay 12 = .ok (.iload_n 1, 1) := by decide +kernel
theorem dX0_fitsDay_13 : decode cX0_fitsDay 13 = .ok (.iaload, 1) := by decide +kernel
theorem dX0_fitsDay_14 : decode cX0_fitsDay 14 = .ok (.iconst (-1), 1) := by decide +kernel
theorem dX0_fitsDay_15 : decode cX0_fitsDay 15 = .ok (.if_icmp .eq 16, 3) := by decide +kernel
theorem dX0_fitsDay_18 : decode cX0_fitsDay 18 = .ok (.aload_n 0, 1) := by decide +kernel
theorem dX0_fitsDay_19 : decode cX0_fitsDay 19 = .ok (.getfield 22, 3) := by decide +kernel
theorem dX0_fitsDay_22 : decode cX0_fitsDay 22 = .ok (.iload_n 1, 1) := by decide +kernel
theorem dX0_fitsDay_23 : decode cX0_fitsDay 23 = .ok (.iaload, 1) := by decide +kernel
theorem dX0_fitsDay_24 : decode cX0_fitsDay 24 = .ok (.lload_n 2, 1) := by decide +kernel
theorem dX0_fitsDay_25 : decode cX0_fitsDay 25 = .ok (.invokestatic 66, 3) := by decide +kernel
theorem dX0_fitsDay_28 : decode cX0_fitsDay 28 = .ok (.if_icmp .ne 7, 3) := by decide +kernel
theorem dX0_fitsDay_31 : decode cX0_fitsDay 31 = .ok (.iconst 1, 1) := by decide +kernel
theorem dX0_fitsDay_32 : decode cX0_fitsDay 32 = .ok (.goto 4, 3) := by decide +kernel
theorem dX0_fitsDay_35 : decode cX0_fitsDay 35 = .ok (.iconst 0, 1) := by decide +kernel
theorem dX0_fitsDay_36 : decode cX0_fitsDay 36 = .ok (.ireturn, 1) := by decide +kernel
set_option maxRecDepth 20000 in
theorem ggX0_fitsHour_X0_has : GoodIn wsX0_fitsHour wsX0_has := goodIn_r _ [6, 7, 13, 14, 15, 16, 17] (by decide +kernel) (by decide +kernel)
set_option maxRecDepth 20000 in
theorem gX0_fitsHour_X0_has : GoodIn wsX0_fitsHour (wsV RX0 35 RX0 yX0_has wsX0_has) := goodIn_app (goodIn_of _ (by decide +kernel)) ggX0_fitsHour_X0_has
set_option maxRecDepth 20000 in
theorem ggX0_fitsHour_X2_hourOf : GoodIn wsX0_fitsHour wsX2_hourOf := goodIn_r _ [10, 11, 12] (by decide +kernel) (by decide +kernel)
set_option maxRecDepth 20000 in
theorem gX0_fitsHour_X2_hourOf_n70 : GoodIn wsX0_fitsHour (wsX2_hourOf) := ggX0_fitsHour_X2_hourOf
theorem dX0_fitsHour_0 : decode cX0_fitsHour 0 = .ok (.aload_n 0, 1) := by decide +kernel
theorem dX0_fitsHour_1 : decode cX0_fitsHour 1 = .ok (.iload_n 1, 1) := by decide +kernel
theorem dX0_fitsHour_2 : decode cX0_fitsHour 2 = .ok (.invokevirtual 35, 3) := by decide +kernel
theorem dX0_fitsHour_5 : decode cX0_fitsHour 5 = .ok (.ifCond .eq 30, 3) := by decide +kernel
theorem dX0_fitsHour_8 : decode cX0_fitsHour 8 = .ok (.aload_n 0, 1) := by decide +kernel
theorem dX0_fitsHour_9 : decode cX0_fitsHour 9 = .ok (.getfield 19, 3) := by decide +kernel
theorem dX0_fitsHour_12 : decode cX0_fitsHour 12 = .ok (.iload_n 1, 1) := by decide +kernel
theorem dX0_fitsHour_13 : decode cX0_fitsHour 13 = .ok (.iaload, 1) := by decide +kernel
theorem dX0_fitsHour_14 : decode cX0_fitsHour 14 = .ok (.iconst (-1), 1) := by decide +kernel
theorem dX0_fitsHour_15 : decode cX0_fitsHour 15 = .ok (.if_icmp .eq 16, 3) := by decide +kernel
theorem dX0_fitsHour_18 : decode cX0_fitsHour 18 = .ok (.aload_n 0, 1) := by decide +kernel
theorem dX0_fitsHour_19 : decode cX0_fitsHour 19 = .ok (.getfield 19, 3) := by decide +kernel
theorem dX0_fitsHour_22 : decode cX0_fitsHour 22 = .ok (.iload_n 1, 1) := by decide +kernel
theorem dX0_fitsHour_23 : decode cX0_fitsHour 23 = .ok (.iaload, 1) := by decide +kernel
theorem dX0_fitsHour_24 : decode cX0_fitsHour 24 = .ok (.lload_n 2, 1) := by decide +kernel
theorem dX0_fitsHour_25 : decode cX0_fitsHour 25 = .ok (.invokestatic 70, 3) := by decide +kernel
theorem dX0_fitsHour_28 : decode cX0_fitsHour 28 = .ok (.if_icmp .ne 7, 3) := by decide +kernel
theorem dX0_fitsHour_31 : decode cX0_fitsHour 31 = .ok (.iconst 1, 1) := by decide +kernel
theorem dX0_fitsHour_32 : decode cX0_fitsHour 32 = .ok (.goto 4, 3) := by decide +kernel
theorem dX0_fitsHour_35 : decode cX0_fitsHour 35 = .ok (.iconst 0, 1) := by decide +kernel
theorem dX0_fitsHour_36 : decode cX0_fitsHour 36 = .ok (.ireturn, 1) := by decide +kernel
set_option maxRecDepth 20000 in
theorem ggX0_fitsMinute_X0_has : GoodIn wsX0_fitsMinute wsX0_has := goodIn_r _ [6, 7, 12, 13, 14, 15, 16] (by decide +kernel) (by decide +kernel)
set_option maxRecDepth 20000 in
theorem gX0_fitsMinute_X0_has : GoodIn wsX0_fitsMinute (wsV RX0 35 RX0 yX0_has wsX0_has) := goodIn_app (goodIn_of _ (by decide +kernel)) ggX0_fitsMinute_X0_has
set_option maxRecDepth 20000 in
theorem ggX0_fitsMinute_X2_minuteOf : GoodIn wsX0_fitsMinute wsX2_minuteOf := goodIn_r _ [10, 11] (by decide +kernel) (by decide +kernel)
set_option maxRecDepth 20000 in
theorem gX0_fitsMinute_X2_minuteOf_n73 : GoodIn wsX0_fitsMinute (wsX2_minuteOf) := ggX0_fitsMinute_X2_minuteOf
theorem dX0_fitsMinute_0 : decode cX0_fitsMinute 0 = .ok (.aload_n 0, 1) := by decide +kernel
theorem dX0_fitsMinute_1 : decode cX0_fitsMinute 1 = .ok (.iload_n 1, 1) := by decide +kernel
theorem dX0_fitsMinute_2 : decode cX0_fitsMinute 2 = .ok (.invokevirtual 35, 3) := by decide +kernel
theorem dX0_fitsMinute_5 : decode cX0_fitsMinute 5 = .ok (.ifCond .eq 30, 3) := by decide +kernel
theorem dX0_fitsMinute_8 : decode cX0_fitsMinute 8 = .ok (.aload_n 0, 1) := by decide +kernel
theorem dX0_fitsMinute_9 : decode cX0_fitsMinute 9 = .ok (.getfield 15, 3) := by decide +kernel
theorem dX0_fitsMinute_12 : decode cX0_fitsMinute 12 = .ok (.iload_n 1, 1) := by decide +kernel
theorem dX0_fitsMinute_13 : decode cX0_fitsMinute 13 = .ok (.iaload, 1) := by decide +kernel
theorem dX0_fitsMinute_14 : decode cX0_fitsMinute 14 = .ok (.iconst (-1), 1) := by decide +kernel
theorem dX0_fitsMinute_15 : decode cX0_fitsMinute 15 = .ok (.if_icmp .eq 16, 3) := by decide +kernel
theorem dX0_fitsMinute_18 : decode cX0_fitsMinute 18 = .ok (.aload_n 0, 1) := by decide +kernel
theorem dX0_fitsMinute_19 : decode cX0_fitsMinute 19 = .ok (.getfield 15, 3) := by decide +kernel
theorem dX0_fitsMinute_22 : decode cX0_fitsMinute 22 = .ok (.iload_n 1, 1) := by decide +kernel
theorem dX0_fitsMinute_23 : decode cX0_fitsMinute 23 = .ok (.iaload, 1) := by decide +kernel
theorem dX0_fitsMinute_24 : decode cX0_fitsMinute 24 = .ok (.lload_n 2, 1) := by decide +kernel
theorem dX0_fitsMinute_25 : decode cX0_fitsMinute 25 = .ok (.invokestatic 73, 3) := by decide +kernel
theorem dX0_fitsMinute_28 : decode cX0_fitsMinute 28 = .ok (.if_icmp .ne 7, 3) := by decide +kernel
theorem dX0_fitsMinute_31 : decode cX0_fitsMinute 31 = .ok (.iconst 1, 1) := by decide +kernel
theorem dX0_fitsMinute_32 : decode cX0_fitsMinute 32 = .ok (.goto 4, 3) := by decide +kernel
theorem dX0_fitsMinute_35 : decode cX0_fitsMinute 35 = .ok (.iconst 0, 1) := by decide +kernel
theorem dX0_fitsMinute_36 : decode cX0_fitsMinute 36 = .ok (.ireturn, 1) := by decide +kernel
set_option maxRecDepth 20000 in
theorem ggX1_init_X0_init : GoodIn wsX1_init wsX0_init := goodIn_r _ [27, 28, 2, 3, 29, 20, 30, 31, 32, 33, 52, 53, 54, 55, 56] (by decide +kernel) (by decide +kernel)
set_option maxRecDepth 20000 in
theorem gX1_init_X0_init_n68 : GoodIn wsX1_init (wsX0_init) := ggX1_init_X0_init
theorem dX1_init_0 : decode cX1_init 0 = .ok (.aload_n 0, 1) := by decide +kernel
theorem dX1_init_1 : decode cX1_init 1 = .ok (.invokespecial 3, 3) := by decide +kernel
theorem dX1_init_4 : decode cX1_init 4 = .ok (.aload_n 0, 1) := by decide +kernel
theorem dX1_init_5 : decode cX1_init 5 = .ok (.lconst 0, 1) := by decide +kernel
theorem dX1_init_6 : decode cX1_init 6 = .ok (.putfield 9, 3) := by decide +kernel
theorem dX1_init_9 : decode cX1_init 9 = .ok (.aload_n 0, 1) := by decide +kernel
theorem dX1_init_10 : decode cX1_init 10 = .ok (.lconst 0, 1) := by decide +kernel
theorem dX1_init_11 : decode cX1_init 11 = .ok (.putfield 15, 3) := by decide +kernel
theorem dX1_init_14 : decode cX1_init 14 = .ok (.aload_n 0, 1) := by decide +kernel
theorem dX1_init_15 : decode cX1_init 15 = .ok (.lconst 0, 1) := by decide +kernel
theorem dX1_init_16 : decode cX1_init 16 = .ok (.putfield 18, 3) := by decide +kernel
theorem dX1_init_19 : decode cX1_init 19 = .ok (.aload_n 0, 1) := by decide +kernel
theorem dX1_init_20 : decode cX1_init 20 = .ok (.bipush 25, 2) := by decide +kernel
theorem dX1_init_22 : decode cX1_init 22 = .ok (.putfield 21, 3) := by decide +kernel
theorem dX1_init_25 : decode cX1_init 25 = .ok (.aload_n 0, 1) := by decide +kernel
theorem dX1_init_26 : decode cX1_init 26 = .ok (.bipush 25, 2) := by decide +kernel
theorem dX1_init_28 : decode cX1_init 28 = .ok (.putfield 25, 3) := by decide +kernel
theorem dX1_init_31 : decode cX1_init 31 = .ok (.aload_n 0, 1) := by decide +kernel
theorem dX1_init_32 : decode cX1_init 32 = .ok (.iconst 3, 1) := by decide +kernel
theorem dX1_init_33 : decode cX1_init 33 = .ok (.putfield 28, 3) := by decide +kernel
theorem dX1_init_36 : decode cX1_init 36 = .ok (.aload_n 0, 1) := by decide +kernel
theorem dX1_init_37 : decode cX1_init 37 = .ok (.iconst 0, 1) := by decide +kernel
theorem dX1_init_38 : decode cX1_init 38 = .ok (.putfield 31, 3) := by decide +kernel
theorem dX1_init_41 : decode cX1_init 41 = .ok (.aload_n 0, 1) := by decide +kernel
theorem dX1_init_42 : decode cX1_init 42 = .ok (.iconst 0, 1) := by decide +kernel
theorem dX1_init_43 : decode cX1_init 43 = .ok (.putfield 34, 3) := by decide +kernel
theorem dX1_init_46 : decode cX1_init 46 = .ok (.aload_n 0, 1) := by decide +kernel
theorem dX1_init_47 : decode cX1_init 47 = .ok (.bipush 20, 2) := by decide +kernel
theorem dX1_init_49 : decode cX1_init 49 = .ok (.putfield 37, 3) := by decide +kernel
theorem dX1_init_52 : decode cX1_init 52 = .ok (.aload_n 0, 1) := by decide +kernel
theorem dX1_init_53 : decode cX1_init 53 = .ok (.iconst 0, 1) := by decide +kernel
theorem dX1_init_54 : decode cX1_init 54 = .ok (.putfield 40, 3) := by decide +kernel
theorem dX1_init_57 : decode cX1_init 57 = .ok (.aload_n 0, 1) := by decide +kernel
theorem dX1_init_58 : decode cX1_init 58 = .ok (.sipush 160, 3) := by decide +kernel
theorem dX1_init_61 : decode cX1_init 61 = .ok (.putfield 43, 3) := by decide +kernel
theorem dX1_init_64 : decode cX1_init 64 = .ok (.aload_n 0, 1) := by decide +kernel
theorem dX1_init_65 : decode cX1_init 65 = .ok (.iconst 1, 1) := by decide +kernel
theorem dX1_init_66 : decode cX1_init 66 = .ok (.putfield 46, 3) := by decide +kernel
theorem dX1_init_69 : decode cX1_init 69 = .ok (.aload_n 0, 1) := by decide +kernel
theorem dX1_init_70 : decode cX1_init 70 = .ok (.iconst 0, 1) := by decide +kernel
theorem dX1_init_71 : decode cX1_init 71 = .ok (.putfield 50, 3) := by decide +kernel
theorem dX1_init_74 : decode cX1_init 74 = .ok (.aload_n 0, 1) := by decide +kernel
theorem dX1_init_75 : decode cX1_init 75 = .ok (.iconst 0, 1) := by decide +kernel
theorem dX1_init_76 : decode cX1_init 76 = .ok (.putfield 53, 3) := by decide +kernel
theorem dX1_init_79 : decode cX1_init 79 = .ok (.aload_n 0, 1) := by decide +kernel
theorem dX1_init_80 : decode cX1_init 80 = .ok (.iconst 0, 1) := by decide +kernel
theorem dX1_init_81 : decode cX1_init 81 = .ok (.putfield 56, 3) := by decide +kernel
theorem dX1_init_84 : decode cX1_init 84 = .ok (.aload_n 0, 1) := by decide +kernel
theorem dX1_init_85 : decode cX1_init 85 = .ok (.iconst 0, 1) := by decide +kernel
theorem dX1_init_86 : decode cX1_init 86 = .ok (.putfield 59, 3) := by decide +kernel
theorem dX1_init_89 : decode cX1_init 89 = .ok (.aload_n 0, 1) := by decide +kernel
theorem dX1_init_90 : decode cX1_init 90 = .ok (.bipush 9, 2) := by decide +kernel
theorem dX1_init_92 : decode cX1_init 92 = .ok (.newarray .int, 2) := by decide +kernel
theorem dX1_init_94 : decode cX1_init 94 = .ok (.putfield 62, 3) := by decide +kernel
theorem dX1_init_97 : decode cX1_init 97 = .ok (.aload_n 0, 1) := by decide +kernel
theorem dX1_init_98 : decode cX1_init 98 = .ok (.new 66, 3) := by decide +kernel
theorem dX1_init_101 : decode cX1_init 101 = .ok (.dup, 1) := by decide +kernel
theorem dX1_init_102 : decode cX1_init 102 = .ok (.invokespecial 68, 3) := by decide +kernel
theorem dX1_init_105 : decode cX1_init 105 = .ok (.putfield 69, 3) := by decide +kernel
theorem dX1_init_108 : decode cX1_init 108 = .ok (.return_, 1) := by decide +kernel
set_option maxRecDepth 20000 in
theorem ggX1_copyFrom_X0_copyFrom : GoodIn wsX1_copyFrom wsX0_copyFrom := goodIn_r _ [27, 28, 29, 30, 19, 20, 21, 31, 32, 33, 52, 53, 54, 55, 56] (by decide +kernel) (by decide +kernel)
set_option maxRecDepth 20000 in
theorem gX1_copyFrom_X0_copyFrom : GoodIn wsX1_copyFrom (wsV RX1 79 RX0 yX0_copyFrom wsX0_copyFrom) := goodIn_app (goodIn_of _ (by decide +kernel)) ggX1_copyFrom_X0_copyFrom
theorem dX1_copyFrom_0 : decode cX1_copyFrom 0 = .ok (.aload_n 0, 1) := by decide +kernel
theorem dX1_copyFrom_1 : decode cX1_copyFrom 1 = .ok (.aload_n 1, 1) := by decide +kernel
theorem dX1_copyFrom_2 : decode cX1_copyFrom 2 = .ok (.getfield 9, 3) := by decide +kernel
theorem dX1_copyFrom_5 : decode cX1_copyFrom 5 = .ok (.putfield 9, 3) := by decide +kernel
theorem dX1_copyFrom_8 : decode cX1_copyFrom 8 = .ok (.aload_n 0, 1) := by decide +kernel
theorem dX1_copyFrom_9 : decode cX1_copyFrom 9 = .ok (.aload_n 1, 1) := by decide +kernel
theorem dX1_copyFrom_10 : decode cX1_copyFrom 10 = .ok (.getfield 15, 3) := by decide +kernel
theorem dX1_copyFrom_13 : decode cX1_copyFrom 13 = .ok (.putfield 15, 3) := by decide +kernel
theorem dX1_copyFrom_16 : decode cX1_copyFrom 16 = .ok (.aload_n 0, 1) := by decide +kernel
theorem dX1_copyFrom_17 : decode cX1_copyFrom 17 = .ok (.aload_n 1, 1) := by decide +kernel
theorem dX1_copyFrom_18 : decode cX1_copyFrom 18 = .ok (.getfield 18, 3) := by decide +kernel
theorem dX1_copyFrom_21 : decode cX1_copyFrom 21 = .ok (.putfield 18, 3) := by decide +kernel
theorem dX1_copyFrom_24 : decode cX1_copyFrom 24 = .ok (.aload_n 0, 1) := by decide +kernel
theorem dX1_copyFrom_25 : decode cX1_copyFrom 25 = .ok (.aload_n 1, 1) := by decide +kernel
theorem dX1_copyFrom_26 : decode cX1_copyFrom 26 = .ok (.getfield 21, 3) := by decide +kernel
theorem dX1_copyFrom_29 : decode cX1_copyFrom 29 = .ok (.putfield 21, 3) := by decide +kernel
theorem dX1_copyFrom_32 : decode cX1_copyFrom 32 = .ok (.aload_n 0, 1) := by decide +kernel
theorem dX1_copyFrom_33 : decode cX1_copyFrom 33 = .ok (.aload_n 1, 1) := by decide +kernel
theorem dX1_copyFrom_34 : decode cX1_copyFrom 34 = .ok (.getfield 25, 3) := by decide +kernel
theorem dX1_copyFrom_37 : decode cX1_copyFrom 37 = .ok (.putfield 25, 3) := by decide +kernel
theorem dX1_copyFrom_40 : decode cX1_copyFrom 40 = .ok (.aload_n 0, 1) := by decide +kernel
theorem dX1_copyFrom_41 : decode cX1_copyFrom 41 = .ok (.aload_n 1, 1) := by decide +kernel
theorem dX1_copyFrom_42 : decode cX1_copyFrom 42 = .ok (.getfield 28, 3) := by decide +kernel
theorem dX1_copyFrom_45 : decode cX1_copyFrom 45 = .ok (.putfield 28, 3) := by decide +kernel
theorem dX1_copyFrom_48 : decode cX1_copyFrom 48 = .ok (.aload_n 0, 1) := by decide +kernel
theorem dX1_copyFrom_49 : decode cX1_copyFrom 49 = .ok (.aload_n 1, 1) := by decide +kernel
theorem dX1_copyFrom_50 : decode cX1_copyFrom 50 = .ok (.getfield 31, 3) := by decide +kernel
theorem dX1_copyFrom_53 : decode cX1_copyFrom 53 = .ok (.putfield 31, 3) := by decide +kernel
theorem dX1_copyFrom_56 : decode cX1_copyFrom 56 = .ok (.aload_n 0, 1) := by decide +kernel
theorem dX1_copyFrom_57 : decode cX1_copyFrom 57 = .ok (.aload_n 1, 1) := by decide +kernel
theorem dX1_copyFrom_58 : decode cX1_copyFrom 58 = .ok (.getfield 34, 3) := by decide +kernel
theorem dX1_copyFrom_61 : decode cX1_copyFrom 61 = .ok (.putfield 34, 3) := by decide +kernel
theorem dX1_copyFrom_64 : decode cX1_copyFrom 64 = .ok (.aload_n 0, 1) := by decide +kernel
theorem dX1_copyFrom_65 : decode cX1_copyFrom 65 = .ok (.aload_n 1, 1) := by decide +kernel
theorem dX1_copyFrom_66 : decode cX1_copyFrom 66 = .ok (.getfield 37, 3) := by decide +kernel
theorem dX1_copyFrom_69 : decode cX1_copyFrom 69 = .ok (.putfield 37, 3) := by decide +kernel
theorem dX1_copyFrom_72 : decode cX1_copyFrom 72 = .ok (.aload_n 0, 1) := by decide +kernel
theorem dX1_copyFrom_73 : decode cX1_copyFrom 73 = .ok (.aload_n 1, 1) := by decide +kernel
theorem dX1_copyFrom_74 : decode cX1_copyFrom 74 = .ok (.getfield 40, 3) := by decide +kernel
theorem dX1_copyFrom_77 : decode cX1_copyFrom 77 = .ok (.putfield 40, 3) := by decide +kernel
theorem dX1_copyFrom_80 : decode cX1_copyFrom 80 = .ok (.aload_n 0, 1) := by decide +kernel
theorem dX1_copyFrom_81 : decode cX1_copyFrom 81 = .ok (.aload_n 1, 1) := by decide +kernel
theorem dX1_copyFrom_82 : decode cX1_copyFrom 82 = .ok (.getfield 43, 3) := by decide +kernel
theorem dX1_copyFrom_85 : decode cX1_copyFrom 85 = .ok (.putfield 43, 3) := by decide +kernel
theorem dX1_copyFrom_88 : decode cX1_copyFrom 88 = .ok (.aload_n 0, 1) := by decide +kernel
theorem dX1_copyFrom_89 : decode cX1_copyFrom 89 = .ok (.aload_n 1, 1) := by decide +kernel
theorem dX1_copyFrom_90 : decode cX1_copyFrom 90 = .ok (.getfield 46, 3) := by decide +kernel
theorem dX1_copyFrom_93 : decode cX1_copyFrom 93 = .ok (.putfield 46, 3) := by decide +kernel
theorem dX1_copyFrom_96 : decode cX1_copyFrom 96 = .ok (.aload_n 0, 1) := by decide +kernel
theorem dX1_copyFrom_97 : decode cX1_copyFrom 97 = .ok (.aload_n 1, 1) := by decide +kernel
theorem dX1_copyFrom_98 : decode cX1_copyFrom 98 = .ok (.getfield 50, 3) := by decide +kernel
theorem dX1_copyFrom_101 : decode cX1_copyFrom 101 = .ok (.putfield 50, 3) := by decide +kernel
theorem dX1_copyFrom_104 : decode cX1_copyFrom 104 = .ok (.aload_n 0, 1) := by decide +kernel
theorem dX1_copyFrom_105 : decode cX1_copyFrom 105 = .ok (.aload_n 1, 1) := by decide +kernel
theorem dX1_copyFrom_106 : decode cX1_copyFrom 106 = .ok (.getfield 53, 3) := by decide +kernel
theorem dX1_copyFrom_109 : decode cX1_copyFrom 109 = .ok (.putfield 53, 3) := by decide +kernel
theorem dX1_copyFrom_112 : decode cX1_copyFrom 112 = .ok (.aload_n 0, 1) := by decide +kernel
theorem dX1_copyFrom_113 : decode cX1_copyFrom 113 = .ok (.aload_n 1, 1) := by decide +kernel
theorem dX1_copyFrom_114 : decode cX1_copyFrom 114 = .ok (.getfield 56, 3) := by decide +kernel
theorem dX1_copyFrom_117 : decode cX1_copyFrom 117 = .ok (.putfield 56, 3) := by decide +kernel
theorem dX1_copyFrom_120 : decode cX1_copyFrom 120 = .ok (.aload_n 0, 1) := by decide +kernel
theorem dX1_copyFrom_121 : decode cX1_copyFrom 121 = .ok (.aload_n 1, 1) := by decide +kernel
theorem dX1_copyFrom_122 : decode cX1_copyFrom 122 = .ok (.getfield 59, 3) := by decide +kernel
theorem dX1_copyFrom_125 : decode cX1_copyFrom 125 = .ok (.putfield 59, 3) := by decide +kernel
theorem dX1_copyFrom_128 : decode cX1_copyFrom 128 = .ok (.aload_n 1, 1) := by decide +kernel
theorem dX1_copyFrom_129 : decode cX1_copyFrom 129 = .ok (.getfield 62, 3) := by decide +kernel
theorem dX1_copyFrom_132 : decode cX1_copyFrom 132 = .ok (.iconst 0, 1) := by decide +kernel
theorem dX1_copyFrom_133 : decode cX1_copyFrom 133 = .ok (.aload_n 0, 1) := by decide +kernel
theorem dX1_copyFrom_134 : decode cX1_copyFrom 134 = .ok (.getfield 62, 3) := by decide +kernel
theorem dX1_copyFrom_137 : decode cX1_copyFrom 137 = .ok (.iconst 0, 1) := by decide +kernel
theorem dX1_copyFrom_138 : decode cX1_copyFrom 138 = .ok (.bipush 9, 2) := by decide +kernel
theorem dX1_copyFrom_140 : decode cX1_copyFrom 140 = .ok (.invokestatic 73, 3) := by decide +kernel
theorem dX1_copyFrom_143 : decode cX1_copyFrom 143 = .ok (.aload_n 0, 1) := by decide +kernel
theorem dX1_copyFrom_144 : decode cX1_copyFrom 144 = .ok (.getfield 69, 3) := by decide +kernel
theorem dX1_copyFrom_147 : decode cX1_copyFrom 147 = .ok (.aload_n 1, 1) := by decide +kernel
theorem dX1_copyFrom_148 : decode cX1_copyFrom 148 = .ok (.getfield 69, 3) := by decide +kernel
theorem dX1_copyFrom_151 : decode cX1_copyFrom 151 = .ok (.invokevirtual 79, 3) := by decide +kernel
theorem dX1_copyFrom_154 : decode cX1_copyFrom 154 = .ok (.return_, 1) := by decide +kernel
theorem dX1_aim_0 : decode cX1_aim 0 = .ok (.aload_n 0, 1) := by decide +kernel
theorem dX1_aim_1 : decode cX1_aim 1 = .ok (.getfield 15, 3) := by decide +kernel
theorem dX1_aim_4 : decode cX1_aim 4 = .ok (.aload_n 0, 1) := by decide +kernel
theorem dX1_aim_5 : decode cX1_aim 5 = .ok (.getfield 18, 3) := by decide +kernel
theorem dX1_aim_8 : decode cX1_aim 8 = .ok (.ladd, 1) := by decide +kernel
theorem dX1_aim_9 : decode cX1_aim 9 = .ok (.lreturn, 1) := by decide +kernel
theorem dX1_minuteNumber_0 : decode cX1_minuteNumber 0 = .ok (.aload_n 0, 1) := by decide +kernel
theorem dX1_minuteNumber_1 : decode cX1_minuteNumber 1 = .ok (.getfield 15, 3) := by decide +kernel
theorem dX1_minuteNumber_4 : decode cX1_minuteNumber 4 = .ok (.ldc2_w 83, 3) := by decide +kernel
theorem dX1_minuteNumber_7 : decode cX1_minuteNumber 7 = .ok (.ldiv, 1) := by decide +kernel
theorem dX1_minuteNumber_8 : decode cX1_minuteNumber 8 = .ok (.lreturn, 1) := by decide +kernel
theorem dX1_offAt_0 : decode cX1_offAt 0 = .ok (.iload_n 1, 1) := by decide +kernel
theorem dX1_offAt_1 : decode cX1_offAt 1 = .ok (.aload_n 0, 1) := by decide +kernel
theorem dX1_offAt_2 : decode cX1_offAt 2 = .ok (.getfield 25, 3) := by decide +kernel
theorem dX1_offAt_5 : decode cX1_offAt 5 = .ok (.isub, 1) := by decide +kernel
theorem dX1_offAt_6 : decode cX1_offAt 6 = .ok (.istore_n 2, 1) := by decide +kernel
theorem dX1_offAt_7 : decode cX1_offAt 7 = .ok (.aload_n 0, 1) := by decide +kernel
theorem dX1_offAt_8 : decode cX1_offAt 8 = .ok (.getfield 31, 3) := by decide +kernel
theorem dX1_offAt_11 : decode cX1_offAt 11 = .ok (.aload_n 0, 1) := by decide +kernel
theorem dX1_offAt_12 : decode cX1_offAt 12 = .ok (.getfield 28, 3) := by decide +kernel
theorem dX1_offAt_15 : decode cX1_offAt 15 = .ok (.iload_n 2, 1) := by decide +kernel
theorem dX1_offAt_16 : decode cX1_offAt 16 = .ok (.imul, 1) := by decide +kernel
theorem dX1_offAt_17 : decode cX1_offAt 17 = .ok (.iload_n 2, 1) := by decide +kernel
theorem dX1_offAt_18 : decode cX1_offAt 18 = .ok (.imul, 1) := by decide +kernel
theorem dX1_offAt_19 : decode cX1_offAt 19 = .ok (.bipush 100, 2) := by decide +kernel
theorem dX1_offAt_21 : decode cX1_offAt 21 = .ok (.idiv, 1) := by decide +kernel
theorem dX1_offAt_22 : decode cX1_offAt 22 = .ok (.isub, 1) := by decide +kernel
theorem dX1_offAt_23 : decode cX1_offAt 23 = .ok (.ireturn, 1) := by decide +kernel
set_option maxRecDepth 20000 in
theorem ggX1_fitOf_X1_learnedOf : GoodIn wsX1_fitOf wsX1_learnedOf := goodIn_r _ [5, 6, 7, 8, 9, 17, 18, 19, 20, 21, 22, 23, 24, 25, 26, 27, 28, 29, 30, 31, 32, 33, 34] (by decide +kernel) (by decide +kernel)
set_option maxRecDepth 20000 in
theorem gX1_fitOf_X1_learnedOf : GoodIn wsX1_fitOf (wsV RX1 85 RX1 yX1_learnedOf wsX1_learnedOf) := goodIn_app (goodIn_of _ (by decide +kernel)) ggX1_fitOf_X1_learnedOf
set_option maxRecDepth 20000 in
theorem ggX1_fitOf_X1_offAt : GoodIn wsX1_fitOf wsX1_offAt := goodIn_r _ [13, 14, 15, 16, 17, 18, 19, 20, 21, 22, 23, 24, 25, 26, 27, 28, 29, 30, 31, 32, 33, 34] (by decide +kernel) (by decide +kernel)
set_option maxRecDepth 20000 in
theorem gX1_fitOf_X1_offAt : GoodIn wsX1_fitOf (wsV RX1 89 RX1 yX1_offAt wsX1_offAt) := goodIn_app (goodIn_of _ (by decide +kernel)) ggX1_fitOf_X1_offAt
theorem dX1_fitOf_0 : decode cX1_fitOf 0 = .ok (.bipush (-20), 2) := by decide +kernel
theorem dX1_fitOf_2 : decode cX1_fitOf 2 = .ok (.iload_n 1, 1) := by decide +kernel
theorem dX1_fitOf_3 : decode cX1_fitOf 3 = .ok (.bipush 10, 2) := by decide +kernel
theorem dX1_fitOf_5 : decode cX1_fitOf 5 = .ok (.imul, 1) := by decide +kernel
theorem dX1_fitOf_6 : decode cX1_fitOf 6 = .ok (.iadd, 1) := by decide +kernel
theorem dX1_fitOf_7 : decode cX1_fitOf 7 = .ok (.iconst 5, 1) := by decide +kernel
theorem dX1_fitOf_8 : decode cX1_fitOf 8 = .ok (.iadd, 1) := by decide +kernel
theorem dX1_fitOf_9 : decode cX1_fitOf 9 = .ok (.istore_n 2, 1) := by decide +kernel
theorem dX1_fitOf_10 : decode cX1_fitOf 10 = .ok (.aload_n 0, 1) := by decide +kernel
theorem dX1_fitOf_11 : decode cX1_fitOf 11 = .ok (.iload_n 1, 1) := by decide +kernel
theorem dX1_fitOf_12 : decode cX1_fitOf 12 = .ok (.invokevirtual 85, 3) := by decide +kernel
theorem dX1_fitOf_15 : decode cX1_fitOf 15 = .ok (.bipush 16, 2) := by decide +kernel
theorem dX1_fitOf_17 : decode cX1_fitOf 17 = .ok (.aload_n 0, 1) := by decide +kernel
theorem dX1_fitOf_18 : decode cX1_fitOf 18 = .ok (.iload_n 2, 1) := by decide +kernel
theorem dX1_fitOf_19 : decode cX1_fitOf 19 = .ok (.invokevirtual 89, 3) := by decide +kernel
theorem dX1_fitOf_22 : decode cX1_fitOf 22 = .ok (.imul, 1) := by decide +kernel
theorem dX1_fitOf_23 : decode cX1_fitOf 23 = .ok (.isub, 1) := by decide +kernel
theorem dX1_fitOf_24 : decode cX1_fitOf 24 = .ok (.ireturn, 1) := by decide +kernel
set_option maxRecDepth 20000 in
theorem ggX1_learnedOf_X2_isSpan : GoodIn wsX1_learnedOf wsX2_isSpan := goodIn_r _ [4] (by decide +kernel) (by decide +kernel)
set_option maxRecDepth 20000 in
theorem gX1_learnedOf_X2_isSpan_n92 : GoodIn wsX1_learnedOf (wsX2_isSpan) := ggX1_learnedOf_X2_isSpan
theorem dX1_learnedOf_0 : decode cX1_learnedOf 0 = .ok (.iload_n 1, 1) := by decide +kernel
theorem dX1_learnedOf_1 : decode cX1_learnedOf 1 = .ok (.invokestatic 92, 3) := by decide +kernel
theorem dX1_learnedOf_4 : decode cX1_learnedOf 4 = .ok (.ifCond .eq 12, 3) := by decide +kernel
theorem dX1_learnedOf_7 : decode cX1_learnedOf 7 = .ok (.aload_n 0, 1) := by decide +kernel
theorem dX1_learnedOf_8 : decode cX1_learnedOf 8 = .ok (.getfield 62, 3) := by decide +kernel
theorem dX1_learnedOf_11 : decode cX1_learnedOf 11 = .ok (.iload_n 1, 1) := by decide +kernel
theorem dX1_learnedOf_12 : decode cX1_learnedOf 12 = .ok (.iaload, 1) := by decide +kernel
theorem dX1_learnedOf_13 : decode cX1_learnedOf 13 = .ok (.goto 4, 3) := by decide +kernel
theorem dX1_learnedOf_16 : decode cX1_learnedOf 16 = .ok (.iconst 0, 1) := by decide +kernel
theorem dX1_learnedOf_17 : decode cX1_learnedOf 17 = .ok (.ireturn, 1) := by decide +kernel
set_option maxRecDepth 20000 in
theorem ggX1_isWithinBounds_X1_aim : GoodIn wsX1_isWithinBounds wsX1_aim := goodIn_r _ [12, 13, 14, 15, 16, 17, 18, 19, 20, 21, 22, 23, 24, 25, 26, 27, 28, 29, 30, 31, 32] (by decide +kernel) (by decide +kernel)
set_option maxRecDepth 20000 in
theorem gX1_isWithinBounds_X1_aim : GoodIn wsX1_isWithinBounds (wsV RX1 96 RX1 yX1_aim wsX1_aim) := goodIn_app (goodIn_of _ (by decide +kernel)) ggX1_isWithinBounds_X1_aim
theorem dX1_isWithinBounds_0 : decode cX1_isWithinBounds 0 = .ok (.aload_n 0, 1) := by decide +kernel
theorem dX1_isWithinBounds_1 : decode cX1_isWithinBounds 1 = .ok (.getfield 9, 3) := by decide +kernel
theorem dX1_isWithinBounds_4 : decode cX1_isWithinBounds 4 = .ok (.aload_n 0, 1) := by decide +kernel
theorem dX1_isWithinBounds_5 : decode cX1_isWithinBounds 5 = .ok (.invokevirtual 96, 3) := by decide +kernel
theorem dX1_isWithinBounds_8 : decode cX1_isWithinBounds 8 = .ok (.lsub, 1) := by decide +kernel
theorem dX1_isWithinBounds_9 : decode cX1_isWithinBounds 9 = .ok (.invokestatic 100, 3) := by decide +kernel
theorem dX1_isWithinBounds_12 : decode cX1_isWithinBounds 12 = .ok (.ldc2_w 106, 3) := by decide +kernel
theorem dX1_isWithinBounds_15 : decode cX1_isWithinBounds 15 = .ok (.lmul, 1) := by decide +kernel
theorem dX1_isWithinBounds_16 : decode cX1_isWithinBounds 16 = .ok (.aload_n 0, 1) := by decide +kernel
theorem dX1_isWithinBounds_17 : decode cX1_isWithinBounds 17 = .ok (.getfield 40, 3) := by decide +kernel
theorem dX1_isWithinBounds_20 : decode cX1_isWithinBounds 20 = .ok (.i2l, 1) := by decide +kernel
theorem dX1_isWithinBounds_21 : decode cX1_isWithinBounds 21 = .ok (.lcmp, 1) := by decide +kernel
theorem dX1_isWithinBounds_22 : decode cX1_isWithinBounds 22 = .ok (.ifCond .gt 7, 3) := by decide +kernel
theorem dX1_isWithinBounds_25 : decode cX1_isWithinBounds 25 = .ok (.iconst 1, 1) := by decide +kernel
theorem dX1_isWithinBounds_26 : decode cX1_isWithinBounds 26 = .ok (.goto 4, 3) := by decide +kernel
theorem dX1_isWithinBounds_29 : decode cX1_isWithinBounds 29 = .ok (.iconst 0, 1) := by decide +kernel
theorem dX1_isWithinBounds_30 : decode cX1_isWithinBounds 30 = .ok (.ireturn, 1) := by decide +kernel
set_option maxRecDepth 20000 in
theorem ggX1_sixteenthsAfter_X2_spanOf : GoodIn wsX1_sixteenthsAfter wsX2_spanOf := goodIn_r _ [5] (by decide +kernel) (by decide +kernel)
set_option maxRecDepth 20000 in
theorem gX1_sixteenthsAfter_X2_spanOf_n108 : GoodIn wsX1_sixteenthsAfter (wsX2_spanOf) := ggX1_sixteenthsAfter_X2_spanOf
set_option maxRecDepth 20000 in
theorem ggX1_sixteenthsAfter_X1_learnedOf : GoodIn wsX1_sixteenthsAfter wsX1_learnedOf := goodIn_r _ [10, 11, 12, 4, 13, 14, 15, 16, 17, 18, 19, 20, 21, 22, 23, 24, 25, 26, 27, 28, 29, 30, 31] (by decide +kernel) (by decide +kernel)
set_option maxRecDepth 20000 in
theorem gX1_sixteenthsAfter_X1_learnedOf : GoodIn wsX1_sixteenthsAfter (wsV RX1 85 RX1 yX1_learnedOf wsX1_learnedOf) := goodIn_app (goodIn_of _ (by decide +kernel)) ggX1_sixteenthsAfter_X1_learnedOf
theorem dX1_sixteenthsAfter_0 : decode cX1_sixteenthsAfter 0 = .ok (.aload_n 0, 1) := by decide +kernel
theorem dX1_sixteenthsAfter_1 : decode cX1_sixteenthsAfter 1 = .ok (.getfield 34, 3) := by decide +kernel
theorem dX1_sixteenthsAfter_4 : decode cX1_sixteenthsAfter 4 = .ok (.i2l, 1) := by decide +kernel
theorem dX1_sixteenthsAfter_5 : decode cX1_sixteenthsAfter 5 = .ok (.iload_n 1, 1) := by decide +kernel
theorem dX1_sixteenthsAfter_6 : decode cX1_sixteenthsAfter 6 = .ok (.i2l, 1) := by decide +kernel
theorem dX1_sixteenthsAfter_7 : decode cX1_sixteenthsAfter 7 = .ok (.aload_n 0, 1) := by decide +kernel
theorem dX1_sixteenthsAfter_8 : decode cX1_sixteenthsAfter 8 = .ok (.aload_n 0, 1) := by decide +kernel
theorem dX1_sixteenthsAfter_9 : decode cX1_sixteenthsAfter 9 = .ok (.getfield 21, 3) := by decide +kernel
theorem dX1_sixteenthsAfter_12 : decode cX1_sixteenthsAfter 12 = .ok (.invokestatic 108, 3) := by decide +kernel
theorem dX1_sixteenthsAfter_15 : decode cX1_sixteenthsAfter 15 = .ok (.invokevirtual 85, 3) := by decide +kernel
theorem dX1_sixteenthsAfter_18 : decode cX1_sixteenthsAfter 18 = .ok (.i2l, 1) := by decide +kernel
theorem dX1_sixteenthsAfter_19 : decode cX1_sixteenthsAfter 19 = .ok (.lmul, 1) := by decide +kernel
theorem dX1_sixteenthsAfter_20 : decode cX1_sixteenthsAfter 20 = .ok (.lsub, 1) := by decide +kernel
theorem dX1_sixteenthsAfter_21 : decode cX1_sixteenthsAfter 21 = .ok (.lreturn, 1) := by decide +kernel
set_option maxRecDepth 20000 in
theorem ggX1_stepsAfter_X2_heldBetween : GoodIn wsX1_stepsAfter wsX2_heldBetween := goodIn_r _ [5, 6, 7, 8, 9, 10, 11, 12] (by decide +kernel) (by decide +kernel)
set_option maxRecDepth 20000 in
theorem gX1_stepsAfter_X2_heldBetween_n111 : GoodIn wsX1_stepsAfter (wsX2_heldBetween) := ggX1_stepsAfter_X2_heldBetween
theorem dX1_stepsAfter_0 : decode cX1_stepsAfter 0 = .ok (.iload_n 1, 1) := by decide +kernel
theorem dX1_stepsAfter_1 : decode cX1_stepsAfter 1 = .ok (.i2l, 1) := by decide +kernel
theorem dX1_stepsAfter_2 : decode cX1_stepsAfter 2 = .ok (.aload_n 0, 1) := by decide +kernel
theorem dX1_stepsAfter_3 : decode cX1_stepsAfter 3 = .ok (.getfield 37, 3) := by decide +kernel
theorem dX1_stepsAfter_6 : decode cX1_stepsAfter 6 = .ok (.i2l, 1) := by decide +kernel
theorem dX1_stepsAfter_7 : decode cX1_stepsAfter 7 = .ok (.lmul, 1) := by decide +kernel
theorem dX1_stepsAfter_8 : decode cX1_stepsAfter 8 = .ok (.lstore_n 2, 1) := by decide +kernel
theorem dX1_stepsAfter_9 : decode cX1_stepsAfter 9 = .ok (.aload_n 0, 1) := by decide +kernel
theorem dX1_stepsAfter_10 : decode cX1_stepsAfter 10 = .ok (.getfield 18, 3) := by decide +kernel
theorem dX1_stepsAfter_13 : decode cX1_stepsAfter 13 = .ok (.lload_n 2, 1) := by decide +kernel
theorem dX1_stepsAfter_14 : decode cX1_stepsAfter 14 = .ok (.lneg, 1) := by decide +kernel
theorem dX1_stepsAfter_15 : decode cX1_stepsAfter 15 = .ok (.lload_n 2, 1) := by decide +kernel
theorem dX1_stepsAfter_16 : decode cX1_stepsAfter 16 = .ok (.invokestatic 111, 3) := by decide +kernel
theorem dX1_stepsAfter_19 : decode cX1_stepsAfter 19 = .ok (.lreturn, 1) := by decide +kernel
set_option maxRecDepth 20000 in
theorem ggX1_boardTimeAfter_X1_offAt : GoodIn wsX1_boardTimeAfter wsX1_offAt := goodIn_r _ [10, 11, 12, 13, 48, 49, 50, 51, 52, 53, 54, 55, 56, 57, 58, 59, 60, 61, 62, 63, 64, 65] (by decide +kernel) (by decide +kernel)
set_option maxRecDepth 20000 in
theorem gX1_boardTimeAfter_X1_offAt : GoodIn wsX1_boardTimeAfter (wsV RX1 89 RX1 yX1_offAt wsX1_offAt) := goodIn_app (goodIn_of _ (by decide +kernel)) ggX1_boardTimeAfter_X1_offAt
set_option maxRecDepth 20000 in
theorem ggX1_boardTimeAfter_X1_sixteenthsAfter : GoodIn wsX1_boardTimeAfter wsX1_sixteenthsAfter := goodIn_r _ [17, 18, 3, 19, 20, 21, 22, 23, 24, 9, 25, 26, 27, 28, 48, 49, 50, 51, 52, 53, 54, 55, 56, 57, 58, 59, 60, 61, 62, 63, 64, 65] (by decide +kernel) (by decide +kernel)
set_option maxRecDepth 20000 in
theorem gX1_boardTimeAfter_X1_sixteenthsAfter : GoodIn wsX1_boardTimeAfter (wsV RX1 115 RX1 yX1_sixteenthsAfter wsX1_sixteenthsAfter) := goodIn_app (goodIn_of _ (by decide +kernel)) ggX1_boardTimeAfter_X1_sixteenthsAfter
set_option maxRecDepth 20000 in
theorem ggX1_boardTimeAfter_J9_floorDiv_f86c9 : GoodIn wsX1_boardTimeAfter wsJ9_floorDiv_f86c9 := goodIn_r _ [32] (by decide +kernel) (by decide +kernel)
set_option maxRecDepth 20000 in
theorem gX1_boardTimeAfter_J9_floorDiv_f86c9 : GoodIn wsX1_boardTimeAfter (va_wsS RX1 119 yJ9_floorDiv_f86c9 wsJ9_floorDiv_f86c9) := goodIn_app (goodIn_of _ (by decide +kernel)) ggX1_boardTimeAfter_J9_floorDiv_f86c9
set_option maxRecDepth 20000 in
theorem ggX1_boardTimeAfter_X1_stepsAfter : GoodIn wsX1_boardTimeAfter wsX1_stepsAfter := goodIn_r _ [36, 37, 38, 39, 20, 40, 41, 42, 43, 44, 45, 46, 47, 48, 49, 50, 51, 52, 53, 54, 55, 56, 57, 58, 59, 60, 61, 62, 63, 64, 65] (by decide +kernel) (by decide +kernel)
set_option maxRecDepth 20000 in
theorem gX1_boardTimeAfter_X1_stepsAfter : GoodIn wsX1_boardTimeAfter (wsV RX1 123 RX1 yX1_stepsAfter wsX1_stepsAfter) := goodIn_app (goodIn_of _ (by decide +kernel)) ggX1_boardTimeAfter_X1_stepsAfter
theorem dX1_boardTimeAfter_0 : decode cX1_boardTimeAfter 0 = .ok (.aload_n 0, 1) := by decide +kernel
theorem dX1_boardTimeAfter_1 : decode cX1_boardTimeAfter 1 = .ok (.getfield 15, 3) := by decide +kernel
theorem dX1_boardTimeAfter_4 : decode cX1_boardTimeAfter 4 = .ok (.iload_n 1, 1) := by decide +kernel
theorem dX1_boardTimeAfter_5 : decode cX1_boardTimeAfter 5 = .ok (.i2l, 1) := by decide +kernel
theorem dX1_boardTimeAfter_6 : decode cX1_boardTimeAfter 6 = .ok (.ldc2_w 83, 3) := by decide +kernel
theorem dX1_boardTimeAfter_9 : decode cX1_boardTimeAfter 9 = .ok (.aload_n 0, 1) := by decide +kernel
theorem dX1_boardTimeAfter_10 : decode cX1_boardTimeAfter 10 = .ok (.aload_n 0, 1) := by decide +kernel
theorem dX1_boardTimeAfter_11 : decode cX1_boardTimeAfter 11 = .ok (.getfield 21, 3) := by decide +kernel
theorem dX1_boardTimeAfter_14 : decode cX1_boardTimeAfter 14 = .ok (.invokevirtual 89, 3) := by decide +kernel
theorem dX1_boardTimeAfter_17 : decode cX1_boardTimeAfter 17 = .ok (.i2l, 1) := by decide +kernel
theorem dX1_boardTimeAfter_18 : decode cX1_boardTimeAfter 18 = .ok (.ladd, 1) := by decide +kernel
theorem dX1_boardTimeAfter_19 : decode cX1_boardTimeAfter 19 = .ok (.lmul, 1) := by decide +kernel
theorem dX1_boardTimeAfter_20 : decode cX1_boardTimeAfter 20 = .ok (.ladd, 1) := by decide +kernel
theorem dX1_boardTimeAfter_21 : decode cX1_boardTimeAfter 21 = .ok (.lstore_n 2, 1) := by decide +kernel
theorem dX1_boardTimeAfter_22 : decode cX1_boardTimeAfter 22 = .ok (.aload_n 0, 1) := by decide +kernel
theorem dX1_boardTimeAfter_23 : decode cX1_boardTimeAfter 23 = .ok (.getfield 46, 3) := by decide +kernel
theorem dX1_boardTimeAfter_26 : decode cX1_boardTimeAfter 26 = .ok (.ifCond .ne 5, 3) := by decide +kernel
theorem dX1_boardTimeAfter_29 : decode cX1_boardTimeAfter 29 = .ok (.lload_n 2, 1) := by decide +kernel
theorem dX1_boardTimeAfter_30 : decode cX1_boardTimeAfter 30 = .ok (.lreturn, 1) := by decide +kernel
theorem dX1_boardTimeAfter_31 : decode cX1_boardTimeAfter 31 = .ok (.lload_n 2, 1) := by decide +kernel
theorem dX1_boardTimeAfter_32 : decode cX1_boardTimeAfter 32 = .ok (.aload_n 0, 1) := by decide +kernel
theorem dX1_boardTimeAfter_33 : decode cX1_boardTimeAfter 33 = .ok (.iload_n 1, 1) := by decide +kernel
theorem dX1_boardTimeAfter_34 : decode cX1_boardTimeAfter 34 = .ok (.invokevirtual 115, 3) := by decide +kernel
theorem dX1_boardTimeAfter_37 : decode cX1_boardTimeAfter 37 = .ok (.ldc2_w 106, 3) := by decide +kernel
theorem dX1_boardTimeAfter_40 : decode cX1_boardTimeAfter 40 = .ok (.invokestatic 119, 3) := by decide +kernel
theorem dX1_boardTimeAfter_43 : decode cX1_boardTimeAfter 43 = .ok (.ladd, 1) := by decide +kernel
theorem dX1_boardTimeAfter_44 : decode cX1_boardTimeAfter 44 = .ok (.aload_n 0, 1) := by decide +kernel
theorem dX1_boardTimeAfter_45 : decode cX1_boardTimeAfter 45 = .ok (.iload_n 1, 1) := by decide +kernel
theorem dX1_boardTimeAfter_46 : decode cX1_boardTimeAfter 46 = .ok (.invokevirtual 123, 3) := by decide +kernel
theorem dX1_boardTimeAfter_49 : decode cX1_boardTimeAfter 49 = .ok (.ladd, 1) := by decide +kernel
theorem dX1_boardTimeAfter_50 : decode cX1_boardTimeAfter 50 = .ok (.lreturn, 1) := by decide +kernel
theorem dX1_widthPerTick_0 : decode cX1_widthPerTick 0 = .ok (.aload_n 0, 1) := by decide +kernel
theorem dX1_widthPerTick_1 : decode cX1_widthPerTick 1 = .ok (.getfield 46, 3) := by decide +kernel
theorem dX1_widthPerTick_4 : decode cX1_widthPerTick 4 = .ok (.ifCond .eq 10, 3) := by decide +kernel
theorem dX1_widthPerTick_7 : decode cX1_widthPerTick 7 = .ok (.aload_n 0, 1) := by decide +kernel
theorem dX1_widthPerTick_8 : decode cX1_widthPerTick 8 = .ok (.getfield 43, 3) := by decide +kernel
theorem dX1_widthPerTick_11 : decode cX1_widthPerTick 11 = .ok (.goto 9, 3) := by decide +kernel
theorem dX1_widthPerTick_14 : decode cX1_widthPerTick 14 = .ok (.iconst 4, 1) := by decide +kernel
theorem dX1_widthPerTick_15 : decode cX1_widthPerTick 15 = .ok (.aload_n 0, 1) := by decide +kernel
theorem dX1_widthPerTick_16 : decode cX1_widthPerTick 16 = .ok (.getfield 43, 3) := by decide +kernel
theorem dX1_widthPerTick_19 : decode cX1_widthPerTick 19 = .ok (.imul, 1) := by decide +kernel
theorem dX1_widthPerTick_20 : decode cX1_widthPerTick 20 = .ok (.ireturn, 1) := by decide +kernel
set_option maxRecDepth 20000 in
theorem ggX1_pass_X1_minuteNumber : GoodIn wsX1_pass wsX1_minuteNumber := goodIn_r _ [19, 3, 2, 120, 121, 122, 123, 124, 125, 126, 127, 128, 129, 130, 131, 132, 133, 134, 135, 136, 137] (by decide +kernel) (by decide +kernel)
set_option maxRecDepth 20000 in
theorem gX1_pass_X1_minuteNumber : GoodIn wsX1_pass (wsV RX1 126 RX1 yX1_minuteNumber wsX1_minuteNumber) := goodIn_app (goodIn_of _ (by decide +kernel)) ggX1_pass_X1_minuteNumber
set_option maxRecDepth 20000 in
theorem ggX1_pass_X1_noteTicks : GoodIn wsX1_pass wsX1_noteTicks := goodIn_r _ [23, 24, 25, 26, 4, 27, 28, 29, 30, 120, 121, 122, 123, 124, 125, 126, 127, 128, 129, 130, 131, 132, 133, 134, 135, 136, 137] (by decide +kernel) (by decide +kernel)
set_option maxRecDepth 20000 in
theorem gX1_pass_X1_noteTicks : GoodIn wsX1_pass (wsV RX1 129 RX1 yX1_noteTicks wsX1_noteTicks) := goodIn_app (goodIn_of _ (by decide +kernel)) ggX1_pass_X1_noteTicks
set_option maxRecDepth 20000 in
theorem ggX1_pass_X1_boardTimeAfter : GoodIn wsX1_pass wsX1_boardTimeAfter := goodIn_r _ [34, 3, 2, 24, 4, 6, 35, 36, 37, 18, 38, 39, 40, 41, 42, 43, 44, 45, 7, 28, 29, 30, 46, 47, 48, 49, 50, 51, 52, 53, 54, 55, 56, 57, 58, 59, 60, 61, 5, 62, 63, 64, 11, 12, 13, 65, 66, 67, 120, 121, 122, 123, 124, 125, 126, 127, 128, 129, 130, 131, 132, 133, 134, 135, 136, 137] (by decide +kernel) (by decide +kernel)
set_option maxRecDepth 20000 in
theorem gX1_pass_X1_boardTimeAfter : GoodIn wsX1_pass (wsV RX1 133 RX1 yX1_boardTimeAfter wsX1_boardTimeAfter) := goodIn_app (goodIn_of _ (by decide +kernel)) ggX1_pass_X1_boardTimeAfter
set_option maxRecDepth 20000 in
theorem ggX1_pass_X1_stepsAfter : GoodIn wsX1_pass wsX1_stepsAfter := goodIn_r _ [60, 61, 5, 62, 29, 63, 64, 11, 12, 13, 65, 66, 67, 120, 121, 122, 123, 124, 125, 126, 127, 128, 129, 130, 131, 132, 133, 134, 135, 136, 137] (by decide +kernel) (by decide +kernel)
set_option maxRecDepth 20000 in
theorem gX1_pass_X1_stepsAfter : GoodIn wsX1_pass (wsV RX1 123 RX1 yX1_stepsAfter wsX1_stepsAfter) := goodIn_app (goodIn_of _ (by decide +kernel)) ggX1_pass_X1_stepsAfter
set_option maxRecDepth 20000 in
theorem ggX1_pass_X1_sixteenthsAfter : GoodIn wsX1_pass wsX1_sixteenthsAfter := goodIn_r _ [45, 7, 24, 28, 29, 30, 46, 47, 48, 18, 49, 50, 51, 52, 120, 121, 122, 123, 124, 125, 126, 127, 128, 129, 130, 131, 132, 133, 134, 135, 136, 137] (by decide +kernel) (by decide +kernel)
set_option maxRecDepth 20000 in
theorem gX1_pass_X1_sixteenthsAfter : GoodIn wsX1_pass (wsV RX1 115 RX1 yX1_sixteenthsAfter wsX1_sixteenthsAfter) := goodIn_app (goodIn_of _ (by decide +kernel)) ggX1_pass_X1_sixteenthsAfter
set_option maxRecDepth 20000 in
theorem ggX1_pass_J9_floorMod_f86c9 : GoodIn wsX1_pass wsJ9_floorMod_f86c9 := goodIn_r _ [70] (by decide +kernel) (by decide +kernel)
set_option maxRecDepth 20000 in
theorem gX1_pass_J9_floorMod_f86c9 : GoodIn wsX1_pass (va_wsS RX1 136 yJ9_floorMod_f86c9 wsJ9_floorMod_f86c9) := goodIn_app (goodIn_of _ (by decide +kernel)) ggX1_pass_J9_floorMod_f86c9
set_option maxRecDepth 20000 in
theorem ggX1_pass_X1_widthPerTick : GoodIn wsX1_pass wsX1_widthPerTick := goodIn_r _ [74, 4, 75, 120, 121, 122, 123, 124, 125, 126, 127, 128, 129, 130, 131, 132, 133, 134, 135, 136, 137] (by decide +kernel) (by decide +kernel)
set_option maxRecDepth 20000 in
theorem gX1_pass_X1_widthPerTick : GoodIn wsX1_pass (wsV RX1 139 RX1 yX1_widthPerTick wsX1_widthPerTick) := goodIn_app (goodIn_of _ (by decide +kernel)) ggX1_pass_X1_widthPerTick
set_option maxRecDepth 20000 in
theorem ggX1_pass_X0_ring : GoodIn wsX1_pass wsX0_ring := goodIn_r _ [80, 81, 82, 83, 84, 85, 12, 86, 87, 88, 89, 79, 90, 91, 92, 93, 94, 95, 96, 97, 98, 99, 100, 29, 101, 102, 103, 104, 105, 106, 107, 108, 109, 110, 111, 112, 113, 114, 115, 116, 117, 118, 119, 138, 139, 140, 141, 142] (by decide +kernel) (by decide +kernel)
set_option maxRecDepth 20000 in
theorem gX1_pass_X0_ring : GoodIn wsX1_pass (wsV RX1 148 RX0 yX0_ring wsX0_ring) := goodIn_app (goodIn_of _ (by decide +kernel)) ggX1_pass_X0_ring
theorem dX1_pass_0 : decode cX1_pass 0 = .ok (.aload_n 0, 1) := by decide +kernel
theorem dX1_pass_1 : decode cX1_pass 1 = .ok (.invokevirtual 126, 3) := by decide +kernel
theorem dX1_pass_4 : decode cX1_pass 4 = .ok (.lstore_n 2, 1) := by decide +kernel
theorem dX1_pass_5 : decode cX1_pass 5 = .ok (.aload_n 0, 1) := by decide +kernel
theorem dX1_pass_6 : decode cX1_pass 6 = .ok (.iload_n 1, 1) := by decide +kernel
theorem dX1_pass_7 : decode cX1_pass 7 = .ok (.invokevirtual 129, 3) := by decide +kernel
theorem dX1_pass_10 : decode cX1_pass 10 = .ok (.aload_n 0, 1) := by decide +kernel
theorem dX1_pass_11 : decode cX1_pass 11 = .ok (.dup, 1) := by decide +kernel
theorem dX1_pass_12 : decode cX1_pass 12 = .ok (.getfield 9, 3) := by decide +kernel
theorem dX1_pass_15 : decode cX1_pass 15 = .ok (.iload_n 1, 1) := by decide +kernel
theorem dX1_pass_16 : decode cX1_pass 16 = .ok (.i2l, 1) := by decide +kernel
theorem dX1_pass_17 : decode cX1_pass 17 = .ok (.ldc2_w 83, 3) := by decide +kernel
theorem dX1_pass_20 : decode cX1_pass 20 = .ok (.lmul, 1) := by decide +kernel
theorem dX1_pass_21 : decode cX1_pass 21 = .ok (.ladd, 1) := by decide +kernel
theorem dX1_pass_22 : decode cX1_pass 22 = .ok (.putfield 9, 3) := by decide +kernel
theorem dX1_pass_25 : decode cX1_pass 25 = .ok (.aload_n 0, 1) := by decide +kernel
theorem dX1_pass_26 : decode cX1_pass 26 = .ok (.aload_n 0, 1) := by decide +kernel
theorem dX1_pass_27 : decode cX1_pass 27 = .ok (.iload_n 1, 1) := by decide +kernel
theorem dX1_pass_28 : decode cX1_pass 28 = .ok (.invokevirtual 133, 3) := by decide +kernel
theorem dX1_pass_31 : decode cX1_pass 31 = .ok (.putfield 15, 3) := by decide +kernel
theorem dX1_pass_34 : decode cX1_pass 34 = .ok (.aload_n 0, 1) := by decide +kernel
theorem dX1_pass_35 : decode cX1_pass 35 = .ok (.getfield 46, 3) := by decide +kernel
theorem dX1_pass_38 : decode cX1_pass 38 = .ok (.ifCond .eq 33, 3) := by decide +kernel
theorem dX1_pass_41 : decode cX1_pass 41 = .ok (.aload_n 0, 1) := by decide +kernel
theorem dX1_pass_42 : decode cX1_pass 42 = .ok (.dup, 1) := by decide +kernel
theorem dX1_pass_43 : decode cX1_pass 43 = .ok (.getfield 18, 3) := by decide +kernel
theorem dX1_pass_46 : decode cX1_pass 46 = .ok (.aload_n 0, 1) := by decide +kernel
theorem dX1_pass_47 : decode cX1_pass 47 = .ok (.iload_n 1, 1) := by decide +kernel
theorem dX1_pass_48 : decode cX1_pass 48 = .ok (.invokevirtual 123, 3) := by decide +kernel
theorem dX1_pass_51 : decode cX1_pass 51 = .ok (.lsub, 1) := by decide +kernel
theorem dX1_pass_52 : decode cX1_pass 52 = .ok (.putfield 18, 3) := by decide +kernel
theorem dX1_pass_55 : decode cX1_pass 55 = .ok (.aload_n 0, 1) := by decide +kernel
theorem dX1_pass_56 : decode cX1_pass 56 = .ok (.aload_n 0, 1) := by decide +kernel
theorem dX1_pass_57 : decode cX1_pass 57 = .ok (.iload_n 1, 1) := by decide +kernel
theorem dX1_pass_58 : decode cX1_pass 58 = .ok (.invokevirtual 115, 3) := by decide +kernel
theorem dX1_pass_61 : decode cX1_pass 61 = .ok (.ldc2_w 106, 3) := by decide +kernel
theorem dX1_pass_64 : decode cX1_pass 64 = .ok (.invokestatic 136, 3) := by decide +kernel
theorem dX1_pass_67 : decode cX1_pass 67 = .ok (.l2i, 1) := by decide +kernel
theorem dX1_pass_68 : decode cX1_pass 68 = .ok (.putfield 34, 3) := by decide +kernel
theorem dX1_pass_71 : decode cX1_pass 71 = .ok (.aload_n 0, 1) := by decide +kernel
theorem dX1_pass_72 : decode cX1_pass 72 = .ok (.aload_n 0, 1) := by decide +kernel
theorem dX1_pass_73 : decode cX1_pass 73 = .ok (.getfield 40, 3) := by decide +kernel
theorem dX1_pass_76 : decode cX1_pass 76 = .ok (.i2l, 1) := by decide +kernel
theorem dX1_pass_77 : decode cX1_pass 77 = .ok (.iload_n 1, 1) := by decide +kernel
theorem dX1_pass_78 : decode cX1_pass 78 = .ok (.i2l, 1) := by decide +kernel
theorem dX1_pass_79 : decode cX1_pass 79 = .ok (.aload_n 0, 1) := by decide +kernel
theorem dX1_pass_80 : decode cX1_pass 80 = .ok (.invokevirtual 139, 3) := by decide +kernel
theorem dX1_pass_83 : decode cX1_pass 83 = .ok (.i2l, 1) := by decide +kernel
theorem dX1_pass_84 : decode cX1_pass 84 = .ok (.lmul, 1) := by decide +kernel
theorem dX1_pass_85 : decode cX1_pass 85 = .ok (.ladd, 1) := by decide +kernel
theorem dX1_pass_86 : decode cX1_pass 86 = .ok (.ldc2_w 143, 3) := by decide +kernel
theorem dX1_pass_89 : decode cX1_pass 89 = .ok (.invokestatic 145, 3) := by decide +kernel
theorem dX1_pass_92 : decode cX1_pass 92 = .ok (.l2i, 1) := by decide +kernel
theorem dX1_pass_93 : decode cX1_pass 93 = .ok (.putfield 40, 3) := by decide +kernel
theorem dX1_pass_96 : decode cX1_pass 96 = .ok (.aload_n 0, 1) := by decide +kernel
theorem dX1_pass_97 : decode cX1_pass 97 = .ok (.getfield 69, 3) := by decide +kernel
theorem dX1_pass_100 : decode cX1_pass 100 = .ok (.lload_n 2, 1) := by decide +kernel
theorem dX1_pass_101 : decode cX1_pass 101 = .ok (.aload_n 0, 1) := by decide +kernel
theorem dX1_pass_102 : decode cX1_pass 102 = .ok (.invokevirtual 126, 3) := by decide +kernel
theorem dX1_pass_105 : decode cX1_pass 105 = .ok (.invokevirtual 148, 3) := by decide +kernel
theorem dX1_pass_108 : decode cX1_pass 108 = .ok (.ireturn, 1) := by decide +kernel
set_option maxRecDepth 20000 in
theorem ggX1_noteTicks_X2_spanOf : GoodIn wsX1_noteTicks wsX2_spanOf := goodIn_r _ [8] (by decide +kernel) (by decide +kernel)
set_option maxRecDepth 20000 in
theorem gX1_noteTicks_X2_spanOf_n108 : GoodIn wsX1_noteTicks (wsX2_spanOf) := ggX1_noteTicks_X2_spanOf
theorem dX1_noteTicks_0 : decode cX1_noteTicks 0 = .ok (.aload_n 0, 1) := by decide +kernel
theorem dX1_noteTicks_1 : decode cX1_noteTicks 1 = .ok (.getfield 21, 3) := by decide +kernel
theorem dX1_noteTicks_4 : decode cX1_noteTicks 4 = .ok (.invokestatic 108, 3) := by decide +kernel
theorem dX1_noteTicks_7 : decode cX1_noteTicks 7 = .ok (.istore_n 2, 1) := by decide +kernel
theorem dX1_noteTicks_8 : decode cX1_noteTicks 8 = .ok (.aload_n 0, 1) := by decide +kernel
theorem dX1_noteTicks_9 : decode cX1_noteTicks 9 = .ok (.getfield 53, 3) := by decide +kernel
theorem dX1_noteTicks_12 : decode cX1_noteTicks 12 = .ok (.ifCond .ne 19, 3) := by decide +kernel
theorem dX1_noteTicks_15 : decode cX1_noteTicks 15 = .ok (.aload_n 0, 1) := by decide +kernel
theorem dX1_noteTicks_16 : decode cX1_noteTicks 16 = .ok (.iload_n 2, 1) := by decide +kernel
theorem dX1_noteTicks_17 : decode cX1_noteTicks 17 = .ok (.putfield 56, 3) := by decide +kernel
theorem dX1_noteTicks_20 : decode cX1_noteTicks 20 = .ok (.aload_n 0, 1) := by decide +kernel
theorem dX1_noteTicks_21 : decode cX1_noteTicks 21 = .ok (.aload_n 0, 1) := by decide +kernel
theorem dX1_noteTicks_22 : decode cX1_noteTicks 22 = .ok (.getfield 46, 3) := by decide +kernel
theorem dX1_noteTicks_25 : decode cX1_noteTicks 25 = .ok (.putfield 59, 3) := by decide +kernel
theorem dX1_noteTicks_28 : decode cX1_noteTicks 28 = .ok (.goto 23, 3) := by decide +kernel
theorem dX1_noteTicks_31 : decode cX1_noteTicks 31 = .ok (.aload_n 0, 1) := by decide +kernel
theorem dX1_noteTicks_32 : decode cX1_noteTicks 32 = .ok (.getfield 56, 3) := by decide +kernel
theorem dX1_noteTicks_35 : decode cX1_noteTicks 35 = .ok (.iload_n 2, 1) := by decide +kernel
theorem dX1_noteTicks_36 : decode cX1_noteTicks 36 = .ok (.if_icmp .ne 10, 3) := by decide +kernel
theorem dX1_noteTicks_39 : decode cX1_noteTicks 39 = .ok (.aload_n 0, 1) := by decide +kernel
theorem dX1_noteTicks_40 : decode cX1_noteTicks 40 = .ok (.getfield 46, 3) := by decide +kernel
theorem dX1_noteTicks_43 : decode cX1_noteTicks 43 = .ok (.ifCond .ne 8, 3) := by decide +kernel
theorem dX1_noteTicks_46 : decode cX1_noteTicks 46 = .ok (.aload_n 0, 1) := by decide +kernel
theorem dX1_noteTicks_47 : decode cX1_noteTicks 47 = .ok (.iconst 0, 1) := by decide +kernel
theorem dX1_noteTicks_48 : decode cX1_noteTicks 48 = .ok (.putfield 59, 3) := by decide +kernel
theorem dX1_noteTicks_51 : decode cX1_noteTicks 51 = .ok (.aload_n 0, 1) := by decide +kernel
theorem dX1_noteTicks_52 : decode cX1_noteTicks 52 = .ok (.dup, 1) := by decide +kernel
theorem dX1_noteTicks_53 : decode cX1_noteTicks 53 = .ok (.getfield 53, 3) := by decide +kernel
theorem dX1_noteTicks_56 : decode cX1_noteTicks 56 = .ok (.iload_n 1, 1) := by decide +kernel
theorem dX1_noteTicks_57 : decode cX1_noteTicks 57 = .ok (.iadd, 1) := by decide +kernel
theorem dX1_noteTicks_58 : decode cX1_noteTicks 58 = .ok (.putfield 53, 3) := by decide +kernel
theorem dX1_noteTicks_61 : decode cX1_noteTicks 61 = .ok (.return_, 1) := by decide +kernel
set_option maxRecDepth 20000 in
theorem ggX1_takeIn_X1_learnFrom : GoodIn wsX1_takeIn wsX1_learnFrom := goodIn_r _ [17, 12, 18, 19, 2, 20, 21, 22, 23, 24, 25, 26, 27, 28, 29, 16, 30, 31, 32, 33, 34, 35, 9, 6, 10, 36, 5, 7, 46, 47, 48, 49, 50, 51, 52, 53, 54, 55, 56, 57, 58, 59, 60, 61, 62, 63] (by decide +kernel) (by decide +kernel)
set_option maxRecDepth 20000 in
theorem gX1_takeIn_X1_learnFrom : GoodIn wsX1_takeIn (wsV RX1 152 RX1 yX1_learnFrom wsX1_learnFrom) := goodIn_app (goodIn_of _ (by decide +kernel)) ggX1_takeIn_X1_learnFrom
set_option maxRecDepth 20000 in
theorem ggX1_takeIn_X1_aim : GoodIn wsX1_takeIn wsX1_aim := goodIn_r _ [30, 31, 32, 46, 47, 48, 49, 50, 51, 52, 53, 54, 55, 56, 57, 58, 59, 60, 61, 62, 63] (by decide +kernel) (by decide +kernel)
set_option maxRecDepth 20000 in
theorem gX1_takeIn_X1_aim : GoodIn wsX1_takeIn (wsV RX1 96 RX1 yX1_aim wsX1_aim) := goodIn_app (goodIn_of _ (by decide +kernel)) ggX1_takeIn_X1_aim
set_option maxRecDepth 20000 in
theorem ggX1_takeIn_X1_aimBetween : GoodIn wsX1_takeIn wsX1_aimBetween := goodIn_r _ [40, 41, 2, 4, 5, 6, 7, 3, 31, 32, 42, 43, 44, 45, 46, 47, 48, 49, 50, 51, 52, 53, 54, 55, 56, 57, 58, 59, 60, 61, 62, 63] (by decide +kernel) (by decide +kernel)
set_option maxRecDepth 20000 in
theorem gX1_takeIn_X1_aimBetween : GoodIn wsX1_takeIn (wsV RX1 159 RX1 yX1_aimBetween wsX1_aimBetween) := goodIn_app (goodIn_of _ (by decide +kernel)) ggX1_takeIn_X1_aimBetween
theorem dX1_takeIn_0 : decode cX1_takeIn 0 = .ok (.aload_n 0, 1) := by decide +kernel
theorem dX1_takeIn_1 : decode cX1_takeIn 1 = .ok (.getfield 9, 3) := by decide +kernel
theorem dX1_takeIn_4 : decode cX1_takeIn 4 = .ok (.iload_n 1, 1) := by decide +kernel
theorem dX1_takeIn_5 : decode cX1_takeIn 5 = .ok (.i2l, 1) := by decide +kernel
theorem dX1_takeIn_6 : decode cX1_takeIn 6 = .ok (.ladd, 1) := by decide +kernel
theorem dX1_takeIn_7 : decode cX1_takeIn 7 = .ok (.lstore_n 3, 1) := by decide +kernel
theorem dX1_takeIn_8 : decode cX1_takeIn 8 = .ok (.aload_n 0, 1) := by decide +kernel
theorem dX1_takeIn_9 : decode cX1_takeIn 9 = .ok (.lload_n 3, 1) := by decide +kernel
theorem dX1_takeIn_10 : decode cX1_takeIn 10 = .ok (.invokevirtual 152, 3) := by decide +kernel
theorem dX1_takeIn_13 : decode cX1_takeIn 13 = .ok (.lload_n 3, 1) := by decide +kernel
theorem dX1_takeIn_14 : decode cX1_takeIn 14 = .ok (.iload_n 2, 1) := by decide +kernel
theorem dX1_takeIn_15 : decode cX1_takeIn 15 = .ok (.i2l, 1) := by decide +kernel
theorem dX1_takeIn_16 : decode cX1_takeIn 16 = .ok (.lsub, 1) := by decide +kernel
theorem dX1_takeIn_17 : decode cX1_takeIn 17 = .ok (.ldc2_w 106, 3) := by decide +kernel
theorem dX1_takeIn_20 : decode cX1_takeIn 20 = .ok (.lmul, 1) := by decide +kernel
theorem dX1_takeIn_21 : decode cX1_takeIn 21 = .ok (.lstore 5, 2) := by decide +kernel
theorem dX1_takeIn_23 : decode cX1_takeIn 23 = .ok (.lload_n 3, 1) := by decide +kernel
theorem dX1_takeIn_24 : decode cX1_takeIn 24 = .ok (.iload_n 2, 1) := by decide +kernel
theorem dX1_takeIn_25 : decode cX1_takeIn 25 = .ok (.i2l, 1) := by decide +kernel
theorem dX1_takeIn_26 : decode cX1_takeIn 26 = .ok (.ladd, 1) := by decide +kernel
theorem dX1_takeIn_27 : decode cX1_takeIn 27 = .ok (.ldc2_w 106, 3) := by decide +kernel
theorem dX1_takeIn_30 : decode cX1_takeIn 30 = .ok (.lmul, 1) := by decide +kernel
theorem dX1_takeIn_31 : decode cX1_takeIn 31 = .ok (.lstore 7, 2) := by decide +kernel
theorem dX1_takeIn_33 : decode cX1_takeIn 33 = .ok (.lload 5, 2) := by decide +kernel
theorem dX1_takeIn_35 : decode cX1_takeIn 35 = .ok (.aload_n 0, 1) := by decide +kernel
theorem dX1_takeIn_36 : decode cX1_takeIn 36 = .ok (.invokevirtual 96, 3) := by decide +kernel
theorem dX1_takeIn_39 : decode cX1_takeIn 39 = .ok (.ldc2_w 106, 3) := by decide +kernel
theorem dX1_takeIn_42 : decode cX1_takeIn 42 = .ok (.lmul, 1) := by decide +kernel
theorem dX1_takeIn_43 : decode cX1_takeIn 43 = .ok (.aload_n 0, 1) := by decide +kernel
theorem dX1_takeIn_44 : decode cX1_takeIn 44 = .ok (.getfield 40, 3) := by decide +kernel
theorem dX1_takeIn_47 : decode cX1_takeIn 47 = .ok (.i2l, 1) := by decide +kernel
theorem dX1_takeIn_48 : decode cX1_takeIn 48 = .ok (.lsub, 1) := by decide +kernel
theorem dX1_takeIn_49 : decode cX1_takeIn 49 = .ok (.invokestatic 156, 3) := by decide +kernel
theorem dX1_takeIn_52 : decode cX1_takeIn 52 = .ok (.lstore 9, 2) := by decide +kernel
theorem dX1_takeIn_54 : decode cX1_takeIn 54 = .ok (.lload 7, 2) := by decide +kernel
theorem dX1_takeIn_56 : decode cX1_takeIn 56 = .ok (.aload_n 0, 1) := by decide +kernel
theorem dX1_takeIn_57 : decode cX1_takeIn 57 = .ok (.invokevirtual 96, 3) := by decide +kernel
theorem dX1_takeIn_60 : decode cX1_takeIn 60 = .ok (.ldc2_w 106, 3) := by decide +kernel
theorem dX1_takeIn_63 : decode cX1_takeIn 63 = .ok (.lmul, 1) := by decide +kernel
theorem dX1_takeIn_64 : decode cX1_takeIn 64 = .ok (.aload_n 0, 1) := by decide +kernel
theorem dX1_takeIn_65 : decode cX1_takeIn 65 = .ok (.getfield 40, 3) := by decide +kernel
theorem dX1_takeIn_68 : decode cX1_takeIn 68 = .ok (.i2l, 1) := by decide +kernel
theorem dX1_takeIn_69 : decode cX1_takeIn 69 = .ok (.ladd, 1) := by decide +kernel
theorem dX1_takeIn_70 : decode cX1_takeIn 70 = .ok (.invokestatic 145, 3) := by decide +kernel
theorem dX1_takeIn_73 : decode cX1_takeIn 73 = .ok (.lstore 11, 2) := by decide +kernel
theorem dX1_takeIn_75 : decode cX1_takeIn 75 = .ok (.lload 9, 2) := by decide +kernel
theorem dX1_takeIn_77 : decode cX1_takeIn 77 = .ok (.lload 11, 2) := by decide +kernel
theorem dX1_takeIn_79 : decode cX1_takeIn 79 = .ok (.lcmp, 1) := by decide +kernel
theorem dX1_takeIn_80 : decode cX1_takeIn 80 = .ok (.ifCond .le 7, 3) := by decide +kernel
theorem dX1_takeIn_83 : decode cX1_takeIn 83 = .ok (.iconst 1, 1) := by decide +kernel
theorem dX1_takeIn_84 : decode cX1_takeIn 84 = .ok (.goto 4, 3) := by decide +kernel
theorem dX1_takeIn_87 : decode cX1_takeIn 87 = .ok (.iconst 0, 1) := by decide +kernel
theorem dX1_takeIn_88 : decode cX1_takeIn 88 = .ok (.istore 13, 2) := by decide +kernel
theorem dX1_takeIn_90 : decode cX1_takeIn 90 = .ok (.iload 13, 2) := by decide +kernel
theorem dX1_takeIn_92 : decode cX1_takeIn 92 = .ok (.ifCond .eq 24, 3) := by decide +kernel
theorem dX1_takeIn_95 : decode cX1_takeIn 95 = .ok (.aload_n 0, 1) := by decide +kernel
theorem dX1_takeIn_96 : decode cX1_takeIn 96 = .ok (.dup, 1) := by decide +kernel
theorem dX1_takeIn_97 : decode cX1_takeIn 97 = .ok (.getfield 50, 3) := by decide +kernel
theorem dX1_takeIn_100 : decode cX1_takeIn 100 = .ok (.iconst 1, 1) := by decide +kernel
theorem dX1_takeIn_101 : decode cX1_takeIn 101 = .ok (.iadd, 1) := by decide +kernel
theorem dX1_takeIn_102 : decode cX1_takeIn 102 = .ok (.putfield 50, 3) := by decide +kernel
theorem dX1_takeIn_105 : decode cX1_takeIn 105 = .ok (.aload_n 0, 1) := by decide +kernel
theorem dX1_takeIn_106 : decode cX1_takeIn 106 = .ok (.lload 5, 2) := by decide +kernel
theorem dX1_takeIn_108 : decode cX1_takeIn 108 = .ok (.lload 7, 2) := by decide +kernel
theorem dX1_takeIn_110 : decode cX1_takeIn 110 = .ok (.invokevirtual 159, 3) := by decide +kernel
theorem dX1_takeIn_113 : decode cX1_takeIn 113 = .ok (.goto 11, 3) := by decide +kernel
theorem dX1_takeIn_116 : decode cX1_takeIn 116 = .ok (.aload_n 0, 1) := by decide +kernel
theorem dX1_takeIn_117 : decode cX1_takeIn 117 = .ok (.lload 9, 2) := by decide +kernel
theorem dX1_takeIn_119 : decode cX1_takeIn 119 = .ok (.lload 11, 2) := by decide +kernel
theorem dX1_takeIn_121 : decode cX1_takeIn 121 = .ok (.invokevirtual 159, 3) := by decide +kernel
theorem dX1_takeIn_124 : decode cX1_takeIn 124 = .ok (.aload_n 0, 1) := by decide +kernel
theorem dX1_takeIn_125 : decode cX1_takeIn 125 = .ok (.iconst 0, 1) := by decide +kernel
theorem dX1_takeIn_126 : decode cX1_takeIn 126 = .ok (.putfield 53, 3) := by decide +kernel
theorem dX1_takeIn_129 : decode cX1_takeIn 129 = .ok (.iload 13, 2) := by decide +kernel
theorem dX1_takeIn_131 : decode cX1_takeIn 131 = .ok (.ireturn, 1) := by decide +kernel
set_option maxRecDepth 20000 in
theorem ggX1_learnFrom_X2_isSpan : GoodIn wsX1_learnFrom wsX2_isSpan := goodIn_r _ [11] (by decide +kernel) (by decide +kernel)
set_option maxRecDepth 20000 in
theorem gX1_learnFrom_X2_isSpan_n92 : GoodIn wsX1_learnFrom (wsX2_isSpan) := ggX1_learnFrom_X2_isSpan
set_option maxRecDepth 20000 in
theorem ggX1_learnFrom_X1_aim : GoodIn wsX1_learnFrom wsX1_aim := goodIn_r _ [16, 17, 18, 28, 29, 30, 31, 32, 33, 34, 35, 36, 37, 38, 39, 40, 41, 42, 43, 44, 45] (by decide +kernel) (by decide +kernel)
set_option maxRecDepth 20000 in
theorem gX1_learnFrom_X1_aim : GoodIn wsX1_learnFrom (wsV RX1 96 RX1 yX1_aim wsX1_aim) := goodIn_app (goodIn_of _ (by decide +kernel)) ggX1_learnFrom_X1_aim
set_option maxRecDepth 20000 in
theorem ggX1_learnFrom_X2_heldBetween : GoodIn wsX1_learnFrom wsX2_heldBetween := goodIn_r _ [20, 21, 22, 23, 24, 25, 26, 27] (by decide +kernel) (by decide +kernel)
set_option maxRecDepth 20000 in
theorem gX1_learnFrom_X2_heldBetween_n111 : GoodIn wsX1_learnFrom (wsX2_heldBetween) := ggX1_learnFrom_X2_heldBetween
theorem dX1_learnFrom_0 : decode cX1_learnFrom 0 = .ok (.aload_n 0, 1) := by decide +kernel
theorem dX1_learnFrom_1 : decode cX1_learnFrom 1 = .ok (.getfield 53, 3) := by decide +kernel
theorem dX1_learnFrom_4 : decode cX1_learnFrom 4 = .ok (.ifCond .le 72, 3) := by decide +kernel
theorem dX1_learnFrom_7 : decode cX1_learnFrom 7 = .ok (.aload_n 0, 1) := by decide +kernel
theorem dX1_learnFrom_8 : decode cX1_learnFrom 8 = .ok (.getfield 59, 3) := by decide +kernel
theorem dX1_learnFrom_11 : decode cX1_learnFrom 11 = .ok (.ifCond .eq 65, 3) := by decide +kernel
theorem dX1_learnFrom_14 : decode cX1_learnFrom 14 = .ok (.aload_n 0, 1) := by decide +kernel
theorem dX1_learnFrom_15 : decode cX1_learnFrom 15 = .ok (.getfield 56, 3) := by decide +kernel
theorem dX1_learnFrom_18 : decode cX1_learnFrom 18 = .ok (.invokestatic 92, 3) := by decide +kernel
theorem dX1_learnFrom_21 : decode cX1_learnFrom 21 = .ok (.ifCond .eq 55, 3) := by decide +kernel
theorem dX1_learnFrom_24 : decode cX1_learnFrom 24 = .ok (.aload_n 0, 1) := by decide +kernel
theorem dX1_learnFrom_25 : decode cX1_learnFrom 25 = .ok (.invokevirtual 96, 3) := by decide +kernel
theorem dX1_learnFrom_28 : decode cX1_learnFrom 28 = .ok (.lload_n 1, 1) := by decide +kernel
theorem dX1_learnFrom_29 : decode cX1_learnFrom 29 = .ok (.lsub, 1) := by decide +kernel
theorem dX1_learnFrom_30 : decode cX1_learnFrom 30 = .ok (.ldc2_w 106, 3) := by decide +kernel
theorem dX1_learnFrom_33 : decode cX1_learnFrom 33 = .ok (.lmul, 1) := by decide +kernel
theorem dX1_learnFrom_34 : decode cX1_learnFrom 34 = .ok (.ldc2_w 163, 3) := by decide +kernel
theorem dX1_learnFrom_37 : decode cX1_learnFrom 37 = .ok (.aload_n 0, 1) := by decide +kernel
theorem dX1_learnFrom_38 : decode cX1_learnFrom 38 = .ok (.getfield 53, 3) := by decide +kernel
theorem dX1_learnFrom_41 : decode cX1_learnFrom 41 = .ok (.i2l, 1) := by decide +kernel
theorem dX1_learnFrom_42 : decode cX1_learnFrom 42 = .ok (.lmul, 1) := by decide +kernel
theorem dX1_learnFrom_43 : decode cX1_learnFrom 43 = .ok (.ldiv, 1) := by decide +kernel
theorem dX1_learnFrom_44 : decode cX1_learnFrom 44 = .ok (.lstore_n 3, 1) := by decide +kernel
theorem dX1_learnFrom_45 : decode cX1_learnFrom 45 = .ok (.aload_n 0, 1) := by decide +kernel
theorem dX1_learnFrom_46 : decode cX1_learnFrom 46 = .ok (.getfield 62, 3) := by decide +kernel
theorem dX1_learnFrom_49 : decode cX1_learnFrom 49 = .ok (.aload_n 0, 1) := by decide +kernel
theorem dX1_learnFrom_50 : decode cX1_learnFrom 50 = .ok (.getfield 56, 3) := by decide +kernel
theorem dX1_learnFrom_53 : decode cX1_learnFrom 53 = .ok (.aload_n 0, 1) := by decide +kernel
theorem dX1_learnFrom_54 : decode cX1_learnFrom 54 = .ok (.getfield 62, 3) := by decide +kernel
theorem dX1_learnFrom_57 : decode cX1_learnFrom 57 = .ok (.aload_n 0, 1) := by decide +kernel
theorem dX1_learnFrom_58 : decode cX1_learnFrom 58 = .ok (.getfield 56, 3) := by decide +kernel
theorem dX1_learnFrom_61 : decode cX1_learnFrom 61 = .ok (.iaload, 1) := by decide +kernel
theorem dX1_learnFrom_62 : decode cX1_learnFrom 62 = .ok (.i2l, 1) := by decide +kernel
theorem dX1_learnFrom_63 : decode cX1_learnFrom 63 = .ok (.lload_n 3, 1) := by decide +kernel
theorem dX1_learnFrom_64 : decode cX1_learnFrom 64 = .ok (.ladd, 1) := by decide +kernel
theorem dX1_learnFrom_65 : decode cX1_learnFrom 65 = .ok (.ldc2_w 165, 3) := by decide +kernel
theorem dX1_learnFrom_68 : decode cX1_learnFrom 68 = .ok (.ldc2_w 167, 3) := by decide +kernel
theorem dX1_learnFrom_71 : decode cX1_learnFrom 71 = .ok (.invokestatic 111, 3) := by decide +kernel
theorem dX1_learnFrom_74 : decode cX1_learnFrom 74 = .ok (.l2i, 1) := by decide +kernel
theorem dX1_learnFrom_75 : decode cX1_learnFrom 75 = .ok (.iastore, 1) := by decide +kernel
theorem dX1_learnFrom_76 : decode cX1_learnFrom 76 = .ok (.return_, 1) := by decide +kernel
set_option maxRecDepth 20000 in
theorem ggX1_aimBetween_J9_floorDiv_f86c9 : GoodIn wsX1_aimBetween wsJ9_floorDiv_f86c9 := goodIn_r _ [13] (by decide +kernel) (by decide +kernel)
set_option maxRecDepth 20000 in
theorem gX1_aimBetween_J9_floorDiv_f86c9 : GoodIn wsX1_aimBetween (va_wsS RX1 119 yJ9_floorDiv_f86c9 wsJ9_floorDiv_f86c9) := goodIn_app (goodIn_of _ (by decide +kernel)) ggX1_aimBetween_J9_floorDiv_f86c9
theorem dX1_aimBetween_0 : decode cX1_aimBetween 0 = .ok (.lload_n 1, 1) := by decide +kernel
theorem dX1_aimBetween_1 : decode cX1_aimBetween 1 = .ok (.lload_n 3, 1) := by decide +kernel
theorem dX1_aimBetween_2 : decode cX1_aimBetween 2 = .ok (.ladd, 1) := by decide +kernel
theorem dX1_aimBetween_3 : decode cX1_aimBetween 3 = .ok (.ldc2_w 169, 3) := by decide +kernel
theorem dX1_aimBetween_6 : decode cX1_aimBetween 6 = .ok (.invokestatic 119, 3) := by decide +kernel
theorem dX1_aimBetween_9 : decode cX1_aimBetween 9 = .ok (.lstore 5, 2) := by decide +kernel
theorem dX1_aimBetween_11 : decode cX1_aimBetween 11 = .ok (.aload_n 0, 1) := by decide +kernel
theorem dX1_aimBetween_12 : decode cX1_aimBetween 12 = .ok (.lload_n 3, 1) := by decide +kernel
theorem dX1_aimBetween_13 : decode cX1_aimBetween 13 = .ok (.lload 5, 2) := by decide +kernel
theorem dX1_aimBetween_15 : decode cX1_aimBetween 15 = .ok (.ldc2_w 106, 3) := by decide +kernel
theorem dX1_aimBetween_18 : decode cX1_aimBetween 18 = .ok (.lmul, 1) := by decide +kernel
theorem dX1_aimBetween_19 : decode cX1_aimBetween 19 = .ok (.lsub, 1) := by decide +kernel
theorem dX1_aimBetween_20 : decode cX1_aimBetween 20 = .ok (.lload 5, 2) := by decide +kernel
theorem dX1_aimBetween_22 : decode cX1_aimBetween 22 = .ok (.ldc2_w 106, 3) := by decide +kernel
theorem dX1_aimBetween_25 : decode cX1_aimBetween 25 = .ok (.lmul, 1) := by decide +kernel
theorem dX1_aimBetween_26 : decode cX1_aimBetween 26 = .ok (.lload_n 1, 1) := by decide +kernel
theorem dX1_aimBetween_27 : decode cX1_aimBetween 27 = .ok (.lsub, 1) := by decide +kernel
theorem dX1_aimBetween_28 : decode cX1_aimBetween 28 = .ok (.invokestatic 156, 3) := by decide +kernel
theorem dX1_aimBetween_31 : decode cX1_aimBetween 31 = .ok (.l2i, 1) := by decide +kernel
theorem dX1_aimBetween_32 : decode cX1_aimBetween 32 = .ok (.putfield 40, 3) := by decide +kernel
theorem dX1_aimBetween_35 : decode cX1_aimBetween 35 = .ok (.aload_n 0, 1) := by decide +kernel
theorem dX1_aimBetween_36 : decode cX1_aimBetween 36 = .ok (.lload 5, 2) := by decide +kernel
theorem dX1_aimBetween_38 : decode cX1_aimBetween 38 = .ok (.aload_n 0, 1) := by decide +kernel
theorem dX1_aimBetween_39 : decode cX1_aimBetween 39 = .ok (.getfield 15, 3) := by decide +kernel
theorem dX1_aimBetween_42 : decode cX1_aimBetween 42 = .ok (.lsub, 1) := by decide +kernel
theorem dX1_aimBetween_43 : decode cX1_aimBetween 43 = .ok (.putfield 18, 3) := by decide +kernel
theorem dX1_aimBetween_46 : decode cX1_aimBetween 46 = .ok (.return_, 1) := by decide +kernel
theorem dX1_ticksUntilDone_0 : decode cX1_ticksUntilDone 0 = .ok (.aload_n 0, 1) := by decide +kernel
theorem dX1_ticksUntilDone_1 : decode cX1_ticksUntilDone 1 = .ok (.getfield 18, 3) := by decide +kernel
theorem dX1_ticksUntilDone_4 : decode cX1_ticksUntilDone 4 = .ok (.lconst 0, 1) := by decide +kernel
theorem dX1_ticksUntilDone_5 : decode cX1_ticksUntilDone 5 = .ok (.lcmp, 1) := by decide +kernel
theorem dX1_ticksUntilDone_6 : decode cX1_ticksUntilDone 6 = .ok (.ifCond .ne 5, 3) := by decide +kernel
theorem dX1_ticksUntilDone_9 : decode cX1_ticksUntilDone 9 = .ok (.iconst 0, 1) := by decide +kernel
theorem dX1_ticksUntilDone_10 : decode cX1_ticksUntilDone 10 = .ok (.ireturn, 1) := by decide +kernel
theorem dX1_ticksUntilDone_11 : decode cX1_ticksUntilDone 11 = .ok (.aload_n 0, 1) := by decide +kernel
theorem dX1_ticksUntilDone_12 : decode cX1_ticksUntilDone 12 = .ok (.getfield 46, 3) := by decide +kernel
theorem dX1_ticksUntilDone_15 : decode cX1_ticksUntilDone 15 = .ok (.ifCond .eq 11, 3) := by decide +kernel
theorem dX1_ticksUntilDone_18 : decode cX1_ticksUntilDone 18 = .ok (.aload_n 0, 1) := by decide +kernel
theorem dX1_ticksUntilDone_19 : decode cX1_ticksUntilDone 19 = .ok (.getfield 37, 3) := by decide +kernel
theorem dX1_ticksUntilDone_22 : decode cX1_ticksUntilDone 22 = .ok (.iconst 1, 1) := by decide +kernel
theorem dX1_ticksUntilDone_23 : decode cX1_ticksUntilDone 23 = .ok (.if_icmp .ge 5, 3) := by decide +kernel
theorem dX1_ticksUntilDone_26 : decode cX1_ticksUntilDone 26 = .ok (.iconst (-1), 1) := by decide +kernel
theorem dX1_ticksUntilDone_27 : decode cX1_ticksUntilDone 27 = .ok (.ireturn, 1) := by decide +kernel
theorem dX1_ticksUntilDone_28 : decode cX1_ticksUntilDone 28 = .ok (.aload_n 0, 1) := by decide +kernel
theorem dX1_ticksUntilDone_29 : decode cX1_ticksUntilDone 29 = .ok (.getfield 18, 3) := by decide +kernel
theorem dX1_ticksUntilDone_32 : decode cX1_ticksUntilDone 32 = .ok (.invokestatic 100, 3) := by decide +kernel
theorem dX1_ticksUntilDone_35 : decode cX1_ticksUntilDone 35 = .ok (.aload_n 0, 1) := by decide +kernel
theorem dX1_ticksUntilDone_36 : decode cX1_ticksUntilDone 36 = .ok (.getfield 37, 3) := by decide +kernel
theorem dX1_ticksUntilDone_39 : decode cX1_ticksUntilDone 39 = .ok (.i2l, 1) := by decide +kernel
theorem dX1_ticksUntilDone_40 : decode cX1_ticksUntilDone 40 = .ok (.ladd, 1) := by decide +kernel
theorem dX1_ticksUntilDone_41 : decode cX1_ticksUntilDone 41 = .ok (.lconst 1, 1) := by decide +kernel
theorem dX1_ticksUntilDone_42 : decode cX1_ticksUntilDone 42 = .ok (.lsub, 1) := by decide +kernel
theorem dX1_ticksUntilDone_43 : decode cX1_ticksUntilDone 43 = .ok (.aload_n 0, 1) := by decide +kernel
theorem dX1_ticksUntilDone_44 : decode cX1_ticksUntilDone 44 = .ok (.getfield 37, 3) := by decide +kernel
theorem dX1_ticksUntilDone_47 : decode cX1_ticksUntilDone 47 = .ok (.i2l, 1) := by decide +kernel
theorem dX1_ticksUntilDone_48 : decode cX1_ticksUntilDone 48 = .ok (.ldiv, 1) := by decide +kernel
theorem dX1_ticksUntilDone_49 : decode cX1_ticksUntilDone 49 = .ok (.lstore_n 1, 1) := by decide +kernel
theorem dX1_ticksUntilDone_50 : decode cX1_ticksUntilDone 50 = .ok (.lload_n 1, 1) := by decide +kernel
theorem dX1_ticksUntilDone_51 : decode cX1_ticksUntilDone 51 = .ok (.ldc2_w 171, 3) := by decide +kernel
theorem dX1_ticksUntilDone_54 : decode cX1_ticksUntilDone 54 = .ok (.lcmp, 1) := by decide +kernel
theorem dX1_ticksUntilDone_55 : decode cX1_ticksUntilDone 55 = .ok (.ifCond .gt 8, 3) := by decide +kernel
theorem dX1_ticksUntilDone_58 : decode cX1_ticksUntilDone 58 = .ok (.lload_n 1, 1) := by decide +kernel
theorem dX1_ticksUntilDone_59 : decode cX1_ticksUntilDone 59 = .ok (.l2i, 1) := by decide +kernel
theorem dX1_ticksUntilDone_60 : decode cX1_ticksUntilDone 60 = .ok (.goto 4, 3) := by decide +kernel
theorem dX1_ticksUntilDone_63 : decode cX1_ticksUntilDone 63 = .ok (.iconst (-1), 1) := by decide +kernel
theorem dX1_ticksUntilDone_64 : decode cX1_ticksUntilDone 64 = .ok (.ireturn, 1) := by decide +kernel
set_option maxRecDepth 20000 in
theorem ggX1_ticksUntilWide_X1_widthPerTick : GoodIn wsX1_ticksUntilWide wsX1_widthPerTick := goodIn_r _ [6, 7, 8, 9, 10, 11, 12, 13, 14, 15, 16, 17, 18, 19, 20, 21, 22, 23, 24, 25, 26] (by decide +kernel) (by decide +kernel)
set_option maxRecDepth 20000 in
theorem gX1_ticksUntilWide_X1_widthPerTick : GoodIn wsX1_ticksUntilWide (wsV RX1 139 RX1 yX1_widthPerTick wsX1_widthPerTick) := goodIn_app (goodIn_of _ (by decide +kernel)) ggX1_ticksUntilWide_X1_widthPerTick
theorem dX1_ticksUntilWide_0 : decode cX1_ticksUntilWide 0 = .ok (.aload_n 0, 1) := by decide +kernel
theorem dX1_ticksUntilWide_1 : decode cX1_ticksUntilWide 1 = .ok (.getfield 40, 3) := by decide +kernel
theorem dX1_ticksUntilWide_4 : decode cX1_ticksUntilWide 4 = .ok (.i2l, 1) := by decide +kernel
theorem dX1_ticksUntilWide_5 : decode cX1_ticksUntilWide 5 = .ok (.lload_n 1, 1) := by decide +kernel
end
section
theorem dX1_ticksUntilWide_6 : decode cX1_ticksUntilWide 6 = .ok (.lcmp, 1) := by decide +kernel
theorem dX1_ticksUntilWide_7 : decode cX1_ticksUntilWide 7 = .ok (.ifCond .le 5, 3) := by decide +kernel
theorem dX1_ticksUntilWide_10 : decode cX1_ticksUntilWide 10 = .ok (.iconst 0, 1) := by decide +kernel
theorem dX1_ticksUntilWide_11 : decode cX1_ticksUntilWide 11 = .ok (.ireturn, 1) := by decide +kernel
theorem dX1_ticksUntilWide_12 : decode cX1_ticksUntilWide 12 = .ok (.aload_n 0, 1) := by decide +kernel
theorem dX1_ticksUntilWide_13 : decode cX1_ticksUntilWide 13 = .ok (.invokevirtual 139, 3) := by decide +kernel
theorem dX1_ticksUntilWide_16 : decode cX1_ticksUntilWide 16 = .ok (.istore_n 3, 1) := by decide +kernel
theorem dX1_ticksUntilWide_17 : decode cX1_ticksUntilWide 17 = .ok (.iload_n 3, 1) := by decide +kernel
theorem dX1_ticksUntilWide_18 : decode cX1_ticksUntilWide 18 = .ok (.ifCond .gt 5, 3) := by decide +kernel
theorem dX1_ticksUntilWide_21 : decode cX1_ticksUntilWide 21 = .ok (.iconst (-1), 1) := by decide +kernel
theorem dX1_ticksUntilWide_22 : decode cX1_ticksUntilWide 22 = .ok (.ireturn, 1) := by decide +kernel
theorem dX1_ticksUntilWide_23 : decode cX1_ticksUntilWide 23 = .ok (.lload_n 1, 1) := by decide +kernel
theorem dX1_ticksUntilWide_24 : decode cX1_ticksUntilWide 24 = .ok (.aload_n 0, 1) := by decide +kernel
theorem dX1_ticksUntilWide_25 : decode cX1_ticksUntilWide 25 = .ok (.getfield 40, 3) := by decide +kernel
theorem dX1_ticksUntilWide_28 : decode cX1_ticksUntilWide 28 = .ok (.i2l, 1) := by decide +kernel
theorem dX1_ticksUntilWide_29 : decode cX1_ticksUntilWide 29 = .ok (.lsub, 1) := by decide +kernel
theorem dX1_ticksUntilWide_30 : decode cX1_ticksUntilWide 30 = .ok (.iload_n 3, 1) := by decide +kernel
theorem dX1_ticksUntilWide_31 : decode cX1_ticksUntilWide 31 = .ok (.i2l, 1) := by decide +kernel
theorem dX1_ticksUntilWide_32 : decode cX1_ticksUntilWide 32 = .ok (.ldiv, 1) := by decide +kernel
theorem dX1_ticksUntilWide_33 : decode cX1_ticksUntilWide 33 = .ok (.l2i, 1) := by decide +kernel
theorem dX1_ticksUntilWide_34 : decode cX1_ticksUntilWide 34 = .ok (.iconst 1, 1) := by decide +kernel
theorem dX1_ticksUntilWide_35 : decode cX1_ticksUntilWide 35 = .ok (.iadd, 1) := by decide +kernel
theorem dX1_ticksUntilWide_36 : decode cX1_ticksUntilWide 36 = .ok (.ireturn, 1) := by decide +kernel
set_option maxRecDepth 20000 in
theorem ggX2_init_X1_init : GoodIn wsX2_init wsX1_init := goodIn_r _ [20, 21, 2, 3, 22, 23, 24, 25, 26, 27, 28, 29, 30, 31, 32, 33, 34, 35, 36, 37, 13, 38, 39, 40, 41, 42, 43, 44, 45, 46, 47, 48, 49, 50, 51, 52, 53, 54, 55, 56, 57, 58, 59, 60, 61, 62, 63, 64, 65, 66, 67, 68, 79, 80, 81, 82, 83] (by decide +kernel) (by decide +kernel)
set_option maxRecDepth 20000 in
theorem gX2_init_X1_init_n9 : GoodIn wsX2_init (wsX1_init) := ggX2_init_X1_init
theorem dX2_init_0 : decode cX2_init 0 = .ok (.aload_n 0, 1) := by decide +kernel
theorem dX2_init_1 : decode cX2_init 1 = .ok (.invokespecial 1, 3) := by decide +kernel
theorem dX2_init_4 : decode cX2_init 4 = .ok (.aload_n 0, 1) := by decide +kernel
theorem dX2_init_5 : decode cX2_init 5 = .ok (.new 7, 3) := by decide +kernel
theorem dX2_init_8 : decode cX2_init 8 = .ok (.dup, 1) := by decide +kernel
theorem dX2_init_9 : decode cX2_init 9 = .ok (.invokespecial 9, 3) := by decide +kernel
theorem dX2_init_12 : decode cX2_init 12 = .ok (.putfield 10, 3) := by decide +kernel
theorem dX2_init_15 : decode cX2_init 15 = .ok (.aload_n 0, 1) := by decide +kernel
theorem dX2_init_16 : decode cX2_init 16 = .ok (.iconst 0, 1) := by decide +kernel
theorem dX2_init_17 : decode cX2_init 17 = .ok (.putfield 16, 3) := by decide +kernel
theorem dX2_init_20 : decode cX2_init 20 = .ok (.aload_n 0, 1) := by decide +kernel
theorem dX2_init_21 : decode cX2_init 21 = .ok (.bipush 20, 2) := by decide +kernel
theorem dX2_init_23 : decode cX2_init 23 = .ok (.anewarray 7, 3) := by decide +kernel
theorem dX2_init_26 : decode cX2_init 26 = .ok (.putfield 20, 3) := by decide +kernel
theorem dX2_init_29 : decode cX2_init 29 = .ok (.aload_n 0, 1) := by decide +kernel
theorem dX2_init_30 : decode cX2_init 30 = .ok (.iconst 0, 1) := by decide +kernel
theorem dX2_init_31 : decode cX2_init 31 = .ok (.putfield 24, 3) := by decide +kernel
theorem dX2_init_34 : decode cX2_init 34 = .ok (.aload_n 0, 1) := by decide +kernel
theorem dX2_init_35 : decode cX2_init 35 = .ok (.iconst 0, 1) := by decide +kernel
theorem dX2_init_36 : decode cX2_init 36 = .ok (.putfield 27, 3) := by decide +kernel
theorem dX2_init_39 : decode cX2_init 39 = .ok (.aload_n 0, 1) := by decide +kernel
theorem dX2_init_40 : decode cX2_init 40 = .ok (.iconst 2, 1) := by decide +kernel
theorem dX2_init_41 : decode cX2_init 41 = .ok (.anewarray 7, 3) := by decide +kernel
theorem dX2_init_44 : decode cX2_init 44 = .ok (.putfield 30, 3) := by decide +kernel
theorem dX2_init_47 : decode cX2_init 47 = .ok (.aload_n 0, 1) := by decide +kernel
theorem dX2_init_48 : decode cX2_init 48 = .ok (.iconst 2, 1) := by decide +kernel
theorem dX2_init_49 : decode cX2_init 49 = .ok (.newarray .int, 2) := by decide +kernel
theorem dX2_init_51 : decode cX2_init 51 = .ok (.putfield 33, 3) := by decide +kernel
theorem dX2_init_54 : decode cX2_init 54 = .ok (.aload_n 0, 1) := by decide +kernel
theorem dX2_init_55 : decode cX2_init 55 = .ok (.iconst 2, 1) := by decide +kernel
theorem dX2_init_56 : decode cX2_init 56 = .ok (.newarray .boolean, 2) := by decide +kernel
theorem dX2_init_58 : decode cX2_init 58 = .ok (.putfield 37, 3) := by decide +kernel
theorem dX2_init_61 : decode cX2_init 61 = .ok (.aload_n 0, 1) := by decide +kernel
theorem dX2_init_62 : decode cX2_init 62 = .ok (.bipush 20, 2) := by decide +kernel
theorem dX2_init_64 : decode cX2_init 64 = .ok (.newarray .int, 2) := by decide +kernel
theorem dX2_init_66 : decode cX2_init 66 = .ok (.putfield 41, 3) := by decide +kernel
theorem dX2_init_69 : decode cX2_init 69 = .ok (.aload_n 0, 1) := by decide +kernel
theorem dX2_init_70 : decode cX2_init 70 = .ok (.iconst 0, 1) := by decide +kernel
theorem dX2_init_71 : decode cX2_init 71 = .ok (.putfield 44, 3) := by decide +kernel
theorem dX2_init_74 : decode cX2_init 74 = .ok (.iconst 0, 1) := by decide +kernel
theorem dX2_init_75 : decode cX2_init 75 = .ok (.istore_n 1, 1) := by decide +kernel
theorem dX2_init_76 : decode cX2_init 76 = .ok (.iload_n 1, 1) := by decide +kernel
theorem dX2_init_77 : decode cX2_init 77 = .ok (.bipush 20, 2) := by decide +kernel
theorem dX2_init_79 : decode cX2_init 79 = .ok (.if_icmp .ge 22, 3) := by decide +kernel
theorem dX2_init_82 : decode cX2_init 82 = .ok (.aload_n 0, 1) := by decide +kernel
theorem dX2_init_83 : decode cX2_init 83 = .ok (.getfield 20, 3) := by decide +kernel
theorem dX2_init_86 : decode cX2_init 86 = .ok (.iload_n 1, 1) := by decide +kernel
theorem dX2_init_87 : decode cX2_init 87 = .ok (.new 7, 3) := by decide +kernel
theorem dX2_init_90 : decode cX2_init 90 = .ok (.dup, 1) := by decide +kernel
theorem dX2_init_91 : decode cX2_init 91 = .ok (.invokespecial 9, 3) := by decide +kernel
theorem dX2_init_94 : decode cX2_init 94 = .ok (.aastore, 1) := by decide +kernel
theorem dX2_init_95 : decode cX2_init 95 = .ok (.iinc 1 1, 3) := by decide +kernel
theorem dX2_init_98 : decode cX2_init 98 = .ok (.goto (-22), 3) := by decide +kernel
theorem dX2_init_101 : decode cX2_init 101 = .ok (.iconst 0, 1) := by decide +kernel
theorem dX2_init_102 : decode cX2_init 102 = .ok (.istore_n 1, 1) := by decide +kernel
theorem dX2_init_103 : decode cX2_init 103 = .ok (.iload_n 1, 1) := by decide +kernel
theorem dX2_init_104 : decode cX2_init 104 = .ok (.iconst 2, 1) := by decide +kernel
theorem dX2_init_105 : decode cX2_init 105 = .ok (.if_icmp .ge 22, 3) := by decide +kernel
theorem dX2_init_108 : decode cX2_init 108 = .ok (.aload_n 0, 1) := by decide +kernel
theorem dX2_init_109 : decode cX2_init 109 = .ok (.getfield 30, 3) := by decide +kernel
theorem dX2_init_112 : decode cX2_init 112 = .ok (.iload_n 1, 1) := by decide +kernel
theorem dX2_init_113 : decode cX2_init 113 = .ok (.new 7, 3) := by decide +kernel
theorem dX2_init_116 : decode cX2_init 116 = .ok (.dup, 1) := by decide +kernel
theorem dX2_init_117 : decode cX2_init 117 = .ok (.invokespecial 9, 3) := by decide +kernel
theorem dX2_init_120 : decode cX2_init 120 = .ok (.aastore, 1) := by decide +kernel
theorem dX2_init_121 : decode cX2_init 121 = .ok (.iinc 1 1, 3) := by decide +kernel
theorem dX2_init_124 : decode cX2_init 124 = .ok (.goto (-21), 3) := by decide +kernel
theorem dX2_init_127 : decode cX2_init 127 = .ok (.return_, 1) := by decide +kernel
set_option maxRecDepth 20000 in
theorem ggX2_told_X2_spanOf : GoodIn wsX2_told wsX2_spanOf := goodIn_r _ [19] (by decide +kernel) (by decide +kernel)
set_option maxRecDepth 20000 in
theorem gX2_told_X2_spanOf : GoodIn wsX2_told (va_wsS RX2 50 yX2_spanOf wsX2_spanOf) := goodIn_app (goodIn_of _ (by decide +kernel)) ggX2_told_X2_spanOf
set_option maxRecDepth 20000 in
theorem ggX2_told_X1_offAt : GoodIn wsX2_told wsX1_offAt := goodIn_r _ [24, 25, 26, 27, 82, 83, 84, 85, 86, 87, 88, 89, 90, 91, 92, 93, 94, 95, 96, 97, 98, 99] (by decide +kernel) (by decide +kernel)
set_option maxRecDepth 20000 in
theorem gX2_told_X1_offAt : GoodIn wsX2_told (wsV RX2 54 RX1 yX1_offAt wsX1_offAt) := goodIn_app (goodIn_of _ (by decide +kernel)) ggX2_told_X1_offAt
set_option maxRecDepth 20000 in
theorem ggX2_told_X2_asInt : GoodIn wsX2_told wsX2_asInt := goodIn_r _ [30] (by decide +kernel) (by decide +kernel)
set_option maxRecDepth 20000 in
theorem gX2_told_X2_asInt : GoodIn wsX2_told (va_wsS RX2 64 yX2_asInt wsX2_asInt) := goodIn_app (goodIn_of _ (by decide +kernel)) ggX2_told_X2_asInt
set_option maxRecDepth 20000 in
theorem ggX2_told_X1_isWithinBounds : GoodIn wsX2_told wsX1_isWithinBounds := goodIn_r _ [34, 35, 36, 37, 38, 39, 40, 41, 42, 43, 44, 23, 45, 46, 47, 82, 83, 84, 85, 86, 87, 88, 89, 90, 91, 92, 93, 94, 95, 96, 97, 98, 99] (by decide +kernel) (by decide +kernel)
set_option maxRecDepth 20000 in
theorem gX2_told_X1_isWithinBounds : GoodIn wsX2_told (wsV RX2 87 RX1 yX1_isWithinBounds wsX1_isWithinBounds) := goodIn_app (goodIn_of _ (by decide +kernel)) ggX2_told_X1_isWithinBounds
set_option maxRecDepth 20000 in
theorem ggX2_told_X0_totalRings : GoodIn wsX2_told wsX0_totalRings := goodIn_r _ [52, 53, 54, 100, 101, 102, 103, 104] (by decide +kernel) (by decide +kernel)
set_option maxRecDepth 20000 in
theorem gX2_told_X0_totalRings : GoodIn wsX2_told (wsV RX2 100 RX0 yX0_totalRings wsX0_totalRings) := goodIn_app (goodIn_of _ (by decide +kernel)) ggX2_told_X0_totalRings
set_option maxRecDepth 20000 in
theorem ggX2_told_X1_ticksUntilDone : GoodIn wsX2_told wsX1_ticksUntilDone := goodIn_r _ [58, 47, 59, 60, 36, 37, 38, 39, 61, 82, 83, 84, 85, 86, 87, 88, 89, 90, 91, 92, 93, 94, 95, 96, 97, 98, 99] (by decide +kernel) (by decide +kernel)
set_option maxRecDepth 20000 in
theorem gX2_told_X1_ticksUntilDone : GoodIn wsX2_told (wsV RX2 104 RX1 yX1_ticksUntilDone wsX1_ticksUntilDone) := goodIn_app (goodIn_of _ (by decide +kernel)) ggX2_told_X1_ticksUntilDone
set_option maxRecDepth 20000 in
theorem ggX2_told_X2_firstWrong : GoodIn wsX2_told wsX2_firstWrong := goodIn_r _ [65, 1, 13, 66, 67, 68, 69, 23, 70, 46, 71, 72, 73, 74, 75, 76, 77, 78, 79, 80, 81, 82, 83, 84, 85, 86, 87, 88, 89, 90, 91, 92, 93, 94, 95, 96, 97, 98, 99] (by decide +kernel) (by decide +kernel)
set_option maxRecDepth 20000 in
theorem gX2_told_X2_firstWrong : GoodIn wsX2_told (wsV RX2 107 RX2 yX2_firstWrong wsX2_firstWrong) := goodIn_app (goodIn_of _ (by decide +kernel)) ggX2_told_X2_firstWrong
theorem dX2_told_0 : decode cX2_told 0 = .ok (.iload_n 1, 1) := by decide +kernel
theorem dX2_told_1 : decode cX2_told 1 = .ok (.tableswitch 264 0 17 #[87, 98, 109, 128, 136, 157, 165, 173, 181, 192, 200, 208, 219, 230, 241, 249, 254, 259], 87) := by decide +kernel
theorem dX2_told_88 : decode cX2_told 88 = .ok (.aload_n 0, 1) := by decide +kernel
theorem dX2_told_89 : decode cX2_told 89 = .ok (.getfield 10, 3) := by decide +kernel
theorem dX2_told_92 : decode cX2_told 92 = .ok (.getfield 47, 3) := by decide +kernel
theorem dX2_told_95 : decode cX2_told 95 = .ok (.bipush 20, 2) := by decide +kernel
theorem dX2_told_97 : decode cX2_told 97 = .ok (.iadd, 1) := by decide +kernel
theorem dX2_told_98 : decode cX2_told 98 = .ok (.ireturn, 1) := by decide +kernel
theorem dX2_told_99 : decode cX2_told 99 = .ok (.aload_n 0, 1) := by decide +kernel
theorem dX2_told_100 : decode cX2_told 100 = .ok (.getfield 10, 3) := by decide +kernel
theorem dX2_told_103 : decode cX2_told 103 = .ok (.getfield 47, 3) := by decide +kernel
theorem dX2_told_106 : decode cX2_told 106 = .ok (.invokestatic 50, 3) := by decide +kernel
theorem dX2_told_109 : decode cX2_told 109 = .ok (.ireturn, 1) := by decide +kernel
theorem dX2_told_110 : decode cX2_told 110 = .ok (.aload_n 0, 1) := by decide +kernel
theorem dX2_told_111 : decode cX2_told 111 = .ok (.getfield 10, 3) := by decide +kernel
theorem dX2_told_114 : decode cX2_told 114 = .ok (.aload_n 0, 1) := by decide +kernel
theorem dX2_told_115 : decode cX2_told 115 = .ok (.getfield 10, 3) := by decide +kernel
theorem dX2_told_118 : decode cX2_told 118 = .ok (.getfield 47, 3) := by decide +kernel
theorem dX2_told_121 : decode cX2_told 121 = .ok (.invokevirtual 54, 3) := by decide +kernel
theorem dX2_told_124 : decode cX2_told 124 = .ok (.sipush 10000, 3) := by decide +kernel
theorem dX2_told_127 : decode cX2_told 127 = .ok (.iadd, 1) := by decide +kernel
theorem dX2_told_128 : decode cX2_told 128 = .ok (.ireturn, 1) := by decide +kernel
theorem dX2_told_129 : decode cX2_told 129 = .ok (.aload_n 0, 1) := by decide +kernel
theorem dX2_told_130 : decode cX2_told 130 = .ok (.getfield 10, 3) := by decide +kernel
theorem dX2_told_133 : decode cX2_told 133 = .ok (.getfield 57, 3) := by decide +kernel
theorem dX2_told_136 : decode cX2_told 136 = .ok (.ireturn, 1) := by decide +kernel
theorem dX2_told_137 : decode cX2_told 137 = .ok (.aload_n 0, 1) := by decide +kernel
theorem dX2_told_138 : decode cX2_told 138 = .ok (.getfield 10, 3) := by decide +kernel
theorem dX2_told_141 : decode cX2_told 141 = .ok (.getfield 60, 3) := by decide +kernel
theorem dX2_told_144 : decode cX2_told 144 = .ok (.lconst 0, 1) := by decide +kernel
theorem dX2_told_145 : decode cX2_told 145 = .ok (.lcmp, 1) := by decide +kernel
theorem dX2_told_146 : decode cX2_told 146 = .ok (.ifCond .ne 7, 3) := by decide +kernel
theorem dX2_told_149 : decode cX2_told 149 = .ok (.iconst 1, 1) := by decide +kernel
theorem dX2_told_150 : decode cX2_told 150 = .ok (.goto 4, 3) := by decide +kernel
theorem dX2_told_153 : decode cX2_told 153 = .ok (.iconst 0, 1) := by decide +kernel
theorem dX2_told_154 : decode cX2_told 154 = .ok (.invokestatic 64, 3) := by decide +kernel
theorem dX2_told_157 : decode cX2_told 157 = .ok (.ireturn, 1) := by decide +kernel
theorem dX2_told_158 : decode cX2_told 158 = .ok (.aload_n 0, 1) := by decide +kernel
theorem dX2_told_159 : decode cX2_told 159 = .ok (.getfield 10, 3) := by decide +kernel
theorem dX2_told_162 : decode cX2_told 162 = .ok (.getfield 68, 3) := by decide +kernel
theorem dX2_told_165 : decode cX2_told 165 = .ok (.ireturn, 1) := by decide +kernel
theorem dX2_told_166 : decode cX2_told 166 = .ok (.aload_n 0, 1) := by decide +kernel
theorem dX2_told_167 : decode cX2_told 167 = .ok (.getfield 10, 3) := by decide +kernel
theorem dX2_told_170 : decode cX2_told 170 = .ok (.getfield 71, 3) := by decide +kernel
theorem dX2_told_173 : decode cX2_told 173 = .ok (.ireturn, 1) := by decide +kernel
theorem dX2_told_174 : decode cX2_told 174 = .ok (.aload_n 0, 1) := by decide +kernel
theorem dX2_told_175 : decode cX2_told 175 = .ok (.getfield 10, 3) := by decide +kernel
theorem dX2_told_178 : decode cX2_told 178 = .ok (.getfield 74, 3) := by decide +kernel
theorem dX2_told_181 : decode cX2_told 181 = .ok (.ireturn, 1) := by decide +kernel
theorem dX2_told_182 : decode cX2_told 182 = .ok (.aload_n 0, 1) := by decide +kernel
theorem dX2_told_183 : decode cX2_told 183 = .ok (.getfield 10, 3) := by decide +kernel
theorem dX2_told_186 : decode cX2_told 186 = .ok (.getfield 77, 3) := by decide +kernel
theorem dX2_told_189 : decode cX2_told 189 = .ok (.invokestatic 64, 3) := by decide +kernel
theorem dX2_told_192 : decode cX2_told 192 = .ok (.ireturn, 1) := by decide +kernel
theorem dX2_told_193 : decode cX2_told 193 = .ok (.aload_n 0, 1) := by decide +kernel
theorem dX2_told_194 : decode cX2_told 194 = .ok (.getfield 10, 3) := by decide +kernel
theorem dX2_told_197 : decode cX2_told 197 = .ok (.getfield 81, 3) := by decide +kernel
theorem dX2_told_200 : decode cX2_told 200 = .ok (.ireturn, 1) := by decide +kernel
theorem dX2_told_201 : decode cX2_told 201 = .ok (.aload_n 0, 1) := by decide +kernel
theorem dX2_told_202 : decode cX2_told 202 = .ok (.getfield 10, 3) := by decide +kernel
theorem dX2_told_205 : decode cX2_told 205 = .ok (.getfield 84, 3) := by decide +kernel
theorem dX2_told_208 : decode cX2_told 208 = .ok (.ireturn, 1) := by decide +kernel
theorem dX2_told_209 : decode cX2_told 209 = .ok (.aload_n 0, 1) := by decide +kernel
theorem dX2_told_210 : decode cX2_told 210 = .ok (.getfield 10, 3) := by decide +kernel
theorem dX2_told_213 : decode cX2_told 213 = .ok (.invokevirtual 87, 3) := by decide +kernel
theorem dX2_told_216 : decode cX2_told 216 = .ok (.invokestatic 64, 3) := by decide +kernel
theorem dX2_told_219 : decode cX2_told 219 = .ok (.ireturn, 1) := by decide +kernel
theorem dX2_told_220 : decode cX2_told 220 = .ok (.aload_n 0, 1) := by decide +kernel
theorem dX2_told_221 : decode cX2_told 221 = .ok (.getfield 10, 3) := by decide +kernel
theorem dX2_told_224 : decode cX2_told 224 = .ok (.getfield 91, 3) := by decide +kernel
theorem dX2_told_227 : decode cX2_told 227 = .ok (.getfield 95, 3) := by decide +kernel
theorem dX2_told_230 : decode cX2_told 230 = .ok (.ireturn, 1) := by decide +kernel
theorem dX2_told_231 : decode cX2_told 231 = .ok (.aload_n 0, 1) := by decide +kernel
theorem dX2_told_232 : decode cX2_told 232 = .ok (.getfield 10, 3) := by decide +kernel
theorem dX2_told_235 : decode cX2_told 235 = .ok (.getfield 91, 3) := by decide +kernel
theorem dX2_told_238 : decode cX2_told 238 = .ok (.invokevirtual 100, 3) := by decide +kernel
theorem dX2_told_241 : decode cX2_told 241 = .ok (.ireturn, 1) := by decide +kernel
theorem dX2_told_242 : decode cX2_told 242 = .ok (.aload_n 0, 1) := by decide +kernel
theorem dX2_told_243 : decode cX2_told 243 = .ok (.getfield 10, 3) := by decide +kernel
theorem dX2_told_246 : decode cX2_told 246 = .ok (.invokevirtual 104, 3) := by decide +kernel
theorem dX2_told_249 : decode cX2_told 249 = .ok (.ireturn, 1) := by decide +kernel
theorem dX2_told_250 : decode cX2_told 250 = .ok (.aload_n 0, 1) := by decide +kernel
theorem dX2_told_251 : decode cX2_told 251 = .ok (.getfield 44, 3) := by decide +kernel
theorem dX2_told_254 : decode cX2_told 254 = .ok (.ireturn, 1) := by decide +kernel
theorem dX2_told_255 : decode cX2_told 255 = .ok (.aload_n 0, 1) := by decide +kernel
theorem dX2_told_256 : decode cX2_told 256 = .ok (.invokevirtual 107, 3) := by decide +kernel
theorem dX2_told_259 : decode cX2_told 259 = .ok (.ireturn, 1) := by decide +kernel
theorem dX2_told_260 : decode cX2_told 260 = .ok (.aload_n 0, 1) := by decide +kernel
theorem dX2_told_261 : decode cX2_told 261 = .ok (.getfield 27, 3) := by decide +kernel
theorem dX2_told_264 : decode cX2_told 264 = .ok (.ireturn, 1) := by decide +kernel
theorem dX2_told_265 : decode cX2_told 265 = .ok (.ldc 110, 2) := by decide +kernel
theorem dX2_told_267 : decode cX2_told 267 = .ok (.ireturn, 1) := by decide +kernel
set_option maxRecDepth 20000 in
theorem ggX2_time_X1_aim : GoodIn wsX2_time wsX1_aim := goodIn_r _ [9, 10, 11, 22, 23, 24, 25, 26, 27, 28, 29, 30, 31, 32, 33, 34, 35, 36, 37, 38, 39] (by decide +kernel) (by decide +kernel)
set_option maxRecDepth 20000 in
theorem gX2_time_X1_aim : GoodIn wsX2_time (wsV RX2 117 RX1 yX1_aim wsX1_aim) := goodIn_app (goodIn_of _ (by decide +kernel)) ggX2_time_X1_aim
theorem dX2_time_0 : decode cX2_time 0 = .ok (.iload_n 1, 1) := by decide +kernel
theorem dX2_time_1 : decode cX2_time 1 = .ok (.tableswitch 51 0 2 #[27, 35, 43], 27) := by decide +kernel
theorem dX2_time_28 : decode cX2_time 28 = .ok (.aload_n 0, 1) := by decide +kernel
theorem dX2_time_29 : decode cX2_time 29 = .ok (.getfield 10, 3) := by decide +kernel
theorem dX2_time_32 : decode cX2_time 32 = .ok (.getfield 111, 3) := by decide +kernel
theorem dX2_time_35 : decode cX2_time 35 = .ok (.lreturn, 1) := by decide +kernel
theorem dX2_time_36 : decode cX2_time 36 = .ok (.aload_n 0, 1) := by decide +kernel
theorem dX2_time_37 : decode cX2_time 37 = .ok (.getfield 10, 3) := by decide +kernel
theorem dX2_time_40 : decode cX2_time 40 = .ok (.getfield 114, 3) := by decide +kernel
theorem dX2_time_43 : decode cX2_time 43 = .ok (.lreturn, 1) := by decide +kernel
theorem dX2_time_44 : decode cX2_time 44 = .ok (.aload_n 0, 1) := by decide +kernel
theorem dX2_time_45 : decode cX2_time 45 = .ok (.getfield 10, 3) := by decide +kernel
theorem dX2_time_48 : decode cX2_time 48 = .ok (.invokevirtual 117, 3) := by decide +kernel
theorem dX2_time_51 : decode cX2_time 51 = .ok (.lreturn, 1) := by decide +kernel
theorem dX2_time_52 : decode cX2_time 52 = .ok (.ldc2_w 121, 3) := by decide +kernel
theorem dX2_time_55 : decode cX2_time 55 = .ok (.lreturn, 1) := by decide +kernel
set_option maxRecDepth 20000 in
theorem ggX2_calendar_X1_minuteNumber : GoodIn wsX2_calendar wsX1_minuteNumber := goodIn_r _ [7, 8, 9, 34, 35, 36, 37, 38, 39, 40, 41, 42, 43, 44, 45, 46, 47, 48, 49, 50, 51] (by decide +kernel) (by decide +kernel)
set_option maxRecDepth 20000 in
theorem gX2_calendar_X1_minuteNumber : GoodIn wsX2_calendar (wsV RX2 123 RX1 yX1_minuteNumber wsX1_minuteNumber) := goodIn_app (goodIn_of _ (by decide +kernel)) ggX2_calendar_X1_minuteNumber
set_option maxRecDepth 20000 in
theorem ggX2_calendar_X2_minuteOf : GoodIn wsX2_calendar wsX2_minuteOf := goodIn_r _ [13, 14] (by decide +kernel) (by decide +kernel)
set_option maxRecDepth 20000 in
theorem gX2_calendar_X2_minuteOf : GoodIn wsX2_calendar (va_wsS RX2 126 yX2_minuteOf wsX2_minuteOf) := goodIn_app (goodIn_of _ (by decide +kernel)) ggX2_calendar_X2_minuteOf
set_option maxRecDepth 20000 in
theorem ggX2_calendar_X2_hourOf : GoodIn wsX2_calendar wsX2_hourOf := goodIn_r _ [17, 14, 18] (by decide +kernel) (by decide +kernel)
set_option maxRecDepth 20000 in
theorem gX2_calendar_X2_hourOf : GoodIn wsX2_calendar (va_wsS RX2 130 yX2_hourOf wsX2_hourOf) := goodIn_app (goodIn_of _ (by decide +kernel)) ggX2_calendar_X2_hourOf
set_option maxRecDepth 20000 in
theorem ggX2_calendar_X2_weekdayOf : GoodIn wsX2_calendar wsX2_weekdayOf := goodIn_r _ [21, 22, 23] (by decide +kernel) (by decide +kernel)
set_option maxRecDepth 20000 in
theorem gX2_calendar_X2_weekdayOf : GoodIn wsX2_calendar (va_wsS RX2 133 yX2_weekdayOf wsX2_weekdayOf) := goodIn_app (goodIn_of _ (by decide +kernel)) ggX2_calendar_X2_weekdayOf
theorem dX2_calendar_0 : decode cX2_calendar 0 = .ok (.aload_n 0, 1) := by decide +kernel
theorem dX2_calendar_1 : decode cX2_calendar 1 = .ok (.getfield 10, 3) := by decide +kernel
theorem dX2_calendar_4 : decode cX2_calendar 4 = .ok (.invokevirtual 123, 3) := by decide +kernel
theorem dX2_calendar_7 : decode cX2_calendar 7 = .ok (.lstore_n 2, 1) := by decide +kernel
theorem dX2_calendar_8 : decode cX2_calendar 8 = .ok (.iload_n 1, 1) := by decide +kernel
theorem dX2_calendar_9 : decode cX2_calendar 9 = .ok (.tableswitch 49 0 3 #[31, 34, 39, 44], 31) := by decide +kernel
theorem dX2_calendar_40 : decode cX2_calendar 40 = .ok (.lload_n 2, 1) := by decide +kernel
theorem dX2_calendar_41 : decode cX2_calendar 41 = .ok (.l2i, 1) := by decide +kernel
theorem dX2_calendar_42 : decode cX2_calendar 42 = .ok (.ireturn, 1) := by decide +kernel
theorem dX2_calendar_43 : decode cX2_calendar 43 = .ok (.lload_n 2, 1) := by decide +kernel
theorem dX2_calendar_44 : decode cX2_calendar 44 = .ok (.invokestatic 126, 3) := by decide +kernel
theorem dX2_calendar_47 : decode cX2_calendar 47 = .ok (.ireturn, 1) := by decide +kernel
theorem dX2_calendar_48 : decode cX2_calendar 48 = .ok (.lload_n 2, 1) := by decide +kernel
theorem dX2_calendar_49 : decode cX2_calendar 49 = .ok (.invokestatic 130, 3) := by decide +kernel
theorem dX2_calendar_52 : decode cX2_calendar 52 = .ok (.ireturn, 1) := by decide +kernel
theorem dX2_calendar_53 : decode cX2_calendar 53 = .ok (.lload_n 2, 1) := by decide +kernel
theorem dX2_calendar_54 : decode cX2_calendar 54 = .ok (.invokestatic 133, 3) := by decide +kernel
theorem dX2_calendar_57 : decode cX2_calendar 57 = .ok (.ireturn, 1) := by decide +kernel
theorem dX2_calendar_58 : decode cX2_calendar 58 = .ok (.ldc 110, 2) := by decide +kernel
theorem dX2_calendar_60 : decode cX2_calendar 60 = .ok (.ireturn, 1) := by decide +kernel
set_option maxRecDepth 20000 in
theorem ggX2_span_X2_isSpan : GoodIn wsX2_span wsX2_isSpan := goodIn_r _ [9] (by decide +kernel) (by decide +kernel)
set_option maxRecDepth 20000 in
theorem gX2_span_X2_isSpan : GoodIn wsX2_span (va_wsS RX2 136 yX2_isSpan wsX2_isSpan) := goodIn_app (goodIn_of _ (by decide +kernel)) ggX2_span_X2_isSpan
set_option maxRecDepth 20000 in
theorem ggX2_span_X1_fitOf : GoodIn wsX2_span wsX1_fitOf := goodIn_r _ [14, 15, 16, 17, 13, 18, 19, 7, 8, 9, 20, 21, 22, 23, 24, 25, 26, 37, 38, 39, 40, 41, 42, 43, 44, 45, 46, 47, 48, 49, 50, 51, 52, 53, 54] (by decide +kernel) (by decide +kernel)
set_option maxRecDepth 20000 in
theorem gX2_span_X1_fitOf : GoodIn wsX2_span (wsV RX2 144 RX1 yX1_fitOf wsX1_fitOf) := goodIn_app (goodIn_of _ (by decide +kernel)) ggX2_span_X1_fitOf
theorem dX2_span_0 : decode cX2_span 0 = .ok (.iload_n 1, 1) := by decide +kernel
theorem dX2_span_1 : decode cX2_span 1 = .ok (.invokestatic 136, 3) := by decide +kernel
theorem dX2_span_4 : decode cX2_span 4 = .ok (.ifCond .ne 6, 3) := by decide +kernel
theorem dX2_span_7 : decode cX2_span 7 = .ok (.ldc 140, 2) := by decide +kernel
theorem dX2_span_9 : decode cX2_span 9 = .ok (.ireturn, 1) := by decide +kernel
theorem dX2_span_10 : decode cX2_span 10 = .ok (.iload_n 2, 1) := by decide +kernel
theorem dX2_span_11 : decode cX2_span 11 = .ok (.lookupswitch 51 #[(0, 25), (1, 39)], 25) := by decide +kernel
theorem dX2_span_36 : decode cX2_span 36 = .ok (.aload_n 0, 1) := by decide +kernel
theorem dX2_span_37 : decode cX2_span 37 = .ok (.getfield 10, 3) := by decide +kernel
theorem dX2_span_40 : decode cX2_span 40 = .ok (.getfield 141, 3) := by decide +kernel
theorem dX2_span_43 : decode cX2_span 43 = .ok (.iload_n 1, 1) := by decide +kernel
theorem dX2_span_44 : decode cX2_span 44 = .ok (.iaload, 1) := by decide +kernel
theorem dX2_span_45 : decode cX2_span 45 = .ok (.sipush 10000, 3) := by decide +kernel
theorem dX2_span_48 : decode cX2_span 48 = .ok (.iadd, 1) := by decide +kernel
theorem dX2_span_49 : decode cX2_span 49 = .ok (.ireturn, 1) := by decide +kernel
theorem dX2_span_50 : decode cX2_span 50 = .ok (.aload_n 0, 1) := by decide +kernel
theorem dX2_span_51 : decode cX2_span 51 = .ok (.getfield 10, 3) := by decide +kernel
theorem dX2_span_54 : decode cX2_span 54 = .ok (.iload_n 1, 1) := by decide +kernel
theorem dX2_span_55 : decode cX2_span 55 = .ok (.invokevirtual 144, 3) := by decide +kernel
theorem dX2_span_58 : decode cX2_span 58 = .ok (.ldc 147, 2) := by decide +kernel
theorem dX2_span_60 : decode cX2_span 60 = .ok (.iadd, 1) := by decide +kernel
theorem dX2_span_61 : decode cX2_span 61 = .ok (.ireturn, 1) := by decide +kernel
theorem dX2_span_62 : decode cX2_span 62 = .ok (.ldc 110, 2) := by decide +kernel
theorem dX2_span_64 : decode cX2_span 64 = .ok (.ireturn, 1) := by decide +kernel
set_option maxRecDepth 20000 in
theorem ggX2_alarmAt_X0_has : GoodIn wsX2_alarmAt wsX0_has := goodIn_r _ [13, 14, 84, 85, 86, 87, 88] (by decide +kernel) (by decide +kernel)
set_option maxRecDepth 20000 in
theorem gX2_alarmAt_X0_has : GoodIn wsX2_alarmAt (wsV RX2 148 RX0 yX0_has wsX0_has) := goodIn_app (goodIn_of _ (by decide +kernel)) ggX2_alarmAt_X0_has
set_option maxRecDepth 20000 in
theorem ggX2_alarmAt_X1_minuteNumber : GoodIn wsX2_alarmAt wsX1_minuteNumber := goodIn_r _ [19, 20, 21, 66, 67, 68, 69, 70, 71, 72, 73, 74, 75, 76, 77, 78, 79, 80, 81, 82, 83] (by decide +kernel) (by decide +kernel)
set_option maxRecDepth 20000 in
theorem gX2_alarmAt_X1_minuteNumber : GoodIn wsX2_alarmAt (wsV RX2 123 RX1 yX1_minuteNumber wsX1_minuteNumber) := goodIn_app (goodIn_of _ (by decide +kernel)) ggX2_alarmAt_X1_minuteNumber
set_option maxRecDepth 20000 in
theorem ggX2_alarmAt_X0_nextFit : GoodIn wsX2_alarmAt wsX0_nextFit := goodIn_r _ [25, 26, 27, 28, 29, 30, 31, 12, 32, 33, 34, 10, 11, 13, 14, 35, 36, 37, 38, 39, 40, 41, 42, 43, 44, 45, 46, 47, 48, 49, 50, 51, 52, 53, 54, 55, 84, 85, 86, 87, 88] (by decide +kernel) (by decide +kernel)
set_option maxRecDepth 20000 in
theorem gX2_alarmAt_X0_nextFit : GoodIn wsX2_alarmAt (wsV RX2 163 RX0 yX0_nextFit wsX0_nextFit) := goodIn_app (goodIn_of _ (by decide +kernel)) ggX2_alarmAt_X0_nextFit
theorem dX2_alarmAt_0 : decode cX2_alarmAt 0 = .ok (.aload_n 0, 1) := by decide +kernel
theorem dX2_alarmAt_1 : decode cX2_alarmAt 1 = .ok (.getfield 10, 3) := by decide +kernel
theorem dX2_alarmAt_4 : decode cX2_alarmAt 4 = .ok (.getfield 91, 3) := by decide +kernel
theorem dX2_alarmAt_7 : decode cX2_alarmAt 7 = .ok (.astore_n 3, 1) := by decide +kernel
theorem dX2_alarmAt_8 : decode cX2_alarmAt 8 = .ok (.aload_n 3, 1) := by decide +kernel
theorem dX2_alarmAt_9 : decode cX2_alarmAt 9 = .ok (.iload_n 1, 1) := by decide +kernel
theorem dX2_alarmAt_10 : decode cX2_alarmAt 10 = .ok (.invokevirtual 148, 3) := by decide +kernel
theorem dX2_alarmAt_13 : decode cX2_alarmAt 13 = .ok (.ifCond .ne 6, 3) := by decide +kernel
theorem dX2_alarmAt_16 : decode cX2_alarmAt 16 = .ok (.ldc 140, 2) := by decide +kernel
theorem dX2_alarmAt_18 : decode cX2_alarmAt 18 = .ok (.ireturn, 1) := by decide +kernel
theorem dX2_alarmAt_19 : decode cX2_alarmAt 19 = .ok (.iload_n 2, 1) := by decide +kernel
theorem dX2_alarmAt_20 : decode cX2_alarmAt 20 = .ok (.tableswitch 78 0 4 #[36, 43, 50, 57, 64], 36) := by decide +kernel
theorem dX2_alarmAt_56 : decode cX2_alarmAt 56 = .ok (.aload_n 3, 1) := by decide +kernel
theorem dX2_alarmAt_57 : decode cX2_alarmAt 57 = .ok (.getfield 151, 3) := by decide +kernel
theorem dX2_alarmAt_60 : decode cX2_alarmAt 60 = .ok (.iload_n 1, 1) := by decide +kernel
theorem dX2_alarmAt_61 : decode cX2_alarmAt 61 = .ok (.iaload, 1) := by decide +kernel
theorem dX2_alarmAt_62 : decode cX2_alarmAt 62 = .ok (.ireturn, 1) := by decide +kernel
theorem dX2_alarmAt_63 : decode cX2_alarmAt 63 = .ok (.aload_n 3, 1) := by decide +kernel
theorem dX2_alarmAt_64 : decode cX2_alarmAt 64 = .ok (.getfield 154, 3) := by decide +kernel
theorem dX2_alarmAt_67 : decode cX2_alarmAt 67 = .ok (.iload_n 1, 1) := by decide +kernel
theorem dX2_alarmAt_68 : decode cX2_alarmAt 68 = .ok (.iaload, 1) := by decide +kernel
theorem dX2_alarmAt_69 : decode cX2_alarmAt 69 = .ok (.ireturn, 1) := by decide +kernel
theorem dX2_alarmAt_70 : decode cX2_alarmAt 70 = .ok (.aload_n 3, 1) := by decide +kernel
theorem dX2_alarmAt_71 : decode cX2_alarmAt 71 = .ok (.getfield 157, 3) := by decide +kernel
theorem dX2_alarmAt_74 : decode cX2_alarmAt 74 = .ok (.iload_n 1, 1) := by decide +kernel
theorem dX2_alarmAt_75 : decode cX2_alarmAt 75 = .ok (.iaload, 1) := by decide +kernel
theorem dX2_alarmAt_76 : decode cX2_alarmAt 76 = .ok (.ireturn, 1) := by decide +kernel
theorem dX2_alarmAt_77 : decode cX2_alarmAt 77 = .ok (.aload_n 3, 1) := by decide +kernel
theorem dX2_alarmAt_78 : decode cX2_alarmAt 78 = .ok (.getfield 160, 3) := by decide +kernel
theorem dX2_alarmAt_81 : decode cX2_alarmAt 81 = .ok (.iload_n 1, 1) := by decide +kernel
theorem dX2_alarmAt_82 : decode cX2_alarmAt 82 = .ok (.iaload, 1) := by decide +kernel
theorem dX2_alarmAt_83 : decode cX2_alarmAt 83 = .ok (.ireturn, 1) := by decide +kernel
theorem dX2_alarmAt_84 : decode cX2_alarmAt 84 = .ok (.aload_n 3, 1) := by decide +kernel
theorem dX2_alarmAt_85 : decode cX2_alarmAt 85 = .ok (.iload_n 1, 1) := by decide +kernel
theorem dX2_alarmAt_86 : decode cX2_alarmAt 86 = .ok (.aload_n 0, 1) := by decide +kernel
theorem dX2_alarmAt_87 : decode cX2_alarmAt 87 = .ok (.getfield 10, 3) := by decide +kernel
theorem dX2_alarmAt_90 : decode cX2_alarmAt 90 = .ok (.invokevirtual 123, 3) := by decide +kernel
theorem dX2_alarmAt_93 : decode cX2_alarmAt 93 = .ok (.invokevirtual 163, 3) := by decide +kernel
theorem dX2_alarmAt_96 : decode cX2_alarmAt 96 = .ok (.l2i, 1) := by decide +kernel
theorem dX2_alarmAt_97 : decode cX2_alarmAt 97 = .ok (.ireturn, 1) := by decide +kernel
theorem dX2_alarmAt_98 : decode cX2_alarmAt 98 = .ok (.ldc 110, 2) := by decide +kernel
theorem dX2_alarmAt_100 : decode cX2_alarmAt 100 = .ok (.ireturn, 1) := by decide +kernel
set_option maxRecDepth 20000 in
theorem ggX2_tick_X2_isWithin : GoodIn wsX2_tick wsX2_isWithin := goodIn_r _ [6] (by decide +kernel) (by decide +kernel)
set_option maxRecDepth 20000 in
theorem gX2_tick_X2_isWithin : GoodIn wsX2_tick (va_wsS RX2 167 yX2_isWithin wsX2_isWithin) := goodIn_app (goodIn_of _ (by decide +kernel)) ggX2_tick_X2_isWithin
set_option maxRecDepth 20000 in
theorem ggX2_tick_X2_remember : GoodIn wsX2_tick wsX2_remember := goodIn_r _ [10, 11, 12, 2, 13, 14, 15, 16, 17, 18, 19, 20, 21, 22, 23, 24, 25, 26, 27, 28, 29, 30, 31, 32, 33, 34, 35, 36, 37, 38, 39, 40, 41, 42, 43, 44, 45, 46, 47, 48, 49, 50, 51, 52, 53, 54, 55, 56, 57, 58, 59, 154, 155, 156, 157, 158, 159, 160, 161, 162, 163, 164, 165, 166, 167, 168, 169, 170, 171, 172, 173, 174, 175, 176, 177, 178, 179, 180, 181, 182, 183, 184, 185, 186] (by decide +kernel) (by decide +kernel)
set_option maxRecDepth 20000 in
theorem gX2_tick_X2_remember : GoodIn wsX2_tick (wsV RX2 171 RX2 yX2_remember wsX2_remember) := goodIn_app (goodIn_of _ (by decide +kernel)) ggX2_tick_X2_remember
set_option maxRecDepth 20000 in
theorem ggX2_tick_X1_pass : GoodIn wsX2_tick wsX1_pass := goodIn_r _ [63, 23, 64, 24, 34, 25, 65, 30, 32, 66, 67, 68, 16, 69, 44, 70, 71, 72, 21, 73, 74, 75, 76, 77, 26, 36, 37, 38, 78, 5, 79, 80, 81, 82, 83, 84, 85, 86, 87, 27, 29, 28, 88, 89, 90, 91, 92, 93, 94, 95, 39, 96, 97, 98, 99, 58, 100, 101, 102, 103, 104, 31, 105, 106, 107, 108, 109, 110, 111, 112, 113, 114, 115, 116, 117, 33, 118, 119, 120, 48, 121, 50, 55, 122, 123, 15, 17, 124, 125, 126, 127, 128, 129, 130, 131, 54, 132, 133, 134, 135, 136, 137, 138, 139, 140, 141, 142, 143, 53, 144, 145, 146, 147, 148, 149, 150, 151, 51, 152, 153, 164, 165, 166, 167, 168, 169, 170, 171, 172, 173, 174, 175, 176, 177, 178, 179, 180, 181, 182, 183, 184, 185, 186] (by decide +kernel) (by decide +kernel)
set_option maxRecDepth 20000 in
theorem gX2_tick_X1_pass : GoodIn wsX2_tick (wsV RX2 174 RX1 yX1_pass wsX1_pass) := goodIn_app (goodIn_of _ (by decide +kernel)) ggX2_tick_X1_pass
theorem dX2_tick_0 : decode cX2_tick 0 = .ok (.iload_n 1, 1) := by decide +kernel
theorem dX2_tick_1 : decode cX2_tick 1 = .ok (.iconst 1, 1) := by decide +kernel
theorem dX2_tick_2 : decode cX2_tick 2 = .ok (.sipush 2000, 3) := by decide +kernel
theorem dX2_tick_5 : decode cX2_tick 5 = .ok (.invokestatic 167, 3) := by decide +kernel
theorem dX2_tick_8 : decode cX2_tick 8 = .ok (.ifCond .ne 6, 3) := by decide +kernel
theorem dX2_tick_11 : decode cX2_tick 11 = .ok (.ldc 110, 2) := by decide +kernel
theorem dX2_tick_13 : decode cX2_tick 13 = .ok (.ireturn, 1) := by decide +kernel
theorem dX2_tick_14 : decode cX2_tick 14 = .ok (.aload_n 0, 1) := by decide +kernel
theorem dX2_tick_15 : decode cX2_tick 15 = .ok (.invokevirtual 171, 3) := by decide +kernel
theorem dX2_tick_18 : decode cX2_tick 18 = .ok (.aload_n 0, 1) := by decide +kernel
theorem dX2_tick_19 : decode cX2_tick 19 = .ok (.getfield 10, 3) := by decide +kernel
theorem dX2_tick_22 : decode cX2_tick 22 = .ok (.iload_n 1, 1) := by decide +kernel
theorem dX2_tick_23 : decode cX2_tick 23 = .ok (.invokevirtual 174, 3) := by decide +kernel
theorem dX2_tick_26 : decode cX2_tick 26 = .ok (.ireturn, 1) := by decide +kernel
set_option maxRecDepth 20000 in
theorem ggX2_warm_X2_isWithin : GoodIn wsX2_warm wsX2_isWithin := goodIn_r _ [7] (by decide +kernel) (by decide +kernel)
set_option maxRecDepth 20000 in
theorem gX2_warm_X2_isWithin : GoodIn wsX2_warm (va_wsS RX2 167 yX2_isWithin wsX2_isWithin) := goodIn_app (goodIn_of _ (by decide +kernel)) ggX2_warm_X2_isWithin
set_option maxRecDepth 20000 in
theorem ggX2_warm_X2_remember : GoodIn wsX2_warm wsX2_remember := goodIn_r _ [11, 12, 13, 2, 14, 15, 16, 17, 18, 19, 20, 21, 22, 23, 24, 25, 26, 27, 28, 29, 30, 31, 32, 33, 34, 35, 36, 37, 38, 39, 40, 41, 42, 43, 44, 45, 46, 47, 48, 49, 50, 51, 52, 53, 54, 55, 56, 57, 58, 59, 60, 61, 62, 63, 64, 65, 66, 67, 68, 69, 70, 71, 72, 73, 74, 75, 76, 77, 78, 79, 80, 81, 82, 83, 84, 85, 86, 87, 88, 89, 90, 91, 92, 93] (by decide +kernel) (by decide +kernel)
set_option maxRecDepth 20000 in
theorem gX2_warm_X2_remember : GoodIn wsX2_warm (wsV RX2 171 RX2 yX2_remember wsX2_remember) := goodIn_app (goodIn_of _ (by decide +kernel)) ggX2_warm_X2_remember
theorem dX2_warm_0 : decode cX2_warm 0 = .ok (.iload_n 1, 1) := by decide +kernel
theorem dX2_warm_1 : decode cX2_warm 1 = .ok (.bipush (-20), 2) := by decide +kernel
theorem dX2_warm_3 : decode cX2_warm 3 = .ok (.bipush 69, 2) := by decide +kernel
theorem dX2_warm_5 : decode cX2_warm 5 = .ok (.invokestatic 167, 3) := by decide +kernel
theorem dX2_warm_8 : decode cX2_warm 8 = .ok (.ifCond .ne 6, 3) := by decide +kernel
theorem dX2_warm_11 : decode cX2_warm 11 = .ok (.ldc 110, 2) := by decide +kernel
theorem dX2_warm_13 : decode cX2_warm 13 = .ok (.ireturn, 1) := by decide +kernel
theorem dX2_warm_14 : decode cX2_warm 14 = .ok (.aload_n 0, 1) := by decide +kernel
theorem dX2_warm_15 : decode cX2_warm 15 = .ok (.invokevirtual 171, 3) := by decide +kernel
theorem dX2_warm_18 : decode cX2_warm 18 = .ok (.aload_n 0, 1) := by decide +kernel
theorem dX2_warm_19 : decode cX2_warm 19 = .ok (.getfield 10, 3) := by decide +kernel
theorem dX2_warm_22 : decode cX2_warm 22 = .ok (.getfield 47, 3) := by decide +kernel
theorem dX2_warm_25 : decode cX2_warm 25 = .ok (.istore_n 2, 1) := by decide +kernel
theorem dX2_warm_26 : decode cX2_warm 26 = .ok (.aload_n 0, 1) := by decide +kernel
theorem dX2_warm_27 : decode cX2_warm 27 = .ok (.getfield 10, 3) := by decide +kernel
theorem dX2_warm_30 : decode cX2_warm 30 = .ok (.iload_n 1, 1) := by decide +kernel
theorem dX2_warm_31 : decode cX2_warm 31 = .ok (.putfield 47, 3) := by decide +kernel
theorem dX2_warm_34 : decode cX2_warm 34 = .ok (.iload_n 2, 1) := by decide +kernel
theorem dX2_warm_35 : decode cX2_warm 35 = .ok (.bipush 20, 2) := by decide +kernel
theorem dX2_warm_37 : decode cX2_warm 37 = .ok (.iadd, 1) := by decide +kernel
theorem dX2_warm_38 : decode cX2_warm 38 = .ok (.ireturn, 1) := by decide +kernel
set_option maxRecDepth 20000 in
theorem ggX2_crystal_X2_isWithin : GoodIn wsX2_crystal wsX2_isWithin := goodIn_r _ [10] (by decide +kernel) (by decide +kernel)
set_option maxRecDepth 20000 in
theorem gX2_crystal_X2_isWithin : GoodIn wsX2_crystal (va_wsS RX2 167 yX2_isWithin wsX2_isWithin) := goodIn_app (goodIn_of _ (by decide +kernel)) ggX2_crystal_X2_isWithin
set_option maxRecDepth 20000 in
theorem ggX2_crystal_X2_remember : GoodIn wsX2_crystal wsX2_remember := goodIn_r _ [14, 15, 16, 2, 17, 18, 19, 20, 21, 22, 23, 24, 25, 26, 27, 28, 29, 30, 31, 32, 33, 34, 35, 36, 37, 38, 39, 40, 41, 42, 43, 44, 45, 46, 47, 48, 49, 50, 51, 52, 53, 54, 55, 56, 57, 58, 59, 60, 61, 62, 63, 68, 69, 70, 71, 72, 73, 74, 75, 76, 77, 78, 79, 80, 81, 82, 83, 84, 85, 86, 87, 88, 89, 90, 91, 92, 93, 94, 95, 96, 97, 98, 99, 100] (by decide +kernel) (by decide +kernel)
set_option maxRecDepth 20000 in
theorem gX2_crystal_X2_remember : GoodIn wsX2_crystal (wsV RX2 171 RX2 yX2_remember wsX2_remember) := goodIn_app (goodIn_of _ (by decide +kernel)) ggX2_crystal_X2_remember
set_option maxRecDepth 20000 in
theorem ggX2_crystal_X1_offAt : GoodIn wsX2_crystal wsX1_offAt := goodIn_r _ [67, 31, 33, 32, 78, 79, 80, 81, 82, 83, 84, 85, 86, 87, 88, 89, 90, 91, 92, 93, 94, 95] (by decide +kernel) (by decide +kernel)
set_option maxRecDepth 20000 in
theorem gX2_crystal_X1_offAt : GoodIn wsX2_crystal (wsV RX2 54 RX1 yX1_offAt wsX1_offAt) := goodIn_app (goodIn_of _ (by decide +kernel)) ggX2_crystal_X1_offAt
theorem dX2_crystal_0 : decode cX2_crystal 0 = .ok (.iload_n 1, 1) := by decide +kernel
theorem dX2_crystal_1 : decode cX2_crystal 1 = .ok (.iconst 0, 1) := by decide +kernel
theorem dX2_crystal_2 : decode cX2_crystal 2 = .ok (.bipush 40, 2) := by decide +kernel
theorem dX2_crystal_4 : decode cX2_crystal 4 = .ok (.invokestatic 167, 3) := by decide +kernel
theorem dX2_crystal_7 : decode cX2_crystal 7 = .ok (.ifCond .eq 24, 3) := by decide +kernel
theorem dX2_crystal_10 : decode cX2_crystal 10 = .ok (.iload_n 2, 1) := by decide +kernel
theorem dX2_crystal_11 : decode cX2_crystal 11 = .ok (.iconst 0, 1) := by decide +kernel
theorem dX2_crystal_12 : decode cX2_crystal 12 = .ok (.bipush 20, 2) := by decide +kernel
theorem dX2_crystal_14 : decode cX2_crystal 14 = .ok (.invokestatic 167, 3) := by decide +kernel
theorem dX2_crystal_17 : decode cX2_crystal 17 = .ok (.ifCond .eq 14, 3) := by decide +kernel
theorem dX2_crystal_20 : decode cX2_crystal 20 = .ok (.iload_n 3, 1) := by decide +kernel
theorem dX2_crystal_21 : decode cX2_crystal 21 = .ok (.bipush (-9), 2) := by decide +kernel
theorem dX2_crystal_23 : decode cX2_crystal 23 = .ok (.bipush 9, 2) := by decide +kernel
theorem dX2_crystal_25 : decode cX2_crystal 25 = .ok (.invokestatic 167, 3) := by decide +kernel
theorem dX2_crystal_28 : decode cX2_crystal 28 = .ok (.ifCond .ne 6, 3) := by decide +kernel
theorem dX2_crystal_31 : decode cX2_crystal 31 = .ok (.ldc 110, 2) := by decide +kernel
theorem dX2_crystal_33 : decode cX2_crystal 33 = .ok (.ireturn, 1) := by decide +kernel
theorem dX2_crystal_34 : decode cX2_crystal 34 = .ok (.aload_n 0, 1) := by decide +kernel
theorem dX2_crystal_35 : decode cX2_crystal 35 = .ok (.invokevirtual 171, 3) := by decide +kernel
theorem dX2_crystal_38 : decode cX2_crystal 38 = .ok (.aload_n 0, 1) := by decide +kernel
theorem dX2_crystal_39 : decode cX2_crystal 39 = .ok (.getfield 10, 3) := by decide +kernel
theorem dX2_crystal_42 : decode cX2_crystal 42 = .ok (.iload_n 1, 1) := by decide +kernel
theorem dX2_crystal_43 : decode cX2_crystal 43 = .ok (.putfield 177, 3) := by decide +kernel
theorem dX2_crystal_46 : decode cX2_crystal 46 = .ok (.aload_n 0, 1) := by decide +kernel
theorem dX2_crystal_47 : decode cX2_crystal 47 = .ok (.getfield 10, 3) := by decide +kernel
theorem dX2_crystal_50 : decode cX2_crystal 50 = .ok (.iload_n 2, 1) := by decide +kernel
theorem dX2_crystal_51 : decode cX2_crystal 51 = .ok (.putfield 180, 3) := by decide +kernel
theorem dX2_crystal_54 : decode cX2_crystal 54 = .ok (.aload_n 0, 1) := by decide +kernel
theorem dX2_crystal_55 : decode cX2_crystal 55 = .ok (.getfield 10, 3) := by decide +kernel
theorem dX2_crystal_58 : decode cX2_crystal 58 = .ok (.iload_n 3, 1) := by decide +kernel
theorem dX2_crystal_59 : decode cX2_crystal 59 = .ok (.putfield 183, 3) := by decide +kernel
theorem dX2_crystal_62 : decode cX2_crystal 62 = .ok (.aload_n 0, 1) := by decide +kernel
theorem dX2_crystal_63 : decode cX2_crystal 63 = .ok (.getfield 10, 3) := by decide +kernel
theorem dX2_crystal_66 : decode cX2_crystal 66 = .ok (.aload_n 0, 1) := by decide +kernel
theorem dX2_crystal_67 : decode cX2_crystal 67 = .ok (.getfield 10, 3) := by decide +kernel
theorem dX2_crystal_70 : decode cX2_crystal 70 = .ok (.getfield 47, 3) := by decide +kernel
theorem dX2_crystal_73 : decode cX2_crystal 73 = .ok (.invokevirtual 54, 3) := by decide +kernel
theorem dX2_crystal_76 : decode cX2_crystal 76 = .ok (.sipush 10000, 3) := by decide +kernel
theorem dX2_crystal_79 : decode cX2_crystal 79 = .ok (.iadd, 1) := by decide +kernel
theorem dX2_crystal_80 : decode cX2_crystal 80 = .ok (.ireturn, 1) := by decide +kernel
set_option maxRecDepth 20000 in
theorem ggX2_bound_X2_changeStep : GoodIn wsX2_bound wsX2_changeStep := goodIn_r _ [6, 1, 7, 8, 9, 10, 5, 11, 12, 13, 14, 15, 16, 17, 18, 19, 20, 21, 22, 23, 24, 25, 26, 27, 28, 29, 30, 31, 32, 33, 34, 35, 36, 37, 38, 39, 40, 41, 42, 43, 44, 45, 46, 47, 48, 49, 50, 51, 52, 53, 54, 55, 56, 57, 58, 59, 60, 61, 62, 63, 64, 70, 71, 72, 73, 74, 75, 76, 77, 78, 79, 80, 81, 82, 83, 84, 85, 86, 87, 88, 89, 90, 91, 92, 93, 94, 95, 96, 97, 98, 99, 100, 101, 102] (by decide +kernel) (by decide +kernel)
set_option maxRecDepth 20000 in
theorem gX2_bound_X2_changeStep : GoodIn wsX2_bound (wsV RX2 186 RX2 yX2_changeStep wsX2_changeStep) := goodIn_app (goodIn_of _ (by decide +kernel)) ggX2_bound_X2_changeStep
set_option maxRecDepth 20000 in
theorem ggX2_bound_X2_changeWider : GoodIn wsX2_bound wsX2_changeWider := goodIn_r _ [68, 1, 7, 69, 9, 10, 5, 11, 12, 13, 14, 15, 16, 17, 18, 19, 20, 21, 22, 23, 24, 25, 26, 27, 28, 29, 30, 31, 32, 33, 34, 35, 36, 37, 38, 39, 40, 41, 42, 43, 44, 45, 46, 47, 48, 49, 50, 51, 52, 53, 54, 55, 56, 57, 58, 59, 60, 61, 62, 63, 64, 70, 71, 72, 73, 74, 75, 76, 77, 78, 79, 80, 81, 82, 83, 84, 85, 86, 87, 88, 89, 90, 91, 92, 93, 94, 95, 96, 97, 98, 99, 100, 101, 102] (by decide +kernel) (by decide +kernel)
set_option maxRecDepth 20000 in
theorem gX2_bound_X2_changeWider : GoodIn wsX2_bound (wsV RX2 189 RX2 yX2_changeWider wsX2_changeWider) := goodIn_app (goodIn_of _ (by decide +kernel)) ggX2_bound_X2_changeWider
theorem dX2_bound_0 : decode cX2_bound 0 = .ok (.iload_n 1, 1) := by decide +kernel
theorem dX2_bound_1 : decode cX2_bound 1 = .ok (.lookupswitch 39 #[(0, 27), (1, 33)], 27) := by decide +kernel
theorem dX2_bound_28 : decode cX2_bound 28 = .ok (.aload_n 0, 1) := by decide +kernel
theorem dX2_bound_29 : decode cX2_bound 29 = .ok (.iload_n 2, 1) := by decide +kernel
theorem dX2_bound_30 : decode cX2_bound 30 = .ok (.invokevirtual 186, 3) := by decide +kernel
theorem dX2_bound_33 : decode cX2_bound 33 = .ok (.ireturn, 1) := by decide +kernel
theorem dX2_bound_34 : decode cX2_bound 34 = .ok (.aload_n 0, 1) := by decide +kernel
theorem dX2_bound_35 : decode cX2_bound 35 = .ok (.iload_n 2, 1) := by decide +kernel
theorem dX2_bound_36 : decode cX2_bound 36 = .ok (.invokevirtual 189, 3) := by decide +kernel
theorem dX2_bound_39 : decode cX2_bound 39 = .ok (.ireturn, 1) := by decide +kernel
theorem dX2_bound_40 : decode cX2_bound 40 = .ok (.ldc 110, 2) := by decide +kernel
theorem dX2_bound_42 : decode cX2_bound 42 = .ok (.ireturn, 1) := by decide +kernel
set_option maxRecDepth 20000 in
theorem ggX2_power_X2_remember : GoodIn wsX2_power wsX2_remember := goodIn_r _ [7, 8, 9, 1, 10, 11, 12, 13, 14, 15, 16, 17, 18, 19, 20, 21, 22, 23, 24, 25, 26, 27, 28, 29, 30, 31, 32, 33, 34, 35, 36, 37, 38, 39, 40, 41, 42, 43, 44, 45, 46, 47, 48, 49, 50, 51, 52, 53, 54, 55, 56, 60, 61, 62, 63, 64, 65, 66, 67, 68, 69, 70, 71, 72, 73, 74, 75, 76, 77, 78, 79, 80, 81, 82, 83, 84, 85, 86, 87, 88, 89, 90, 91, 92] (by decide +kernel) (by decide +kernel)
set_option maxRecDepth 20000 in
theorem gX2_power_X2_remember : GoodIn wsX2_power (wsV RX2 171 RX2 yX2_remember wsX2_remember) := goodIn_app (goodIn_of _ (by decide +kernel)) ggX2_power_X2_remember
set_option maxRecDepth 20000 in
theorem ggX2_power_X2_asInt : GoodIn wsX2_power wsX2_asInt := goodIn_r _ [59] (by decide +kernel) (by decide +kernel)
set_option maxRecDepth 20000 in
theorem gX2_power_X2_asInt : GoodIn wsX2_power (va_wsS RX2 64 yX2_asInt wsX2_asInt) := goodIn_app (goodIn_of _ (by decide +kernel)) ggX2_power_X2_asInt
theorem dX2_power_0 : decode cX2_power 0 = .ok (.aload_n 0, 1) := by decide +kernel
theorem dX2_power_1 : decode cX2_power 1 = .ok (.invokevirtual 171, 3) := by decide +kernel
theorem dX2_power_4 : decode cX2_power 4 = .ok (.aload_n 0, 1) := by decide +kernel
theorem dX2_power_5 : decode cX2_power 5 = .ok (.getfield 10, 3) := by decide +kernel
theorem dX2_power_8 : decode cX2_power 8 = .ok (.getfield 77, 3) := by decide +kernel
theorem dX2_power_11 : decode cX2_power 11 = .ok (.invokestatic 64, 3) := by decide +kernel
theorem dX2_power_14 : decode cX2_power 14 = .ok (.istore_n 2, 1) := by decide +kernel
theorem dX2_power_15 : decode cX2_power 15 = .ok (.aload_n 0, 1) := by decide +kernel
theorem dX2_power_16 : decode cX2_power 16 = .ok (.getfield 10, 3) := by decide +kernel
theorem dX2_power_19 : decode cX2_power 19 = .ok (.iload_n 1, 1) := by decide +kernel
theorem dX2_power_20 : decode cX2_power 20 = .ok (.putfield 77, 3) := by decide +kernel
theorem dX2_power_23 : decode cX2_power 23 = .ok (.iload_n 2, 1) := by decide +kernel
theorem dX2_power_24 : decode cX2_power 24 = .ok (.ireturn, 1) := by decide +kernel
set_option maxRecDepth 20000 in
theorem ggX2_hear_X2_isWithin : GoodIn wsX2_hear wsX2_isWithin := goodIn_r _ [6] (by decide +kernel) (by decide +kernel)
set_option maxRecDepth 20000 in
theorem gX2_hear_X2_isWithin : GoodIn wsX2_hear (va_wsS RX2 167 yX2_isWithin wsX2_isWithin) := goodIn_app (goodIn_of _ (by decide +kernel)) ggX2_hear_X2_isWithin
set_option maxRecDepth 20000 in
theorem ggX2_hear_X2_remember : GoodIn wsX2_hear wsX2_remember := goodIn_r _ [10, 11, 12, 2, 13, 14, 15, 16, 17, 18, 19, 20, 21, 22, 23, 24, 25, 26, 27, 28, 29, 30, 31, 32, 33, 34, 35, 36, 37, 38, 39, 40, 41, 42, 43, 44, 45, 46, 47, 48, 49, 50, 51, 52, 53, 54, 55, 56, 57, 58, 59, 99, 100, 101, 102, 103, 104, 105, 106, 107, 108, 109, 110, 111, 112, 113, 114, 115, 116, 117, 118, 119, 120, 121, 122, 123, 124, 125, 126, 127, 128, 129, 130, 131] (by decide +kernel) (by decide +kernel)
set_option maxRecDepth 20000 in
theorem gX2_hear_X2_remember : GoodIn wsX2_hear (wsV RX2 171 RX2 yX2_remember wsX2_remember) := goodIn_app (goodIn_of _ (by decide +kernel)) ggX2_hear_X2_remember
set_option maxRecDepth 20000 in
theorem ggX2_hear_X1_takeIn : GoodIn wsX2_hear wsX1_takeIn := goodIn_r _ [63, 23, 64, 32, 65, 66, 16, 67, 68, 69, 70, 35, 36, 71, 72, 73, 21, 74, 38, 37, 75, 39, 76, 77, 78, 5, 79, 80, 81, 82, 83, 24, 25, 84, 85, 86, 87, 88, 89, 90, 91, 92, 93, 94, 58, 95, 109, 110, 111, 112, 113, 114, 115, 116, 117, 118, 119, 120, 121, 122, 123, 124, 125, 126] (by decide +kernel) (by decide +kernel)
set_option maxRecDepth 20000 in
theorem gX2_hear_X1_takeIn : GoodIn wsX2_hear (wsV RX2 192 RX1 yX1_takeIn wsX1_takeIn) := goodIn_app (goodIn_of _ (by decide +kernel)) ggX2_hear_X1_takeIn
set_option maxRecDepth 20000 in
theorem ggX2_hear_X2_asInt : GoodIn wsX2_hear wsX2_asInt := goodIn_r _ [98] (by decide +kernel) (by decide +kernel)
set_option maxRecDepth 20000 in
theorem gX2_hear_X2_asInt : GoodIn wsX2_hear (va_wsS RX2 64 yX2_asInt wsX2_asInt) := goodIn_app (goodIn_of _ (by decide +kernel)) ggX2_hear_X2_asInt
theorem dX2_hear_0 : decode cX2_hear 0 = .ok (.iload_n 1, 1) := by decide +kernel
theorem dX2_hear_1 : decode cX2_hear 1 = .ok (.sipush (-9999), 3) := by decide +kernel
theorem dX2_hear_4 : decode cX2_hear 4 = .ok (.sipush 9999, 3) := by decide +kernel
theorem dX2_hear_7 : decode cX2_hear 7 = .ok (.invokestatic 167, 3) := by decide +kernel
theorem dX2_hear_10 : decode cX2_hear 10 = .ok (.ifCond .eq 14, 3) := by decide +kernel
theorem dX2_hear_13 : decode cX2_hear 13 = .ok (.iload_n 2, 1) := by decide +kernel
theorem dX2_hear_14 : decode cX2_hear 14 = .ok (.iconst 0, 1) := by decide +kernel
theorem dX2_hear_15 : decode cX2_hear 15 = .ok (.sipush 5000, 3) := by decide +kernel
theorem dX2_hear_18 : decode cX2_hear 18 = .ok (.invokestatic 167, 3) := by decide +kernel
theorem dX2_hear_21 : decode cX2_hear 21 = .ok (.ifCond .ne 6, 3) := by decide +kernel
theorem dX2_hear_24 : decode cX2_hear 24 = .ok (.ldc 110, 2) := by decide +kernel
theorem dX2_hear_26 : decode cX2_hear 26 = .ok (.ireturn, 1) := by decide +kernel
theorem dX2_hear_27 : decode cX2_hear 27 = .ok (.aload_n 0, 1) := by decide +kernel
theorem dX2_hear_28 : decode cX2_hear 28 = .ok (.invokevirtual 171, 3) := by decide +kernel
theorem dX2_hear_31 : decode cX2_hear 31 = .ok (.aload_n 0, 1) := by decide +kernel
theorem dX2_hear_32 : decode cX2_hear 32 = .ok (.getfield 10, 3) := by decide +kernel
theorem dX2_hear_35 : decode cX2_hear 35 = .ok (.iload_n 1, 1) := by decide +kernel
theorem dX2_hear_36 : decode cX2_hear 36 = .ok (.iload_n 2, 1) := by decide +kernel
theorem dX2_hear_37 : decode cX2_hear 37 = .ok (.invokevirtual 192, 3) := by decide +kernel
theorem dX2_hear_40 : decode cX2_hear 40 = .ok (.invokestatic 64, 3) := by decide +kernel
theorem dX2_hear_43 : decode cX2_hear 43 = .ok (.ireturn, 1) := by decide +kernel
set_option maxRecDepth 20000 in
theorem ggX2_alarm_X2_isWithin : GoodIn wsX2_alarm wsX2_isWithin := goodIn_r _ [9] (by decide +kernel) (by decide +kernel)
set_option maxRecDepth 20000 in
theorem gX2_alarm_X2_isWithin : GoodIn wsX2_alarm (va_wsS RX2 167 yX2_isWithin wsX2_isWithin) := goodIn_app (goodIn_of _ (by decide +kernel)) ggX2_alarm_X2_isWithin
set_option maxRecDepth 20000 in
theorem ggX2_alarm_X2_remember : GoodIn wsX2_alarm wsX2_remember := goodIn_r _ [13, 14, 15, 2, 16, 17, 18, 19, 20, 21, 22, 23, 24, 25, 26, 27, 28, 29, 30, 31, 32, 33, 34, 35, 36, 37, 38, 39, 40, 41, 42, 43, 44, 45, 46, 47, 48, 49, 50, 51, 52, 53, 54, 55, 56, 57, 58, 59, 60, 61, 62, 68, 69, 70, 71, 72, 73, 74, 75, 76, 77, 78, 79, 80, 81, 82, 83, 84, 85, 86, 87, 88, 89, 90, 91, 92, 93, 94, 95, 96, 97, 98, 99, 100] (by decide +kernel) (by decide +kernel)
set_option maxRecDepth 20000 in
theorem gX2_alarm_X2_remember : GoodIn wsX2_alarm (wsV RX2 171 RX2 yX2_remember wsX2_remember) := goodIn_app (goodIn_of _ (by decide +kernel)) ggX2_alarm_X2_remember
set_option maxRecDepth 20000 in
theorem ggX2_alarm_X0_add : GoodIn wsX2_alarm wsX0_add := goodIn_r _ [66, 53, 67, 54, 56, 57, 58, 96, 97, 98, 99, 100] (by decide +kernel) (by decide +kernel)
set_option maxRecDepth 20000 in
theorem gX2_alarm_X0_add : GoodIn wsX2_alarm (wsV RX2 197 RX0 yX0_add wsX0_add) := goodIn_app (goodIn_of _ (by decide +kernel)) ggX2_alarm_X0_add
theorem dX2_alarm_0 : decode cX2_alarm 0 = .ok (.iload_n 1, 1) := by decide +kernel
theorem dX2_alarm_1 : decode cX2_alarm 1 = .ok (.iconst (-1), 1) := by decide +kernel
theorem dX2_alarm_2 : decode cX2_alarm 2 = .ok (.bipush 59, 2) := by decide +kernel
theorem dX2_alarm_4 : decode cX2_alarm 4 = .ok (.invokestatic 167, 3) := by decide +kernel
theorem dX2_alarm_7 : decode cX2_alarm 7 = .ok (.ifCond .eq 23, 3) := by decide +kernel
theorem dX2_alarm_10 : decode cX2_alarm 10 = .ok (.iload_n 2, 1) := by decide +kernel
theorem dX2_alarm_11 : decode cX2_alarm 11 = .ok (.iconst (-1), 1) := by decide +kernel
theorem dX2_alarm_12 : decode cX2_alarm 12 = .ok (.bipush 23, 2) := by decide +kernel
theorem dX2_alarm_14 : decode cX2_alarm 14 = .ok (.invokestatic 167, 3) := by decide +kernel
theorem dX2_alarm_17 : decode cX2_alarm 17 = .ok (.ifCond .eq 13, 3) := by decide +kernel
theorem dX2_alarm_20 : decode cX2_alarm 20 = .ok (.iload_n 3, 1) := by decide +kernel
theorem dX2_alarm_21 : decode cX2_alarm 21 = .ok (.iconst (-1), 1) := by decide +kernel
theorem dX2_alarm_22 : decode cX2_alarm 22 = .ok (.bipush 6, 2) := by decide +kernel
theorem dX2_alarm_24 : decode cX2_alarm 24 = .ok (.invokestatic 167, 3) := by decide +kernel
theorem dX2_alarm_27 : decode cX2_alarm 27 = .ok (.ifCond .ne 6, 3) := by decide +kernel
theorem dX2_alarm_30 : decode cX2_alarm 30 = .ok (.ldc 110, 2) := by decide +kernel
theorem dX2_alarm_32 : decode cX2_alarm 32 = .ok (.ireturn, 1) := by decide +kernel
theorem dX2_alarm_33 : decode cX2_alarm 33 = .ok (.aload_n 0, 1) := by decide +kernel
theorem dX2_alarm_34 : decode cX2_alarm 34 = .ok (.getfield 10, 3) := by decide +kernel
theorem dX2_alarm_37 : decode cX2_alarm 37 = .ok (.getfield 91, 3) := by decide +kernel
theorem dX2_alarm_40 : decode cX2_alarm 40 = .ok (.getfield 95, 3) := by decide +kernel
theorem dX2_alarm_43 : decode cX2_alarm 43 = .ok (.bipush 6, 2) := by decide +kernel
theorem dX2_alarm_45 : decode cX2_alarm 45 = .ok (.if_icmp .lt 6, 3) := by decide +kernel
theorem dX2_alarm_48 : decode cX2_alarm 48 = .ok (.ldc 196, 2) := by decide +kernel
theorem dX2_alarm_50 : decode cX2_alarm 50 = .ok (.ireturn, 1) := by decide +kernel
theorem dX2_alarm_51 : decode cX2_alarm 51 = .ok (.aload_n 0, 1) := by decide +kernel
theorem dX2_alarm_52 : decode cX2_alarm 52 = .ok (.invokevirtual 171, 3) := by decide +kernel
theorem dX2_alarm_55 : decode cX2_alarm 55 = .ok (.aload_n 0, 1) := by decide +kernel
theorem dX2_alarm_56 : decode cX2_alarm 56 = .ok (.getfield 10, 3) := by decide +kernel
theorem dX2_alarm_59 : decode cX2_alarm 59 = .ok (.getfield 91, 3) := by decide +kernel
theorem dX2_alarm_62 : decode cX2_alarm 62 = .ok (.iload_n 1, 1) := by decide +kernel
theorem dX2_alarm_63 : decode cX2_alarm 63 = .ok (.iload_n 2, 1) := by decide +kernel
theorem dX2_alarm_64 : decode cX2_alarm 64 = .ok (.iload_n 3, 1) := by decide +kernel
theorem dX2_alarm_65 : decode cX2_alarm 65 = .ok (.invokevirtual 197, 3) := by decide +kernel
theorem dX2_alarm_68 : decode cX2_alarm 68 = .ok (.ireturn, 1) := by decide +kernel
set_option maxRecDepth 20000 in
theorem ggX2_drop_X0_has : GoodIn wsX2_drop wsX0_has := goodIn_r _ [9, 10, 96, 97, 98, 99, 100] (by decide +kernel) (by decide +kernel)
set_option maxRecDepth 20000 in
theorem gX2_drop_X0_has : GoodIn wsX2_drop (wsV RX2 148 RX0 yX0_has wsX0_has) := goodIn_app (goodIn_of _ (by decide +kernel)) ggX2_drop_X0_has
set_option maxRecDepth 20000 in
theorem ggX2_drop_X2_remember : GoodIn wsX2_drop wsX2_remember := goodIn_r _ [15, 16, 17, 1, 18, 19, 20, 21, 22, 23, 24, 25, 26, 27, 28, 29, 30, 31, 32, 33, 34, 35, 36, 37, 38, 39, 40, 41, 42, 43, 44, 45, 46, 47, 48, 49, 50, 51, 52, 8, 53, 10, 54, 55, 56, 57, 58, 59, 60, 61, 62, 68, 69, 70, 71, 72, 73, 74, 75, 76, 77, 78, 79, 80, 81, 82, 83, 84, 85, 86, 87, 88, 89, 90, 91, 92, 93, 94, 95, 96, 97, 98, 99, 100] (by decide +kernel) (by decide +kernel)
set_option maxRecDepth 20000 in
theorem gX2_drop_X2_remember : GoodIn wsX2_drop (wsV RX2 171 RX2 yX2_remember wsX2_remember) := goodIn_app (goodIn_of _ (by decide +kernel)) ggX2_drop_X2_remember
set_option maxRecDepth 20000 in
theorem ggX2_drop_X0_remove : GoodIn wsX2_drop wsX0_remove := goodIn_r _ [66, 10, 54, 56, 57, 58, 67, 6, 7, 8, 9, 96, 97, 98, 99, 100] (by decide +kernel) (by decide +kernel)
set_option maxRecDepth 20000 in
theorem gX2_drop_X0_remove : GoodIn wsX2_drop (wsV RX2 201 RX0 yX0_remove wsX0_remove) := goodIn_app (goodIn_of _ (by decide +kernel)) ggX2_drop_X0_remove
theorem dX2_drop_0 : decode cX2_drop 0 = .ok (.aload_n 0, 1) := by decide +kernel
theorem dX2_drop_1 : decode cX2_drop 1 = .ok (.getfield 10, 3) := by decide +kernel
theorem dX2_drop_4 : decode cX2_drop 4 = .ok (.getfield 91, 3) := by decide +kernel
theorem dX2_drop_7 : decode cX2_drop 7 = .ok (.iload_n 1, 1) := by decide +kernel
theorem dX2_drop_8 : decode cX2_drop 8 = .ok (.invokevirtual 148, 3) := by decide +kernel
theorem dX2_drop_11 : decode cX2_drop 11 = .ok (.ifCond .ne 6, 3) := by decide +kernel
theorem dX2_drop_14 : decode cX2_drop 14 = .ok (.ldc 140, 2) := by decide +kernel
theorem dX2_drop_16 : decode cX2_drop 16 = .ok (.ireturn, 1) := by decide +kernel
theorem dX2_drop_17 : decode cX2_drop 17 = .ok (.aload_n 0, 1) := by decide +kernel
theorem dX2_drop_18 : decode cX2_drop 18 = .ok (.invokevirtual 171, 3) := by decide +kernel
theorem dX2_drop_21 : decode cX2_drop 21 = .ok (.aload_n 0, 1) := by decide +kernel
theorem dX2_drop_22 : decode cX2_drop 22 = .ok (.getfield 10, 3) := by decide +kernel
theorem dX2_drop_25 : decode cX2_drop 25 = .ok (.getfield 91, 3) := by decide +kernel
theorem dX2_drop_28 : decode cX2_drop 28 = .ok (.iload_n 1, 1) := by decide +kernel
theorem dX2_drop_29 : decode cX2_drop 29 = .ok (.invokevirtual 201, 3) := by decide +kernel
theorem dX2_drop_32 : decode cX2_drop 32 = .ok (.aload_n 0, 1) := by decide +kernel
theorem dX2_drop_33 : decode cX2_drop 33 = .ok (.getfield 10, 3) := by decide +kernel
theorem dX2_drop_36 : decode cX2_drop 36 = .ok (.getfield 91, 3) := by decide +kernel
theorem dX2_drop_39 : decode cX2_drop 39 = .ok (.getfield 95, 3) := by decide +kernel
theorem dX2_drop_42 : decode cX2_drop 42 = .ok (.ireturn, 1) := by decide +kernel
set_option maxRecDepth 20000 in
theorem ggX2_learn_X2_isSpan : GoodIn wsX2_learn wsX2_isSpan := goodIn_r _ [8] (by decide +kernel) (by decide +kernel)
set_option maxRecDepth 20000 in
theorem gX2_learn_X2_isSpan : GoodIn wsX2_learn (va_wsS RX2 136 yX2_isSpan wsX2_isSpan) := goodIn_app (goodIn_of _ (by decide +kernel)) ggX2_learn_X2_isSpan
set_option maxRecDepth 20000 in
theorem ggX2_learn_X2_isWithin : GoodIn wsX2_learn wsX2_isWithin := goodIn_r _ [11] (by decide +kernel) (by decide +kernel)
set_option maxRecDepth 20000 in
theorem gX2_learn_X2_isWithin : GoodIn wsX2_learn (va_wsS RX2 167 yX2_isWithin wsX2_isWithin) := goodIn_app (goodIn_of _ (by decide +kernel)) ggX2_learn_X2_isWithin
set_option maxRecDepth 20000 in
theorem ggX2_learn_X2_remember : GoodIn wsX2_learn wsX2_remember := goodIn_r _ [15, 16, 17, 3, 18, 19, 20, 21, 22, 23, 24, 25, 26, 27, 28, 29, 30, 31, 32, 33, 34, 35, 36, 37, 38, 39, 40, 41, 42, 43, 44, 45, 46, 47, 48, 49, 50, 51, 52, 53, 54, 55, 56, 57, 58, 59, 60, 61, 62, 63, 64, 65, 66, 67, 68, 69, 70, 71, 72, 73, 74, 75, 76, 77, 78, 79, 80, 81, 82, 83, 84, 85, 86, 87, 88, 89, 90, 91, 92, 93, 94, 95, 96, 97] (by decide +kernel) (by decide +kernel)
set_option maxRecDepth 20000 in
theorem gX2_learn_X2_remember : GoodIn wsX2_learn (wsV RX2 171 RX2 yX2_remember wsX2_remember) := goodIn_app (goodIn_of _ (by decide +kernel)) ggX2_learn_X2_remember
theorem dX2_learn_0 : decode cX2_learn 0 = .ok (.iload_n 1, 1) := by decide +kernel
theorem dX2_learn_1 : decode cX2_learn 1 = .ok (.invokestatic 136, 3) := by decide +kernel
theorem dX2_learn_4 : decode cX2_learn 4 = .ok (.ifCond .ne 6, 3) := by decide +kernel
theorem dX2_learn_7 : decode cX2_learn 7 = .ok (.ldc 140, 2) := by decide +kernel
theorem dX2_learn_9 : decode cX2_learn 9 = .ok (.ireturn, 1) := by decide +kernel
theorem dX2_learn_10 : decode cX2_learn 10 = .ok (.iload_n 2, 1) := by decide +kernel
theorem dX2_learn_11 : decode cX2_learn 11 = .ok (.sipush (-9999), 3) := by decide +kernel
theorem dX2_learn_14 : decode cX2_learn 14 = .ok (.sipush 9999, 3) := by decide +kernel
theorem dX2_learn_17 : decode cX2_learn 17 = .ok (.invokestatic 167, 3) := by decide +kernel
theorem dX2_learn_20 : decode cX2_learn 20 = .ok (.ifCond .ne 6, 3) := by decide +kernel
theorem dX2_learn_23 : decode cX2_learn 23 = .ok (.ldc 110, 2) := by decide +kernel
theorem dX2_learn_25 : decode cX2_learn 25 = .ok (.ireturn, 1) := by decide +kernel
theorem dX2_learn_26 : decode cX2_learn 26 = .ok (.aload_n 0, 1) := by decide +kernel
theorem dX2_learn_27 : decode cX2_learn 27 = .ok (.invokevirtual 171, 3) := by decide +kernel
theorem dX2_learn_30 : decode cX2_learn 30 = .ok (.aload_n 0, 1) := by decide +kernel
theorem dX2_learn_31 : decode cX2_learn 31 = .ok (.getfield 10, 3) := by decide +kernel
theorem dX2_learn_34 : decode cX2_learn 34 = .ok (.getfield 141, 3) := by decide +kernel
theorem dX2_learn_37 : decode cX2_learn 37 = .ok (.iload_n 1, 1) := by decide +kernel
theorem dX2_learn_38 : decode cX2_learn 38 = .ok (.iaload, 1) := by decide +kernel
theorem dX2_learn_39 : decode cX2_learn 39 = .ok (.istore_n 3, 1) := by decide +kernel
theorem dX2_learn_40 : decode cX2_learn 40 = .ok (.aload_n 0, 1) := by decide +kernel
theorem dX2_learn_41 : decode cX2_learn 41 = .ok (.getfield 10, 3) := by decide +kernel
theorem dX2_learn_44 : decode cX2_learn 44 = .ok (.getfield 141, 3) := by decide +kernel
theorem dX2_learn_47 : decode cX2_learn 47 = .ok (.iload_n 1, 1) := by decide +kernel
theorem dX2_learn_48 : decode cX2_learn 48 = .ok (.iload_n 2, 1) := by decide +kernel
theorem dX2_learn_49 : decode cX2_learn 49 = .ok (.iastore, 1) := by decide +kernel
theorem dX2_learn_50 : decode cX2_learn 50 = .ok (.iload_n 3, 1) := by decide +kernel
theorem dX2_learn_51 : decode cX2_learn 51 = .ok (.sipush 10000, 3) := by decide +kernel
theorem dX2_learn_54 : decode cX2_learn 54 = .ok (.iadd, 1) := by decide +kernel
theorem dX2_learn_55 : decode cX2_learn 55 = .ok (.ireturn, 1) := by decide +kernel
set_option maxRecDepth 20000 in
theorem ggX2_drift_X2_isWithin : GoodIn wsX2_drift wsX2_isWithin := goodIn_r _ [7] (by decide +kernel) (by decide +kernel)
set_option maxRecDepth 20000 in
theorem gX2_drift_X2_isWithin : GoodIn wsX2_drift (va_wsS RX2 167 yX2_isWithin wsX2_isWithin) := goodIn_app (goodIn_of _ (by decide +kernel)) ggX2_drift_X2_isWithin
set_option maxRecDepth 20000 in
theorem ggX2_drift_X2_actByDraws : GoodIn wsX2_drift wsX2_actByDraws := goodIn_r _ [11, 2, 12, 13, 14, 15, 6, 16, 17, 18, 19, 20, 21, 22, 23, 24, 25, 26, 27, 28, 29, 30, 31, 32, 33, 34, 35, 36, 37, 38, 39, 40, 41, 42, 43, 44, 45, 46, 47, 48, 49, 50, 51, 52, 53, 54, 55, 56, 57, 58, 59, 60, 61, 62, 63, 64, 65, 66, 67, 68, 69, 70, 71, 72, 73, 74, 75, 76, 77, 78, 79, 80, 81, 82, 83, 84, 85, 86, 87, 88, 89, 90, 91, 92, 93, 94, 95, 96, 97, 98, 99, 100, 101, 102, 103, 104, 105, 106, 107, 108, 109, 110, 111, 112, 113, 114, 115, 116, 117, 118, 119, 120, 121, 122, 123, 124, 125, 126, 127, 128, 129, 130, 131, 132, 133, 134, 135, 136, 137, 138, 139, 140, 141, 142, 143, 144, 145, 146, 147, 148, 149, 150, 151, 152, 153, 154, 155, 156, 157, 158, 159, 160, 161, 162, 163, 164, 165, 166, 167, 168, 169, 170, 171, 172, 173, 174, 175, 176, 177, 178, 179, 180, 181, 182, 183, 184, 185, 186, 187, 188, 189, 194, 195, 196, 197, 198, 199, 200, 201, 202, 203, 204, 205, 206, 207, 208, 209, 210, 211, 212, 213, 214, 215, 216, 217, 218, 219, 220, 221, 222, 223, 224, 225, 226] (by decide +kernel) (by decide +kernel)
set_option maxRecDepth 20000 in
theorem gX2_drift_X2_actByDraws : GoodIn wsX2_drift (wsV RX2 205 RX2 yX2_actByDraws wsX2_actByDraws) := goodIn_app (goodIn_of _ (by decide +kernel)) ggX2_drift_X2_actByDraws
set_option maxRecDepth 20000 in
theorem ggX2_drift_X0_totalRings : GoodIn wsX2_drift wsX0_totalRings := goodIn_r _ [193, 56, 61, 222, 223, 224, 225, 226] (by decide +kernel) (by decide +kernel)
set_option maxRecDepth 20000 in
theorem gX2_drift_X0_totalRings : GoodIn wsX2_drift (wsV RX2 100 RX0 yX0_totalRings wsX0_totalRings) := goodIn_app (goodIn_of _ (by decide +kernel)) ggX2_drift_X0_totalRings
theorem dX2_drift_0 : decode cX2_drift 0 = .ok (.iload_n 1, 1) := by decide +kernel
theorem dX2_drift_1 : decode cX2_drift 1 = .ok (.iconst 1, 1) := by decide +kernel
theorem dX2_drift_2 : decode cX2_drift 2 = .ok (.bipush 20, 2) := by decide +kernel
theorem dX2_drift_4 : decode cX2_drift 4 = .ok (.invokestatic 167, 3) := by decide +kernel
theorem dX2_drift_7 : decode cX2_drift 7 = .ok (.ifCond .ne 6, 3) := by decide +kernel
theorem dX2_drift_10 : decode cX2_drift 10 = .ok (.ldc 110, 2) := by decide +kernel
theorem dX2_drift_12 : decode cX2_drift 12 = .ok (.ireturn, 1) := by decide +kernel
theorem dX2_drift_13 : decode cX2_drift 13 = .ok (.iconst 0, 1) := by decide +kernel
theorem dX2_drift_14 : decode cX2_drift 14 = .ok (.istore_n 2, 1) := by decide +kernel
theorem dX2_drift_15 : decode cX2_drift 15 = .ok (.iload_n 2, 1) := by decide +kernel
theorem dX2_drift_16 : decode cX2_drift 16 = .ok (.iload_n 1, 1) := by decide +kernel
theorem dX2_drift_17 : decode cX2_drift 17 = .ok (.if_icmp .ge 13, 3) := by decide +kernel
theorem dX2_drift_20 : decode cX2_drift 20 = .ok (.aload_n 0, 1) := by decide +kernel
theorem dX2_drift_21 : decode cX2_drift 21 = .ok (.invokevirtual 205, 3) := by decide +kernel
theorem dX2_drift_24 : decode cX2_drift 24 = .ok (.iinc 2 1, 3) := by decide +kernel
theorem dX2_drift_27 : decode cX2_drift 27 = .ok (.goto (-12), 3) := by decide +kernel
theorem dX2_drift_30 : decode cX2_drift 30 = .ok (.aload_n 0, 1) := by decide +kernel
theorem dX2_drift_31 : decode cX2_drift 31 = .ok (.getfield 10, 3) := by decide +kernel
theorem dX2_drift_34 : decode cX2_drift 34 = .ok (.getfield 91, 3) := by decide +kernel
theorem dX2_drift_37 : decode cX2_drift 37 = .ok (.invokevirtual 100, 3) := by decide +kernel
theorem dX2_drift_40 : decode cX2_drift 40 = .ok (.ireturn, 1) := by decide +kernel
set_option maxRecDepth 20000 in
theorem ggX2_undo_X2_isWithin : GoodIn wsX2_undo wsX2_isWithin := goodIn_r _ [10] (by decide +kernel) (by decide +kernel)
set_option maxRecDepth 20000 in
theorem gX2_undo_X2_isWithin : GoodIn wsX2_undo (va_wsS RX2 167 yX2_isWithin wsX2_isWithin) := goodIn_app (goodIn_of _ (by decide +kernel)) ggX2_undo_X2_isWithin
set_option maxRecDepth 20000 in
theorem ggX2_undo_J9_floorMod_7cf53 : GoodIn wsX2_undo wsJ9_floorMod_7cf53 := goodIn_r _ [14] (by decide +kernel) (by decide +kernel)
set_option maxRecDepth 20000 in
theorem gX2_undo_J9_floorMod_7cf53 : GoodIn wsX2_undo (va_wsS RX2 209 yJ9_floorMod_7cf53 wsJ9_floorMod_7cf53) := goodIn_app (goodIn_of _ (by decide +kernel)) ggX2_undo_J9_floorMod_7cf53
set_option maxRecDepth 20000 in
theorem ggX2_undo_X1_copyFrom : GoodIn wsX2_undo wsX1_copyFrom := goodIn_r _ [19, 20, 21, 22, 23, 24, 25, 26, 27, 28, 29, 30, 31, 32, 33, 34, 35, 36, 37, 38, 39, 40, 41, 42, 43, 44, 45, 46, 47, 48, 49, 50, 51, 52, 63, 64, 65, 66, 67, 68, 69, 70, 71, 72, 73, 74, 75, 76, 77, 78, 79, 80, 81, 82, 83, 84, 85] (by decide +kernel) (by decide +kernel)
set_option maxRecDepth 20000 in
theorem gX2_undo_X1_copyFrom : GoodIn wsX2_undo (wsV RX2 215 RX1 yX1_copyFrom wsX1_copyFrom) := goodIn_app (goodIn_of _ (by decide +kernel)) ggX2_undo_X1_copyFrom
theorem dX2_undo_0 : decode cX2_undo 0 = .ok (.iload_n 1, 1) := by decide +kernel
theorem dX2_undo_1 : decode cX2_undo 1 = .ok (.iconst 1, 1) := by decide +kernel
theorem dX2_undo_2 : decode cX2_undo 2 = .ok (.bipush 20, 2) := by decide +kernel
theorem dX2_undo_4 : decode cX2_undo 4 = .ok (.invokestatic 167, 3) := by decide +kernel
theorem dX2_undo_7 : decode cX2_undo 7 = .ok (.ifCond .ne 6, 3) := by decide +kernel
theorem dX2_undo_10 : decode cX2_undo 10 = .ok (.ldc 110, 2) := by decide +kernel
theorem dX2_undo_12 : decode cX2_undo 12 = .ok (.ireturn, 1) := by decide +kernel
theorem dX2_undo_13 : decode cX2_undo 13 = .ok (.iload_n 1, 1) := by decide +kernel
theorem dX2_undo_14 : decode cX2_undo 14 = .ok (.aload_n 0, 1) := by decide +kernel
theorem dX2_undo_15 : decode cX2_undo 15 = .ok (.getfield 27, 3) := by decide +kernel
theorem dX2_undo_18 : decode cX2_undo 18 = .ok (.if_icmp .le 6, 3) := by decide +kernel
theorem dX2_undo_21 : decode cX2_undo 21 = .ok (.ldc 208, 2) := by decide +kernel
theorem dX2_undo_23 : decode cX2_undo 23 = .ok (.ireturn, 1) := by decide +kernel
theorem dX2_undo_24 : decode cX2_undo 24 = .ok (.aload_n 0, 1) := by decide +kernel
theorem dX2_undo_25 : decode cX2_undo 25 = .ok (.aload_n 0, 1) := by decide +kernel
theorem dX2_undo_26 : decode cX2_undo 26 = .ok (.getfield 24, 3) := by decide +kernel
theorem dX2_undo_29 : decode cX2_undo 29 = .ok (.iload_n 1, 1) := by decide +kernel
theorem dX2_undo_30 : decode cX2_undo 30 = .ok (.isub, 1) := by decide +kernel
theorem dX2_undo_31 : decode cX2_undo 31 = .ok (.bipush 20, 2) := by decide +kernel
theorem dX2_undo_33 : decode cX2_undo 33 = .ok (.invokestatic 209, 3) := by decide +kernel
theorem dX2_undo_36 : decode cX2_undo 36 = .ok (.putfield 24, 3) := by decide +kernel
theorem dX2_undo_39 : decode cX2_undo 39 = .ok (.aload_n 0, 1) := by decide +kernel
theorem dX2_undo_40 : decode cX2_undo 40 = .ok (.getfield 10, 3) := by decide +kernel
theorem dX2_undo_43 : decode cX2_undo 43 = .ok (.aload_n 0, 1) := by decide +kernel
theorem dX2_undo_44 : decode cX2_undo 44 = .ok (.getfield 20, 3) := by decide +kernel
theorem dX2_undo_47 : decode cX2_undo 47 = .ok (.aload_n 0, 1) := by decide +kernel
theorem dX2_undo_48 : decode cX2_undo 48 = .ok (.getfield 24, 3) := by decide +kernel
theorem dX2_undo_51 : decode cX2_undo 51 = .ok (.aaload, 1) := by decide +kernel
theorem dX2_undo_52 : decode cX2_undo 52 = .ok (.invokevirtual 215, 3) := by decide +kernel
theorem dX2_undo_55 : decode cX2_undo 55 = .ok (.aload_n 0, 1) := by decide +kernel
theorem dX2_undo_56 : decode cX2_undo 56 = .ok (.dup, 1) := by decide +kernel
theorem dX2_undo_57 : decode cX2_undo 57 = .ok (.getfield 27, 3) := by decide +kernel
theorem dX2_undo_60 : decode cX2_undo 60 = .ok (.iload_n 1, 1) := by decide +kernel
theorem dX2_undo_61 : decode cX2_undo 61 = .ok (.isub, 1) := by decide +kernel
theorem dX2_undo_62 : decode cX2_undo 62 = .ok (.putfield 27, 3) := by decide +kernel
theorem dX2_undo_65 : decode cX2_undo 65 = .ok (.aload_n 0, 1) := by decide +kernel
theorem dX2_undo_66 : decode cX2_undo 66 = .ok (.getfield 27, 3) := by decide +kernel
theorem dX2_undo_69 : decode cX2_undo 69 = .ok (.ireturn, 1) := by decide +kernel
set_option maxRecDepth 20000 in
theorem ggX2_evenly_X2_isWithin : GoodIn wsX2_evenly wsX2_isWithin := goodIn_r _ [5] (by decide +kernel) (by decide +kernel)
set_option maxRecDepth 20000 in
theorem gX2_evenly_X2_isWithin : GoodIn wsX2_evenly (va_wsS RX2 167 yX2_isWithin wsX2_isWithin) := goodIn_app (goodIn_of _ (by decide +kernel)) ggX2_evenly_X2_isWithin
set_option maxRecDepth 20000 in
theorem ggX2_evenly_X2_asInt : GoodIn wsX2_evenly wsX2_asInt := goodIn_r _ [8] (by decide +kernel) (by decide +kernel)
set_option maxRecDepth 20000 in
theorem gX2_evenly_X2_asInt : GoodIn wsX2_evenly (va_wsS RX2 64 yX2_asInt wsX2_asInt) := goodIn_app (goodIn_of _ (by decide +kernel)) ggX2_evenly_X2_asInt
theorem dX2_evenly_0 : decode cX2_evenly 0 = .ok (.iload_n 1, 1) := by decide +kernel
theorem dX2_evenly_1 : decode cX2_evenly 1 = .ok (.iconst 1, 1) := by decide +kernel
theorem dX2_evenly_2 : decode cX2_evenly 2 = .ok (.sipush 999, 3) := by decide +kernel
theorem dX2_evenly_5 : decode cX2_evenly 5 = .ok (.invokestatic 167, 3) := by decide +kernel
theorem dX2_evenly_8 : decode cX2_evenly 8 = .ok (.ifCond .eq 23, 3) := by decide +kernel
theorem dX2_evenly_11 : decode cX2_evenly 11 = .ok (.iload_n 2, 1) := by decide +kernel
theorem dX2_evenly_12 : decode cX2_evenly 12 = .ok (.iconst 0, 1) := by decide +kernel
theorem dX2_evenly_13 : decode cX2_evenly 13 = .ok (.iload_n 1, 1) := by decide +kernel
theorem dX2_evenly_14 : decode cX2_evenly 14 = .ok (.invokestatic 167, 3) := by decide +kernel
theorem dX2_evenly_17 : decode cX2_evenly 17 = .ok (.ifCond .eq 14, 3) := by decide +kernel
theorem dX2_evenly_20 : decode cX2_evenly 20 = .ok (.iload_n 3, 1) := by decide +kernel
theorem dX2_evenly_21 : decode cX2_evenly 21 = .ok (.iconst 0, 1) := by decide +kernel
theorem dX2_evenly_22 : decode cX2_evenly 22 = .ok (.iload_n 1, 1) := by decide +kernel
theorem dX2_evenly_23 : decode cX2_evenly 23 = .ok (.iconst 1, 1) := by decide +kernel
theorem dX2_evenly_24 : decode cX2_evenly 24 = .ok (.isub, 1) := by decide +kernel
theorem dX2_evenly_25 : decode cX2_evenly 25 = .ok (.invokestatic 167, 3) := by decide +kernel
theorem dX2_evenly_28 : decode cX2_evenly 28 = .ok (.ifCond .ne 6, 3) := by decide +kernel
theorem dX2_evenly_31 : decode cX2_evenly 31 = .ok (.ldc 110, 2) := by decide +kernel
theorem dX2_evenly_33 : decode cX2_evenly 33 = .ok (.ireturn, 1) := by decide +kernel
theorem dX2_evenly_34 : decode cX2_evenly 34 = .ok (.iload_n 3, 1) := by decide +kernel
theorem dX2_evenly_35 : decode cX2_evenly 35 = .ok (.iconst 1, 1) := by decide +kernel
theorem dX2_evenly_36 : decode cX2_evenly 36 = .ok (.iadd, 1) := by decide +kernel
theorem dX2_evenly_37 : decode cX2_evenly 37 = .ok (.iload_n 2, 1) := by decide +kernel
theorem dX2_evenly_38 : decode cX2_evenly 38 = .ok (.imul, 1) := by decide +kernel
theorem dX2_evenly_39 : decode cX2_evenly 39 = .ok (.iload_n 1, 1) := by decide +kernel
theorem dX2_evenly_40 : decode cX2_evenly 40 = .ok (.idiv, 1) := by decide +kernel
theorem dX2_evenly_41 : decode cX2_evenly 41 = .ok (.iload_n 3, 1) := by decide +kernel
theorem dX2_evenly_42 : decode cX2_evenly 42 = .ok (.iload_n 2, 1) := by decide +kernel
theorem dX2_evenly_43 : decode cX2_evenly 43 = .ok (.imul, 1) := by decide +kernel
theorem dX2_evenly_44 : decode cX2_evenly 44 = .ok (.iload_n 1, 1) := by decide +kernel
theorem dX2_evenly_45 : decode cX2_evenly 45 = .ok (.idiv, 1) := by decide +kernel
theorem dX2_evenly_46 : decode cX2_evenly 46 = .ok (.if_icmp .le 7, 3) := by decide +kernel
theorem dX2_evenly_49 : decode cX2_evenly 49 = .ok (.iconst 1, 1) := by decide +kernel
theorem dX2_evenly_50 : decode cX2_evenly 50 = .ok (.goto 4, 3) := by decide +kernel
theorem dX2_evenly_53 : decode cX2_evenly 53 = .ok (.iconst 0, 1) := by decide +kernel
theorem dX2_evenly_54 : decode cX2_evenly 54 = .ok (.invokestatic 64, 3) := by decide +kernel
theorem dX2_evenly_57 : decode cX2_evenly 57 = .ok (.ireturn, 1) := by decide +kernel
set_option maxRecDepth 20000 in
theorem ggX2_after_X2_isWithin : GoodIn wsX2_after wsX2_isWithin := goodIn_r _ [6] (by decide +kernel) (by decide +kernel)
set_option maxRecDepth 20000 in
theorem gX2_after_X2_isWithin : GoodIn wsX2_after (va_wsS RX2 167 yX2_isWithin wsX2_isWithin) := goodIn_app (goodIn_of _ (by decide +kernel)) ggX2_after_X2_isWithin
set_option maxRecDepth 20000 in
theorem ggX2_after_X1_boardTimeAfter : GoodIn wsX2_after wsX1_boardTimeAfter := goodIn_r _ [11, 12, 13, 14, 15, 16, 17, 18, 19, 10, 20, 21, 22, 23, 24, 25, 26, 27, 28, 29, 5, 30, 31, 32, 33, 34, 35, 36, 37, 38, 39, 40, 41, 42, 43, 44, 45, 46, 47, 48, 49, 50, 51, 52, 53, 54, 55, 56, 67, 68, 69, 70, 71, 72, 73, 74, 75, 76, 77, 78, 79, 80, 81, 82, 83, 84] (by decide +kernel) (by decide +kernel)
set_option maxRecDepth 20000 in
theorem gX2_after_X1_boardTimeAfter : GoodIn wsX2_after (wsV RX2 219 RX1 yX1_boardTimeAfter wsX1_boardTimeAfter) := goodIn_app (goodIn_of _ (by decide +kernel)) ggX2_after_X1_boardTimeAfter
theorem dX2_after_0 : decode cX2_after 0 = .ok (.iload_n 1, 1) := by decide +kernel
theorem dX2_after_1 : decode cX2_after 1 = .ok (.iconst 0, 1) := by decide +kernel
theorem dX2_after_2 : decode cX2_after 2 = .ok (.sipush 2000, 3) := by decide +kernel
theorem dX2_after_5 : decode cX2_after 5 = .ok (.invokestatic 167, 3) := by decide +kernel
theorem dX2_after_8 : decode cX2_after 8 = .ok (.ifCond .ne 7, 3) := by decide +kernel
theorem dX2_after_11 : decode cX2_after 11 = .ok (.ldc2_w 121, 3) := by decide +kernel
theorem dX2_after_14 : decode cX2_after 14 = .ok (.lreturn, 1) := by decide +kernel
theorem dX2_after_15 : decode cX2_after 15 = .ok (.aload_n 0, 1) := by decide +kernel
theorem dX2_after_16 : decode cX2_after 16 = .ok (.getfield 10, 3) := by decide +kernel
theorem dX2_after_19 : decode cX2_after 19 = .ok (.iload_n 1, 1) := by decide +kernel
theorem dX2_after_20 : decode cX2_after 20 = .ok (.invokevirtual 219, 3) := by decide +kernel
theorem dX2_after_23 : decode cX2_after 23 = .ok (.lreturn, 1) := by decide +kernel
set_option maxRecDepth 20000 in
theorem ggX2_rings_X2_isWithin : GoodIn wsX2_rings wsX2_isWithin := goodIn_r _ [8] (by decide +kernel) (by decide +kernel)
set_option maxRecDepth 20000 in
theorem gX2_rings_X2_isWithin : GoodIn wsX2_rings (va_wsS RX2 167 yX2_isWithin wsX2_isWithin) := goodIn_app (goodIn_of _ (by decide +kernel)) ggX2_rings_X2_isWithin
set_option maxRecDepth 20000 in
theorem ggX2_rings_X1_minuteNumber : GoodIn wsX2_rings wsX1_minuteNumber := goodIn_r _ [13, 14, 15, 117, 118, 119, 120, 121, 122, 123, 124, 125, 126, 127, 128, 129, 130, 131, 132, 133, 134] (by decide +kernel) (by decide +kernel)
set_option maxRecDepth 20000 in
theorem gX2_rings_X1_minuteNumber : GoodIn wsX2_rings (wsV RX2 123 RX1 yX1_minuteNumber wsX1_minuteNumber) := goodIn_app (goodIn_of _ (by decide +kernel)) ggX2_rings_X1_minuteNumber
set_option maxRecDepth 20000 in
theorem ggX2_rings_X1_boardTimeAfter : GoodIn wsX2_rings wsX1_boardTimeAfter := goodIn_r _ [19, 14, 15, 20, 21, 22, 23, 24, 25, 12, 26, 27, 28, 29, 30, 31, 32, 33, 34, 35, 7, 36, 37, 38, 39, 40, 41, 42, 43, 44, 45, 46, 47, 48, 49, 50, 51, 52, 53, 54, 55, 56, 57, 58, 59, 60, 61, 62, 117, 118, 119, 120, 121, 122, 123, 124, 125, 126, 127, 128, 129, 130, 131, 132, 133, 134] (by decide +kernel) (by decide +kernel)
set_option maxRecDepth 20000 in
theorem gX2_rings_X1_boardTimeAfter : GoodIn wsX2_rings (wsV RX2 219 RX1 yX1_boardTimeAfter wsX1_boardTimeAfter) := goodIn_app (goodIn_of _ (by decide +kernel)) ggX2_rings_X1_boardTimeAfter
set_option maxRecDepth 20000 in
theorem ggX2_rings_X0_ringsToCome : GoodIn wsX2_rings wsX0_ringsToCome := goodIn_r _ [67, 68, 69, 70, 71, 72, 58, 73, 74, 75, 76, 66, 77, 78, 79, 80, 81, 82, 83, 84, 85, 86, 87, 7, 88, 89, 90, 91, 92, 93, 94, 95, 96, 97, 98, 99, 100, 101, 102, 103, 104, 105, 106, 135, 136, 137, 138, 139] (by decide +kernel) (by decide +kernel)
set_option maxRecDepth 20000 in
theorem gX2_rings_X0_ringsToCome : GoodIn wsX2_rings (wsV RX2 225 RX0 yX0_ringsToCome wsX0_ringsToCome) := goodIn_app (goodIn_of _ (by decide +kernel)) ggX2_rings_X0_ringsToCome
theorem dX2_rings_0 : decode cX2_rings 0 = .ok (.iload_n 1, 1) := by decide +kernel
theorem dX2_rings_1 : decode cX2_rings 1 = .ok (.iconst 0, 1) := by decide +kernel
theorem dX2_rings_2 : decode cX2_rings 2 = .ok (.sipush 2000, 3) := by decide +kernel
theorem dX2_rings_5 : decode cX2_rings 5 = .ok (.invokestatic 167, 3) := by decide +kernel
theorem dX2_rings_8 : decode cX2_rings 8 = .ok (.ifCond .ne 6, 3) := by decide +kernel
theorem dX2_rings_11 : decode cX2_rings 11 = .ok (.ldc 110, 2) := by decide +kernel
theorem dX2_rings_13 : decode cX2_rings 13 = .ok (.ireturn, 1) := by decide +kernel
theorem dX2_rings_14 : decode cX2_rings 14 = .ok (.aload_n 0, 1) := by decide +kernel
theorem dX2_rings_15 : decode cX2_rings 15 = .ok (.getfield 10, 3) := by decide +kernel
theorem dX2_rings_18 : decode cX2_rings 18 = .ok (.getfield 91, 3) := by decide +kernel
theorem dX2_rings_21 : decode cX2_rings 21 = .ok (.aload_n 0, 1) := by decide +kernel
theorem dX2_rings_22 : decode cX2_rings 22 = .ok (.getfield 10, 3) := by decide +kernel
theorem dX2_rings_25 : decode cX2_rings 25 = .ok (.invokevirtual 123, 3) := by decide +kernel
theorem dX2_rings_28 : decode cX2_rings 28 = .ok (.aload_n 0, 1) := by decide +kernel
theorem dX2_rings_29 : decode cX2_rings 29 = .ok (.getfield 10, 3) := by decide +kernel
theorem dX2_rings_32 : decode cX2_rings 32 = .ok (.iload_n 1, 1) := by decide +kernel
theorem dX2_rings_33 : decode cX2_rings 33 = .ok (.invokevirtual 219, 3) := by decide +kernel
theorem dX2_rings_36 : decode cX2_rings 36 = .ok (.ldc2_w 223, 3) := by decide +kernel
theorem dX2_rings_39 : decode cX2_rings 39 = .ok (.ldiv, 1) := by decide +kernel
theorem dX2_rings_40 : decode cX2_rings 40 = .ok (.invokevirtual 225, 3) := by decide +kernel
theorem dX2_rings_43 : decode cX2_rings 43 = .ok (.ireturn, 1) := by decide +kernel
set_option maxRecDepth 20000 in
theorem ggX2_untilWide_X2_isWithin : GoodIn wsX2_untilWide wsX2_isWithin := goodIn_r _ [8] (by decide +kernel) (by decide +kernel)
set_option maxRecDepth 20000 in
theorem gX2_untilWide_X2_isWithin : GoodIn wsX2_untilWide (va_wsS RX2 167 yX2_isWithin wsX2_isWithin) := goodIn_app (goodIn_of _ (by decide +kernel)) ggX2_untilWide_X2_isWithin
set_option maxRecDepth 20000 in
theorem ggX2_untilWide_X1_ticksUntilWide : GoodIn wsX2_untilWide wsX1_ticksUntilWide := goodIn_r _ [13, 14, 15, 16, 17, 12, 18, 19, 20, 31, 32, 33, 34, 35, 36, 37, 38, 39, 40, 41, 42, 43, 44, 45, 46, 47, 48] (by decide +kernel) (by decide +kernel)
set_option maxRecDepth 20000 in
theorem gX2_untilWide_X1_ticksUntilWide : GoodIn wsX2_untilWide (wsV RX2 232 RX1 yX1_ticksUntilWide wsX1_ticksUntilWide) := goodIn_app (goodIn_of _ (by decide +kernel)) ggX2_untilWide_X1_ticksUntilWide
theorem dX2_untilWide_0 : decode cX2_untilWide 0 = .ok (.iload_n 1, 1) := by decide +kernel
theorem dX2_untilWide_1 : decode cX2_untilWide 1 = .ok (.iconst 0, 1) := by decide +kernel
theorem dX2_untilWide_2 : decode cX2_untilWide 2 = .ok (.ldc 229, 2) := by decide +kernel
theorem dX2_untilWide_4 : decode cX2_untilWide 4 = .ok (.invokestatic 167, 3) := by decide +kernel
theorem dX2_untilWide_7 : decode cX2_untilWide 7 = .ok (.ifCond .ne 6, 3) := by decide +kernel
theorem dX2_untilWide_10 : decode cX2_untilWide 10 = .ok (.ldc 110, 2) := by decide +kernel
theorem dX2_untilWide_12 : decode cX2_untilWide 12 = .ok (.ireturn, 1) := by decide +kernel
theorem dX2_untilWide_13 : decode cX2_untilWide 13 = .ok (.aload_n 0, 1) := by decide +kernel
theorem dX2_untilWide_14 : decode cX2_untilWide 14 = .ok (.getfield 10, 3) := by decide +kernel
theorem dX2_untilWide_17 : decode cX2_untilWide 17 = .ok (.iload_n 1, 1) := by decide +kernel
theorem dX2_untilWide_18 : decode cX2_untilWide 18 = .ok (.i2l, 1) := by decide +kernel
theorem dX2_untilWide_19 : decode cX2_untilWide 19 = .ok (.ldc2_w 230, 3) := by decide +kernel
theorem dX2_untilWide_22 : decode cX2_untilWide 22 = .ok (.lmul, 1) := by decide +kernel
theorem dX2_untilWide_23 : decode cX2_untilWide 23 = .ok (.invokevirtual 232, 3) := by decide +kernel
theorem dX2_untilWide_26 : decode cX2_untilWide 26 = .ok (.ireturn, 1) := by decide +kernel
theorem dX2_write_0 : decode cX2_write 0 = .ok (.aload_n 0, 1) := by decide +kernel
theorem dX2_write_1 : decode cX2_write 1 = .ok (.getfield 44, 3) := by decide +kernel
theorem dX2_write_4 : decode cX2_write 4 = .ok (.bipush 20, 2) := by decide +kernel
theorem dX2_write_6 : decode cX2_write 6 = .ok (.if_icmp .lt 6, 3) := by decide +kernel
theorem dX2_write_9 : decode cX2_write 9 = .ok (.ldc 196, 2) := by decide +kernel
theorem dX2_write_11 : decode cX2_write 11 = .ok (.ireturn, 1) := by decide +kernel
theorem dX2_write_12 : decode cX2_write 12 = .ok (.aload_n 0, 1) := by decide +kernel
theorem dX2_write_13 : decode cX2_write 13 = .ok (.getfield 41, 3) := by decide +kernel
theorem dX2_write_16 : decode cX2_write 16 = .ok (.aload_n 0, 1) := by decide +kernel
theorem dX2_write_17 : decode cX2_write 17 = .ok (.getfield 44, 3) := by decide +kernel
theorem dX2_write_20 : decode cX2_write 20 = .ok (.iload_n 1, 1) := by decide +kernel
theorem dX2_write_21 : decode cX2_write 21 = .ok (.iastore, 1) := by decide +kernel
theorem dX2_write_22 : decode cX2_write 22 = .ok (.aload_n 0, 1) := by decide +kernel
theorem dX2_write_23 : decode cX2_write 23 = .ok (.dup, 1) := by decide +kernel
theorem dX2_write_24 : decode cX2_write 24 = .ok (.getfield 44, 3) := by decide +kernel
theorem dX2_write_27 : decode cX2_write 27 = .ok (.iconst 1, 1) := by decide +kernel
theorem dX2_write_28 : decode cX2_write 28 = .ok (.iadd, 1) := by decide +kernel
theorem dX2_write_29 : decode cX2_write 29 = .ok (.putfield 44, 3) := by decide +kernel
theorem dX2_write_32 : decode cX2_write 32 = .ok (.aload_n 0, 1) := by decide +kernel
theorem dX2_write_33 : decode cX2_write 33 = .ok (.getfield 44, 3) := by decide +kernel
theorem dX2_write_36 : decode cX2_write 36 = .ok (.ireturn, 1) := by decide +kernel
theorem dX2_tear_0 : decode cX2_tear 0 = .ok (.aload_n 0, 1) := by decide +kernel
theorem dX2_tear_1 : decode cX2_tear 1 = .ok (.getfield 44, 3) := by decide +kernel
theorem dX2_tear_4 : decode cX2_tear 4 = .ok (.istore_n 1, 1) := by decide +kernel
theorem dX2_tear_5 : decode cX2_tear 5 = .ok (.aload_n 0, 1) := by decide +kernel
theorem dX2_tear_6 : decode cX2_tear 6 = .ok (.iconst 0, 1) := by decide +kernel
theorem dX2_tear_7 : decode cX2_tear 7 = .ok (.putfield 44, 3) := by decide +kernel
theorem dX2_tear_10 : decode cX2_tear 10 = .ok (.iload_n 1, 1) := by decide +kernel
theorem dX2_tear_11 : decode cX2_tear 11 = .ok (.ireturn, 1) := by decide +kernel
theorem dX2_seed_0 : decode cX2_seed 0 = .ok (.iload_n 1, 1) := by decide +kernel
theorem dX2_seed_1 : decode cX2_seed 1 = .ok (.ifCond .ge 6, 3) := by decide +kernel
theorem dX2_seed_4 : decode cX2_seed 4 = .ok (.ldc 110, 2) := by decide +kernel
theorem dX2_seed_6 : decode cX2_seed 6 = .ok (.ireturn, 1) := by decide +kernel
theorem dX2_seed_7 : decode cX2_seed 7 = .ok (.aload_n 0, 1) := by decide +kernel
theorem dX2_seed_8 : decode cX2_seed 8 = .ok (.getfield 16, 3) := by decide +kernel
theorem dX2_seed_11 : decode cX2_seed 11 = .ok (.istore_n 2, 1) := by decide +kernel
theorem dX2_seed_12 : decode cX2_seed 12 = .ok (.aload_n 0, 1) := by decide +kernel
theorem dX2_seed_13 : decode cX2_seed 13 = .ok (.iload_n 1, 1) := by decide +kernel
theorem dX2_seed_14 : decode cX2_seed 14 = .ok (.putfield 16, 3) := by decide +kernel
theorem dX2_seed_17 : decode cX2_seed 17 = .ok (.iload_n 2, 1) := by decide +kernel
theorem dX2_seed_18 : decode cX2_seed 18 = .ok (.ireturn, 1) := by decide +kernel
set_option maxRecDepth 20000 in
theorem ggX2_keep_X2_isWithin : GoodIn wsX2_keep wsX2_isWithin := goodIn_r _ [11] (by decide +kernel) (by decide +kernel)
set_option maxRecDepth 20000 in
theorem gX2_keep_X2_isWithin : GoodIn wsX2_keep (va_wsS RX2 167 yX2_isWithin wsX2_isWithin) := goodIn_app (goodIn_of _ (by decide +kernel)) ggX2_keep_X2_isWithin
set_option maxRecDepth 20000 in
theorem ggX2_keep_X1_copyFrom : GoodIn wsX2_keep wsX1_copyFrom := goodIn_r _ [16, 17, 18, 19, 20, 21, 22, 23, 24, 25, 26, 27, 28, 29, 30, 31, 32, 33, 34, 35, 36, 37, 38, 39, 40, 41, 42, 43, 44, 45, 46, 47, 48, 49, 60, 61, 62, 63, 64, 65, 66, 67, 68, 69, 70, 71, 72, 73, 74, 75, 76, 77, 78, 79, 80, 81, 82] (by decide +kernel) (by decide +kernel)
set_option maxRecDepth 20000 in
theorem gX2_keep_X1_copyFrom : GoodIn wsX2_keep (wsV RX2 215 RX1 yX1_copyFrom wsX1_copyFrom) := goodIn_app (goodIn_of _ (by decide +kernel)) ggX2_keep_X1_copyFrom
theorem dX2_keep_0 : decode cX2_keep 0 = .ok (.iload_n 1, 1) := by decide +kernel
theorem dX2_keep_1 : decode cX2_keep 1 = .ok (.iconst 0, 1) := by decide +kernel
theorem dX2_keep_2 : decode cX2_keep 2 = .ok (.iconst 1, 1) := by decide +kernel
theorem dX2_keep_3 : decode cX2_keep 3 = .ok (.invokestatic 167, 3) := by decide +kernel
theorem dX2_keep_6 : decode cX2_keep 6 = .ok (.ifCond .ne 6, 3) := by decide +kernel
theorem dX2_keep_9 : decode cX2_keep 9 = .ok (.ldc 140, 2) := by decide +kernel
theorem dX2_keep_11 : decode cX2_keep 11 = .ok (.ireturn, 1) := by decide +kernel
theorem dX2_keep_12 : decode cX2_keep 12 = .ok (.aload_n 0, 1) := by decide +kernel
theorem dX2_keep_13 : decode cX2_keep 13 = .ok (.getfield 30, 3) := by decide +kernel
theorem dX2_keep_16 : decode cX2_keep 16 = .ok (.iload_n 1, 1) := by decide +kernel
theorem dX2_keep_17 : decode cX2_keep 17 = .ok (.aaload, 1) := by decide +kernel
theorem dX2_keep_18 : decode cX2_keep 18 = .ok (.aload_n 0, 1) := by decide +kernel
theorem dX2_keep_19 : decode cX2_keep 19 = .ok (.getfield 10, 3) := by decide +kernel
theorem dX2_keep_22 : decode cX2_keep 22 = .ok (.invokevirtual 215, 3) := by decide +kernel
theorem dX2_keep_25 : decode cX2_keep 25 = .ok (.aload_n 0, 1) := by decide +kernel
theorem dX2_keep_26 : decode cX2_keep 26 = .ok (.getfield 33, 3) := by decide +kernel
theorem dX2_keep_29 : decode cX2_keep 29 = .ok (.iload_n 1, 1) := by decide +kernel
theorem dX2_keep_30 : decode cX2_keep 30 = .ok (.aload_n 0, 1) := by decide +kernel
theorem dX2_keep_31 : decode cX2_keep 31 = .ok (.getfield 16, 3) := by decide +kernel
theorem dX2_keep_34 : decode cX2_keep 34 = .ok (.iastore, 1) := by decide +kernel
theorem dX2_keep_35 : decode cX2_keep 35 = .ok (.aload_n 0, 1) := by decide +kernel
theorem dX2_keep_36 : decode cX2_keep 36 = .ok (.getfield 37, 3) := by decide +kernel
theorem dX2_keep_39 : decode cX2_keep 39 = .ok (.iload_n 1, 1) := by decide +kernel
theorem dX2_keep_40 : decode cX2_keep 40 = .ok (.iconst 1, 1) := by decide +kernel
theorem dX2_keep_41 : decode cX2_keep 41 = .ok (.bastore, 1) := by decide +kernel
theorem dX2_keep_42 : decode cX2_keep 42 = .ok (.aload_n 0, 1) := by decide +kernel
theorem dX2_keep_43 : decode cX2_keep 43 = .ok (.iconst 0, 1) := by decide +kernel
theorem dX2_keep_44 : decode cX2_keep 44 = .ok (.putfield 27, 3) := by decide +kernel
theorem dX2_keep_47 : decode cX2_keep 47 = .ok (.iconst 1, 1) := by decide +kernel
theorem dX2_keep_48 : decode cX2_keep 48 = .ok (.ireturn, 1) := by decide +kernel
set_option maxRecDepth 20000 in
theorem ggX2_goBack_X2_isWithin : GoodIn wsX2_goBack wsX2_isWithin := goodIn_r _ [12] (by decide +kernel) (by decide +kernel)
set_option maxRecDepth 20000 in
theorem gX2_goBack_X2_isWithin : GoodIn wsX2_goBack (va_wsS RX2 167 yX2_isWithin wsX2_isWithin) := goodIn_app (goodIn_of _ (by decide +kernel)) ggX2_goBack_X2_isWithin
set_option maxRecDepth 20000 in
theorem ggX2_goBack_X1_copyFrom : GoodIn wsX2_goBack wsX1_copyFrom := goodIn_r _ [17, 18, 19, 20, 21, 22, 23, 24, 25, 26, 27, 28, 29, 30, 31, 32, 33, 34, 35, 36, 37, 38, 39, 40, 41, 42, 43, 44, 45, 46, 47, 48, 49, 50, 61, 62, 63, 64, 65, 66, 67, 68, 69, 70, 71, 72, 73, 74, 75, 76, 77, 78, 79, 80, 81, 82, 83] (by decide +kernel) (by decide +kernel)
set_option maxRecDepth 20000 in
theorem gX2_goBack_X1_copyFrom : GoodIn wsX2_goBack (wsV RX2 215 RX1 yX1_copyFrom wsX1_copyFrom) := goodIn_app (goodIn_of _ (by decide +kernel)) ggX2_goBack_X1_copyFrom
theorem dX2_goBack_0 : decode cX2_goBack 0 = .ok (.iload_n 1, 1) := by decide +kernel
theorem dX2_goBack_1 : decode cX2_goBack 1 = .ok (.iconst 0, 1) := by decide +kernel
theorem dX2_goBack_2 : decode cX2_goBack 2 = .ok (.iconst 1, 1) := by decide +kernel
theorem dX2_goBack_3 : decode cX2_goBack 3 = .ok (.invokestatic 167, 3) := by decide +kernel
theorem dX2_goBack_6 : decode cX2_goBack 6 = .ok (.ifCond .ne 6, 3) := by decide +kernel
theorem dX2_goBack_9 : decode cX2_goBack 9 = .ok (.ldc 140, 2) := by decide +kernel
theorem dX2_goBack_11 : decode cX2_goBack 11 = .ok (.ireturn, 1) := by decide +kernel
theorem dX2_goBack_12 : decode cX2_goBack 12 = .ok (.aload_n 0, 1) := by decide +kernel
theorem dX2_goBack_13 : decode cX2_goBack 13 = .ok (.getfield 37, 3) := by decide +kernel
theorem dX2_goBack_16 : decode cX2_goBack 16 = .ok (.iload_n 1, 1) := by decide +kernel
theorem dX2_goBack_17 : decode cX2_goBack 17 = .ok (.baload, 1) := by decide +kernel
theorem dX2_goBack_18 : decode cX2_goBack 18 = .ok (.ifCond .ne 6, 3) := by decide +kernel
theorem dX2_goBack_21 : decode cX2_goBack 21 = .ok (.ldc 208, 2) := by decide +kernel
theorem dX2_goBack_23 : decode cX2_goBack 23 = .ok (.ireturn, 1) := by decide +kernel
theorem dX2_goBack_24 : decode cX2_goBack 24 = .ok (.aload_n 0, 1) := by decide +kernel
theorem dX2_goBack_25 : decode cX2_goBack 25 = .ok (.getfield 10, 3) := by decide +kernel
theorem dX2_goBack_28 : decode cX2_goBack 28 = .ok (.aload_n 0, 1) := by decide +kernel
theorem dX2_goBack_29 : decode cX2_goBack 29 = .ok (.getfield 30, 3) := by decide +kernel
theorem dX2_goBack_32 : decode cX2_goBack 32 = .ok (.iload_n 1, 1) := by decide +kernel
theorem dX2_goBack_33 : decode cX2_goBack 33 = .ok (.aaload, 1) := by decide +kernel
theorem dX2_goBack_34 : decode cX2_goBack 34 = .ok (.invokevirtual 215, 3) := by decide +kernel
theorem dX2_goBack_37 : decode cX2_goBack 37 = .ok (.aload_n 0, 1) := by decide +kernel
theorem dX2_goBack_38 : decode cX2_goBack 38 = .ok (.aload_n 0, 1) := by decide +kernel
theorem dX2_goBack_39 : decode cX2_goBack 39 = .ok (.getfield 33, 3) := by decide +kernel
theorem dX2_goBack_42 : decode cX2_goBack 42 = .ok (.iload_n 1, 1) := by decide +kernel
theorem dX2_goBack_43 : decode cX2_goBack 43 = .ok (.iaload, 1) := by decide +kernel
theorem dX2_goBack_44 : decode cX2_goBack 44 = .ok (.putfield 16, 3) := by decide +kernel
theorem dX2_goBack_47 : decode cX2_goBack 47 = .ok (.aload_n 0, 1) := by decide +kernel
theorem dX2_goBack_48 : decode cX2_goBack 48 = .ok (.iconst 0, 1) := by decide +kernel
theorem dX2_goBack_49 : decode cX2_goBack 49 = .ok (.putfield 27, 3) := by decide +kernel
theorem dX2_goBack_52 : decode cX2_goBack 52 = .ok (.iconst 1, 1) := by decide +kernel
theorem dX2_goBack_53 : decode cX2_goBack 53 = .ok (.ireturn, 1) := by decide +kernel
set_option maxRecDepth 20000 in
theorem ggX2_remember_X1_copyFrom : GoodIn wsX2_remember wsX1_copyFrom := goodIn_r _ [13, 14, 15, 16, 17, 18, 19, 20, 21, 22, 23, 24, 25, 26, 27, 28, 29, 30, 31, 32, 33, 34, 35, 36, 37, 38, 39, 40, 41, 42, 43, 44, 45, 46, 61, 62, 63, 64, 65, 66, 67, 68, 69, 70, 71, 72, 73, 74, 75, 76, 77, 78, 79, 80, 81, 82, 83] (by decide +kernel) (by decide +kernel)
set_option maxRecDepth 20000 in
theorem gX2_remember_X1_copyFrom : GoodIn wsX2_remember (wsV RX2 215 RX1 yX1_copyFrom wsX1_copyFrom) := goodIn_app (goodIn_of _ (by decide +kernel)) ggX2_remember_X1_copyFrom
set_option maxRecDepth 20000 in
theorem ggX2_remember_J9_floorMod_7cf53 : GoodIn wsX2_remember wsJ9_floorMod_7cf53 := goodIn_r _ [50] (by decide +kernel) (by decide +kernel)
set_option maxRecDepth 20000 in
theorem gX2_remember_J9_floorMod_7cf53 : GoodIn wsX2_remember (va_wsS RX2 209 yJ9_floorMod_7cf53 wsJ9_floorMod_7cf53) := goodIn_app (goodIn_of _ (by decide +kernel)) ggX2_remember_J9_floorMod_7cf53
theorem dX2_remember_0 : decode cX2_remember 0 = .ok (.aload_n 0, 1) := by decide +kernel
theorem dX2_remember_1 : decode cX2_remember 1 = .ok (.getfield 20, 3) := by decide +kernel
theorem dX2_remember_4 : decode cX2_remember 4 = .ok (.aload_n 0, 1) := by decide +kernel
theorem dX2_remember_5 : decode cX2_remember 5 = .ok (.getfield 24, 3) := by decide +kernel
theorem dX2_remember_8 : decode cX2_remember 8 = .ok (.aaload, 1) := by decide +kernel
theorem dX2_remember_9 : decode cX2_remember 9 = .ok (.aload_n 0, 1) := by decide +kernel
theorem dX2_remember_10 : decode cX2_remember 10 = .ok (.getfield 10, 3) := by decide +kernel
theorem dX2_remember_13 : decode cX2_remember 13 = .ok (.invokevirtual 215, 3) := by decide +kernel
theorem dX2_remember_16 : decode cX2_remember 16 = .ok (.aload_n 0, 1) := by decide +kernel
theorem dX2_remember_17 : decode cX2_remember 17 = .ok (.aload_n 0, 1) := by decide +kernel
theorem dX2_remember_18 : decode cX2_remember 18 = .ok (.getfield 24, 3) := by decide +kernel
theorem dX2_remember_21 : decode cX2_remember 21 = .ok (.iconst 1, 1) := by decide +kernel
theorem dX2_remember_22 : decode cX2_remember 22 = .ok (.iadd, 1) := by decide +kernel
theorem dX2_remember_23 : decode cX2_remember 23 = .ok (.bipush 20, 2) := by decide +kernel
theorem dX2_remember_25 : decode cX2_remember 25 = .ok (.invokestatic 209, 3) := by decide +kernel
theorem dX2_remember_28 : decode cX2_remember 28 = .ok (.putfield 24, 3) := by decide +kernel
theorem dX2_remember_31 : decode cX2_remember 31 = .ok (.aload_n 0, 1) := by decide +kernel
theorem dX2_remember_32 : decode cX2_remember 32 = .ok (.aload_n 0, 1) := by decide +kernel
theorem dX2_remember_33 : decode cX2_remember 33 = .ok (.getfield 27, 3) := by decide +kernel
theorem dX2_remember_36 : decode cX2_remember 36 = .ok (.iconst 1, 1) := by decide +kernel
theorem dX2_remember_37 : decode cX2_remember 37 = .ok (.iadd, 1) := by decide +kernel
theorem dX2_remember_38 : decode cX2_remember 38 = .ok (.bipush 20, 2) := by decide +kernel
theorem dX2_remember_40 : decode cX2_remember 40 = .ok (.invokestatic 235, 3) := by decide +kernel
theorem dX2_remember_43 : decode cX2_remember 43 = .ok (.putfield 27, 3) := by decide +kernel
theorem dX2_remember_46 : decode cX2_remember 46 = .ok (.return_, 1) := by decide +kernel
set_option maxRecDepth 20000 in
theorem ggX2_changeStep_X2_isWithin : GoodIn wsX2_changeStep wsX2_isWithin := goodIn_r _ [7] (by decide +kernel) (by decide +kernel)
set_option maxRecDepth 20000 in
theorem gX2_changeStep_X2_isWithin : GoodIn wsX2_changeStep (va_wsS RX2 167 yX2_isWithin wsX2_isWithin) := goodIn_app (goodIn_of _ (by decide +kernel)) ggX2_changeStep_X2_isWithin
set_option maxRecDepth 20000 in
theorem ggX2_changeStep_X2_remember : GoodIn wsX2_changeStep wsX2_remember := goodIn_r _ [11, 12, 13, 2, 14, 15, 16, 17, 18, 19, 20, 21, 22, 23, 24, 25, 26, 27, 28, 29, 30, 31, 32, 33, 34, 35, 36, 37, 38, 39, 40, 41, 42, 43, 44, 45, 46, 47, 48, 49, 50, 51, 52, 53, 54, 55, 56, 57, 58, 59, 60, 61, 62, 63, 64, 65, 66, 67, 68, 69, 70, 71, 72, 73, 74, 75, 76, 77, 78, 79, 80, 81, 82, 83, 84, 85, 86, 87, 88, 89, 90, 91, 92, 93] (by decide +kernel) (by decide +kernel)
set_option maxRecDepth 20000 in
theorem gX2_changeStep_X2_remember : GoodIn wsX2_changeStep (wsV RX2 171 RX2 yX2_remember wsX2_remember) := goodIn_app (goodIn_of _ (by decide +kernel)) ggX2_changeStep_X2_remember
theorem dX2_changeStep_0 : decode cX2_changeStep 0 = .ok (.iload_n 1, 1) := by decide +kernel
theorem dX2_changeStep_1 : decode cX2_changeStep 1 = .ok (.iconst 1, 1) := by decide +kernel
theorem dX2_changeStep_2 : decode cX2_changeStep 2 = .ok (.sipush 200, 3) := by decide +kernel
theorem dX2_changeStep_5 : decode cX2_changeStep 5 = .ok (.invokestatic 167, 3) := by decide +kernel
theorem dX2_changeStep_8 : decode cX2_changeStep 8 = .ok (.ifCond .ne 6, 3) := by decide +kernel
theorem dX2_changeStep_11 : decode cX2_changeStep 11 = .ok (.ldc 110, 2) := by decide +kernel
theorem dX2_changeStep_13 : decode cX2_changeStep 13 = .ok (.ireturn, 1) := by decide +kernel
theorem dX2_changeStep_14 : decode cX2_changeStep 14 = .ok (.aload_n 0, 1) := by decide +kernel
theorem dX2_changeStep_15 : decode cX2_changeStep 15 = .ok (.invokevirtual 171, 3) := by decide +kernel
theorem dX2_changeStep_18 : decode cX2_changeStep 18 = .ok (.aload_n 0, 1) := by decide +kernel
theorem dX2_changeStep_19 : decode cX2_changeStep 19 = .ok (.getfield 10, 3) := by decide +kernel
theorem dX2_changeStep_22 : decode cX2_changeStep 22 = .ok (.getfield 71, 3) := by decide +kernel
theorem dX2_changeStep_25 : decode cX2_changeStep 25 = .ok (.istore_n 2, 1) := by decide +kernel
theorem dX2_changeStep_26 : decode cX2_changeStep 26 = .ok (.aload_n 0, 1) := by decide +kernel
theorem dX2_changeStep_27 : decode cX2_changeStep 27 = .ok (.getfield 10, 3) := by decide +kernel
theorem dX2_changeStep_30 : decode cX2_changeStep 30 = .ok (.iload_n 1, 1) := by decide +kernel
theorem dX2_changeStep_31 : decode cX2_changeStep 31 = .ok (.putfield 71, 3) := by decide +kernel
theorem dX2_changeStep_34 : decode cX2_changeStep 34 = .ok (.iload_n 2, 1) := by decide +kernel
theorem dX2_changeStep_35 : decode cX2_changeStep 35 = .ok (.ireturn, 1) := by decide +kernel
set_option maxRecDepth 20000 in
theorem ggX2_changeWider_X2_isWithin : GoodIn wsX2_changeWider wsX2_isWithin := goodIn_r _ [7] (by decide +kernel) (by decide +kernel)
set_option maxRecDepth 20000 in
theorem gX2_changeWider_X2_isWithin : GoodIn wsX2_changeWider (va_wsS RX2 167 yX2_isWithin wsX2_isWithin) := goodIn_app (goodIn_of _ (by decide +kernel)) ggX2_changeWider_X2_isWithin
set_option maxRecDepth 20000 in
theorem ggX2_changeWider_X2_remember : GoodIn wsX2_changeWider wsX2_remember := goodIn_r _ [11, 12, 13, 2, 14, 15, 16, 17, 18, 19, 20, 21, 22, 23, 24, 25, 26, 27, 28, 29, 30, 31, 32, 33, 34, 35, 36, 37, 38, 39, 40, 41, 42, 43, 44, 45, 46, 47, 48, 49, 50, 51, 52, 53, 54, 55, 56, 57, 58, 59, 60, 61, 62, 63, 64, 65, 66, 67, 68, 69, 70, 71, 72, 73, 74, 75, 76, 77, 78, 79, 80, 81, 82, 83, 84, 85, 86, 87, 88, 89, 90, 91, 92, 93] (by decide +kernel) (by decide +kernel)
set_option maxRecDepth 20000 in
theorem gX2_changeWider_X2_remember : GoodIn wsX2_changeWider (wsV RX2 171 RX2 yX2_remember wsX2_remember) := goodIn_app (goodIn_of _ (by decide +kernel)) ggX2_changeWider_X2_remember
theorem dX2_changeWider_0 : decode cX2_changeWider 0 = .ok (.iload_n 1, 1) := by decide +kernel
theorem dX2_changeWider_1 : decode cX2_changeWider 1 = .ok (.iconst 0, 1) := by decide +kernel
theorem dX2_changeWider_2 : decode cX2_changeWider 2 = .ok (.sipush 999, 3) := by decide +kernel
theorem dX2_changeWider_5 : decode cX2_changeWider 5 = .ok (.invokestatic 167, 3) := by decide +kernel
theorem dX2_changeWider_8 : decode cX2_changeWider 8 = .ok (.ifCond .ne 6, 3) := by decide +kernel
theorem dX2_changeWider_11 : decode cX2_changeWider 11 = .ok (.ldc 110, 2) := by decide +kernel
theorem dX2_changeWider_13 : decode cX2_changeWider 13 = .ok (.ireturn, 1) := by decide +kernel
theorem dX2_changeWider_14 : decode cX2_changeWider 14 = .ok (.aload_n 0, 1) := by decide +kernel
theorem dX2_changeWider_15 : decode cX2_changeWider 15 = .ok (.invokevirtual 171, 3) := by decide +kernel
theorem dX2_changeWider_18 : decode cX2_changeWider 18 = .ok (.aload_n 0, 1) := by decide +kernel
theorem dX2_changeWider_19 : decode cX2_changeWider 19 = .ok (.getfield 10, 3) := by decide +kernel
theorem dX2_changeWider_22 : decode cX2_changeWider 22 = .ok (.getfield 74, 3) := by decide +kernel
theorem dX2_changeWider_25 : decode cX2_changeWider 25 = .ok (.istore_n 2, 1) := by decide +kernel
theorem dX2_changeWider_26 : decode cX2_changeWider 26 = .ok (.aload_n 0, 1) := by decide +kernel
theorem dX2_changeWider_27 : decode cX2_changeWider 27 = .ok (.getfield 10, 3) := by decide +kernel
theorem dX2_changeWider_30 : decode cX2_changeWider 30 = .ok (.iload_n 1, 1) := by decide +kernel
theorem dX2_changeWider_31 : decode cX2_changeWider 31 = .ok (.putfield 74, 3) := by decide +kernel
theorem dX2_changeWider_34 : decode cX2_changeWider 34 = .ok (.iload_n 2, 1) := by decide +kernel
theorem dX2_changeWider_35 : decode cX2_changeWider 35 = .ok (.ireturn, 1) := by decide +kernel
set_option maxRecDepth 20000 in
theorem ggX2_actByDraws_X2_remember : GoodIn wsX2_actByDraws wsX2_remember := goodIn_r _ [7, 8, 9, 1, 10, 11, 12, 13, 14, 15, 16, 17, 18, 19, 20, 21, 22, 23, 24, 25, 26, 27, 28, 29, 30, 31, 32, 33, 34, 35, 36, 37, 38, 39, 40, 41, 42, 43, 44, 45, 46, 47, 48, 49, 50, 51, 52, 53, 54, 55, 56, 181, 182, 183, 184, 185, 186, 187, 188, 189, 190, 191, 192, 193, 194, 195, 196, 197, 198, 199, 200, 201, 202, 203, 204, 205, 206, 207, 208, 209, 210, 211, 212, 213] (by decide +kernel) (by decide +kernel)
set_option maxRecDepth 20000 in
theorem gX2_actByDraws_X2_remember : GoodIn wsX2_actByDraws (wsV RX2 171 RX2 yX2_remember wsX2_remember) := goodIn_app (goodIn_of _ (by decide +kernel)) ggX2_actByDraws_X2_remember
set_option maxRecDepth 20000 in
theorem ggX2_actByDraws_X2_draw : GoodIn wsX2_actByDraws wsX2_draw := goodIn_r _ [60, 61, 62, 63, 64, 65, 181, 182, 183, 184, 185, 186, 187, 188, 189, 190] (by decide +kernel) (by decide +kernel)
set_option maxRecDepth 20000 in
theorem gX2_actByDraws_X2_draw : GoodIn wsX2_actByDraws (wsV RX2 238 RX2 yX2_draw wsX2_draw) := goodIn_app (goodIn_of _ (by decide +kernel)) ggX2_actByDraws_X2_draw
set_option maxRecDepth 20000 in
theorem ggX2_actByDraws_X1_takeIn : GoodIn wsX2_actByDraws wsX1_takeIn := goodIn_r _ [69, 20, 70, 29, 71, 72, 13, 73, 74, 75, 76, 32, 33, 77, 78, 79, 18, 80, 35, 34, 81, 36, 82, 83, 84, 6, 85, 86, 87, 88, 89, 21, 22, 90, 91, 92, 93, 94, 95, 96, 97, 98, 99, 100, 55, 101, 191, 192, 193, 194, 195, 196, 197, 198, 199, 200, 201, 202, 203, 204, 205, 206, 207, 208] (by decide +kernel) (by decide +kernel)
set_option maxRecDepth 20000 in
theorem gX2_actByDraws_X1_takeIn : GoodIn wsX2_actByDraws (wsV RX2 192 RX1 yX1_takeIn wsX1_takeIn) := goodIn_app (goodIn_of _ (by decide +kernel)) ggX2_actByDraws_X1_takeIn
set_option maxRecDepth 20000 in
theorem ggX2_actByDraws_X1_pass : GoodIn wsX2_actByDraws wsX1_pass := goodIn_r _ [105, 20, 106, 21, 31, 22, 70, 27, 29, 107, 74, 75, 13, 76, 41, 108, 109, 110, 18, 111, 112, 113, 114, 115, 23, 33, 34, 35, 116, 6, 117, 118, 119, 120, 121, 122, 123, 124, 125, 24, 26, 25, 126, 127, 128, 129, 130, 131, 132, 133, 36, 84, 85, 99, 100, 55, 101, 134, 135, 136, 137, 28, 90, 91, 92, 93, 72, 73, 138, 139, 140, 141, 142, 143, 144, 30, 145, 146, 147, 45, 148, 47, 52, 149, 150, 12, 14, 151, 152, 153, 154, 155, 156, 157, 158, 51, 159, 160, 161, 162, 163, 164, 165, 166, 167, 168, 169, 170, 50, 171, 172, 173, 174, 175, 176, 177, 178, 48, 179, 180, 191, 192, 193, 194, 195, 196, 197, 198, 199, 200, 201, 202, 203, 204, 205, 206, 207, 208, 209, 210, 211, 212, 213] (by decide +kernel) (by decide +kernel)
set_option maxRecDepth 20000 in
theorem gX2_actByDraws_X1_pass : GoodIn wsX2_actByDraws (wsV RX2 174 RX1 yX1_pass wsX1_pass) := goodIn_app (goodIn_of _ (by decide +kernel)) ggX2_actByDraws_X1_pass
theorem dX2_actByDraws_0 : decode cX2_actByDraws 0 = .ok (.aload_n 0, 1) := by decide +kernel
theorem dX2_actByDraws_1 : decode cX2_actByDraws 1 = .ok (.invokevirtual 171, 3) := by decide +kernel
theorem dX2_actByDraws_4 : decode cX2_actByDraws 4 = .ok (.aload_n 0, 1) := by decide +kernel
theorem dX2_actByDraws_5 : decode cX2_actByDraws 5 = .ok (.bipush 8, 2) := by decide +kernel
theorem dX2_actByDraws_7 : decode cX2_actByDraws 7 = .ok (.invokevirtual 238, 3) := by decide +kernel
theorem dX2_actByDraws_10 : decode cX2_actByDraws 10 = .ok (.istore_n 1, 1) := by decide +kernel
theorem dX2_actByDraws_11 : decode cX2_actByDraws 11 = .ok (.aload_n 0, 1) := by decide +kernel
theorem dX2_actByDraws_12 : decode cX2_actByDraws 12 = .ok (.bipush 90, 2) := by decide +kernel
theorem dX2_actByDraws_14 : decode cX2_actByDraws 14 = .ok (.invokevirtual 238, 3) := by decide +kernel
theorem dX2_actByDraws_17 : decode cX2_actByDraws 17 = .ok (.bipush 20, 2) := by decide +kernel
theorem dX2_actByDraws_19 : decode cX2_actByDraws 19 = .ok (.isub, 1) := by decide +kernel
theorem dX2_actByDraws_20 : decode cX2_actByDraws 20 = .ok (.istore_n 2, 1) := by decide +kernel
theorem dX2_actByDraws_21 : decode cX2_actByDraws 21 = .ok (.aload_n 0, 1) := by decide +kernel
theorem dX2_actByDraws_22 : decode cX2_actByDraws 22 = .ok (.sipush 1001, 3) := by decide +kernel
theorem dX2_actByDraws_25 : decode cX2_actByDraws 25 = .ok (.invokevirtual 238, 3) := by decide +kernel
theorem dX2_actByDraws_28 : decode cX2_actByDraws 28 = .ok (.sipush 500, 3) := by decide +kernel
theorem dX2_actByDraws_31 : decode cX2_actByDraws 31 = .ok (.isub, 1) := by decide +kernel
theorem dX2_actByDraws_32 : decode cX2_actByDraws 32 = .ok (.istore_n 3, 1) := by decide +kernel
theorem dX2_actByDraws_33 : decode cX2_actByDraws 33 = .ok (.iload_n 1, 1) := by decide +kernel
theorem dX2_actByDraws_34 : decode cX2_actByDraws 34 = .ok (.ifCond .ne 14, 3) := by decide +kernel
theorem dX2_actByDraws_37 : decode cX2_actByDraws 37 = .ok (.aload_n 0, 1) := by decide +kernel
theorem dX2_actByDraws_38 : decode cX2_actByDraws 38 = .ok (.getfield 10, 3) := by decide +kernel
theorem dX2_actByDraws_41 : decode cX2_actByDraws 41 = .ok (.iload_n 2, 1) := by decide +kernel
theorem dX2_actByDraws_42 : decode cX2_actByDraws 42 = .ok (.putfield 47, 3) := by decide +kernel
theorem dX2_actByDraws_45 : decode cX2_actByDraws 45 = .ok (.goto 32, 3) := by decide +kernel
theorem dX2_actByDraws_48 : decode cX2_actByDraws 48 = .ok (.iload_n 1, 1) := by decide +kernel
theorem dX2_actByDraws_49 : decode cX2_actByDraws 49 = .ok (.iconst 1, 1) := by decide +kernel
theorem dX2_actByDraws_50 : decode cX2_actByDraws 50 = .ok (.if_icmp .ne 18, 3) := by decide +kernel
theorem dX2_actByDraws_53 : decode cX2_actByDraws 53 = .ok (.aload_n 0, 1) := by decide +kernel
theorem dX2_actByDraws_54 : decode cX2_actByDraws 54 = .ok (.getfield 10, 3) := by decide +kernel
theorem dX2_actByDraws_57 : decode cX2_actByDraws 57 = .ok (.iload_n 3, 1) := by decide +kernel
theorem dX2_actByDraws_58 : decode cX2_actByDraws 58 = .ok (.sipush 500, 3) := by decide +kernel
theorem dX2_actByDraws_61 : decode cX2_actByDraws 61 = .ok (.invokevirtual 192, 3) := by decide +kernel
theorem dX2_actByDraws_64 : decode cX2_actByDraws 64 = .ok (.pop, 1) := by decide +kernel
theorem dX2_actByDraws_65 : decode cX2_actByDraws 65 = .ok (.goto 12, 3) := by decide +kernel
theorem dX2_actByDraws_68 : decode cX2_actByDraws 68 = .ok (.aload_n 0, 1) := by decide +kernel
theorem dX2_actByDraws_69 : decode cX2_actByDraws 69 = .ok (.getfield 10, 3) := by decide +kernel
theorem dX2_actByDraws_72 : decode cX2_actByDraws 72 = .ok (.iconst 1, 1) := by decide +kernel
theorem dX2_actByDraws_73 : decode cX2_actByDraws 73 = .ok (.invokevirtual 174, 3) := by decide +kernel
theorem dX2_actByDraws_76 : decode cX2_actByDraws 76 = .ok (.pop, 1) := by decide +kernel
theorem dX2_actByDraws_77 : decode cX2_actByDraws 77 = .ok (.return_, 1) := by decide +kernel
theorem dX2_draw_0 : decode cX2_draw 0 = .ok (.aload_n 0, 1) := by decide +kernel
theorem dX2_draw_1 : decode cX2_draw 1 = .ok (.aload_n 0, 1) := by decide +kernel
theorem dX2_draw_2 : decode cX2_draw 2 = .ok (.getfield 16, 3) := by decide +kernel
theorem dX2_draw_5 : decode cX2_draw 5 = .ok (.i2l, 1) := by decide +kernel
theorem dX2_draw_6 : decode cX2_draw 6 = .ok (.ldc2_w 241, 3) := by decide +kernel
theorem dX2_draw_9 : decode cX2_draw 9 = .ok (.lmul, 1) := by decide +kernel
theorem dX2_draw_10 : decode cX2_draw 10 = .ok (.ldc2_w 243, 3) := by decide +kernel
theorem dX2_draw_13 : decode cX2_draw 13 = .ok (.ladd, 1) := by decide +kernel
theorem dX2_draw_14 : decode cX2_draw 14 = .ok (.ldc2_w 245, 3) := by decide +kernel
theorem dX2_draw_17 : decode cX2_draw 17 = .ok (.land, 1) := by decide +kernel
theorem dX2_draw_18 : decode cX2_draw 18 = .ok (.l2i, 1) := by decide +kernel
theorem dX2_draw_19 : decode cX2_draw 19 = .ok (.putfield 16, 3) := by decide +kernel
theorem dX2_draw_22 : decode cX2_draw 22 = .ok (.iload_n 1, 1) := by decide +kernel
theorem dX2_draw_23 : decode cX2_draw 23 = .ok (.ifCond .le 15, 3) := by decide +kernel
theorem dX2_draw_26 : decode cX2_draw 26 = .ok (.aload_n 0, 1) := by decide +kernel
theorem dX2_draw_27 : decode cX2_draw 27 = .ok (.getfield 16, 3) := by decide +kernel
theorem dX2_draw_30 : decode cX2_draw 30 = .ok (.ldc 247, 2) := by decide +kernel
theorem dX2_draw_32 : decode cX2_draw 32 = .ok (.idiv, 1) := by decide +kernel
theorem dX2_draw_33 : decode cX2_draw 33 = .ok (.iload_n 1, 1) := by decide +kernel
theorem dX2_draw_34 : decode cX2_draw 34 = .ok (.irem, 1) := by decide +kernel
theorem dX2_draw_35 : decode cX2_draw 35 = .ok (.goto 4, 3) := by decide +kernel
theorem dX2_draw_38 : decode cX2_draw 38 = .ok (.iconst 0, 1) := by decide +kernel
theorem dX2_draw_39 : decode cX2_draw 39 = .ok (.ireturn, 1) := by decide +kernel
set_option maxRecDepth 20000 in
theorem ggX2_firstWrong_X1_minuteNumber : GoodIn wsX2_firstWrong wsX1_minuteNumber := goodIn_r _ [8, 9, 10, 21, 22, 23, 24, 25, 26, 27, 28, 29, 30, 31, 32, 33, 34, 35, 36, 37, 38] (by decide +kernel) (by decide +kernel)
set_option maxRecDepth 20000 in
theorem gX2_firstWrong_X1_minuteNumber : GoodIn wsX2_firstWrong (wsV RX2 123 RX1 yX1_minuteNumber wsX1_minuteNumber) := goodIn_app (goodIn_of _ (by decide +kernel)) ggX2_firstWrong_X1_minuteNumber
theorem dX2_firstWrong_0 : decode cX2_firstWrong 0 = .ok (.aload_n 0, 1) := by decide +kernel
theorem dX2_firstWrong_1 : decode cX2_firstWrong 1 = .ok (.getfield 10, 3) := by decide +kernel
theorem dX2_firstWrong_4 : decode cX2_firstWrong 4 = .ok (.invokevirtual 123, 3) := by decide +kernel
theorem dX2_firstWrong_7 : decode cX2_firstWrong 7 = .ok (.lstore_n 1, 1) := by decide +kernel
theorem dX2_firstWrong_8 : decode cX2_firstWrong 8 = .ok (.iconst 0, 1) := by decide +kernel
theorem dX2_firstWrong_9 : decode cX2_firstWrong 9 = .ok (.istore_n 3, 1) := by decide +kernel
theorem dX2_firstWrong_10 : decode cX2_firstWrong 10 = .ok (.iload_n 3, 1) := by decide +kernel
theorem dX2_firstWrong_11 : decode cX2_firstWrong 11 = .ok (.aload_n 0, 1) := by decide +kernel
theorem dX2_firstWrong_12 : decode cX2_firstWrong 12 = .ok (.getfield 44, 3) := by decide +kernel
theorem dX2_firstWrong_15 : decode cX2_firstWrong 15 = .ok (.if_icmp .ge 29, 3) := by decide +kernel
theorem dX2_firstWrong_18 : decode cX2_firstWrong 18 = .ok (.iload_n 3, 1) := by decide +kernel
theorem dX2_firstWrong_19 : decode cX2_firstWrong 19 = .ok (.bipush 20, 2) := by decide +kernel
theorem dX2_firstWrong_21 : decode cX2_firstWrong 21 = .ok (.if_icmp .ge 23, 3) := by decide +kernel
theorem dX2_firstWrong_24 : decode cX2_firstWrong 24 = .ok (.aload_n 0, 1) := by decide +kernel
theorem dX2_firstWrong_25 : decode cX2_firstWrong 25 = .ok (.getfield 41, 3) := by decide +kernel
theorem dX2_firstWrong_28 : decode cX2_firstWrong 28 = .ok (.iload_n 3, 1) := by decide +kernel
theorem dX2_firstWrong_29 : decode cX2_firstWrong 29 = .ok (.iaload, 1) := by decide +kernel
theorem dX2_firstWrong_30 : decode cX2_firstWrong 30 = .ok (.i2l, 1) := by decide +kernel
theorem dX2_firstWrong_31 : decode cX2_firstWrong 31 = .ok (.lload_n 1, 1) := by decide +kernel
theorem dX2_firstWrong_32 : decode cX2_firstWrong 32 = .ok (.lcmp, 1) := by decide +kernel
theorem dX2_firstWrong_33 : decode cX2_firstWrong 33 = .ok (.ifCond .eq 5, 3) := by decide +kernel
theorem dX2_firstWrong_36 : decode cX2_firstWrong 36 = .ok (.iload_n 3, 1) := by decide +kernel
theorem dX2_firstWrong_37 : decode cX2_firstWrong 37 = .ok (.ireturn, 1) := by decide +kernel
theorem dX2_firstWrong_38 : decode cX2_firstWrong 38 = .ok (.iinc 3 1, 3) := by decide +kernel
theorem dX2_firstWrong_41 : decode cX2_firstWrong 41 = .ok (.goto (-31), 3) := by decide +kernel
theorem dX2_firstWrong_44 : decode cX2_firstWrong 44 = .ok (.iconst (-1), 1) := by decide +kernel
theorem dX2_firstWrong_45 : decode cX2_firstWrong 45 = .ok (.ireturn, 1) := by decide +kernel
theorem dX2_asInt_0 : decode cX2_asInt 0 = .ok (.iload_n 0, 1) := by decide +kernel
theorem dX2_asInt_1 : decode cX2_asInt 1 = .ok (.ifCond .eq 7, 3) := by decide +kernel
theorem dX2_asInt_4 : decode cX2_asInt 4 = .ok (.iconst 1, 1) := by decide +kernel
theorem dX2_asInt_5 : decode cX2_asInt 5 = .ok (.goto 4, 3) := by decide +kernel
theorem dX2_asInt_8 : decode cX2_asInt 8 = .ok (.iconst 0, 1) := by decide +kernel
theorem dX2_asInt_9 : decode cX2_asInt 9 = .ok (.ireturn, 1) := by decide +kernel
theorem dX2_isWithin_0 : decode cX2_isWithin 0 = .ok (.iload_n 0, 1) := by decide +kernel
theorem dX2_isWithin_1 : decode cX2_isWithin 1 = .ok (.iload_n 1, 1) := by decide +kernel
theorem dX2_isWithin_2 : decode cX2_isWithin 2 = .ok (.if_icmp .lt 12, 3) := by decide +kernel
theorem dX2_isWithin_5 : decode cX2_isWithin 5 = .ok (.iload_n 0, 1) := by decide +kernel
theorem dX2_isWithin_6 : decode cX2_isWithin 6 = .ok (.iload_n 2, 1) := by decide +kernel
theorem dX2_isWithin_7 : decode cX2_isWithin 7 = .ok (.if_icmp .gt 7, 3) := by decide +kernel
theorem dX2_isWithin_10 : decode cX2_isWithin 10 = .ok (.iconst 1, 1) := by decide +kernel
theorem dX2_isWithin_11 : decode cX2_isWithin 11 = .ok (.goto 4, 3) := by decide +kernel
theorem dX2_isWithin_14 : decode cX2_isWithin 14 = .ok (.iconst 0, 1) := by decide +kernel
theorem dX2_isWithin_15 : decode cX2_isWithin 15 = .ok (.ireturn, 1) := by decide +kernel
theorem dX2_heldBetween_0 : decode cX2_heldBetween 0 = .ok (.lload_n 2, 1) := by decide +kernel
theorem dX2_heldBetween_1 : decode cX2_heldBetween 1 = .ok (.lload_n 0, 1) := by decide +kernel
theorem dX2_heldBetween_2 : decode cX2_heldBetween 2 = .ok (.lload 4, 2) := by decide +kernel
theorem dX2_heldBetween_4 : decode cX2_heldBetween 4 = .ok (.invokestatic 248, 3) := by decide +kernel
theorem dX2_heldBetween_7 : decode cX2_heldBetween 7 = .ok (.invokestatic 251, 3) := by decide +kernel
theorem dX2_heldBetween_10 : decode cX2_heldBetween 10 = .ok (.lreturn, 1) := by decide +kernel
theorem dX2_isSpan_0 : decode cX2_isSpan 0 = .ok (.iload_n 0, 1) := by decide +kernel
theorem dX2_isSpan_1 : decode cX2_isSpan 1 = .ok (.ifCond .lt 13, 3) := by decide +kernel
theorem dX2_isSpan_4 : decode cX2_isSpan 4 = .ok (.iload_n 0, 1) := by decide +kernel
theorem dX2_isSpan_5 : decode cX2_isSpan 5 = .ok (.bipush 9, 2) := by decide +kernel
theorem dX2_isSpan_7 : decode cX2_isSpan 7 = .ok (.if_icmp .ge 7, 3) := by decide +kernel
theorem dX2_isSpan_10 : decode cX2_isSpan 10 = .ok (.iconst 1, 1) := by decide +kernel
theorem dX2_isSpan_11 : decode cX2_isSpan 11 = .ok (.goto 4, 3) := by decide +kernel
end
section
theorem dX2_isSpan_14 : decode cX2_isSpan 14 = .ok (.iconst 0, 1) := by decide +kernel
theorem dX2_isSpan_15 : decode cX2_isSpan 15 = .ok (.ireturn, 1) := by decide +kernel
theorem dX2_spanOf_0 : decode cX2_spanOf 0 = .ok (.iload_n 0, 1) := by decide +kernel
theorem dX2_spanOf_1 : decode cX2_spanOf 1 = .ok (.bipush (-20), 2) := by decide +kernel
theorem dX2_spanOf_3 : decode cX2_spanOf 3 = .ok (.isub, 1) := by decide +kernel
theorem dX2_spanOf_4 : decode cX2_spanOf 4 = .ok (.bipush 10, 2) := by decide +kernel
theorem dX2_spanOf_6 : decode cX2_spanOf 6 = .ok (.idiv, 1) := by decide +kernel
theorem dX2_spanOf_7 : decode cX2_spanOf 7 = .ok (.ireturn, 1) := by decide +kernel
theorem dX2_minuteOf_0 : decode cX2_minuteOf 0 = .ok (.lload_n 0, 1) := by decide +kernel
theorem dX2_minuteOf_1 : decode cX2_minuteOf 1 = .ok (.ldc2_w 254, 3) := by decide +kernel
theorem dX2_minuteOf_4 : decode cX2_minuteOf 4 = .ok (.lrem, 1) := by decide +kernel
theorem dX2_minuteOf_5 : decode cX2_minuteOf 5 = .ok (.l2i, 1) := by decide +kernel
theorem dX2_minuteOf_6 : decode cX2_minuteOf 6 = .ok (.ireturn, 1) := by decide +kernel
theorem dX2_hourOf_0 : decode cX2_hourOf 0 = .ok (.lload_n 0, 1) := by decide +kernel
theorem dX2_hourOf_1 : decode cX2_hourOf 1 = .ok (.ldc2_w 254, 3) := by decide +kernel
theorem dX2_hourOf_4 : decode cX2_hourOf 4 = .ok (.ldiv, 1) := by decide +kernel
theorem dX2_hourOf_5 : decode cX2_hourOf 5 = .ok (.ldc2_w 256, 3) := by decide +kernel
theorem dX2_hourOf_8 : decode cX2_hourOf 8 = .ok (.lrem, 1) := by decide +kernel
theorem dX2_hourOf_9 : decode cX2_hourOf 9 = .ok (.l2i, 1) := by decide +kernel
theorem dX2_hourOf_10 : decode cX2_hourOf 10 = .ok (.ireturn, 1) := by decide +kernel
theorem dX2_weekdayOf_0 : decode cX2_weekdayOf 0 = .ok (.lload_n 0, 1) := by decide +kernel
theorem dX2_weekdayOf_1 : decode cX2_weekdayOf 1 = .ok (.ldc2_w 258, 3) := by decide +kernel
theorem dX2_weekdayOf_4 : decode cX2_weekdayOf 4 = .ok (.ldiv, 1) := by decide +kernel
theorem dX2_weekdayOf_5 : decode cX2_weekdayOf 5 = .ok (.ldc2_w 260, 3) := by decide +kernel
theorem dX2_weekdayOf_8 : decode cX2_weekdayOf 8 = .ok (.lrem, 1) := by decide +kernel
theorem dX2_weekdayOf_9 : decode cX2_weekdayOf 9 = .ok (.l2i, 1) := by decide +kernel
theorem dX2_weekdayOf_10 : decode cX2_weekdayOf 10 = .ok (.ireturn, 1) := by decide +kernel
theorem dX3_init_0 : decode cX3_init 0 = .ok (.aload_n 0, 1) := by decide +kernel
theorem dX3_init_1 : decode cX3_init 1 = .ok (.invokespecial 1, 3) := by decide +kernel
theorem dX3_init_4 : decode cX3_init 4 = .ok (.aload_n 0, 1) := by decide +kernel
theorem dX3_init_5 : decode cX3_init 5 = .ok (.bipush 49, 2) := by decide +kernel
theorem dX3_init_7 : decode cX3_init 7 = .ok (.newarray .long, 2) := by decide +kernel
theorem dX3_init_9 : decode cX3_init 9 = .ok (.putfield 7, 3) := by decide +kernel
theorem dX3_init_12 : decode cX3_init 12 = .ok (.aload_n 0, 1) := by decide +kernel
theorem dX3_init_13 : decode cX3_init 13 = .ok (.sipush 980, 3) := by decide +kernel
theorem dX3_init_16 : decode cX3_init 16 = .ok (.newarray .long, 2) := by decide +kernel
theorem dX3_init_18 : decode cX3_init 18 = .ok (.putfield 13, 3) := by decide +kernel
theorem dX3_init_21 : decode cX3_init 21 = .ok (.aload_n 0, 1) := by decide +kernel
theorem dX3_init_22 : decode cX3_init 22 = .ok (.bipush 100, 2) := by decide +kernel
theorem dX3_init_24 : decode cX3_init 24 = .ok (.newarray .long, 2) := by decide +kernel
theorem dX3_init_26 : decode cX3_init 26 = .ok (.putfield 16, 3) := by decide +kernel
theorem dX3_init_29 : decode cX3_init 29 = .ok (.aload_n 0, 1) := by decide +kernel
theorem dX3_init_30 : decode cX3_init 30 = .ok (.iconst 2, 1) := by decide +kernel
theorem dX3_init_31 : decode cX3_init 31 = .ok (.newarray .boolean, 2) := by decide +kernel
theorem dX3_init_33 : decode cX3_init 33 = .ok (.putfield 19, 3) := by decide +kernel
theorem dX3_init_36 : decode cX3_init 36 = .ok (.aload_n 0, 1) := by decide +kernel
theorem dX3_init_37 : decode cX3_init 37 = .ok (.bipush 20, 2) := by decide +kernel
theorem dX3_init_39 : decode cX3_init 39 = .ok (.newarray .int, 2) := by decide +kernel
theorem dX3_init_41 : decode cX3_init 41 = .ok (.putfield 23, 3) := by decide +kernel
theorem dX3_init_44 : decode cX3_init 44 = .ok (.aload_n 0, 1) := by decide +kernel
theorem dX3_init_45 : decode cX3_init 45 = .ok (.getfield 7, 3) := by decide +kernel
theorem dX3_init_48 : decode cX3_init 48 = .ok (.iconst 4, 1) := by decide +kernel
theorem dX3_init_49 : decode cX3_init 49 = .ok (.ldc2_w 27, 3) := by decide +kernel
theorem dX3_init_52 : decode cX3_init 52 = .ok (.lastore, 1) := by decide +kernel
theorem dX3_init_53 : decode cX3_init 53 = .ok (.aload_n 0, 1) := by decide +kernel
theorem dX3_init_54 : decode cX3_init 54 = .ok (.getfield 7, 3) := by decide +kernel
theorem dX3_init_57 : decode cX3_init 57 = .ok (.iconst 5, 1) := by decide +kernel
theorem dX3_init_58 : decode cX3_init 58 = .ok (.ldc2_w 27, 3) := by decide +kernel
theorem dX3_init_61 : decode cX3_init 61 = .ok (.lastore, 1) := by decide +kernel
theorem dX3_init_62 : decode cX3_init 62 = .ok (.aload_n 0, 1) := by decide +kernel
theorem dX3_init_63 : decode cX3_init 63 = .ok (.getfield 7, 3) := by decide +kernel
theorem dX3_init_66 : decode cX3_init 66 = .ok (.bipush 6, 2) := by decide +kernel
theorem dX3_init_68 : decode cX3_init 68 = .ok (.ldc2_w 29, 3) := by decide +kernel
theorem dX3_init_71 : decode cX3_init 71 = .ok (.lastore, 1) := by decide +kernel
theorem dX3_init_72 : decode cX3_init 72 = .ok (.aload_n 0, 1) := by decide +kernel
theorem dX3_init_73 : decode cX3_init 73 = .ok (.getfield 7, 3) := by decide +kernel
theorem dX3_init_76 : decode cX3_init 76 = .ok (.bipush 9, 2) := by decide +kernel
theorem dX3_init_78 : decode cX3_init 78 = .ok (.ldc2_w 31, 3) := by decide +kernel
theorem dX3_init_81 : decode cX3_init 81 = .ok (.lastore, 1) := by decide +kernel
theorem dX3_init_82 : decode cX3_init 82 = .ok (.aload_n 0, 1) := by decide +kernel
theorem dX3_init_83 : decode cX3_init 83 = .ok (.getfield 7, 3) := by decide +kernel
theorem dX3_init_86 : decode cX3_init 86 = .ok (.bipush 10, 2) := by decide +kernel
theorem dX3_init_88 : decode cX3_init 88 = .ok (.ldc2_w 33, 3) := by decide +kernel
theorem dX3_init_91 : decode cX3_init 91 = .ok (.lastore, 1) := by decide +kernel
theorem dX3_init_92 : decode cX3_init 92 = .ok (.aload_n 0, 1) := by decide +kernel
theorem dX3_init_93 : decode cX3_init 93 = .ok (.getfield 7, 3) := by decide +kernel
theorem dX3_init_96 : decode cX3_init 96 = .ok (.bipush 11, 2) := by decide +kernel
theorem dX3_init_98 : decode cX3_init 98 = .ok (.lconst 1, 1) := by decide +kernel
theorem dX3_init_99 : decode cX3_init 99 = .ok (.lastore, 1) := by decide +kernel
theorem dX3_init_100 : decode cX3_init 100 = .ok (.aload_n 0, 1) := by decide +kernel
theorem dX3_init_101 : decode cX3_init 101 = .ok (.getfield 7, 3) := by decide +kernel
theorem dX3_init_104 : decode cX3_init 104 = .ok (.bipush 13, 2) := by decide +kernel
theorem dX3_init_106 : decode cX3_init 106 = .ok (.ldc2_w 35, 3) := by decide +kernel
theorem dX3_init_109 : decode cX3_init 109 = .ok (.lastore, 1) := by decide +kernel
theorem dX3_init_110 : decode cX3_init 110 = .ok (.return_, 1) := by decide +kernel
theorem dX3_in_0 : decode cX3_in 0 = .ok (.lload_n 0, 1) := by decide +kernel
theorem dX3_in_1 : decode cX3_in 1 = .ok (.lload_n 2, 1) := by decide +kernel
theorem dX3_in_2 : decode cX3_in 2 = .ok (.lcmp, 1) := by decide +kernel
theorem dX3_in_3 : decode cX3_in 3 = .ok (.ifCond .lt 14, 3) := by decide +kernel
theorem dX3_in_6 : decode cX3_in 6 = .ok (.lload_n 0, 1) := by decide +kernel
theorem dX3_in_7 : decode cX3_in 7 = .ok (.lload 4, 2) := by decide +kernel
theorem dX3_in_9 : decode cX3_in 9 = .ok (.lcmp, 1) := by decide +kernel
theorem dX3_in_10 : decode cX3_in 10 = .ok (.ifCond .gt 7, 3) := by decide +kernel
theorem dX3_in_13 : decode cX3_in 13 = .ok (.iconst 1, 1) := by decide +kernel
theorem dX3_in_14 : decode cX3_in 14 = .ok (.goto 4, 3) := by decide +kernel
theorem dX3_in_17 : decode cX3_in 17 = .ok (.iconst 0, 1) := by decide +kernel
theorem dX3_in_18 : decode cX3_in 18 = .ok (.ireturn, 1) := by decide +kernel
theorem dX3_bring_0 : decode cX3_bring 0 = .ok (.iconst 0, 1) := by decide +kernel
theorem dX3_bring_1 : decode cX3_bring 1 = .ok (.istore 5, 2) := by decide +kernel
theorem dX3_bring_3 : decode cX3_bring 3 = .ok (.iload 5, 2) := by decide +kernel
theorem dX3_bring_5 : decode cX3_bring 5 = .ok (.iload 4, 2) := by decide +kernel
theorem dX3_bring_7 : decode cX3_bring 7 = .ok (.if_icmp .ge 21, 3) := by decide +kernel
theorem dX3_bring_10 : decode cX3_bring 10 = .ok (.aload_n 2, 1) := by decide +kernel
theorem dX3_bring_11 : decode cX3_bring 11 = .ok (.iload_n 3, 1) := by decide +kernel
theorem dX3_bring_12 : decode cX3_bring 12 = .ok (.iload 5, 2) := by decide +kernel
theorem dX3_bring_14 : decode cX3_bring 14 = .ok (.iadd, 1) := by decide +kernel
theorem dX3_bring_15 : decode cX3_bring 15 = .ok (.aload_n 0, 1) := by decide +kernel
theorem dX3_bring_16 : decode cX3_bring 16 = .ok (.iload_n 1, 1) := by decide +kernel
theorem dX3_bring_17 : decode cX3_bring 17 = .ok (.iload 5, 2) := by decide +kernel
theorem dX3_bring_19 : decode cX3_bring 19 = .ok (.iadd, 1) := by decide +kernel
theorem dX3_bring_20 : decode cX3_bring 20 = .ok (.laload, 1) := by decide +kernel
theorem dX3_bring_21 : decode cX3_bring 21 = .ok (.lastore, 1) := by decide +kernel
theorem dX3_bring_22 : decode cX3_bring 22 = .ok (.iinc 5 1, 3) := by decide +kernel
theorem dX3_bring_25 : decode cX3_bring 25 = .ok (.goto (-22), 3) := by decide +kernel
theorem dX3_bring_28 : decode cX3_bring 28 = .ok (.return_, 1) := by decide +kernel
theorem dX3_down_0 : decode cX3_down 0 = .ok (.lload_n 0, 1) := by decide +kernel
theorem dX3_down_1 : decode cX3_down 1 = .ok (.lload_n 2, 1) := by decide +kernel
theorem dX3_down_2 : decode cX3_down 2 = .ok (.ldiv, 1) := by decide +kernel
theorem dX3_down_3 : decode cX3_down 3 = .ok (.lstore 4, 2) := by decide +kernel
theorem dX3_down_5 : decode cX3_down 5 = .ok (.lload_n 0, 1) := by decide +kernel
theorem dX3_down_6 : decode cX3_down 6 = .ok (.lload_n 2, 1) := by decide +kernel
theorem dX3_down_7 : decode cX3_down 7 = .ok (.lrem, 1) := by decide +kernel
theorem dX3_down_8 : decode cX3_down 8 = .ok (.lconst 0, 1) := by decide +kernel
theorem dX3_down_9 : decode cX3_down 9 = .ok (.lcmp, 1) := by decide +kernel
theorem dX3_down_10 : decode cX3_down 10 = .ok (.ifCond .ge 10, 3) := by decide +kernel
theorem dX3_down_13 : decode cX3_down 13 = .ok (.lload 4, 2) := by decide +kernel
theorem dX3_down_15 : decode cX3_down 15 = .ok (.lconst 1, 1) := by decide +kernel
theorem dX3_down_16 : decode cX3_down 16 = .ok (.lsub, 1) := by decide +kernel
theorem dX3_down_17 : decode cX3_down 17 = .ok (.goto 5, 3) := by decide +kernel
theorem dX3_down_20 : decode cX3_down 20 = .ok (.lload 4, 2) := by decide +kernel
theorem dX3_down_22 : decode cX3_down 22 = .ok (.lreturn, 1) := by decide +kernel
theorem dX3_lesser_0 : decode cX3_lesser 0 = .ok (.lload_n 0, 1) := by decide +kernel
theorem dX3_lesser_1 : decode cX3_lesser 1 = .ok (.lload_n 2, 1) := by decide +kernel
theorem dX3_lesser_2 : decode cX3_lesser 2 = .ok (.lcmp, 1) := by decide +kernel
theorem dX3_lesser_3 : decode cX3_lesser 3 = .ok (.ifCond .ge 7, 3) := by decide +kernel
theorem dX3_lesser_6 : decode cX3_lesser 6 = .ok (.lload_n 0, 1) := by decide +kernel
theorem dX3_lesser_7 : decode cX3_lesser 7 = .ok (.goto 4, 3) := by decide +kernel
theorem dX3_lesser_10 : decode cX3_lesser 10 = .ok (.lload_n 2, 1) := by decide +kernel
theorem dX3_lesser_11 : decode cX3_lesser 11 = .ok (.lreturn, 1) := by decide +kernel
theorem dX3_greater_0 : decode cX3_greater 0 = .ok (.lload_n 0, 1) := by decide +kernel
theorem dX3_greater_1 : decode cX3_greater 1 = .ok (.lload_n 2, 1) := by decide +kernel
theorem dX3_greater_2 : decode cX3_greater 2 = .ok (.lcmp, 1) := by decide +kernel
theorem dX3_greater_3 : decode cX3_greater 3 = .ok (.ifCond .le 7, 3) := by decide +kernel
theorem dX3_greater_6 : decode cX3_greater 6 = .ok (.lload_n 0, 1) := by decide +kernel
theorem dX3_greater_7 : decode cX3_greater 7 = .ok (.goto 4, 3) := by decide +kernel
theorem dX3_greater_10 : decode cX3_greater 10 = .ok (.lload_n 2, 1) := by decide +kernel
theorem dX3_greater_11 : decode cX3_greater 11 = .ok (.lreturn, 1) := by decide +kernel
theorem dX3_size_0 : decode cX3_size 0 = .ok (.lload_n 0, 1) := by decide +kernel
theorem dX3_size_1 : decode cX3_size 1 = .ok (.lconst 0, 1) := by decide +kernel
theorem dX3_size_2 : decode cX3_size 2 = .ok (.lcmp, 1) := by decide +kernel
theorem dX3_size_3 : decode cX3_size 3 = .ok (.ifCond .ge 8, 3) := by decide +kernel
theorem dX3_size_6 : decode cX3_size 6 = .ok (.lload_n 0, 1) := by decide +kernel
theorem dX3_size_7 : decode cX3_size 7 = .ok (.lneg, 1) := by decide +kernel
theorem dX3_size_8 : decode cX3_size 8 = .ok (.goto 4, 3) := by decide +kernel
theorem dX3_size_11 : decode cX3_size 11 = .ok (.lload_n 0, 1) := by decide +kernel
theorem dX3_size_12 : decode cX3_size 12 = .ok (.lreturn, 1) := by decide +kernel
theorem dX3_offAt_0 : decode cX3_offAt 0 = .ok (.lload_n 1, 1) := by decide +kernel
theorem dX3_offAt_1 : decode cX3_offAt 1 = .ok (.aload_n 0, 1) := by decide +kernel
theorem dX3_offAt_2 : decode cX3_offAt 2 = .ok (.getfield 7, 3) := by decide +kernel
theorem dX3_offAt_5 : decode cX3_offAt 5 = .ok (.iconst 5, 1) := by decide +kernel
theorem dX3_offAt_6 : decode cX3_offAt 6 = .ok (.laload, 1) := by decide +kernel
theorem dX3_offAt_7 : decode cX3_offAt 7 = .ok (.lsub, 1) := by decide +kernel
theorem dX3_offAt_8 : decode cX3_offAt 8 = .ok (.lstore_n 3, 1) := by decide +kernel
theorem dX3_offAt_9 : decode cX3_offAt 9 = .ok (.aload_n 0, 1) := by decide +kernel
theorem dX3_offAt_10 : decode cX3_offAt 10 = .ok (.getfield 7, 3) := by decide +kernel
theorem dX3_offAt_13 : decode cX3_offAt 13 = .ok (.bipush 7, 2) := by decide +kernel
theorem dX3_offAt_15 : decode cX3_offAt 15 = .ok (.laload, 1) := by decide +kernel
theorem dX3_offAt_16 : decode cX3_offAt 16 = .ok (.aload_n 0, 1) := by decide +kernel
theorem dX3_offAt_17 : decode cX3_offAt 17 = .ok (.getfield 7, 3) := by decide +kernel
theorem dX3_offAt_20 : decode cX3_offAt 20 = .ok (.bipush 6, 2) := by decide +kernel
theorem dX3_offAt_22 : decode cX3_offAt 22 = .ok (.laload, 1) := by decide +kernel
theorem dX3_offAt_23 : decode cX3_offAt 23 = .ok (.lload_n 3, 1) := by decide +kernel
theorem dX3_offAt_24 : decode cX3_offAt 24 = .ok (.lmul, 1) := by decide +kernel
theorem dX3_offAt_25 : decode cX3_offAt 25 = .ok (.lload_n 3, 1) := by decide +kernel
theorem dX3_offAt_26 : decode cX3_offAt 26 = .ok (.lmul, 1) := by decide +kernel
theorem dX3_offAt_27 : decode cX3_offAt 27 = .ok (.ldc2_w 37, 3) := by decide +kernel
theorem dX3_offAt_30 : decode cX3_offAt 30 = .ok (.ldiv, 1) := by decide +kernel
theorem dX3_offAt_31 : decode cX3_offAt 31 = .ok (.lsub, 1) := by decide +kernel
theorem dX3_offAt_32 : decode cX3_offAt 32 = .ok (.lreturn, 1) := by decide +kernel
theorem dX3_spanNow_0 : decode cX3_spanNow 0 = .ok (.aload_n 0, 1) := by decide +kernel
theorem dX3_spanNow_1 : decode cX3_spanNow 1 = .ok (.getfield 7, 3) := by decide +kernel
theorem dX3_spanNow_4 : decode cX3_spanNow 4 = .ok (.iconst 4, 1) := by decide +kernel
theorem dX3_spanNow_5 : decode cX3_spanNow 5 = .ok (.laload, 1) := by decide +kernel
theorem dX3_spanNow_6 : decode cX3_spanNow 6 = .ok (.ldc2_w 31, 3) := by decide +kernel
theorem dX3_spanNow_9 : decode cX3_spanNow 9 = .ok (.ladd, 1) := by decide +kernel
theorem dX3_spanNow_10 : decode cX3_spanNow 10 = .ok (.ldc2_w 39, 3) := by decide +kernel
theorem dX3_spanNow_13 : decode cX3_spanNow 13 = .ok (.ldiv, 1) := by decide +kernel
theorem dX3_spanNow_14 : decode cX3_spanNow 14 = .ok (.l2i, 1) := by decide +kernel
theorem dX3_spanNow_15 : decode cX3_spanNow 15 = .ok (.ireturn, 1) := by decide +kernel
theorem dX3_aim_0 : decode cX3_aim 0 = .ok (.aload_n 0, 1) := by decide +kernel
theorem dX3_aim_1 : decode cX3_aim 1 = .ok (.getfield 7, 3) := by decide +kernel
theorem dX3_aim_4 : decode cX3_aim 4 = .ok (.iconst 1, 1) := by decide +kernel
theorem dX3_aim_5 : decode cX3_aim 5 = .ok (.laload, 1) := by decide +kernel
theorem dX3_aim_6 : decode cX3_aim 6 = .ok (.aload_n 0, 1) := by decide +kernel
theorem dX3_aim_7 : decode cX3_aim 7 = .ok (.getfield 7, 3) := by decide +kernel
theorem dX3_aim_10 : decode cX3_aim 10 = .ok (.iconst 2, 1) := by decide +kernel
theorem dX3_aim_11 : decode cX3_aim 11 = .ok (.laload, 1) := by decide +kernel
theorem dX3_aim_12 : decode cX3_aim 12 = .ok (.ladd, 1) := by decide +kernel
theorem dX3_aim_13 : decode cX3_aim 13 = .ok (.lreturn, 1) := by decide +kernel
set_option maxRecDepth 20000 in
theorem ggX3_spread_X3_spanNow : GoodIn wsX3_spread wsX3_spanNow := goodIn_r _ [7, 1, 8, 9, 13, 14, 15, 16, 17, 18, 19, 20] (by decide +kernel) (by decide +kernel)
set_option maxRecDepth 20000 in
theorem gX3_spread_X3_spanNow : GoodIn wsX3_spread (wsV RX3 41 RX3 yX3_spanNow wsX3_spanNow) := goodIn_app (goodIn_of _ (by decide +kernel)) ggX3_spread_X3_spanNow
set_option maxRecDepth 20000 in
theorem ggX3_spread_X3_down : GoodIn wsX3_spread wsX3_down := goodIn_r _ [12] (by decide +kernel) (by decide +kernel)
set_option maxRecDepth 20000 in
theorem gX3_spread_X3_down : GoodIn wsX3_spread (va_wsS RX3 47 yX3_down wsX3_down) := goodIn_app (goodIn_of _ (by decide +kernel)) ggX3_spread_X3_down
theorem dX3_spread_0 : decode cX3_spread 0 = .ok (.aload_n 0, 1) := by decide +kernel
theorem dX3_spread_1 : decode cX3_spread 1 = .ok (.getfield 7, 3) := by decide +kernel
theorem dX3_spread_4 : decode cX3_spread 4 = .ok (.bipush 8, 2) := by decide +kernel
theorem dX3_spread_6 : decode cX3_spread 6 = .ok (.laload, 1) := by decide +kernel
theorem dX3_spread_7 : decode cX3_spread 7 = .ok (.iload_n 1, 1) := by decide +kernel
theorem dX3_spread_8 : decode cX3_spread 8 = .ok (.i2l, 1) := by decide +kernel
theorem dX3_spread_9 : decode cX3_spread 9 = .ok (.aload_n 0, 1) := by decide +kernel
theorem dX3_spread_10 : decode cX3_spread 10 = .ok (.getfield 7, 3) := by decide +kernel
theorem dX3_spread_13 : decode cX3_spread 13 = .ok (.bipush 15, 2) := by decide +kernel
theorem dX3_spread_15 : decode cX3_spread 15 = .ok (.aload_n 0, 1) := by decide +kernel
theorem dX3_spread_16 : decode cX3_spread 16 = .ok (.invokevirtual 41, 3) := by decide +kernel
theorem dX3_spread_19 : decode cX3_spread 19 = .ok (.iadd, 1) := by decide +kernel
theorem dX3_spread_20 : decode cX3_spread 20 = .ok (.laload, 1) := by decide +kernel
theorem dX3_spread_21 : decode cX3_spread 21 = .ok (.lmul, 1) := by decide +kernel
theorem dX3_spread_22 : decode cX3_spread 22 = .ok (.lsub, 1) := by decide +kernel
theorem dX3_spread_23 : decode cX3_spread 23 = .ok (.ldc2_w 45, 3) := by decide +kernel
theorem dX3_spread_26 : decode cX3_spread 26 = .ok (.invokestatic 47, 3) := by decide +kernel
theorem dX3_spread_29 : decode cX3_spread 29 = .ok (.lreturn, 1) := by decide +kernel
set_option maxRecDepth 20000 in
theorem ggX3_restAfter_X3_spanNow : GoodIn wsX3_restAfter wsX3_spanNow := goodIn_r _ [7, 1, 8, 9, 17, 18, 19, 20, 21, 22, 23, 24] (by decide +kernel) (by decide +kernel)
set_option maxRecDepth 20000 in
theorem gX3_restAfter_X3_spanNow : GoodIn wsX3_restAfter (wsV RX3 41 RX3 yX3_spanNow wsX3_spanNow) := goodIn_app (goodIn_of _ (by decide +kernel)) ggX3_restAfter_X3_spanNow
set_option maxRecDepth 20000 in
theorem ggX3_restAfter_X3_spread : GoodIn wsX3_restAfter wsX3_spread := goodIn_r _ [13, 1, 2, 3, 4, 5, 6, 7, 8, 9, 14, 15, 16, 17, 18, 19, 20, 21, 22, 23, 24] (by decide +kernel) (by decide +kernel)
set_option maxRecDepth 20000 in
theorem gX3_restAfter_X3_spread : GoodIn wsX3_restAfter (wsV RX3 51 RX3 yX3_spread wsX3_spread) := goodIn_app (goodIn_of _ (by decide +kernel)) ggX3_restAfter_X3_spread
theorem dX3_restAfter_0 : decode cX3_restAfter 0 = .ok (.aload_n 0, 1) := by decide +kernel
theorem dX3_restAfter_1 : decode cX3_restAfter 1 = .ok (.getfield 7, 3) := by decide +kernel
theorem dX3_restAfter_4 : decode cX3_restAfter 4 = .ok (.bipush 8, 2) := by decide +kernel
theorem dX3_restAfter_6 : decode cX3_restAfter 6 = .ok (.laload, 1) := by decide +kernel
theorem dX3_restAfter_7 : decode cX3_restAfter 7 = .ok (.iload_n 1, 1) := by decide +kernel
theorem dX3_restAfter_8 : decode cX3_restAfter 8 = .ok (.i2l, 1) := by decide +kernel
theorem dX3_restAfter_9 : decode cX3_restAfter 9 = .ok (.aload_n 0, 1) := by decide +kernel
theorem dX3_restAfter_10 : decode cX3_restAfter 10 = .ok (.getfield 7, 3) := by decide +kernel
theorem dX3_restAfter_13 : decode cX3_restAfter 13 = .ok (.bipush 15, 2) := by decide +kernel
theorem dX3_restAfter_15 : decode cX3_restAfter 15 = .ok (.aload_n 0, 1) := by decide +kernel
theorem dX3_restAfter_16 : decode cX3_restAfter 16 = .ok (.invokevirtual 41, 3) := by decide +kernel
theorem dX3_restAfter_19 : decode cX3_restAfter 19 = .ok (.iadd, 1) := by decide +kernel
theorem dX3_restAfter_20 : decode cX3_restAfter 20 = .ok (.laload, 1) := by decide +kernel
theorem dX3_restAfter_21 : decode cX3_restAfter 21 = .ok (.lmul, 1) := by decide +kernel
theorem dX3_restAfter_22 : decode cX3_restAfter 22 = .ok (.lsub, 1) := by decide +kernel
theorem dX3_restAfter_23 : decode cX3_restAfter 23 = .ok (.ldc2_w 45, 3) := by decide +kernel
theorem dX3_restAfter_26 : decode cX3_restAfter 26 = .ok (.aload_n 0, 1) := by decide +kernel
theorem dX3_restAfter_27 : decode cX3_restAfter 27 = .ok (.iload_n 1, 1) := by decide +kernel
theorem dX3_restAfter_28 : decode cX3_restAfter 28 = .ok (.invokevirtual 51, 3) := by decide +kernel
theorem dX3_restAfter_31 : decode cX3_restAfter 31 = .ok (.lmul, 1) := by decide +kernel
theorem dX3_restAfter_32 : decode cX3_restAfter 32 = .ok (.lsub, 1) := by decide +kernel
theorem dX3_restAfter_33 : decode cX3_restAfter 33 = .ok (.lreturn, 1) := by decide +kernel
set_option maxRecDepth 20000 in
theorem ggX3_gone_X3_size : GoodIn wsX3_gone wsX3_size := goodIn_r _ [5] (by decide +kernel) (by decide +kernel)
set_option maxRecDepth 20000 in
theorem gX3_gone_X3_size : GoodIn wsX3_gone (va_wsS RX3 55 yX3_size wsX3_size) := goodIn_app (goodIn_of _ (by decide +kernel)) ggX3_gone_X3_size
set_option maxRecDepth 20000 in
theorem ggX3_gone_X3_lesser : GoodIn wsX3_gone wsX3_lesser := goodIn_r _ [8] (by decide +kernel) (by decide +kernel)
set_option maxRecDepth 20000 in
theorem gX3_gone_X3_lesser : GoodIn wsX3_gone (va_wsS RX3 59 yX3_lesser wsX3_lesser) := goodIn_app (goodIn_of _ (by decide +kernel)) ggX3_gone_X3_lesser
theorem dX3_gone_0 : decode cX3_gone 0 = .ok (.aload_n 0, 1) := by decide +kernel
theorem dX3_gone_1 : decode cX3_gone 1 = .ok (.getfield 7, 3) := by decide +kernel
theorem dX3_gone_4 : decode cX3_gone 4 = .ok (.iconst 2, 1) := by decide +kernel
theorem dX3_gone_5 : decode cX3_gone 5 = .ok (.laload, 1) := by decide +kernel
theorem dX3_gone_6 : decode cX3_gone 6 = .ok (.invokestatic 55, 3) := by decide +kernel
theorem dX3_gone_9 : decode cX3_gone 9 = .ok (.iload_n 1, 1) := by decide +kernel
theorem dX3_gone_10 : decode cX3_gone 10 = .ok (.i2l, 1) := by decide +kernel
theorem dX3_gone_11 : decode cX3_gone 11 = .ok (.aload_n 0, 1) := by decide +kernel
theorem dX3_gone_12 : decode cX3_gone 12 = .ok (.getfield 7, 3) := by decide +kernel
theorem dX3_gone_15 : decode cX3_gone 15 = .ok (.bipush 9, 2) := by decide +kernel
theorem dX3_gone_17 : decode cX3_gone 17 = .ok (.laload, 1) := by decide +kernel
theorem dX3_gone_18 : decode cX3_gone 18 = .ok (.lmul, 1) := by decide +kernel
theorem dX3_gone_19 : decode cX3_gone 19 = .ok (.invokestatic 59, 3) := by decide +kernel
theorem dX3_gone_22 : decode cX3_gone 22 = .ok (.lstore_n 2, 1) := by decide +kernel
theorem dX3_gone_23 : decode cX3_gone 23 = .ok (.aload_n 0, 1) := by decide +kernel
theorem dX3_gone_24 : decode cX3_gone 24 = .ok (.getfield 7, 3) := by decide +kernel
theorem dX3_gone_27 : decode cX3_gone 27 = .ok (.iconst 2, 1) := by decide +kernel
theorem dX3_gone_28 : decode cX3_gone 28 = .ok (.laload, 1) := by decide +kernel
theorem dX3_gone_29 : decode cX3_gone 29 = .ok (.lconst 0, 1) := by decide +kernel
theorem dX3_gone_30 : decode cX3_gone 30 = .ok (.lcmp, 1) := by decide +kernel
theorem dX3_gone_31 : decode cX3_gone 31 = .ok (.ifCond .ge 8, 3) := by decide +kernel
theorem dX3_gone_34 : decode cX3_gone 34 = .ok (.lload_n 2, 1) := by decide +kernel
theorem dX3_gone_35 : decode cX3_gone 35 = .ok (.lneg, 1) := by decide +kernel
theorem dX3_gone_36 : decode cX3_gone 36 = .ok (.goto 4, 3) := by decide +kernel
theorem dX3_gone_39 : decode cX3_gone 39 = .ok (.lload_n 2, 1) := by decide +kernel
theorem dX3_gone_40 : decode cX3_gone 40 = .ok (.lreturn, 1) := by decide +kernel
set_option maxRecDepth 20000 in
theorem ggX3_boardAfter_X3_offAt : GoodIn wsX3_boardAfter wsX3_offAt := goodIn_r _ [7, 1, 8, 33, 34, 35, 36, 37, 38, 39, 40] (by decide +kernel) (by decide +kernel)
set_option maxRecDepth 20000 in
theorem gX3_boardAfter_X3_offAt : GoodIn wsX3_boardAfter (wsV RX3 64 RX3 yX3_offAt wsX3_offAt) := goodIn_app (goodIn_of _ (by decide +kernel)) ggX3_boardAfter_X3_offAt
set_option maxRecDepth 20000 in
theorem ggX3_boardAfter_X3_spread : GoodIn wsX3_boardAfter wsX3_spread := goodIn_r _ [12, 1, 13, 14, 15, 16, 6, 17, 18, 19, 20, 21, 22, 33, 34, 35, 36, 37, 38, 39, 40] (by decide +kernel) (by decide +kernel)
set_option maxRecDepth 20000 in
theorem gX3_boardAfter_X3_spread : GoodIn wsX3_boardAfter (wsV RX3 51 RX3 yX3_spread wsX3_spread) := goodIn_app (goodIn_of _ (by decide +kernel)) ggX3_boardAfter_X3_spread
set_option maxRecDepth 20000 in
theorem ggX3_boardAfter_X3_gone : GoodIn wsX3_boardAfter wsX3_gone := goodIn_r _ [26, 1, 27, 28, 6, 29, 30, 31, 32, 33, 34, 35, 36, 37, 38, 39, 40] (by decide +kernel) (by decide +kernel)
set_option maxRecDepth 20000 in
theorem gX3_boardAfter_X3_gone : GoodIn wsX3_boardAfter (wsV RX3 67 RX3 yX3_gone wsX3_gone) := goodIn_app (goodIn_of _ (by decide +kernel)) ggX3_boardAfter_X3_gone
theorem dX3_boardAfter_0 : decode cX3_boardAfter 0 = .ok (.aload_n 0, 1) := by decide +kernel
theorem dX3_boardAfter_1 : decode cX3_boardAfter 1 = .ok (.getfield 7, 3) := by decide +kernel
theorem dX3_boardAfter_4 : decode cX3_boardAfter 4 = .ok (.iconst 1, 1) := by decide +kernel
theorem dX3_boardAfter_5 : decode cX3_boardAfter 5 = .ok (.laload, 1) := by decide +kernel
theorem dX3_boardAfter_6 : decode cX3_boardAfter 6 = .ok (.iload_n 1, 1) := by decide +kernel
theorem dX3_boardAfter_7 : decode cX3_boardAfter 7 = .ok (.i2l, 1) := by decide +kernel
theorem dX3_boardAfter_8 : decode cX3_boardAfter 8 = .ok (.ldc2_w 62, 3) := by decide +kernel
theorem dX3_boardAfter_11 : decode cX3_boardAfter 11 = .ok (.aload_n 0, 1) := by decide +kernel
theorem dX3_boardAfter_12 : decode cX3_boardAfter 12 = .ok (.aload_n 0, 1) := by decide +kernel
theorem dX3_boardAfter_13 : decode cX3_boardAfter 13 = .ok (.getfield 7, 3) := by decide +kernel
theorem dX3_boardAfter_16 : decode cX3_boardAfter 16 = .ok (.iconst 4, 1) := by decide +kernel
theorem dX3_boardAfter_17 : decode cX3_boardAfter 17 = .ok (.laload, 1) := by decide +kernel
theorem dX3_boardAfter_18 : decode cX3_boardAfter 18 = .ok (.invokevirtual 64, 3) := by decide +kernel
theorem dX3_boardAfter_21 : decode cX3_boardAfter 21 = .ok (.ladd, 1) := by decide +kernel
theorem dX3_boardAfter_22 : decode cX3_boardAfter 22 = .ok (.lmul, 1) := by decide +kernel
theorem dX3_boardAfter_23 : decode cX3_boardAfter 23 = .ok (.ladd, 1) := by decide +kernel
theorem dX3_boardAfter_24 : decode cX3_boardAfter 24 = .ok (.lstore_n 2, 1) := by decide +kernel
theorem dX3_boardAfter_25 : decode cX3_boardAfter 25 = .ok (.aload_n 0, 1) := by decide +kernel
theorem dX3_boardAfter_26 : decode cX3_boardAfter 26 = .ok (.getfield 7, 3) := by decide +kernel
theorem dX3_boardAfter_29 : decode cX3_boardAfter 29 = .ok (.bipush 11, 2) := by decide +kernel
theorem dX3_boardAfter_31 : decode cX3_boardAfter 31 = .ok (.laload, 1) := by decide +kernel
theorem dX3_boardAfter_32 : decode cX3_boardAfter 32 = .ok (.lconst 1, 1) := by decide +kernel
theorem dX3_boardAfter_33 : decode cX3_boardAfter 33 = .ok (.lcmp, 1) := by decide +kernel
theorem dX3_boardAfter_34 : decode cX3_boardAfter 34 = .ok (.ifCond .ne 19, 3) := by decide +kernel
theorem dX3_boardAfter_37 : decode cX3_boardAfter 37 = .ok (.lload_n 2, 1) := by decide +kernel
theorem dX3_boardAfter_38 : decode cX3_boardAfter 38 = .ok (.aload_n 0, 1) := by decide +kernel
theorem dX3_boardAfter_39 : decode cX3_boardAfter 39 = .ok (.iload_n 1, 1) := by decide +kernel
theorem dX3_boardAfter_40 : decode cX3_boardAfter 40 = .ok (.invokevirtual 51, 3) := by decide +kernel
theorem dX3_boardAfter_43 : decode cX3_boardAfter 43 = .ok (.ladd, 1) := by decide +kernel
theorem dX3_boardAfter_44 : decode cX3_boardAfter 44 = .ok (.aload_n 0, 1) := by decide +kernel
theorem dX3_boardAfter_45 : decode cX3_boardAfter 45 = .ok (.iload_n 1, 1) := by decide +kernel
theorem dX3_boardAfter_46 : decode cX3_boardAfter 46 = .ok (.invokevirtual 67, 3) := by decide +kernel
theorem dX3_boardAfter_49 : decode cX3_boardAfter 49 = .ok (.ladd, 1) := by decide +kernel
theorem dX3_boardAfter_50 : decode cX3_boardAfter 50 = .ok (.goto 4, 3) := by decide +kernel
theorem dX3_boardAfter_53 : decode cX3_boardAfter 53 = .ok (.lload_n 2, 1) := by decide +kernel
theorem dX3_boardAfter_54 : decode cX3_boardAfter 54 = .ok (.lreturn, 1) := by decide +kernel
theorem dX3_wider_0 : decode cX3_wider 0 = .ok (.aload_n 0, 1) := by decide +kernel
theorem dX3_wider_1 : decode cX3_wider 1 = .ok (.getfield 7, 3) := by decide +kernel
theorem dX3_wider_4 : decode cX3_wider 4 = .ok (.bipush 11, 2) := by decide +kernel
theorem dX3_wider_6 : decode cX3_wider 6 = .ok (.laload, 1) := by decide +kernel
theorem dX3_wider_7 : decode cX3_wider 7 = .ok (.lconst 1, 1) := by decide +kernel
theorem dX3_wider_8 : decode cX3_wider 8 = .ok (.lcmp, 1) := by decide +kernel
theorem dX3_wider_9 : decode cX3_wider 9 = .ok (.ifCond .ne 13, 3) := by decide +kernel
theorem dX3_wider_12 : decode cX3_wider 12 = .ok (.aload_n 0, 1) := by decide +kernel
theorem dX3_wider_13 : decode cX3_wider 13 = .ok (.getfield 7, 3) := by decide +kernel
theorem dX3_wider_16 : decode cX3_wider 16 = .ok (.bipush 10, 2) := by decide +kernel
theorem dX3_wider_18 : decode cX3_wider 18 = .ok (.laload, 1) := by decide +kernel
theorem dX3_wider_19 : decode cX3_wider 19 = .ok (.goto 14, 3) := by decide +kernel
theorem dX3_wider_22 : decode cX3_wider 22 = .ok (.ldc2_w 70, 3) := by decide +kernel
theorem dX3_wider_25 : decode cX3_wider 25 = .ok (.aload_n 0, 1) := by decide +kernel
theorem dX3_wider_26 : decode cX3_wider 26 = .ok (.getfield 7, 3) := by decide +kernel
theorem dX3_wider_29 : decode cX3_wider 29 = .ok (.bipush 10, 2) := by decide +kernel
theorem dX3_wider_31 : decode cX3_wider 31 = .ok (.laload, 1) := by decide +kernel
theorem dX3_wider_32 : decode cX3_wider 32 = .ok (.lmul, 1) := by decide +kernel
theorem dX3_wider_33 : decode cX3_wider 33 = .ok (.lreturn, 1) := by decide +kernel
theorem dX3_fitsIn_0 : decode cX3_fitsIn 0 = .ok (.lload_n 0, 1) := by decide +kernel
theorem dX3_fitsIn_1 : decode cX3_fitsIn 1 = .ok (.ldc2_w 35, 3) := by decide +kernel
theorem dX3_fitsIn_4 : decode cX3_fitsIn 4 = .ok (.lcmp, 1) := by decide +kernel
theorem dX3_fitsIn_5 : decode cX3_fitsIn 5 = .ok (.ifCond .eq 9, 3) := by decide +kernel
theorem dX3_fitsIn_8 : decode cX3_fitsIn 8 = .ok (.lload_n 0, 1) := by decide +kernel
theorem dX3_fitsIn_9 : decode cX3_fitsIn 9 = .ok (.lload_n 2, 1) := by decide +kernel
theorem dX3_fitsIn_10 : decode cX3_fitsIn 10 = .ok (.lcmp, 1) := by decide +kernel
theorem dX3_fitsIn_11 : decode cX3_fitsIn 11 = .ok (.ifCond .ne 7, 3) := by decide +kernel
theorem dX3_fitsIn_14 : decode cX3_fitsIn 14 = .ok (.iconst 1, 1) := by decide +kernel
theorem dX3_fitsIn_15 : decode cX3_fitsIn 15 = .ok (.goto 4, 3) := by decide +kernel
theorem dX3_fitsIn_18 : decode cX3_fitsIn 18 = .ok (.iconst 0, 1) := by decide +kernel
theorem dX3_fitsIn_19 : decode cX3_fitsIn 19 = .ok (.ireturn, 1) := by decide +kernel
set_option maxRecDepth 20000 in
theorem ggX3_fits_X3_fitsIn : GoodIn wsX3_fits wsX3_fitsIn := goodIn_r _ [9, 10] (by decide +kernel) (by decide +kernel)
set_option maxRecDepth 20000 in
theorem gX3_fits_X3_fitsIn : GoodIn wsX3_fits (va_wsS RX3 74 yX3_fitsIn wsX3_fitsIn) := goodIn_app (goodIn_of _ (by decide +kernel)) ggX3_fits_X3_fitsIn
theorem dX3_fits_0 : decode cX3_fits 0 = .ok (.bipush 25, 2) := by decide +kernel
theorem dX3_fits_2 : decode cX3_fits 2 = .ok (.iconst 4, 1) := by decide +kernel
theorem dX3_fits_3 : decode cX3_fits 3 = .ok (.iload_n 1, 1) := by decide +kernel
theorem dX3_fits_4 : decode cX3_fits 4 = .ok (.imul, 1) := by decide +kernel
theorem dX3_fits_5 : decode cX3_fits 5 = .ok (.iadd, 1) := by decide +kernel
theorem dX3_fits_6 : decode cX3_fits 6 = .ok (.istore 4, 2) := by decide +kernel
theorem dX3_fits_8 : decode cX3_fits 8 = .ok (.aload_n 0, 1) := by decide +kernel
theorem dX3_fits_9 : decode cX3_fits 9 = .ok (.getfield 7, 3) := by decide +kernel
theorem dX3_fits_12 : decode cX3_fits 12 = .ok (.iload 4, 2) := by decide +kernel
theorem dX3_fits_14 : decode cX3_fits 14 = .ok (.laload, 1) := by decide +kernel
theorem dX3_fits_15 : decode cX3_fits 15 = .ok (.lload_n 2, 1) := by decide +kernel
theorem dX3_fits_16 : decode cX3_fits 16 = .ok (.ldc2_w 72, 3) := by decide +kernel
theorem dX3_fits_19 : decode cX3_fits 19 = .ok (.lrem, 1) := by decide +kernel
theorem dX3_fits_20 : decode cX3_fits 20 = .ok (.invokestatic 74, 3) := by decide +kernel
theorem dX3_fits_23 : decode cX3_fits 23 = .ok (.ifCond .eq 55, 3) := by decide +kernel
theorem dX3_fits_26 : decode cX3_fits 26 = .ok (.aload_n 0, 1) := by decide +kernel
theorem dX3_fits_27 : decode cX3_fits 27 = .ok (.getfield 7, 3) := by decide +kernel
theorem dX3_fits_30 : decode cX3_fits 30 = .ok (.iload 4, 2) := by decide +kernel
theorem dX3_fits_32 : decode cX3_fits 32 = .ok (.iconst 1, 1) := by decide +kernel
theorem dX3_fits_33 : decode cX3_fits 33 = .ok (.iadd, 1) := by decide +kernel
theorem dX3_fits_34 : decode cX3_fits 34 = .ok (.laload, 1) := by decide +kernel
theorem dX3_fits_35 : decode cX3_fits 35 = .ok (.lload_n 2, 1) := by decide +kernel
theorem dX3_fits_36 : decode cX3_fits 36 = .ok (.ldc2_w 72, 3) := by decide +kernel
theorem dX3_fits_39 : decode cX3_fits 39 = .ok (.ldiv, 1) := by decide +kernel
theorem dX3_fits_40 : decode cX3_fits 40 = .ok (.ldc2_w 78, 3) := by decide +kernel
theorem dX3_fits_43 : decode cX3_fits 43 = .ok (.lrem, 1) := by decide +kernel
theorem dX3_fits_44 : decode cX3_fits 44 = .ok (.invokestatic 74, 3) := by decide +kernel
theorem dX3_fits_47 : decode cX3_fits 47 = .ok (.ifCond .eq 31, 3) := by decide +kernel
theorem dX3_fits_50 : decode cX3_fits 50 = .ok (.aload_n 0, 1) := by decide +kernel
theorem dX3_fits_51 : decode cX3_fits 51 = .ok (.getfield 7, 3) := by decide +kernel
theorem dX3_fits_54 : decode cX3_fits 54 = .ok (.iload 4, 2) := by decide +kernel
theorem dX3_fits_56 : decode cX3_fits 56 = .ok (.iconst 2, 1) := by decide +kernel
theorem dX3_fits_57 : decode cX3_fits 57 = .ok (.iadd, 1) := by decide +kernel
theorem dX3_fits_58 : decode cX3_fits 58 = .ok (.laload, 1) := by decide +kernel
theorem dX3_fits_59 : decode cX3_fits 59 = .ok (.lload_n 2, 1) := by decide +kernel
theorem dX3_fits_60 : decode cX3_fits 60 = .ok (.ldc2_w 80, 3) := by decide +kernel
theorem dX3_fits_63 : decode cX3_fits 63 = .ok (.ldiv, 1) := by decide +kernel
theorem dX3_fits_64 : decode cX3_fits 64 = .ok (.ldc2_w 82, 3) := by decide +kernel
theorem dX3_fits_67 : decode cX3_fits 67 = .ok (.lrem, 1) := by decide +kernel
theorem dX3_fits_68 : decode cX3_fits 68 = .ok (.invokestatic 74, 3) := by decide +kernel
theorem dX3_fits_71 : decode cX3_fits 71 = .ok (.ifCond .eq 7, 3) := by decide +kernel
theorem dX3_fits_74 : decode cX3_fits 74 = .ok (.iconst 1, 1) := by decide +kernel
theorem dX3_fits_75 : decode cX3_fits 75 = .ok (.goto 4, 3) := by decide +kernel
theorem dX3_fits_78 : decode cX3_fits 78 = .ok (.iconst 0, 1) := by decide +kernel
theorem dX3_fits_79 : decode cX3_fits 79 = .ok (.ireturn, 1) := by decide +kernel
theorem dX3_minuteNow_0 : decode cX3_minuteNow 0 = .ok (.aload_n 0, 1) := by decide +kernel
theorem dX3_minuteNow_1 : decode cX3_minuteNow 1 = .ok (.getfield 7, 3) := by decide +kernel
theorem dX3_minuteNow_4 : decode cX3_minuteNow 4 = .ok (.iconst 1, 1) := by decide +kernel
theorem dX3_minuteNow_5 : decode cX3_minuteNow 5 = .ok (.laload, 1) := by decide +kernel
theorem dX3_minuteNow_6 : decode cX3_minuteNow 6 = .ok (.ldc2_w 62, 3) := by decide +kernel
theorem dX3_minuteNow_9 : decode cX3_minuteNow 9 = .ok (.ldiv, 1) := by decide +kernel
theorem dX3_minuteNow_10 : decode cX3_minuteNow 10 = .ok (.lreturn, 1) := by decide +kernel
set_option maxRecDepth 20000 in
theorem ggX3_between_X3_minuteNow : GoodIn wsX3_between wsX3_minuteNow := goodIn_r _ [6, 7, 1, 20, 21, 22, 23, 24, 25, 26, 27] (by decide +kernel) (by decide +kernel)
set_option maxRecDepth 20000 in
theorem gX3_between_X3_minuteNow : GoodIn wsX3_between (wsV RX3 84 RX3 yX3_minuteNow wsX3_minuteNow) := goodIn_app (goodIn_of _ (by decide +kernel)) ggX3_between_X3_minuteNow
set_option maxRecDepth 20000 in
theorem ggX3_between_X3_fits : GoodIn wsX3_between wsX3_fits := goodIn_r _ [11, 7, 12, 13, 14, 15, 16, 17, 5, 18, 19, 20, 21, 22, 23, 24, 25, 26, 27] (by decide +kernel) (by decide +kernel)
set_option maxRecDepth 20000 in
theorem gX3_between_X3_fits : GoodIn wsX3_between (wsV RX3 88 RX3 yX3_fits wsX3_fits) := goodIn_app (goodIn_of _ (by decide +kernel)) ggX3_between_X3_fits
theorem dX3_between_0 : decode cX3_between 0 = .ok (.lconst 0, 1) := by decide +kernel
theorem dX3_between_1 : decode cX3_between 1 = .ok (.lstore 4, 2) := by decide +kernel
theorem dX3_between_3 : decode cX3_between 3 = .ok (.aload_n 0, 1) := by decide +kernel
theorem dX3_between_4 : decode cX3_between 4 = .ok (.invokevirtual 84, 3) := by decide +kernel
theorem dX3_between_7 : decode cX3_between 7 = .ok (.lconst 1, 1) := by decide +kernel
theorem dX3_between_8 : decode cX3_between 8 = .ok (.ladd, 1) := by decide +kernel
theorem dX3_between_9 : decode cX3_between 9 = .ok (.lstore 6, 2) := by decide +kernel
theorem dX3_between_11 : decode cX3_between 11 = .ok (.lload 6, 2) := by decide +kernel
theorem dX3_between_13 : decode cX3_between 13 = .ok (.lload_n 2, 1) := by decide +kernel
theorem dX3_between_14 : decode cX3_between 14 = .ok (.ldc2_w 62, 3) := by decide +kernel
theorem dX3_between_17 : decode cX3_between 17 = .ok (.ldiv, 1) := by decide +kernel
theorem dX3_between_18 : decode cX3_between 18 = .ok (.lcmp, 1) := by decide +kernel
theorem dX3_between_19 : decode cX3_between 19 = .ok (.ifCond .gt 32, 3) := by decide +kernel
theorem dX3_between_22 : decode cX3_between 22 = .ok (.lload 4, 2) := by decide +kernel
theorem dX3_between_24 : decode cX3_between 24 = .ok (.aload_n 0, 1) := by decide +kernel
theorem dX3_between_25 : decode cX3_between 25 = .ok (.iload_n 1, 1) := by decide +kernel
theorem dX3_between_26 : decode cX3_between 26 = .ok (.lload 6, 2) := by decide +kernel
theorem dX3_between_28 : decode cX3_between 28 = .ok (.invokevirtual 88, 3) := by decide +kernel
theorem dX3_between_31 : decode cX3_between 31 = .ok (.ifCond .eq 7, 3) := by decide +kernel
theorem dX3_between_34 : decode cX3_between 34 = .ok (.lconst 1, 1) := by decide +kernel
theorem dX3_between_35 : decode cX3_between 35 = .ok (.goto 4, 3) := by decide +kernel
theorem dX3_between_38 : decode cX3_between 38 = .ok (.lconst 0, 1) := by decide +kernel
theorem dX3_between_39 : decode cX3_between 39 = .ok (.ladd, 1) := by decide +kernel
theorem dX3_between_40 : decode cX3_between 40 = .ok (.lstore 4, 2) := by decide +kernel
theorem dX3_between_42 : decode cX3_between 42 = .ok (.lload 6, 2) := by decide +kernel
theorem dX3_between_44 : decode cX3_between 44 = .ok (.lconst 1, 1) := by decide +kernel
theorem dX3_between_45 : decode cX3_between 45 = .ok (.ladd, 1) := by decide +kernel
theorem dX3_between_46 : decode cX3_between 46 = .ok (.lstore 6, 2) := by decide +kernel
theorem dX3_between_48 : decode cX3_between 48 = .ok (.goto (-37), 3) := by decide +kernel
theorem dX3_between_51 : decode cX3_between 51 = .ok (.lload 4, 2) := by decide +kernel
theorem dX3_between_53 : decode cX3_between 53 = .ok (.lreturn, 1) := by decide +kernel
theorem dX3_ringsAt_0 : decode cX3_ringsAt 0 = .ok (.aload_n 0, 1) := by decide +kernel
theorem dX3_ringsAt_1 : decode cX3_ringsAt 1 = .ok (.getfield 7, 3) := by decide +kernel
theorem dX3_ringsAt_4 : decode cX3_ringsAt 4 = .ok (.bipush 25, 2) := by decide +kernel
theorem dX3_ringsAt_6 : decode cX3_ringsAt 6 = .ok (.iconst 4, 1) := by decide +kernel
theorem dX3_ringsAt_7 : decode cX3_ringsAt 7 = .ok (.iload_n 1, 1) := by decide +kernel
theorem dX3_ringsAt_8 : decode cX3_ringsAt 8 = .ok (.imul, 1) := by decide +kernel
theorem dX3_ringsAt_9 : decode cX3_ringsAt 9 = .ok (.iadd, 1) := by decide +kernel
theorem dX3_ringsAt_10 : decode cX3_ringsAt 10 = .ok (.iconst 3, 1) := by decide +kernel
theorem dX3_ringsAt_11 : decode cX3_ringsAt 11 = .ok (.iadd, 1) := by decide +kernel
theorem dX3_ringsAt_12 : decode cX3_ringsAt 12 = .ok (.laload, 1) := by decide +kernel
theorem dX3_ringsAt_13 : decode cX3_ringsAt 13 = .ok (.lreturn, 1) := by decide +kernel
set_option maxRecDepth 20000 in
theorem ggX3_goes_X3_boardAfter : GoodIn wsX3_goes wsX3_boardAfter := goodIn_r _ [10, 1, 3, 11, 12, 13, 9, 14, 15, 16, 17, 18, 19, 20, 21, 22, 23, 24, 25, 26, 27, 28, 29, 30, 31, 32, 33, 34, 35, 36, 37, 38, 39, 73, 74, 75, 76, 77, 78, 79, 80] (by decide +kernel) (by decide +kernel)
set_option maxRecDepth 20000 in
theorem gX3_goes_X3_boardAfter : GoodIn wsX3_goes (wsV RX3 92 RX3 yX3_boardAfter wsX3_boardAfter) := goodIn_app (goodIn_of _ (by decide +kernel)) ggX3_goes_X3_boardAfter
set_option maxRecDepth 20000 in
theorem ggX3_goes_X3_between : GoodIn wsX3_goes wsX3_between := goodIn_r _ [43, 3, 44, 45, 46, 9, 47, 1, 48, 49, 50, 51, 52, 53, 54, 55, 56, 57, 58, 59, 73, 74, 75, 76, 77, 78, 79, 80] (by decide +kernel) (by decide +kernel)
set_option maxRecDepth 20000 in
theorem gX3_goes_X3_between : GoodIn wsX3_goes (wsV RX3 95 RX3 yX3_between wsX3_between) := goodIn_app (goodIn_of _ (by decide +kernel)) ggX3_goes_X3_between
set_option maxRecDepth 20000 in
theorem ggX3_goes_X3_ringsAt : GoodIn wsX3_goes wsX3_ringsAt := goodIn_r _ [63, 1, 73, 74, 75, 76, 77, 78, 79, 80] (by decide +kernel) (by decide +kernel)
set_option maxRecDepth 20000 in
theorem gX3_goes_X3_ringsAt : GoodIn wsX3_goes (wsV RX3 101 RX3 yX3_ringsAt wsX3_ringsAt) := goodIn_app (goodIn_of _ (by decide +kernel)) ggX3_goes_X3_ringsAt
set_option maxRecDepth 20000 in
theorem ggX3_goes_X3_lesser : GoodIn wsX3_goes wsX3_lesser := goodIn_r _ [39] (by decide +kernel) (by decide +kernel)
set_option maxRecDepth 20000 in
theorem gX3_goes_X3_lesser : GoodIn wsX3_goes (va_wsS RX3 59 yX3_lesser wsX3_lesser) := goodIn_app (goodIn_of _ (by decide +kernel)) ggX3_goes_X3_lesser
set_option maxRecDepth 20000 in
theorem ggX3_goes_X3_restAfter : GoodIn wsX3_goes wsX3_restAfter := goodIn_r _ [67, 1, 20, 21, 22, 23, 9, 24, 25, 26, 16, 17, 18, 19, 27, 28, 29, 73, 74, 75, 76, 77, 78, 79, 80] (by decide +kernel) (by decide +kernel)
set_option maxRecDepth 20000 in
theorem gX3_goes_X3_restAfter : GoodIn wsX3_goes (wsV RX3 104 RX3 yX3_restAfter wsX3_restAfter) := goodIn_app (goodIn_of _ (by decide +kernel)) ggX3_goes_X3_restAfter
set_option maxRecDepth 20000 in
theorem ggX3_goes_X3_gone : GoodIn wsX3_goes wsX3_gone := goodIn_r _ [33, 1, 34, 35, 9, 36, 37, 38, 39, 73, 74, 75, 76, 77, 78, 79, 80] (by decide +kernel) (by decide +kernel)
set_option maxRecDepth 20000 in
theorem gX3_goes_X3_gone : GoodIn wsX3_goes (wsV RX3 67 RX3 yX3_gone wsX3_gone) := goodIn_app (goodIn_of _ (by decide +kernel)) ggX3_goes_X3_gone
set_option maxRecDepth 20000 in
theorem ggX3_goes_X3_wider : GoodIn wsX3_goes wsX3_wider := goodIn_r _ [71, 1, 72, 73, 74, 75, 76, 77, 78, 79, 80] (by decide +kernel) (by decide +kernel)
set_option maxRecDepth 20000 in
theorem gX3_goes_X3_wider : GoodIn wsX3_goes (wsV RX3 109 RX3 yX3_wider wsX3_wider) := goodIn_app (goodIn_of _ (by decide +kernel)) ggX3_goes_X3_wider
set_option maxRecDepth 20000 in
theorem ggX3_goes_X3_spanNow : GoodIn wsX3_goes wsX3_spanNow := goodIn_r _ [24, 1, 25, 26, 73, 74, 75, 76, 77, 78, 79, 80] (by decide +kernel) (by decide +kernel)
set_option maxRecDepth 20000 in
theorem gX3_goes_X3_spanNow : GoodIn wsX3_goes (wsV RX3 41 RX3 yX3_spanNow wsX3_spanNow) := goodIn_app (goodIn_of _ (by decide +kernel)) ggX3_goes_X3_spanNow
theorem dX3_goes_0 : decode cX3_goes 0 = .ok (.aload_n 0, 1) := by decide +kernel
theorem dX3_goes_1 : decode cX3_goes 1 = .ok (.iload_n 1, 1) := by decide +kernel
theorem dX3_goes_2 : decode cX3_goes 2 = .ok (.invokevirtual 92, 3) := by decide +kernel
theorem dX3_goes_5 : decode cX3_goes 5 = .ok (.lstore_n 2, 1) := by decide +kernel
theorem dX3_goes_6 : decode cX3_goes 6 = .ok (.iconst 0, 1) := by decide +kernel
theorem dX3_goes_7 : decode cX3_goes 7 = .ok (.istore 4, 2) := by decide +kernel
theorem dX3_goes_9 : decode cX3_goes 9 = .ok (.iconst 0, 1) := by decide +kernel
theorem dX3_goes_10 : decode cX3_goes 10 = .ok (.istore 5, 2) := by decide +kernel
theorem dX3_goes_12 : decode cX3_goes 12 = .ok (.iload 5, 2) := by decide +kernel
theorem dX3_goes_14 : decode cX3_goes 14 = .ok (.i2l, 1) := by decide +kernel
theorem dX3_goes_15 : decode cX3_goes 15 = .ok (.aload_n 0, 1) := by decide +kernel
theorem dX3_goes_16 : decode cX3_goes 16 = .ok (.getfield 7, 3) := by decide +kernel
theorem dX3_goes_19 : decode cX3_goes 19 = .ok (.bipush 24, 2) := by decide +kernel
theorem dX3_goes_21 : decode cX3_goes 21 = .ok (.laload, 1) := by decide +kernel
theorem dX3_goes_22 : decode cX3_goes 22 = .ok (.lcmp, 1) := by decide +kernel
theorem dX3_goes_23 : decode cX3_goes 23 = .ok (.ifCond .ge 67, 3) := by decide +kernel
theorem dX3_goes_26 : decode cX3_goes 26 = .ok (.aload_n 0, 1) := by decide +kernel
theorem dX3_goes_27 : decode cX3_goes 27 = .ok (.iload 5, 2) := by decide +kernel
theorem dX3_goes_29 : decode cX3_goes 29 = .ok (.lload_n 2, 1) := by decide +kernel
theorem dX3_goes_30 : decode cX3_goes 30 = .ok (.invokevirtual 95, 3) := by decide +kernel
theorem dX3_goes_33 : decode cX3_goes 33 = .ok (.lstore 6, 2) := by decide +kernel
theorem dX3_goes_35 : decode cX3_goes 35 = .ok (.iload 4, 2) := by decide +kernel
theorem dX3_goes_37 : decode cX3_goes 37 = .ok (.lload 6, 2) := by decide +kernel
theorem dX3_goes_39 : decode cX3_goes 39 = .ok (.lconst 0, 1) := by decide +kernel
theorem dX3_goes_40 : decode cX3_goes 40 = .ok (.lcmp, 1) := by decide +kernel
theorem dX3_goes_41 : decode cX3_goes 41 = .ok (.ifCond .le 10, 3) := by decide +kernel
theorem dX3_goes_44 : decode cX3_goes 44 = .ok (.iconst 1, 1) := by decide +kernel
theorem dX3_goes_45 : decode cX3_goes 45 = .ok (.iload 5, 2) := by decide +kernel
theorem dX3_goes_47 : decode cX3_goes 47 = .ok (.ishl, 1) := by decide +kernel
theorem dX3_goes_48 : decode cX3_goes 48 = .ok (.goto 4, 3) := by decide +kernel
theorem dX3_goes_51 : decode cX3_goes 51 = .ok (.iconst 0, 1) := by decide +kernel
theorem dX3_goes_52 : decode cX3_goes 52 = .ok (.ior, 1) := by decide +kernel
theorem dX3_goes_53 : decode cX3_goes 53 = .ok (.istore 4, 2) := by decide +kernel
theorem dX3_goes_55 : decode cX3_goes 55 = .ok (.aload_n 0, 1) := by decide +kernel
theorem dX3_goes_56 : decode cX3_goes 56 = .ok (.getfield 7, 3) := by decide +kernel
theorem dX3_goes_59 : decode cX3_goes 59 = .ok (.bipush 25, 2) := by decide +kernel
theorem dX3_goes_61 : decode cX3_goes 61 = .ok (.iconst 4, 1) := by decide +kernel
theorem dX3_goes_62 : decode cX3_goes 62 = .ok (.iload 5, 2) := by decide +kernel
theorem dX3_goes_64 : decode cX3_goes 64 = .ok (.imul, 1) := by decide +kernel
theorem dX3_goes_65 : decode cX3_goes 65 = .ok (.iadd, 1) := by decide +kernel
theorem dX3_goes_66 : decode cX3_goes 66 = .ok (.iconst 3, 1) := by decide +kernel
theorem dX3_goes_67 : decode cX3_goes 67 = .ok (.iadd, 1) := by decide +kernel
theorem dX3_goes_68 : decode cX3_goes 68 = .ok (.ldc2_w 99, 3) := by decide +kernel
theorem dX3_goes_71 : decode cX3_goes 71 = .ok (.aload_n 0, 1) := by decide +kernel
theorem dX3_goes_72 : decode cX3_goes 72 = .ok (.iload 5, 2) := by decide +kernel
theorem dX3_goes_74 : decode cX3_goes 74 = .ok (.invokevirtual 101, 3) := by decide +kernel
theorem dX3_goes_77 : decode cX3_goes 77 = .ok (.lload 6, 2) := by decide +kernel
theorem dX3_goes_79 : decode cX3_goes 79 = .ok (.ladd, 1) := by decide +kernel
theorem dX3_goes_80 : decode cX3_goes 80 = .ok (.invokestatic 59, 3) := by decide +kernel
theorem dX3_goes_83 : decode cX3_goes 83 = .ok (.lastore, 1) := by decide +kernel
theorem dX3_goes_84 : decode cX3_goes 84 = .ok (.iinc 5 1, 3) := by decide +kernel
theorem dX3_goes_87 : decode cX3_goes 87 = .ok (.goto (-75), 3) := by decide +kernel
theorem dX3_goes_90 : decode cX3_goes 90 = .ok (.aload_n 0, 1) := by decide +kernel
theorem dX3_goes_91 : decode cX3_goes 91 = .ok (.getfield 7, 3) := by decide +kernel
theorem dX3_goes_94 : decode cX3_goes 94 = .ok (.bipush 11, 2) := by decide +kernel
theorem dX3_goes_96 : decode cX3_goes 96 = .ok (.laload, 1) := by decide +kernel
theorem dX3_goes_97 : decode cX3_goes 97 = .ok (.lconst 1, 1) := by decide +kernel
theorem dX3_goes_98 : decode cX3_goes 98 = .ok (.lcmp, 1) := by decide +kernel
theorem dX3_goes_99 : decode cX3_goes 99 = .ok (.ifCond .ne 33, 3) := by decide +kernel
theorem dX3_goes_102 : decode cX3_goes 102 = .ok (.aload_n 0, 1) := by decide +kernel
theorem dX3_goes_103 : decode cX3_goes 103 = .ok (.iload_n 1, 1) := by decide +kernel
theorem dX3_goes_104 : decode cX3_goes 104 = .ok (.invokevirtual 104, 3) := by decide +kernel
theorem dX3_goes_107 : decode cX3_goes 107 = .ok (.lstore 5, 2) := by decide +kernel
theorem dX3_goes_109 : decode cX3_goes 109 = .ok (.aload_n 0, 1) := by decide +kernel
theorem dX3_goes_110 : decode cX3_goes 110 = .ok (.getfield 7, 3) := by decide +kernel
theorem dX3_goes_113 : decode cX3_goes 113 = .ok (.iconst 2, 1) := by decide +kernel
theorem dX3_goes_114 : decode cX3_goes 114 = .ok (.dup2, 1) := by decide +kernel
theorem dX3_goes_115 : decode cX3_goes 115 = .ok (.laload, 1) := by decide +kernel
theorem dX3_goes_116 : decode cX3_goes 116 = .ok (.aload_n 0, 1) := by decide +kernel
theorem dX3_goes_117 : decode cX3_goes 117 = .ok (.iload_n 1, 1) := by decide +kernel
theorem dX3_goes_118 : decode cX3_goes 118 = .ok (.invokevirtual 67, 3) := by decide +kernel
theorem dX3_goes_121 : decode cX3_goes 121 = .ok (.lsub, 1) := by decide +kernel
theorem dX3_goes_122 : decode cX3_goes 122 = .ok (.lastore, 1) := by decide +kernel
theorem dX3_goes_123 : decode cX3_goes 123 = .ok (.aload_n 0, 1) := by decide +kernel
theorem dX3_goes_124 : decode cX3_goes 124 = .ok (.getfield 7, 3) := by decide +kernel
theorem dX3_goes_127 : decode cX3_goes 127 = .ok (.bipush 8, 2) := by decide +kernel
theorem dX3_goes_129 : decode cX3_goes 129 = .ok (.lload 5, 2) := by decide +kernel
theorem dX3_goes_131 : decode cX3_goes 131 = .ok (.lastore, 1) := by decide +kernel
theorem dX3_goes_132 : decode cX3_goes 132 = .ok (.aload_n 0, 1) := by decide +kernel
theorem dX3_goes_133 : decode cX3_goes 133 = .ok (.getfield 7, 3) := by decide +kernel
theorem dX3_goes_136 : decode cX3_goes 136 = .ok (.iconst 1, 1) := by decide +kernel
theorem dX3_goes_137 : decode cX3_goes 137 = .ok (.lload_n 2, 1) := by decide +kernel
theorem dX3_goes_138 : decode cX3_goes 138 = .ok (.lastore, 1) := by decide +kernel
theorem dX3_goes_139 : decode cX3_goes 139 = .ok (.aload_n 0, 1) := by decide +kernel
theorem dX3_goes_140 : decode cX3_goes 140 = .ok (.getfield 7, 3) := by decide +kernel
theorem dX3_goes_143 : decode cX3_goes 143 = .ok (.iconst 0, 1) := by decide +kernel
theorem dX3_goes_144 : decode cX3_goes 144 = .ok (.dup2, 1) := by decide +kernel
theorem dX3_goes_145 : decode cX3_goes 145 = .ok (.laload, 1) := by decide +kernel
theorem dX3_goes_146 : decode cX3_goes 146 = .ok (.iload_n 1, 1) := by decide +kernel
theorem dX3_goes_147 : decode cX3_goes 147 = .ok (.i2l, 1) := by decide +kernel
theorem dX3_goes_148 : decode cX3_goes 148 = .ok (.ldc2_w 62, 3) := by decide +kernel
theorem dX3_goes_151 : decode cX3_goes 151 = .ok (.lmul, 1) := by decide +kernel
theorem dX3_goes_152 : decode cX3_goes 152 = .ok (.ladd, 1) := by decide +kernel
theorem dX3_goes_153 : decode cX3_goes 153 = .ok (.lastore, 1) := by decide +kernel
theorem dX3_goes_154 : decode cX3_goes 154 = .ok (.aload_n 0, 1) := by decide +kernel
theorem dX3_goes_155 : decode cX3_goes 155 = .ok (.getfield 7, 3) := by decide +kernel
theorem dX3_goes_158 : decode cX3_goes 158 = .ok (.iconst 3, 1) := by decide +kernel
theorem dX3_goes_159 : decode cX3_goes 159 = .ok (.ldc2_w 107, 3) := by decide +kernel
theorem dX3_goes_162 : decode cX3_goes 162 = .ok (.aload_n 0, 1) := by decide +kernel
theorem dX3_goes_163 : decode cX3_goes 163 = .ok (.getfield 7, 3) := by decide +kernel
theorem dX3_goes_166 : decode cX3_goes 166 = .ok (.iconst 3, 1) := by decide +kernel
theorem dX3_goes_167 : decode cX3_goes 167 = .ok (.laload, 1) := by decide +kernel
theorem dX3_goes_168 : decode cX3_goes 168 = .ok (.iload_n 1, 1) := by decide +kernel
theorem dX3_goes_169 : decode cX3_goes 169 = .ok (.i2l, 1) := by decide +kernel
theorem dX3_goes_170 : decode cX3_goes 170 = .ok (.aload_n 0, 1) := by decide +kernel
theorem dX3_goes_171 : decode cX3_goes 171 = .ok (.invokevirtual 109, 3) := by decide +kernel
theorem dX3_goes_174 : decode cX3_goes 174 = .ok (.lmul, 1) := by decide +kernel
theorem dX3_goes_175 : decode cX3_goes 175 = .ok (.ladd, 1) := by decide +kernel
theorem dX3_goes_176 : decode cX3_goes 176 = .ok (.invokestatic 59, 3) := by decide +kernel
theorem dX3_goes_179 : decode cX3_goes 179 = .ok (.lastore, 1) := by decide +kernel
theorem dX3_goes_180 : decode cX3_goes 180 = .ok (.aload_n 0, 1) := by decide +kernel
theorem dX3_goes_181 : decode cX3_goes 181 = .ok (.getfield 7, 3) := by decide +kernel
theorem dX3_goes_184 : decode cX3_goes 184 = .ok (.bipush 11, 2) := by decide +kernel
theorem dX3_goes_186 : decode cX3_goes 186 = .ok (.laload, 1) := by decide +kernel
theorem dX3_goes_187 : decode cX3_goes 187 = .ok (.lconst 1, 1) := by decide +kernel
theorem dX3_goes_188 : decode cX3_goes 188 = .ok (.lcmp, 1) := by decide +kernel
theorem dX3_goes_189 : decode cX3_goes 189 = .ok (.ifCond .ne 35, 3) := by decide +kernel
theorem dX3_goes_192 : decode cX3_goes 192 = .ok (.aload_n 0, 1) := by decide +kernel
theorem dX3_goes_193 : decode cX3_goes 193 = .ok (.getfield 7, 3) := by decide +kernel
theorem dX3_goes_196 : decode cX3_goes 196 = .ok (.bipush 12, 2) := by decide +kernel
theorem dX3_goes_198 : decode cX3_goes 198 = .ok (.laload, 1) := by decide +kernel
theorem dX3_goes_199 : decode cX3_goes 199 = .ok (.lconst 0, 1) := by decide +kernel
theorem dX3_goes_200 : decode cX3_goes 200 = .ok (.lcmp, 1) := by decide +kernel
theorem dX3_goes_201 : decode cX3_goes 201 = .ok (.ifCond .eq 19, 3) := by decide +kernel
theorem dX3_goes_204 : decode cX3_goes 204 = .ok (.aload_n 0, 1) := by decide +kernel
theorem dX3_goes_205 : decode cX3_goes 205 = .ok (.getfield 7, 3) := by decide +kernel
theorem dX3_goes_208 : decode cX3_goes 208 = .ok (.bipush 13, 2) := by decide +kernel
theorem dX3_goes_210 : decode cX3_goes 210 = .ok (.laload, 1) := by decide +kernel
theorem dX3_goes_211 : decode cX3_goes 211 = .ok (.aload_n 0, 1) := by decide +kernel
theorem dX3_goes_212 : decode cX3_goes 212 = .ok (.invokevirtual 41, 3) := by decide +kernel
theorem dX3_goes_215 : decode cX3_goes 215 = .ok (.i2l, 1) := by decide +kernel
theorem dX3_goes_216 : decode cX3_goes 216 = .ok (.lcmp, 1) := by decide +kernel
theorem dX3_goes_217 : decode cX3_goes 217 = .ok (.ifCond .ne 7, 3) := by decide +kernel
theorem dX3_goes_220 : decode cX3_goes 220 = .ok (.iconst 1, 1) := by decide +kernel
theorem dX3_goes_221 : decode cX3_goes 221 = .ok (.goto 4, 3) := by decide +kernel
theorem dX3_goes_224 : decode cX3_goes 224 = .ok (.iconst 0, 1) := by decide +kernel
theorem dX3_goes_225 : decode cX3_goes 225 = .ok (.istore 5, 2) := by decide +kernel
theorem dX3_goes_227 : decode cX3_goes 227 = .ok (.aload_n 0, 1) := by decide +kernel
theorem dX3_goes_228 : decode cX3_goes 228 = .ok (.getfield 7, 3) := by decide +kernel
theorem dX3_goes_231 : decode cX3_goes 231 = .ok (.bipush 13, 2) := by decide +kernel
theorem dX3_goes_233 : decode cX3_goes 233 = .ok (.iload 5, 2) := by decide +kernel
theorem dX3_goes_235 : decode cX3_goes 235 = .ok (.ifCond .eq 11, 3) := by decide +kernel
theorem dX3_goes_238 : decode cX3_goes 238 = .ok (.aload_n 0, 1) := by decide +kernel
theorem dX3_goes_239 : decode cX3_goes 239 = .ok (.invokevirtual 41, 3) := by decide +kernel
theorem dX3_goes_242 : decode cX3_goes 242 = .ok (.i2l, 1) := by decide +kernel
theorem dX3_goes_243 : decode cX3_goes 243 = .ok (.goto 6, 3) := by decide +kernel
theorem dX3_goes_246 : decode cX3_goes 246 = .ok (.ldc2_w 112, 3) := by decide +kernel
theorem dX3_goes_249 : decode cX3_goes 249 = .ok (.lastore, 1) := by decide +kernel
theorem dX3_goes_250 : decode cX3_goes 250 = .ok (.aload_n 0, 1) := by decide +kernel
theorem dX3_goes_251 : decode cX3_goes 251 = .ok (.getfield 7, 3) := by decide +kernel
theorem dX3_goes_254 : decode cX3_goes 254 = .ok (.bipush 12, 2) := by decide +kernel
theorem dX3_goes_256 : decode cX3_goes 256 = .ok (.dup2, 1) := by decide +kernel
theorem dX3_goes_257 : decode cX3_goes 257 = .ok (.laload, 1) := by decide +kernel
theorem dX3_goes_258 : decode cX3_goes 258 = .ok (.iload_n 1, 1) := by decide +kernel
theorem dX3_goes_259 : decode cX3_goes 259 = .ok (.i2l, 1) := by decide +kernel
theorem dX3_goes_260 : decode cX3_goes 260 = .ok (.ladd, 1) := by decide +kernel
theorem dX3_goes_261 : decode cX3_goes 261 = .ok (.lastore, 1) := by decide +kernel
theorem dX3_goes_262 : decode cX3_goes 262 = .ok (.iload 4, 2) := by decide +kernel
theorem dX3_goes_264 : decode cX3_goes 264 = .ok (.ireturn, 1) := by decide +kernel
set_option maxRecDepth 20000 in
theorem ggX3_learns_X3_aim : GoodIn wsX3_learns wsX3_aim := goodIn_r _ [11, 1, 18, 19, 20, 21, 22, 23, 24, 25] (by decide +kernel) (by decide +kernel)
set_option maxRecDepth 20000 in
theorem gX3_learns_X3_aim : GoodIn wsX3_learns (wsV RX3 114 RX3 yX3_aim wsX3_aim) := goodIn_app (goodIn_of _ (by decide +kernel)) ggX3_learns_X3_aim
set_option maxRecDepth 20000 in
theorem ggX3_learns_X3_lesser : GoodIn wsX3_learns wsX3_lesser := goodIn_r _ [14] (by decide +kernel) (by decide +kernel)
set_option maxRecDepth 20000 in
theorem gX3_learns_X3_lesser : GoodIn wsX3_learns (va_wsS RX3 59 yX3_lesser wsX3_lesser) := goodIn_app (goodIn_of _ (by decide +kernel)) ggX3_learns_X3_lesser
set_option maxRecDepth 20000 in
theorem ggX3_learns_X3_greater : GoodIn wsX3_learns wsX3_greater := goodIn_r _ [17] (by decide +kernel) (by decide +kernel)
set_option maxRecDepth 20000 in
theorem gX3_learns_X3_greater : GoodIn wsX3_learns (va_wsS RX3 123 yX3_greater wsX3_greater) := goodIn_app (goodIn_of _ (by decide +kernel)) ggX3_learns_X3_greater
theorem dX3_learns_0 : decode cX3_learns 0 = .ok (.aload_n 0, 1) := by decide +kernel
theorem dX3_learns_1 : decode cX3_learns 1 = .ok (.getfield 7, 3) := by decide +kernel
theorem dX3_learns_4 : decode cX3_learns 4 = .ok (.bipush 12, 2) := by decide +kernel
theorem dX3_learns_6 : decode cX3_learns 6 = .ok (.laload, 1) := by decide +kernel
theorem dX3_learns_7 : decode cX3_learns 7 = .ok (.lconst 0, 1) := by decide +kernel
theorem dX3_learns_8 : decode cX3_learns 8 = .ok (.lcmp, 1) := by decide +kernel
theorem dX3_learns_9 : decode cX3_learns 9 = .ok (.ifCond .le 80, 3) := by decide +kernel
theorem dX3_learns_12 : decode cX3_learns 12 = .ok (.aload_n 0, 1) := by decide +kernel
theorem dX3_learns_13 : decode cX3_learns 13 = .ok (.getfield 7, 3) := by decide +kernel
theorem dX3_learns_16 : decode cX3_learns 16 = .ok (.bipush 13, 2) := by decide +kernel
theorem dX3_learns_18 : decode cX3_learns 18 = .ok (.laload, 1) := by decide +kernel
theorem dX3_learns_19 : decode cX3_learns 19 = .ok (.ldc2_w 112, 3) := by decide +kernel
theorem dX3_learns_22 : decode cX3_learns 22 = .ok (.lcmp, 1) := by decide +kernel
theorem dX3_learns_23 : decode cX3_learns 23 = .ok (.ifCond .eq 66, 3) := by decide +kernel
theorem dX3_learns_26 : decode cX3_learns 26 = .ok (.bipush 15, 2) := by decide +kernel
theorem dX3_learns_28 : decode cX3_learns 28 = .ok (.aload_n 0, 1) := by decide +kernel
theorem dX3_learns_29 : decode cX3_learns 29 = .ok (.getfield 7, 3) := by decide +kernel
theorem dX3_learns_32 : decode cX3_learns 32 = .ok (.bipush 13, 2) := by decide +kernel
theorem dX3_learns_34 : decode cX3_learns 34 = .ok (.laload, 1) := by decide +kernel
theorem dX3_learns_35 : decode cX3_learns 35 = .ok (.l2i, 1) := by decide +kernel
theorem dX3_learns_36 : decode cX3_learns 36 = .ok (.iadd, 1) := by decide +kernel
theorem dX3_learns_37 : decode cX3_learns 37 = .ok (.istore_n 3, 1) := by decide +kernel
theorem dX3_learns_38 : decode cX3_learns 38 = .ok (.aload_n 0, 1) := by decide +kernel
theorem dX3_learns_39 : decode cX3_learns 39 = .ok (.getfield 7, 3) := by decide +kernel
theorem dX3_learns_42 : decode cX3_learns 42 = .ok (.iload_n 3, 1) := by decide +kernel
theorem dX3_learns_43 : decode cX3_learns 43 = .ok (.laload, 1) := by decide +kernel
theorem dX3_learns_44 : decode cX3_learns 44 = .ok (.aload_n 0, 1) := by decide +kernel
theorem dX3_learns_45 : decode cX3_learns 45 = .ok (.invokevirtual 114, 3) := by decide +kernel
theorem dX3_learns_48 : decode cX3_learns 48 = .ok (.lload_n 1, 1) := by decide +kernel
theorem dX3_learns_49 : decode cX3_learns 49 = .ok (.lsub, 1) := by decide +kernel
theorem dX3_learns_50 : decode cX3_learns 50 = .ok (.ldc2_w 45, 3) := by decide +kernel
theorem dX3_learns_53 : decode cX3_learns 53 = .ok (.lmul, 1) := by decide +kernel
theorem dX3_learns_54 : decode cX3_learns 54 = .ok (.ldc2_w 117, 3) := by decide +kernel
theorem dX3_learns_57 : decode cX3_learns 57 = .ok (.aload_n 0, 1) := by decide +kernel
theorem dX3_learns_58 : decode cX3_learns 58 = .ok (.getfield 7, 3) := by decide +kernel
theorem dX3_learns_61 : decode cX3_learns 61 = .ok (.bipush 12, 2) := by decide +kernel
theorem dX3_learns_63 : decode cX3_learns 63 = .ok (.laload, 1) := by decide +kernel
theorem dX3_learns_64 : decode cX3_learns 64 = .ok (.lmul, 1) := by decide +kernel
theorem dX3_learns_65 : decode cX3_learns 65 = .ok (.ldiv, 1) := by decide +kernel
theorem dX3_learns_66 : decode cX3_learns 66 = .ok (.ladd, 1) := by decide +kernel
theorem dX3_learns_67 : decode cX3_learns 67 = .ok (.lstore 4, 2) := by decide +kernel
theorem dX3_learns_69 : decode cX3_learns 69 = .ok (.aload_n 0, 1) := by decide +kernel
theorem dX3_learns_70 : decode cX3_learns 70 = .ok (.getfield 7, 3) := by decide +kernel
theorem dX3_learns_73 : decode cX3_learns 73 = .ok (.iload_n 3, 1) := by decide +kernel
theorem dX3_learns_74 : decode cX3_learns 74 = .ok (.ldc2_w 119, 3) := by decide +kernel
theorem dX3_learns_77 : decode cX3_learns 77 = .ok (.ldc2_w 121, 3) := by decide +kernel
theorem dX3_learns_80 : decode cX3_learns 80 = .ok (.lload 4, 2) := by decide +kernel
theorem dX3_learns_82 : decode cX3_learns 82 = .ok (.invokestatic 59, 3) := by decide +kernel
theorem dX3_learns_85 : decode cX3_learns 85 = .ok (.invokestatic 123, 3) := by decide +kernel
theorem dX3_learns_88 : decode cX3_learns 88 = .ok (.lastore, 1) := by decide +kernel
theorem dX3_learns_89 : decode cX3_learns 89 = .ok (.return_, 1) := by decide +kernel
set_option maxRecDepth 20000 in
theorem ggX3_hears_X3_learns : GoodIn wsX3_hears wsX3_learns := goodIn_r _ [9, 1, 10, 2, 11, 12, 13, 14, 15, 16, 8, 17, 18, 19, 20, 21, 22, 23, 30, 31, 32, 33, 34, 35, 36, 37] (by decide +kernel) (by decide +kernel)
set_option maxRecDepth 20000 in
theorem gX3_hears_X3_learns : GoodIn wsX3_hears (wsV RX3 126 RX3 yX3_learns wsX3_learns) := goodIn_app (goodIn_of _ (by decide +kernel)) ggX3_hears_X3_learns
set_option maxRecDepth 20000 in
theorem ggX3_hears_X3_aim : GoodIn wsX3_hears wsX3_aim := goodIn_r _ [17, 1, 30, 31, 32, 33, 34, 35, 36, 37] (by decide +kernel) (by decide +kernel)
set_option maxRecDepth 20000 in
theorem gX3_hears_X3_aim : GoodIn wsX3_hears (wsV RX3 114 RX3 yX3_aim wsX3_aim) := goodIn_app (goodIn_of _ (by decide +kernel)) ggX3_hears_X3_aim
set_option maxRecDepth 20000 in
theorem ggX3_hears_X3_greater : GoodIn wsX3_hears wsX3_greater := goodIn_r _ [23] (by decide +kernel) (by decide +kernel)
set_option maxRecDepth 20000 in
theorem gX3_hears_X3_greater : GoodIn wsX3_hears (va_wsS RX3 123 yX3_greater wsX3_greater) := goodIn_app (goodIn_of _ (by decide +kernel)) ggX3_hears_X3_greater
set_option maxRecDepth 20000 in
theorem ggX3_hears_X3_lesser : GoodIn wsX3_hears wsX3_lesser := goodIn_r _ [20] (by decide +kernel) (by decide +kernel)
set_option maxRecDepth 20000 in
theorem gX3_hears_X3_lesser : GoodIn wsX3_hears (va_wsS RX3 59 yX3_lesser wsX3_lesser) := goodIn_app (goodIn_of _ (by decide +kernel)) ggX3_hears_X3_lesser
set_option maxRecDepth 20000 in
theorem ggX3_hears_X3_down : GoodIn wsX3_hears wsX3_down := goodIn_r _ [26] (by decide +kernel) (by decide +kernel)
set_option maxRecDepth 20000 in
theorem gX3_hears_X3_down : GoodIn wsX3_hears (va_wsS RX3 47 yX3_down wsX3_down) := goodIn_app (goodIn_of _ (by decide +kernel)) ggX3_hears_X3_down
set_option maxRecDepth 20000 in
theorem ggX3_hears_X3_size : GoodIn wsX3_hears wsX3_size := goodIn_r _ [29] (by decide +kernel) (by decide +kernel)
set_option maxRecDepth 20000 in
theorem gX3_hears_X3_size : GoodIn wsX3_hears (va_wsS RX3 55 yX3_size wsX3_size) := goodIn_app (goodIn_of _ (by decide +kernel)) ggX3_hears_X3_size
theorem dX3_hears_0 : decode cX3_hears 0 = .ok (.aload_n 0, 1) := by decide +kernel
theorem dX3_hears_1 : decode cX3_hears 1 = .ok (.getfield 7, 3) := by decide +kernel
theorem dX3_hears_4 : decode cX3_hears 4 = .ok (.iconst 0, 1) := by decide +kernel
theorem dX3_hears_5 : decode cX3_hears 5 = .ok (.laload, 1) := by decide +kernel
theorem dX3_hears_6 : decode cX3_hears 6 = .ok (.lload_n 1, 1) := by decide +kernel
theorem dX3_hears_7 : decode cX3_hears 7 = .ok (.ladd, 1) := by decide +kernel
theorem dX3_hears_8 : decode cX3_hears 8 = .ok (.lstore 5, 2) := by decide +kernel
theorem dX3_hears_10 : decode cX3_hears 10 = .ok (.aload_n 0, 1) := by decide +kernel
theorem dX3_hears_11 : decode cX3_hears 11 = .ok (.lload 5, 2) := by decide +kernel
theorem dX3_hears_13 : decode cX3_hears 13 = .ok (.invokevirtual 126, 3) := by decide +kernel
theorem dX3_hears_16 : decode cX3_hears 16 = .ok (.ldc2_w 45, 3) := by decide +kernel
theorem dX3_hears_19 : decode cX3_hears 19 = .ok (.lload 5, 2) := by decide +kernel
theorem dX3_hears_21 : decode cX3_hears 21 = .ok (.lload_n 3, 1) := by decide +kernel
theorem dX3_hears_22 : decode cX3_hears 22 = .ok (.lsub, 1) := by decide +kernel
theorem dX3_hears_23 : decode cX3_hears 23 = .ok (.lmul, 1) := by decide +kernel
theorem dX3_hears_24 : decode cX3_hears 24 = .ok (.ldc2_w 45, 3) := by decide +kernel
theorem dX3_hears_27 : decode cX3_hears 27 = .ok (.aload_n 0, 1) := by decide +kernel
theorem dX3_hears_28 : decode cX3_hears 28 = .ok (.invokevirtual 114, 3) := by decide +kernel
theorem dX3_hears_31 : decode cX3_hears 31 = .ok (.lmul, 1) := by decide +kernel
theorem dX3_hears_32 : decode cX3_hears 32 = .ok (.aload_n 0, 1) := by decide +kernel
theorem dX3_hears_33 : decode cX3_hears 33 = .ok (.getfield 7, 3) := by decide +kernel
theorem dX3_hears_36 : decode cX3_hears 36 = .ok (.iconst 3, 1) := by decide +kernel
theorem dX3_hears_37 : decode cX3_hears 37 = .ok (.laload, 1) := by decide +kernel
theorem dX3_hears_38 : decode cX3_hears 38 = .ok (.lsub, 1) := by decide +kernel
theorem dX3_hears_39 : decode cX3_hears 39 = .ok (.invokestatic 123, 3) := by decide +kernel
theorem dX3_hears_42 : decode cX3_hears 42 = .ok (.lstore 7, 2) := by decide +kernel
theorem dX3_hears_44 : decode cX3_hears 44 = .ok (.ldc2_w 45, 3) := by decide +kernel
theorem dX3_hears_47 : decode cX3_hears 47 = .ok (.lload 5, 2) := by decide +kernel
theorem dX3_hears_49 : decode cX3_hears 49 = .ok (.lload_n 3, 1) := by decide +kernel
theorem dX3_hears_50 : decode cX3_hears 50 = .ok (.ladd, 1) := by decide +kernel
theorem dX3_hears_51 : decode cX3_hears 51 = .ok (.lmul, 1) := by decide +kernel
theorem dX3_hears_52 : decode cX3_hears 52 = .ok (.ldc2_w 45, 3) := by decide +kernel
theorem dX3_hears_55 : decode cX3_hears 55 = .ok (.aload_n 0, 1) := by decide +kernel
theorem dX3_hears_56 : decode cX3_hears 56 = .ok (.invokevirtual 114, 3) := by decide +kernel
theorem dX3_hears_59 : decode cX3_hears 59 = .ok (.lmul, 1) := by decide +kernel
theorem dX3_hears_60 : decode cX3_hears 60 = .ok (.aload_n 0, 1) := by decide +kernel
theorem dX3_hears_61 : decode cX3_hears 61 = .ok (.getfield 7, 3) := by decide +kernel
theorem dX3_hears_64 : decode cX3_hears 64 = .ok (.iconst 3, 1) := by decide +kernel
theorem dX3_hears_65 : decode cX3_hears 65 = .ok (.laload, 1) := by decide +kernel
theorem dX3_hears_66 : decode cX3_hears 66 = .ok (.ladd, 1) := by decide +kernel
theorem dX3_hears_67 : decode cX3_hears 67 = .ok (.invokestatic 59, 3) := by decide +kernel
theorem dX3_hears_70 : decode cX3_hears 70 = .ok (.lstore 9, 2) := by decide +kernel
theorem dX3_hears_72 : decode cX3_hears 72 = .ok (.lload 7, 2) := by decide +kernel
theorem dX3_hears_74 : decode cX3_hears 74 = .ok (.lload 9, 2) := by decide +kernel
theorem dX3_hears_76 : decode cX3_hears 76 = .ok (.lcmp, 1) := by decide +kernel
theorem dX3_hears_77 : decode cX3_hears 77 = .ok (.ifCond .le 7, 3) := by decide +kernel
theorem dX3_hears_80 : decode cX3_hears 80 = .ok (.iconst 1, 1) := by decide +kernel
theorem dX3_hears_81 : decode cX3_hears 81 = .ok (.goto 4, 3) := by decide +kernel
theorem dX3_hears_84 : decode cX3_hears 84 = .ok (.iconst 0, 1) := by decide +kernel
theorem dX3_hears_85 : decode cX3_hears 85 = .ok (.istore 11, 2) := by decide +kernel
theorem dX3_hears_87 : decode cX3_hears 87 = .ok (.iload 11, 2) := by decide +kernel
theorem dX3_hears_89 : decode cX3_hears 89 = .ok (.iconst 1, 1) := by decide +kernel
theorem dX3_hears_90 : decode cX3_hears 90 = .ok (.if_icmp .ne 23, 3) := by decide +kernel
theorem dX3_hears_93 : decode cX3_hears 93 = .ok (.ldc2_w 45, 3) := by decide +kernel
theorem dX3_hears_96 : decode cX3_hears 96 = .ok (.lload 5, 2) := by decide +kernel
theorem dX3_hears_98 : decode cX3_hears 98 = .ok (.lload_n 3, 1) := by decide +kernel
theorem dX3_hears_99 : decode cX3_hears 99 = .ok (.lsub, 1) := by decide +kernel
theorem dX3_hears_100 : decode cX3_hears 100 = .ok (.lmul, 1) := by decide +kernel
theorem dX3_hears_101 : decode cX3_hears 101 = .ok (.lstore 7, 2) := by decide +kernel
theorem dX3_hears_103 : decode cX3_hears 103 = .ok (.ldc2_w 45, 3) := by decide +kernel
theorem dX3_hears_106 : decode cX3_hears 106 = .ok (.lload 5, 2) := by decide +kernel
theorem dX3_hears_108 : decode cX3_hears 108 = .ok (.lload_n 3, 1) := by decide +kernel
theorem dX3_hears_109 : decode cX3_hears 109 = .ok (.ladd, 1) := by decide +kernel
theorem dX3_hears_110 : decode cX3_hears 110 = .ok (.lmul, 1) := by decide +kernel
theorem dX3_hears_111 : decode cX3_hears 111 = .ok (.lstore 9, 2) := by decide +kernel
theorem dX3_hears_113 : decode cX3_hears 113 = .ok (.lload 7, 2) := by decide +kernel
theorem dX3_hears_115 : decode cX3_hears 115 = .ok (.lload 9, 2) := by decide +kernel
theorem dX3_hears_117 : decode cX3_hears 117 = .ok (.ladd, 1) := by decide +kernel
theorem dX3_hears_118 : decode cX3_hears 118 = .ok (.ldc2_w 130, 3) := by decide +kernel
theorem dX3_hears_121 : decode cX3_hears 121 = .ok (.invokestatic 47, 3) := by decide +kernel
theorem dX3_hears_124 : decode cX3_hears 124 = .ok (.lstore 12, 2) := by decide +kernel
theorem dX3_hears_126 : decode cX3_hears 126 = .ok (.aload_n 0, 1) := by decide +kernel
theorem dX3_hears_127 : decode cX3_hears 127 = .ok (.getfield 7, 3) := by decide +kernel
theorem dX3_hears_130 : decode cX3_hears 130 = .ok (.bipush 14, 2) := by decide +kernel
theorem dX3_hears_132 : decode cX3_hears 132 = .ok (.dup2, 1) := by decide +kernel
theorem dX3_hears_133 : decode cX3_hears 133 = .ok (.laload, 1) := by decide +kernel
theorem dX3_hears_134 : decode cX3_hears 134 = .ok (.iload 11, 2) := by decide +kernel
theorem dX3_hears_136 : decode cX3_hears 136 = .ok (.i2l, 1) := by decide +kernel
theorem dX3_hears_137 : decode cX3_hears 137 = .ok (.ladd, 1) := by decide +kernel
theorem dX3_hears_138 : decode cX3_hears 138 = .ok (.lastore, 1) := by decide +kernel
theorem dX3_hears_139 : decode cX3_hears 139 = .ok (.aload_n 0, 1) := by decide +kernel
theorem dX3_hears_140 : decode cX3_hears 140 = .ok (.getfield 7, 3) := by decide +kernel
theorem dX3_hears_143 : decode cX3_hears 143 = .ok (.iconst 2, 1) := by decide +kernel
theorem dX3_hears_144 : decode cX3_hears 144 = .ok (.lload 12, 2) := by decide +kernel
theorem dX3_hears_146 : decode cX3_hears 146 = .ok (.aload_n 0, 1) := by decide +kernel
theorem dX3_hears_147 : decode cX3_hears 147 = .ok (.getfield 7, 3) := by decide +kernel
theorem dX3_hears_150 : decode cX3_hears 150 = .ok (.iconst 1, 1) := by decide +kernel
theorem dX3_hears_151 : decode cX3_hears 151 = .ok (.laload, 1) := by decide +kernel
theorem dX3_hears_152 : decode cX3_hears 152 = .ok (.lsub, 1) := by decide +kernel
theorem dX3_hears_153 : decode cX3_hears 153 = .ok (.lastore, 1) := by decide +kernel
theorem dX3_hears_154 : decode cX3_hears 154 = .ok (.aload_n 0, 1) := by decide +kernel
theorem dX3_hears_155 : decode cX3_hears 155 = .ok (.getfield 7, 3) := by decide +kernel
theorem dX3_hears_158 : decode cX3_hears 158 = .ok (.iconst 3, 1) := by decide +kernel
theorem dX3_hears_159 : decode cX3_hears 159 = .ok (.lload 7, 2) := by decide +kernel
theorem dX3_hears_161 : decode cX3_hears 161 = .ok (.ldc2_w 45, 3) := by decide +kernel
theorem dX3_hears_164 : decode cX3_hears 164 = .ok (.lload 12, 2) := by decide +kernel
theorem dX3_hears_166 : decode cX3_hears 166 = .ok (.lmul, 1) := by decide +kernel
theorem dX3_hears_167 : decode cX3_hears 167 = .ok (.lsub, 1) := by decide +kernel
theorem dX3_hears_168 : decode cX3_hears 168 = .ok (.invokestatic 55, 3) := by decide +kernel
theorem dX3_hears_171 : decode cX3_hears 171 = .ok (.lload 9, 2) := by decide +kernel
theorem dX3_hears_173 : decode cX3_hears 173 = .ok (.ldc2_w 45, 3) := by decide +kernel
theorem dX3_hears_176 : decode cX3_hears 176 = .ok (.lload 12, 2) := by decide +kernel
theorem dX3_hears_178 : decode cX3_hears 178 = .ok (.lmul, 1) := by decide +kernel
theorem dX3_hears_179 : decode cX3_hears 179 = .ok (.lsub, 1) := by decide +kernel
theorem dX3_hears_180 : decode cX3_hears 180 = .ok (.invokestatic 55, 3) := by decide +kernel
theorem dX3_hears_183 : decode cX3_hears 183 = .ok (.invokestatic 123, 3) := by decide +kernel
theorem dX3_hears_186 : decode cX3_hears 186 = .ok (.lastore, 1) := by decide +kernel
theorem dX3_hears_187 : decode cX3_hears 187 = .ok (.aload_n 0, 1) := by decide +kernel
theorem dX3_hears_188 : decode cX3_hears 188 = .ok (.getfield 7, 3) := by decide +kernel
theorem dX3_hears_191 : decode cX3_hears 191 = .ok (.bipush 12, 2) := by decide +kernel
theorem dX3_hears_193 : decode cX3_hears 193 = .ok (.lconst 0, 1) := by decide +kernel
theorem dX3_hears_194 : decode cX3_hears 194 = .ok (.lastore, 1) := by decide +kernel
theorem dX3_hears_195 : decode cX3_hears 195 = .ok (.aload_n 0, 1) := by decide +kernel
theorem dX3_hears_196 : decode cX3_hears 196 = .ok (.getfield 7, 3) := by decide +kernel
theorem dX3_hears_199 : decode cX3_hears 199 = .ok (.bipush 13, 2) := by decide +kernel
theorem dX3_hears_201 : decode cX3_hears 201 = .ok (.ldc2_w 35, 3) := by decide +kernel
theorem dX3_hears_204 : decode cX3_hears 204 = .ok (.lastore, 1) := by decide +kernel
theorem dX3_hears_205 : decode cX3_hears 205 = .ok (.iload 11, 2) := by decide +kernel
theorem dX3_hears_207 : decode cX3_hears 207 = .ok (.ireturn, 1) := by decide +kernel
set_option maxRecDepth 20000 in
theorem ggX3_allRings_X3_ringsAt : GoodIn wsX3_allRings wsX3_ringsAt := goodIn_r _ [6, 1, 7, 8, 9, 10, 11, 12, 13, 14] (by decide +kernel) (by decide +kernel)
set_option maxRecDepth 20000 in
theorem gX3_allRings_X3_ringsAt : GoodIn wsX3_allRings (wsV RX3 101 RX3 yX3_ringsAt wsX3_ringsAt) := goodIn_app (goodIn_of _ (by decide +kernel)) ggX3_allRings_X3_ringsAt
theorem dX3_allRings_0 : decode cX3_allRings 0 = .ok (.lconst 0, 1) := by decide +kernel
theorem dX3_allRings_1 : decode cX3_allRings 1 = .ok (.lstore_n 1, 1) := by decide +kernel
theorem dX3_allRings_2 : decode cX3_allRings 2 = .ok (.iconst 0, 1) := by decide +kernel
theorem dX3_allRings_3 : decode cX3_allRings 3 = .ok (.istore_n 3, 1) := by decide +kernel
theorem dX3_allRings_4 : decode cX3_allRings 4 = .ok (.iload_n 3, 1) := by decide +kernel
theorem dX3_allRings_5 : decode cX3_allRings 5 = .ok (.i2l, 1) := by decide +kernel
theorem dX3_allRings_6 : decode cX3_allRings 6 = .ok (.aload_n 0, 1) := by decide +kernel
theorem dX3_allRings_7 : decode cX3_allRings 7 = .ok (.getfield 7, 3) := by decide +kernel
theorem dX3_allRings_10 : decode cX3_allRings 10 = .ok (.bipush 24, 2) := by decide +kernel
theorem dX3_allRings_12 : decode cX3_allRings 12 = .ok (.laload, 1) := by decide +kernel
theorem dX3_allRings_13 : decode cX3_allRings 13 = .ok (.lcmp, 1) := by decide +kernel
theorem dX3_allRings_14 : decode cX3_allRings 14 = .ok (.ifCond .ge 17, 3) := by decide +kernel
theorem dX3_allRings_17 : decode cX3_allRings 17 = .ok (.lload_n 1, 1) := by decide +kernel
theorem dX3_allRings_18 : decode cX3_allRings 18 = .ok (.aload_n 0, 1) := by decide +kernel
theorem dX3_allRings_19 : decode cX3_allRings 19 = .ok (.iload_n 3, 1) := by decide +kernel
theorem dX3_allRings_20 : decode cX3_allRings 20 = .ok (.invokevirtual 101, 3) := by decide +kernel
theorem dX3_allRings_23 : decode cX3_allRings 23 = .ok (.ladd, 1) := by decide +kernel
theorem dX3_allRings_24 : decode cX3_allRings 24 = .ok (.lstore_n 1, 1) := by decide +kernel
theorem dX3_allRings_25 : decode cX3_allRings 25 = .ok (.iinc 3 1, 3) := by decide +kernel
theorem dX3_allRings_28 : decode cX3_allRings 28 = .ok (.goto (-24), 3) := by decide +kernel
theorem dX3_allRings_31 : decode cX3_allRings 31 = .ok (.lload_n 1, 1) := by decide +kernel
theorem dX3_allRings_32 : decode cX3_allRings 32 = .ok (.lreturn, 1) := by decide +kernel
set_option maxRecDepth 20000 in
theorem ggX3_untilDone_X3_size : GoodIn wsX3_untilDone wsX3_size := goodIn_r _ [6] (by decide +kernel) (by decide +kernel)
set_option maxRecDepth 20000 in
theorem gX3_untilDone_X3_size : GoodIn wsX3_untilDone (va_wsS RX3 55 yX3_size wsX3_size) := goodIn_app (goodIn_of _ (by decide +kernel)) ggX3_untilDone_X3_size
theorem dX3_untilDone_0 : decode cX3_untilDone 0 = .ok (.aload_n 0, 1) := by decide +kernel
theorem dX3_untilDone_1 : decode cX3_untilDone 1 = .ok (.getfield 7, 3) := by decide +kernel
theorem dX3_untilDone_4 : decode cX3_untilDone 4 = .ok (.iconst 2, 1) := by decide +kernel
theorem dX3_untilDone_5 : decode cX3_untilDone 5 = .ok (.laload, 1) := by decide +kernel
theorem dX3_untilDone_6 : decode cX3_untilDone 6 = .ok (.invokestatic 55, 3) := by decide +kernel
theorem dX3_untilDone_9 : decode cX3_untilDone 9 = .ok (.lstore_n 1, 1) := by decide +kernel
theorem dX3_untilDone_10 : decode cX3_untilDone 10 = .ok (.lload_n 1, 1) := by decide +kernel
theorem dX3_untilDone_11 : decode cX3_untilDone 11 = .ok (.lconst 0, 1) := by decide +kernel
theorem dX3_untilDone_12 : decode cX3_untilDone 12 = .ok (.lcmp, 1) := by decide +kernel
theorem dX3_untilDone_13 : decode cX3_untilDone 13 = .ok (.ifCond .ne 5, 3) := by decide +kernel
theorem dX3_untilDone_16 : decode cX3_untilDone 16 = .ok (.iconst 0, 1) := by decide +kernel
theorem dX3_untilDone_17 : decode cX3_untilDone 17 = .ok (.ireturn, 1) := by decide +kernel
theorem dX3_untilDone_18 : decode cX3_untilDone 18 = .ok (.lload_n 1, 1) := by decide +kernel
theorem dX3_untilDone_19 : decode cX3_untilDone 19 = .ok (.aload_n 0, 1) := by decide +kernel
theorem dX3_untilDone_20 : decode cX3_untilDone 20 = .ok (.getfield 7, 3) := by decide +kernel
theorem dX3_untilDone_23 : decode cX3_untilDone 23 = .ok (.bipush 9, 2) := by decide +kernel
theorem dX3_untilDone_25 : decode cX3_untilDone 25 = .ok (.laload, 1) := by decide +kernel
theorem dX3_untilDone_26 : decode cX3_untilDone 26 = .ok (.ladd, 1) := by decide +kernel
theorem dX3_untilDone_27 : decode cX3_untilDone 27 = .ok (.lconst 1, 1) := by decide +kernel
theorem dX3_untilDone_28 : decode cX3_untilDone 28 = .ok (.lsub, 1) := by decide +kernel
theorem dX3_untilDone_29 : decode cX3_untilDone 29 = .ok (.aload_n 0, 1) := by decide +kernel
theorem dX3_untilDone_30 : decode cX3_untilDone 30 = .ok (.getfield 7, 3) := by decide +kernel
theorem dX3_untilDone_33 : decode cX3_untilDone 33 = .ok (.bipush 9, 2) := by decide +kernel
theorem dX3_untilDone_35 : decode cX3_untilDone 35 = .ok (.laload, 1) := by decide +kernel
theorem dX3_untilDone_36 : decode cX3_untilDone 36 = .ok (.ldiv, 1) := by decide +kernel
theorem dX3_untilDone_37 : decode cX3_untilDone 37 = .ok (.lstore_n 3, 1) := by decide +kernel
theorem dX3_untilDone_38 : decode cX3_untilDone 38 = .ok (.aload_n 0, 1) := by decide +kernel
theorem dX3_untilDone_39 : decode cX3_untilDone 39 = .ok (.getfield 7, 3) := by decide +kernel
theorem dX3_untilDone_42 : decode cX3_untilDone 42 = .ok (.bipush 11, 2) := by decide +kernel
theorem dX3_untilDone_44 : decode cX3_untilDone 44 = .ok (.laload, 1) := by decide +kernel
theorem dX3_untilDone_45 : decode cX3_untilDone 45 = .ok (.lconst 1, 1) := by decide +kernel
theorem dX3_untilDone_46 : decode cX3_untilDone 46 = .ok (.lcmp, 1) := by decide +kernel
theorem dX3_untilDone_47 : decode cX3_untilDone 47 = .ok (.ifCond .ne 16, 3) := by decide +kernel
theorem dX3_untilDone_50 : decode cX3_untilDone 50 = .ok (.lload_n 3, 1) := by decide +kernel
theorem dX3_untilDone_51 : decode cX3_untilDone 51 = .ok (.ldc2_w 132, 3) := by decide +kernel
theorem dX3_untilDone_54 : decode cX3_untilDone 54 = .ok (.lcmp, 1) := by decide +kernel
theorem dX3_untilDone_55 : decode cX3_untilDone 55 = .ok (.ifCond .gt 8, 3) := by decide +kernel
theorem dX3_untilDone_58 : decode cX3_untilDone 58 = .ok (.lload_n 3, 1) := by decide +kernel
theorem dX3_untilDone_59 : decode cX3_untilDone 59 = .ok (.l2i, 1) := by decide +kernel
theorem dX3_untilDone_60 : decode cX3_untilDone 60 = .ok (.goto 4, 3) := by decide +kernel
theorem dX3_untilDone_63 : decode cX3_untilDone 63 = .ok (.iconst (-1), 1) := by decide +kernel
theorem dX3_untilDone_64 : decode cX3_untilDone 64 = .ok (.ireturn, 1) := by decide +kernel
set_option maxRecDepth 20000 in
theorem ggX3_wrong_X3_minuteNow : GoodIn wsX3_wrong wsX3_minuteNow := goodIn_r _ [7, 8, 9, 10, 11, 12, 13, 14, 15, 16, 17] (by decide +kernel) (by decide +kernel)
set_option maxRecDepth 20000 in
theorem gX3_wrong_X3_minuteNow : GoodIn wsX3_wrong (wsV RX3 84 RX3 yX3_minuteNow wsX3_minuteNow) := goodIn_app (goodIn_of _ (by decide +kernel)) ggX3_wrong_X3_minuteNow
theorem dX3_wrong_0 : decode cX3_wrong 0 = .ok (.iconst 0, 1) := by decide +kernel
theorem dX3_wrong_1 : decode cX3_wrong 1 = .ok (.istore_n 1, 1) := by decide +kernel
theorem dX3_wrong_2 : decode cX3_wrong 2 = .ok (.iload_n 1, 1) := by decide +kernel
theorem dX3_wrong_3 : decode cX3_wrong 3 = .ok (.aload_n 0, 1) := by decide +kernel
theorem dX3_wrong_4 : decode cX3_wrong 4 = .ok (.getfield 134, 3) := by decide +kernel
theorem dX3_wrong_7 : decode cX3_wrong 7 = .ok (.if_icmp .ge 26, 3) := by decide +kernel
theorem dX3_wrong_10 : decode cX3_wrong 10 = .ok (.aload_n 0, 1) := by decide +kernel
theorem dX3_wrong_11 : decode cX3_wrong 11 = .ok (.getfield 23, 3) := by decide +kernel
theorem dX3_wrong_14 : decode cX3_wrong 14 = .ok (.iload_n 1, 1) := by decide +kernel
theorem dX3_wrong_15 : decode cX3_wrong 15 = .ok (.iaload, 1) := by decide +kernel
theorem dX3_wrong_16 : decode cX3_wrong 16 = .ok (.i2l, 1) := by decide +kernel
theorem dX3_wrong_17 : decode cX3_wrong 17 = .ok (.aload_n 0, 1) := by decide +kernel
theorem dX3_wrong_18 : decode cX3_wrong 18 = .ok (.invokevirtual 84, 3) := by decide +kernel
theorem dX3_wrong_21 : decode cX3_wrong 21 = .ok (.lcmp, 1) := by decide +kernel
theorem dX3_wrong_22 : decode cX3_wrong 22 = .ok (.ifCond .eq 5, 3) := by decide +kernel
theorem dX3_wrong_25 : decode cX3_wrong 25 = .ok (.iload_n 1, 1) := by decide +kernel
theorem dX3_wrong_26 : decode cX3_wrong 26 = .ok (.ireturn, 1) := by decide +kernel
theorem dX3_wrong_27 : decode cX3_wrong 27 = .ok (.iinc 1 1, 3) := by decide +kernel
theorem dX3_wrong_30 : decode cX3_wrong 30 = .ok (.goto (-28), 3) := by decide +kernel
theorem dX3_wrong_33 : decode cX3_wrong 33 = .ok (.iconst (-1), 1) := by decide +kernel
theorem dX3_wrong_34 : decode cX3_wrong 34 = .ok (.ireturn, 1) := by decide +kernel
set_option maxRecDepth 20000 in
theorem ggX3_holds_X3_aim : GoodIn wsX3_holds wsX3_aim := goodIn_r _ [7, 2, 11, 12, 13, 14, 15, 16, 17, 18] (by decide +kernel) (by decide +kernel)
set_option maxRecDepth 20000 in
theorem gX3_holds_X3_aim : GoodIn wsX3_holds (wsV RX3 114 RX3 yX3_aim wsX3_aim) := goodIn_app (goodIn_of _ (by decide +kernel)) ggX3_holds_X3_aim
set_option maxRecDepth 20000 in
theorem ggX3_holds_X3_size : GoodIn wsX3_holds wsX3_size := goodIn_r _ [10] (by decide +kernel) (by decide +kernel)
set_option maxRecDepth 20000 in
theorem gX3_holds_X3_size : GoodIn wsX3_holds (va_wsS RX3 55 yX3_size wsX3_size) := goodIn_app (goodIn_of _ (by decide +kernel)) ggX3_holds_X3_size
theorem dX3_holds_0 : decode cX3_holds 0 = .ok (.ldc2_w 45, 3) := by decide +kernel
theorem dX3_holds_3 : decode cX3_holds 3 = .ok (.aload_n 0, 1) := by decide +kernel
theorem dX3_holds_4 : decode cX3_holds 4 = .ok (.getfield 7, 3) := by decide +kernel
theorem dX3_holds_7 : decode cX3_holds 7 = .ok (.iconst 0, 1) := by decide +kernel
theorem dX3_holds_8 : decode cX3_holds 8 = .ok (.laload, 1) := by decide +kernel
theorem dX3_holds_9 : decode cX3_holds 9 = .ok (.aload_n 0, 1) := by decide +kernel
theorem dX3_holds_10 : decode cX3_holds 10 = .ok (.invokevirtual 114, 3) := by decide +kernel
theorem dX3_holds_13 : decode cX3_holds 13 = .ok (.lsub, 1) := by decide +kernel
theorem dX3_holds_14 : decode cX3_holds 14 = .ok (.invokestatic 55, 3) := by decide +kernel
theorem dX3_holds_17 : decode cX3_holds 17 = .ok (.lmul, 1) := by decide +kernel
theorem dX3_holds_18 : decode cX3_holds 18 = .ok (.aload_n 0, 1) := by decide +kernel
theorem dX3_holds_19 : decode cX3_holds 19 = .ok (.getfield 7, 3) := by decide +kernel
theorem dX3_holds_22 : decode cX3_holds 22 = .ok (.iconst 3, 1) := by decide +kernel
theorem dX3_holds_23 : decode cX3_holds 23 = .ok (.laload, 1) := by decide +kernel
theorem dX3_holds_24 : decode cX3_holds 24 = .ok (.lcmp, 1) := by decide +kernel
theorem dX3_holds_25 : decode cX3_holds 25 = .ok (.ifCond .gt 7, 3) := by decide +kernel
theorem dX3_holds_28 : decode cX3_holds 28 = .ok (.iconst 1, 1) := by decide +kernel
theorem dX3_holds_29 : decode cX3_holds 29 = .ok (.goto 4, 3) := by decide +kernel
theorem dX3_holds_32 : decode cX3_holds 32 = .ok (.iconst 0, 1) := by decide +kernel
theorem dX3_holds_33 : decode cX3_holds 33 = .ok (.ireturn, 1) := by decide +kernel
set_option maxRecDepth 20000 in
theorem ggX3_told_X3_spanNow : GoodIn wsX3_told wsX3_spanNow := goodIn_r _ [9, 1, 10, 11, 52, 53, 54, 55, 56, 57, 58, 59] (by decide +kernel) (by decide +kernel)
set_option maxRecDepth 20000 in
theorem gX3_told_X3_spanNow : GoodIn wsX3_told (wsV RX3 41 RX3 yX3_spanNow wsX3_spanNow) := goodIn_app (goodIn_of _ (by decide +kernel)) ggX3_told_X3_spanNow
set_option maxRecDepth 20000 in
theorem ggX3_told_X3_offAt : GoodIn wsX3_told wsX3_offAt := goodIn_r _ [15, 1, 16, 52, 53, 54, 55, 56, 57, 58, 59] (by decide +kernel) (by decide +kernel)
set_option maxRecDepth 20000 in
theorem gX3_told_X3_offAt : GoodIn wsX3_told (wsV RX3 64 RX3 yX3_offAt wsX3_offAt) := goodIn_app (goodIn_of _ (by decide +kernel)) ggX3_told_X3_offAt
set_option maxRecDepth 20000 in
theorem ggX3_told_X3_holds : GoodIn wsX3_told wsX3_holds := goodIn_r _ [20, 21, 1, 22, 23, 24, 8, 25, 26, 27, 28, 52, 53, 54, 55, 56, 57, 58, 59] (by decide +kernel) (by decide +kernel)
set_option maxRecDepth 20000 in
theorem gX3_told_X3_holds : GoodIn wsX3_told (wsV RX3 138 RX3 yX3_holds wsX3_holds) := goodIn_app (goodIn_of _ (by decide +kernel)) ggX3_told_X3_holds
set_option maxRecDepth 20000 in
theorem ggX3_told_X3_allRings : GoodIn wsX3_told wsX3_allRings := goodIn_r _ [32, 1, 33, 34, 35, 8, 36, 52, 53, 54, 55, 56, 57, 58, 59] (by decide +kernel) (by decide +kernel)
set_option maxRecDepth 20000 in
theorem gX3_told_X3_allRings : GoodIn wsX3_told (wsV RX3 142 RX3 yX3_allRings wsX3_allRings) := goodIn_app (goodIn_of _ (by decide +kernel)) ggX3_told_X3_allRings
set_option maxRecDepth 20000 in
theorem ggX3_told_X3_untilDone : GoodIn wsX3_told wsX3_untilDone := goodIn_r _ [40, 1, 41, 26, 27, 8, 28, 52, 53, 54, 55, 56, 57, 58, 59] (by decide +kernel) (by decide +kernel)
set_option maxRecDepth 20000 in
theorem gX3_told_X3_untilDone : GoodIn wsX3_told (wsV RX3 145 RX3 yX3_untilDone wsX3_untilDone) := goodIn_app (goodIn_of _ (by decide +kernel)) ggX3_told_X3_untilDone
set_option maxRecDepth 20000 in
theorem ggX3_told_X3_wrong : GoodIn wsX3_told wsX3_wrong := goodIn_r _ [45, 2, 46, 47, 48, 49, 8, 50, 1, 51, 52, 53, 54, 55, 56, 57, 58, 59] (by decide +kernel) (by decide +kernel)
set_option maxRecDepth 20000 in
theorem gX3_told_X3_wrong : GoodIn wsX3_told (wsV RX3 148 RX3 yX3_wrong wsX3_wrong) := goodIn_app (goodIn_of _ (by decide +kernel)) ggX3_told_X3_wrong
theorem dX3_told_0 : decode cX3_told 0 = .ok (.iload_n 1, 1) := by decide +kernel
theorem dX3_told_1 : decode cX3_told 1 = .ok (.tableswitch 246 0 17 #[87, 98, 103, 119, 128, 145, 153, 162, 171, 180, 189, 198, 211, 220, 226, 231, 236, 241], 87) := by decide +kernel
theorem dX3_told_88 : decode cX3_told 88 = .ok (.aload_n 0, 1) := by decide +kernel
theorem dX3_told_89 : decode cX3_told 89 = .ok (.getfield 7, 3) := by decide +kernel
theorem dX3_told_92 : decode cX3_told 92 = .ok (.iconst 4, 1) := by decide +kernel
theorem dX3_told_93 : decode cX3_told 93 = .ok (.laload, 1) := by decide +kernel
theorem dX3_told_94 : decode cX3_told 94 = .ok (.l2i, 1) := by decide +kernel
theorem dX3_told_95 : decode cX3_told 95 = .ok (.bipush 20, 2) := by decide +kernel
theorem dX3_told_97 : decode cX3_told 97 = .ok (.iadd, 1) := by decide +kernel
theorem dX3_told_98 : decode cX3_told 98 = .ok (.ireturn, 1) := by decide +kernel
theorem dX3_told_99 : decode cX3_told 99 = .ok (.aload_n 0, 1) := by decide +kernel
theorem dX3_told_100 : decode cX3_told 100 = .ok (.invokevirtual 41, 3) := by decide +kernel
theorem dX3_told_103 : decode cX3_told 103 = .ok (.ireturn, 1) := by decide +kernel
theorem dX3_told_104 : decode cX3_told 104 = .ok (.aload_n 0, 1) := by decide +kernel
theorem dX3_told_105 : decode cX3_told 105 = .ok (.aload_n 0, 1) := by decide +kernel
theorem dX3_told_106 : decode cX3_told 106 = .ok (.getfield 7, 3) := by decide +kernel
theorem dX3_told_109 : decode cX3_told 109 = .ok (.iconst 4, 1) := by decide +kernel
theorem dX3_told_110 : decode cX3_told 110 = .ok (.laload, 1) := by decide +kernel
theorem dX3_told_111 : decode cX3_told 111 = .ok (.invokevirtual 64, 3) := by decide +kernel
theorem dX3_told_114 : decode cX3_told 114 = .ok (.l2i, 1) := by decide +kernel
theorem dX3_told_115 : decode cX3_told 115 = .ok (.sipush 10000, 3) := by decide +kernel
theorem dX3_told_118 : decode cX3_told 118 = .ok (.iadd, 1) := by decide +kernel
theorem dX3_told_119 : decode cX3_told 119 = .ok (.ireturn, 1) := by decide +kernel
theorem dX3_told_120 : decode cX3_told 120 = .ok (.aload_n 0, 1) := by decide +kernel
theorem dX3_told_121 : decode cX3_told 121 = .ok (.getfield 7, 3) := by decide +kernel
theorem dX3_told_124 : decode cX3_told 124 = .ok (.bipush 8, 2) := by decide +kernel
theorem dX3_told_126 : decode cX3_told 126 = .ok (.laload, 1) := by decide +kernel
theorem dX3_told_127 : decode cX3_told 127 = .ok (.l2i, 1) := by decide +kernel
theorem dX3_told_128 : decode cX3_told 128 = .ok (.ireturn, 1) := by decide +kernel
theorem dX3_told_129 : decode cX3_told 129 = .ok (.aload_n 0, 1) := by decide +kernel
theorem dX3_told_130 : decode cX3_told 130 = .ok (.getfield 7, 3) := by decide +kernel
theorem dX3_told_133 : decode cX3_told 133 = .ok (.iconst 2, 1) := by decide +kernel
theorem dX3_told_134 : decode cX3_told 134 = .ok (.laload, 1) := by decide +kernel
theorem dX3_told_135 : decode cX3_told 135 = .ok (.lconst 0, 1) := by decide +kernel
theorem dX3_told_136 : decode cX3_told 136 = .ok (.lcmp, 1) := by decide +kernel
theorem dX3_told_137 : decode cX3_told 137 = .ok (.ifCond .ne 7, 3) := by decide +kernel
theorem dX3_told_140 : decode cX3_told 140 = .ok (.iconst 1, 1) := by decide +kernel
theorem dX3_told_141 : decode cX3_told 141 = .ok (.goto 4, 3) := by decide +kernel
theorem dX3_told_144 : decode cX3_told 144 = .ok (.iconst 0, 1) := by decide +kernel
theorem dX3_told_145 : decode cX3_told 145 = .ok (.ireturn, 1) := by decide +kernel
theorem dX3_told_146 : decode cX3_told 146 = .ok (.aload_n 0, 1) := by decide +kernel
theorem dX3_told_147 : decode cX3_told 147 = .ok (.getfield 7, 3) := by decide +kernel
theorem dX3_told_150 : decode cX3_told 150 = .ok (.iconst 3, 1) := by decide +kernel
theorem dX3_told_151 : decode cX3_told 151 = .ok (.laload, 1) := by decide +kernel
theorem dX3_told_152 : decode cX3_told 152 = .ok (.l2i, 1) := by decide +kernel
theorem dX3_told_153 : decode cX3_told 153 = .ok (.ireturn, 1) := by decide +kernel
theorem dX3_told_154 : decode cX3_told 154 = .ok (.aload_n 0, 1) := by decide +kernel
theorem dX3_told_155 : decode cX3_told 155 = .ok (.getfield 7, 3) := by decide +kernel
theorem dX3_told_158 : decode cX3_told 158 = .ok (.bipush 9, 2) := by decide +kernel
theorem dX3_told_160 : decode cX3_told 160 = .ok (.laload, 1) := by decide +kernel
theorem dX3_told_161 : decode cX3_told 161 = .ok (.l2i, 1) := by decide +kernel
theorem dX3_told_162 : decode cX3_told 162 = .ok (.ireturn, 1) := by decide +kernel
theorem dX3_told_163 : decode cX3_told 163 = .ok (.aload_n 0, 1) := by decide +kernel
theorem dX3_told_164 : decode cX3_told 164 = .ok (.getfield 7, 3) := by decide +kernel
theorem dX3_told_167 : decode cX3_told 167 = .ok (.bipush 10, 2) := by decide +kernel
theorem dX3_told_169 : decode cX3_told 169 = .ok (.laload, 1) := by decide +kernel
theorem dX3_told_170 : decode cX3_told 170 = .ok (.l2i, 1) := by decide +kernel
theorem dX3_told_171 : decode cX3_told 171 = .ok (.ireturn, 1) := by decide +kernel
theorem dX3_told_172 : decode cX3_told 172 = .ok (.aload_n 0, 1) := by decide +kernel
theorem dX3_told_173 : decode cX3_told 173 = .ok (.getfield 7, 3) := by decide +kernel
theorem dX3_told_176 : decode cX3_told 176 = .ok (.bipush 11, 2) := by decide +kernel
theorem dX3_told_178 : decode cX3_told 178 = .ok (.laload, 1) := by decide +kernel
theorem dX3_told_179 : decode cX3_told 179 = .ok (.l2i, 1) := by decide +kernel
theorem dX3_told_180 : decode cX3_told 180 = .ok (.ireturn, 1) := by decide +kernel
theorem dX3_told_181 : decode cX3_told 181 = .ok (.aload_n 0, 1) := by decide +kernel
theorem dX3_told_182 : decode cX3_told 182 = .ok (.getfield 7, 3) := by decide +kernel
theorem dX3_told_185 : decode cX3_told 185 = .ok (.bipush 12, 2) := by decide +kernel
theorem dX3_told_187 : decode cX3_told 187 = .ok (.laload, 1) := by decide +kernel
theorem dX3_told_188 : decode cX3_told 188 = .ok (.l2i, 1) := by decide +kernel
theorem dX3_told_189 : decode cX3_told 189 = .ok (.ireturn, 1) := by decide +kernel
theorem dX3_told_190 : decode cX3_told 190 = .ok (.aload_n 0, 1) := by decide +kernel
theorem dX3_told_191 : decode cX3_told 191 = .ok (.getfield 7, 3) := by decide +kernel
theorem dX3_told_194 : decode cX3_told 194 = .ok (.bipush 14, 2) := by decide +kernel
theorem dX3_told_196 : decode cX3_told 196 = .ok (.laload, 1) := by decide +kernel
theorem dX3_told_197 : decode cX3_told 197 = .ok (.l2i, 1) := by decide +kernel
theorem dX3_told_198 : decode cX3_told 198 = .ok (.ireturn, 1) := by decide +kernel
theorem dX3_told_199 : decode cX3_told 199 = .ok (.aload_n 0, 1) := by decide +kernel
theorem dX3_told_200 : decode cX3_told 200 = .ok (.invokevirtual 138, 3) := by decide +kernel
theorem dX3_told_203 : decode cX3_told 203 = .ok (.ifCond .eq 7, 3) := by decide +kernel
theorem dX3_told_206 : decode cX3_told 206 = .ok (.iconst 1, 1) := by decide +kernel
theorem dX3_told_207 : decode cX3_told 207 = .ok (.goto 4, 3) := by decide +kernel
theorem dX3_told_210 : decode cX3_told 210 = .ok (.iconst 0, 1) := by decide +kernel
theorem dX3_told_211 : decode cX3_told 211 = .ok (.ireturn, 1) := by decide +kernel
theorem dX3_told_212 : decode cX3_told 212 = .ok (.aload_n 0, 1) := by decide +kernel
theorem dX3_told_213 : decode cX3_told 213 = .ok (.getfield 7, 3) := by decide +kernel
theorem dX3_told_216 : decode cX3_told 216 = .ok (.bipush 24, 2) := by decide +kernel
theorem dX3_told_218 : decode cX3_told 218 = .ok (.laload, 1) := by decide +kernel
theorem dX3_told_219 : decode cX3_told 219 = .ok (.l2i, 1) := by decide +kernel
theorem dX3_told_220 : decode cX3_told 220 = .ok (.ireturn, 1) := by decide +kernel
theorem dX3_told_221 : decode cX3_told 221 = .ok (.aload_n 0, 1) := by decide +kernel
theorem dX3_told_222 : decode cX3_told 222 = .ok (.invokevirtual 142, 3) := by decide +kernel
theorem dX3_told_225 : decode cX3_told 225 = .ok (.l2i, 1) := by decide +kernel
theorem dX3_told_226 : decode cX3_told 226 = .ok (.ireturn, 1) := by decide +kernel
theorem dX3_told_227 : decode cX3_told 227 = .ok (.aload_n 0, 1) := by decide +kernel
theorem dX3_told_228 : decode cX3_told 228 = .ok (.invokevirtual 145, 3) := by decide +kernel
theorem dX3_told_231 : decode cX3_told 231 = .ok (.ireturn, 1) := by decide +kernel
theorem dX3_told_232 : decode cX3_told 232 = .ok (.aload_n 0, 1) := by decide +kernel
theorem dX3_told_233 : decode cX3_told 233 = .ok (.getfield 134, 3) := by decide +kernel
theorem dX3_told_236 : decode cX3_told 236 = .ok (.ireturn, 1) := by decide +kernel
theorem dX3_told_237 : decode cX3_told 237 = .ok (.aload_n 0, 1) := by decide +kernel
theorem dX3_told_238 : decode cX3_told 238 = .ok (.invokevirtual 148, 3) := by decide +kernel
theorem dX3_told_241 : decode cX3_told 241 = .ok (.ireturn, 1) := by decide +kernel
theorem dX3_told_242 : decode cX3_told 242 = .ok (.aload_n 0, 1) := by decide +kernel
theorem dX3_told_243 : decode cX3_told 243 = .ok (.getfield 151, 3) := by decide +kernel
theorem dX3_told_246 : decode cX3_told 246 = .ok (.ireturn, 1) := by decide +kernel
theorem dX3_told_247 : decode cX3_told 247 = .ok (.ldc 154, 2) := by decide +kernel
theorem dX3_told_249 : decode cX3_told 249 = .ok (.ireturn, 1) := by decide +kernel
set_option maxRecDepth 20000 in
theorem ggX3_time_X3_aim : GoodIn wsX3_time wsX3_aim := goodIn_r _ [7, 1, 8, 9, 10, 11, 12, 13, 14, 15] (by decide +kernel) (by decide +kernel)
set_option maxRecDepth 20000 in
theorem gX3_time_X3_aim : GoodIn wsX3_time (wsV RX3 114 RX3 yX3_aim wsX3_aim) := goodIn_app (goodIn_of _ (by decide +kernel)) ggX3_time_X3_aim
theorem dX3_time_0 : decode cX3_time 0 = .ok (.iload_n 1, 1) := by decide +kernel
theorem dX3_time_1 : decode cX3_time 1 = .ok (.tableswitch 46 0 2 #[27, 34, 41], 27) := by decide +kernel
theorem dX3_time_28 : decode cX3_time 28 = .ok (.aload_n 0, 1) := by decide +kernel
theorem dX3_time_29 : decode cX3_time 29 = .ok (.getfield 7, 3) := by decide +kernel
theorem dX3_time_32 : decode cX3_time 32 = .ok (.iconst 0, 1) := by decide +kernel
theorem dX3_time_33 : decode cX3_time 33 = .ok (.laload, 1) := by decide +kernel
theorem dX3_time_34 : decode cX3_time 34 = .ok (.lreturn, 1) := by decide +kernel
theorem dX3_time_35 : decode cX3_time 35 = .ok (.aload_n 0, 1) := by decide +kernel
theorem dX3_time_36 : decode cX3_time 36 = .ok (.getfield 7, 3) := by decide +kernel
theorem dX3_time_39 : decode cX3_time 39 = .ok (.iconst 1, 1) := by decide +kernel
theorem dX3_time_40 : decode cX3_time 40 = .ok (.laload, 1) := by decide +kernel
theorem dX3_time_41 : decode cX3_time 41 = .ok (.lreturn, 1) := by decide +kernel
theorem dX3_time_42 : decode cX3_time 42 = .ok (.aload_n 0, 1) := by decide +kernel
theorem dX3_time_43 : decode cX3_time 43 = .ok (.invokevirtual 114, 3) := by decide +kernel
theorem dX3_time_46 : decode cX3_time 46 = .ok (.lreturn, 1) := by decide +kernel
theorem dX3_time_47 : decode cX3_time 47 = .ok (.ldc2_w 35, 3) := by decide +kernel
theorem dX3_time_50 : decode cX3_time 50 = .ok (.lreturn, 1) := by decide +kernel
set_option maxRecDepth 20000 in
theorem ggX3_calendar_X3_minuteNow : GoodIn wsX3_calendar wsX3_minuteNow := goodIn_r _ [6, 7, 8, 9, 10, 11, 12, 13, 14, 15, 16] (by decide +kernel) (by decide +kernel)
set_option maxRecDepth 20000 in
theorem gX3_calendar_X3_minuteNow : GoodIn wsX3_calendar (wsV RX3 84 RX3 yX3_minuteNow wsX3_minuteNow) := goodIn_app (goodIn_of _ (by decide +kernel)) ggX3_calendar_X3_minuteNow
theorem dX3_calendar_0 : decode cX3_calendar 0 = .ok (.aload_n 0, 1) := by decide +kernel
end
section
theorem dX3_calendar_1 : decode cX3_calendar 1 = .ok (.invokevirtual 84, 3) := by decide +kernel
theorem dX3_calendar_4 : decode cX3_calendar 4 = .ok (.l2i, 1) := by decide +kernel
theorem dX3_calendar_5 : decode cX3_calendar 5 = .ok (.istore_n 2, 1) := by decide +kernel
theorem dX3_calendar_6 : decode cX3_calendar 6 = .ok (.iload_n 1, 1) := by decide +kernel
theorem dX3_calendar_7 : decode cX3_calendar 7 = .ok (.tableswitch 53 0 3 #[29, 31, 36, 44], 29) := by decide +kernel
theorem dX3_calendar_36 : decode cX3_calendar 36 = .ok (.iload_n 2, 1) := by decide +kernel
theorem dX3_calendar_37 : decode cX3_calendar 37 = .ok (.ireturn, 1) := by decide +kernel
theorem dX3_calendar_38 : decode cX3_calendar 38 = .ok (.iload_n 2, 1) := by decide +kernel
theorem dX3_calendar_39 : decode cX3_calendar 39 = .ok (.bipush 60, 2) := by decide +kernel
theorem dX3_calendar_41 : decode cX3_calendar 41 = .ok (.irem, 1) := by decide +kernel
theorem dX3_calendar_42 : decode cX3_calendar 42 = .ok (.ireturn, 1) := by decide +kernel
theorem dX3_calendar_43 : decode cX3_calendar 43 = .ok (.iload_n 2, 1) := by decide +kernel
theorem dX3_calendar_44 : decode cX3_calendar 44 = .ok (.bipush 60, 2) := by decide +kernel
theorem dX3_calendar_46 : decode cX3_calendar 46 = .ok (.idiv, 1) := by decide +kernel
theorem dX3_calendar_47 : decode cX3_calendar 47 = .ok (.bipush 24, 2) := by decide +kernel
theorem dX3_calendar_49 : decode cX3_calendar 49 = .ok (.irem, 1) := by decide +kernel
theorem dX3_calendar_50 : decode cX3_calendar 50 = .ok (.ireturn, 1) := by decide +kernel
theorem dX3_calendar_51 : decode cX3_calendar 51 = .ok (.iload_n 2, 1) := by decide +kernel
theorem dX3_calendar_52 : decode cX3_calendar 52 = .ok (.sipush 1440, 3) := by decide +kernel
theorem dX3_calendar_55 : decode cX3_calendar 55 = .ok (.idiv, 1) := by decide +kernel
theorem dX3_calendar_56 : decode cX3_calendar 56 = .ok (.bipush 7, 2) := by decide +kernel
theorem dX3_calendar_58 : decode cX3_calendar 58 = .ok (.irem, 1) := by decide +kernel
theorem dX3_calendar_59 : decode cX3_calendar 59 = .ok (.ireturn, 1) := by decide +kernel
theorem dX3_calendar_60 : decode cX3_calendar 60 = .ok (.ldc 154, 2) := by decide +kernel
theorem dX3_calendar_62 : decode cX3_calendar 62 = .ok (.ireturn, 1) := by decide +kernel
set_option maxRecDepth 20000 in
theorem ggX3_span_X3_in : GoodIn wsX3_span wsX3_in := goodIn_r _ [13] (by decide +kernel) (by decide +kernel)
set_option maxRecDepth 20000 in
theorem gX3_span_X3_in : GoodIn wsX3_span (va_wsS RX3 157 yX3_in wsX3_in) := goodIn_app (goodIn_of _ (by decide +kernel)) ggX3_span_X3_in
set_option maxRecDepth 20000 in
theorem ggX3_span_X3_offAt : GoodIn wsX3_span wsX3_offAt := goodIn_r _ [17, 4, 18, 19, 20, 21, 22, 23, 24, 25, 26] (by decide +kernel) (by decide +kernel)
set_option maxRecDepth 20000 in
theorem gX3_span_X3_offAt : GoodIn wsX3_span (wsV RX3 64 RX3 yX3_offAt wsX3_offAt) := goodIn_app (goodIn_of _ (by decide +kernel)) ggX3_span_X3_offAt
theorem dX3_span_0 : decode cX3_span 0 = .ok (.iload_n 1, 1) := by decide +kernel
theorem dX3_span_1 : decode cX3_span 1 = .ok (.i2l, 1) := by decide +kernel
theorem dX3_span_2 : decode cX3_span 2 = .ok (.lconst 0, 1) := by decide +kernel
theorem dX3_span_3 : decode cX3_span 3 = .ok (.ldc2_w 155, 3) := by decide +kernel
theorem dX3_span_6 : decode cX3_span 6 = .ok (.invokestatic 157, 3) := by decide +kernel
theorem dX3_span_9 : decode cX3_span 9 = .ok (.ifCond .ne 6, 3) := by decide +kernel
theorem dX3_span_12 : decode cX3_span 12 = .ok (.ldc 161, 2) := by decide +kernel
theorem dX3_span_14 : decode cX3_span 14 = .ok (.ireturn, 1) := by decide +kernel
theorem dX3_span_15 : decode cX3_span 15 = .ok (.iload_n 2, 1) := by decide +kernel
theorem dX3_span_16 : decode cX3_span 16 = .ok (.i2l, 1) := by decide +kernel
theorem dX3_span_17 : decode cX3_span 17 = .ok (.lconst 0, 1) := by decide +kernel
theorem dX3_span_18 : decode cX3_span 18 = .ok (.lconst 1, 1) := by decide +kernel
theorem dX3_span_19 : decode cX3_span 19 = .ok (.invokestatic 157, 3) := by decide +kernel
theorem dX3_span_22 : decode cX3_span 22 = .ok (.ifCond .ne 6, 3) := by decide +kernel
theorem dX3_span_25 : decode cX3_span 25 = .ok (.ldc 154, 2) := by decide +kernel
theorem dX3_span_27 : decode cX3_span 27 = .ok (.ireturn, 1) := by decide +kernel
theorem dX3_span_28 : decode cX3_span 28 = .ok (.aload_n 0, 1) := by decide +kernel
theorem dX3_span_29 : decode cX3_span 29 = .ok (.getfield 7, 3) := by decide +kernel
theorem dX3_span_32 : decode cX3_span 32 = .ok (.bipush 15, 2) := by decide +kernel
theorem dX3_span_34 : decode cX3_span 34 = .ok (.iload_n 1, 1) := by decide +kernel
theorem dX3_span_35 : decode cX3_span 35 = .ok (.iadd, 1) := by decide +kernel
theorem dX3_span_36 : decode cX3_span 36 = .ok (.laload, 1) := by decide +kernel
theorem dX3_span_37 : decode cX3_span 37 = .ok (.lstore_n 3, 1) := by decide +kernel
theorem dX3_span_38 : decode cX3_span 38 = .ok (.iload_n 2, 1) := by decide +kernel
theorem dX3_span_39 : decode cX3_span 39 = .ok (.ifCond .ne 11, 3) := by decide +kernel
theorem dX3_span_42 : decode cX3_span 42 = .ok (.lload_n 3, 1) := by decide +kernel
theorem dX3_span_43 : decode cX3_span 43 = .ok (.ldc2_w 162, 3) := by decide +kernel
theorem dX3_span_46 : decode cX3_span 46 = .ok (.ladd, 1) := by decide +kernel
theorem dX3_span_47 : decode cX3_span 47 = .ok (.goto 27, 3) := by decide +kernel
theorem dX3_span_50 : decode cX3_span 50 = .ok (.lload_n 3, 1) := by decide +kernel
theorem dX3_span_51 : decode cX3_span 51 = .ok (.ldc2_w 45, 3) := by decide +kernel
theorem dX3_span_54 : decode cX3_span 54 = .ok (.aload_n 0, 1) := by decide +kernel
theorem dX3_span_55 : decode cX3_span 55 = .ok (.ldc2_w 39, 3) := by decide +kernel
theorem dX3_span_58 : decode cX3_span 58 = .ok (.iload_n 1, 1) := by decide +kernel
theorem dX3_span_59 : decode cX3_span 59 = .ok (.i2l, 1) := by decide +kernel
theorem dX3_span_60 : decode cX3_span 60 = .ok (.lmul, 1) := by decide +kernel
theorem dX3_span_61 : decode cX3_span 61 = .ok (.ldc2_w 164, 3) := by decide +kernel
theorem dX3_span_64 : decode cX3_span 64 = .ok (.lsub, 1) := by decide +kernel
theorem dX3_span_65 : decode cX3_span 65 = .ok (.invokevirtual 64, 3) := by decide +kernel
theorem dX3_span_68 : decode cX3_span 68 = .ok (.lmul, 1) := by decide +kernel
theorem dX3_span_69 : decode cX3_span 69 = .ok (.lsub, 1) := by decide +kernel
theorem dX3_span_70 : decode cX3_span 70 = .ok (.ldc2_w 166, 3) := by decide +kernel
theorem dX3_span_73 : decode cX3_span 73 = .ok (.ladd, 1) := by decide +kernel
theorem dX3_span_74 : decode cX3_span 74 = .ok (.l2i, 1) := by decide +kernel
theorem dX3_span_75 : decode cX3_span 75 = .ok (.ireturn, 1) := by decide +kernel
set_option maxRecDepth 20000 in
theorem ggX3_next_X3_minuteNow : GoodIn wsX3_next wsX3_minuteNow := goodIn_r _ [5, 6, 7, 20, 21, 22, 23, 24, 25, 26, 27] (by decide +kernel) (by decide +kernel)
set_option maxRecDepth 20000 in
theorem gX3_next_X3_minuteNow : GoodIn wsX3_next (wsV RX3 84 RX3 yX3_minuteNow wsX3_minuteNow) := goodIn_app (goodIn_of _ (by decide +kernel)) ggX3_next_X3_minuteNow
set_option maxRecDepth 20000 in
theorem ggX3_next_X3_fits : GoodIn wsX3_next wsX3_fits := goodIn_r _ [11, 6, 12, 13, 14, 15, 16, 17, 4, 18, 19, 20, 21, 22, 23, 24, 25, 26, 27] (by decide +kernel) (by decide +kernel)
set_option maxRecDepth 20000 in
theorem gX3_next_X3_fits : GoodIn wsX3_next (wsV RX3 88 RX3 yX3_fits wsX3_fits) := goodIn_app (goodIn_of _ (by decide +kernel)) ggX3_next_X3_fits
theorem dX3_next_0 : decode cX3_next 0 = .ok (.aload_n 0, 1) := by decide +kernel
theorem dX3_next_1 : decode cX3_next 1 = .ok (.invokevirtual 84, 3) := by decide +kernel
theorem dX3_next_4 : decode cX3_next 4 = .ok (.lconst 1, 1) := by decide +kernel
theorem dX3_next_5 : decode cX3_next 5 = .ok (.ladd, 1) := by decide +kernel
theorem dX3_next_6 : decode cX3_next 6 = .ok (.lstore_n 2, 1) := by decide +kernel
theorem dX3_next_7 : decode cX3_next 7 = .ok (.iconst 0, 1) := by decide +kernel
theorem dX3_next_8 : decode cX3_next 8 = .ok (.istore 4, 2) := by decide +kernel
theorem dX3_next_10 : decode cX3_next 10 = .ok (.iload 4, 2) := by decide +kernel
theorem dX3_next_12 : decode cX3_next 12 = .ok (.sipush 10080, 3) := by decide +kernel
theorem dX3_next_15 : decode cX3_next 15 = .ok (.if_icmp .ge 22, 3) := by decide +kernel
theorem dX3_next_18 : decode cX3_next 18 = .ok (.aload_n 0, 1) := by decide +kernel
theorem dX3_next_19 : decode cX3_next 19 = .ok (.iload_n 1, 1) := by decide +kernel
theorem dX3_next_20 : decode cX3_next 20 = .ok (.lload_n 2, 1) := by decide +kernel
theorem dX3_next_21 : decode cX3_next 21 = .ok (.invokevirtual 88, 3) := by decide +kernel
theorem dX3_next_24 : decode cX3_next 24 = .ok (.ifCond .ne 13, 3) := by decide +kernel
theorem dX3_next_27 : decode cX3_next 27 = .ok (.lload_n 2, 1) := by decide +kernel
theorem dX3_next_28 : decode cX3_next 28 = .ok (.lconst 1, 1) := by decide +kernel
theorem dX3_next_29 : decode cX3_next 29 = .ok (.ladd, 1) := by decide +kernel
theorem dX3_next_30 : decode cX3_next 30 = .ok (.lstore_n 2, 1) := by decide +kernel
theorem dX3_next_31 : decode cX3_next 31 = .ok (.iinc 4 1, 3) := by decide +kernel
theorem dX3_next_34 : decode cX3_next 34 = .ok (.goto (-24), 3) := by decide +kernel
theorem dX3_next_37 : decode cX3_next 37 = .ok (.lload_n 2, 1) := by decide +kernel
theorem dX3_next_38 : decode cX3_next 38 = .ok (.lreturn, 1) := by decide +kernel
set_option maxRecDepth 20000 in
theorem ggX3_isAlarm_X3_in : GoodIn wsX3_isAlarm wsX3_in := goodIn_r _ [5] (by decide +kernel) (by decide +kernel)
set_option maxRecDepth 20000 in
theorem gX3_isAlarm_X3_in : GoodIn wsX3_isAlarm (va_wsS RX3 157 yX3_in wsX3_in) := goodIn_app (goodIn_of _ (by decide +kernel)) ggX3_isAlarm_X3_in
theorem dX3_isAlarm_0 : decode cX3_isAlarm 0 = .ok (.iload_n 1, 1) := by decide +kernel
theorem dX3_isAlarm_1 : decode cX3_isAlarm 1 = .ok (.i2l, 1) := by decide +kernel
theorem dX3_isAlarm_2 : decode cX3_isAlarm 2 = .ok (.lconst 0, 1) := by decide +kernel
theorem dX3_isAlarm_3 : decode cX3_isAlarm 3 = .ok (.aload_n 0, 1) := by decide +kernel
theorem dX3_isAlarm_4 : decode cX3_isAlarm 4 = .ok (.getfield 7, 3) := by decide +kernel
theorem dX3_isAlarm_7 : decode cX3_isAlarm 7 = .ok (.bipush 24, 2) := by decide +kernel
theorem dX3_isAlarm_9 : decode cX3_isAlarm 9 = .ok (.laload, 1) := by decide +kernel
theorem dX3_isAlarm_10 : decode cX3_isAlarm 10 = .ok (.lconst 1, 1) := by decide +kernel
theorem dX3_isAlarm_11 : decode cX3_isAlarm 11 = .ok (.lsub, 1) := by decide +kernel
theorem dX3_isAlarm_12 : decode cX3_isAlarm 12 = .ok (.invokestatic 157, 3) := by decide +kernel
theorem dX3_isAlarm_15 : decode cX3_isAlarm 15 = .ok (.ireturn, 1) := by decide +kernel
set_option maxRecDepth 20000 in
theorem ggX3_alarmAt_X3_isAlarm : GoodIn wsX3_alarmAt wsX3_isAlarm := goodIn_r _ [9, 4, 10, 11, 8, 12, 34, 35, 36, 37, 38, 39, 40, 41] (by decide +kernel) (by decide +kernel)
set_option maxRecDepth 20000 in
theorem gX3_alarmAt_X3_isAlarm : GoodIn wsX3_alarmAt (wsV RX3 168 RX3 yX3_isAlarm wsX3_isAlarm) := goodIn_app (goodIn_of _ (by decide +kernel)) ggX3_alarmAt_X3_isAlarm
set_option maxRecDepth 20000 in
theorem ggX3_alarmAt_X3_in : GoodIn wsX3_alarmAt wsX3_in := goodIn_r _ [12] (by decide +kernel) (by decide +kernel)
set_option maxRecDepth 20000 in
theorem gX3_alarmAt_X3_in : GoodIn wsX3_alarmAt (va_wsS RX3 157 yX3_in wsX3_in) := goodIn_app (goodIn_of _ (by decide +kernel)) ggX3_alarmAt_X3_in
set_option maxRecDepth 20000 in
theorem ggX3_alarmAt_X3_next : GoodIn wsX3_alarmAt wsX3_next := goodIn_r _ [16, 17, 18, 19, 8, 20, 4, 21, 22, 23, 24, 25, 26, 27, 28, 29, 30, 31, 32, 33, 34, 35, 36, 37, 38, 39, 40, 41] (by decide +kernel) (by decide +kernel)
set_option maxRecDepth 20000 in
theorem gX3_alarmAt_X3_next : GoodIn wsX3_alarmAt (wsV RX3 172 RX3 yX3_next wsX3_next) := goodIn_app (goodIn_of _ (by decide +kernel)) ggX3_alarmAt_X3_next
theorem dX3_alarmAt_0 : decode cX3_alarmAt 0 = .ok (.aload_n 0, 1) := by decide +kernel
theorem dX3_alarmAt_1 : decode cX3_alarmAt 1 = .ok (.iload_n 1, 1) := by decide +kernel
theorem dX3_alarmAt_2 : decode cX3_alarmAt 2 = .ok (.invokevirtual 168, 3) := by decide +kernel
theorem dX3_alarmAt_5 : decode cX3_alarmAt 5 = .ok (.ifCond .ne 6, 3) := by decide +kernel
theorem dX3_alarmAt_8 : decode cX3_alarmAt 8 = .ok (.ldc 161, 2) := by decide +kernel
theorem dX3_alarmAt_10 : decode cX3_alarmAt 10 = .ok (.ireturn, 1) := by decide +kernel
theorem dX3_alarmAt_11 : decode cX3_alarmAt 11 = .ok (.iload_n 2, 1) := by decide +kernel
theorem dX3_alarmAt_12 : decode cX3_alarmAt 12 = .ok (.i2l, 1) := by decide +kernel
theorem dX3_alarmAt_13 : decode cX3_alarmAt 13 = .ok (.lconst 0, 1) := by decide +kernel
theorem dX3_alarmAt_14 : decode cX3_alarmAt 14 = .ok (.ldc2_w 70, 3) := by decide +kernel
theorem dX3_alarmAt_17 : decode cX3_alarmAt 17 = .ok (.invokestatic 157, 3) := by decide +kernel
theorem dX3_alarmAt_20 : decode cX3_alarmAt 20 = .ok (.ifCond .ne 6, 3) := by decide +kernel
theorem dX3_alarmAt_23 : decode cX3_alarmAt 23 = .ok (.ldc 154, 2) := by decide +kernel
theorem dX3_alarmAt_25 : decode cX3_alarmAt 25 = .ok (.ireturn, 1) := by decide +kernel
theorem dX3_alarmAt_26 : decode cX3_alarmAt 26 = .ok (.iload_n 2, 1) := by decide +kernel
theorem dX3_alarmAt_27 : decode cX3_alarmAt 27 = .ok (.iconst 4, 1) := by decide +kernel
theorem dX3_alarmAt_28 : decode cX3_alarmAt 28 = .ok (.if_icmp .ne 11, 3) := by decide +kernel
theorem dX3_alarmAt_31 : decode cX3_alarmAt 31 = .ok (.aload_n 0, 1) := by decide +kernel
theorem dX3_alarmAt_32 : decode cX3_alarmAt 32 = .ok (.iload_n 1, 1) := by decide +kernel
theorem dX3_alarmAt_33 : decode cX3_alarmAt 33 = .ok (.invokevirtual 172, 3) := by decide +kernel
theorem dX3_alarmAt_36 : decode cX3_alarmAt 36 = .ok (.goto 16, 3) := by decide +kernel
theorem dX3_alarmAt_39 : decode cX3_alarmAt 39 = .ok (.aload_n 0, 1) := by decide +kernel
theorem dX3_alarmAt_40 : decode cX3_alarmAt 40 = .ok (.getfield 7, 3) := by decide +kernel
theorem dX3_alarmAt_43 : decode cX3_alarmAt 43 = .ok (.bipush 25, 2) := by decide +kernel
theorem dX3_alarmAt_45 : decode cX3_alarmAt 45 = .ok (.iconst 4, 1) := by decide +kernel
theorem dX3_alarmAt_46 : decode cX3_alarmAt 46 = .ok (.iload_n 1, 1) := by decide +kernel
theorem dX3_alarmAt_47 : decode cX3_alarmAt 47 = .ok (.imul, 1) := by decide +kernel
theorem dX3_alarmAt_48 : decode cX3_alarmAt 48 = .ok (.iadd, 1) := by decide +kernel
theorem dX3_alarmAt_49 : decode cX3_alarmAt 49 = .ok (.iload_n 2, 1) := by decide +kernel
theorem dX3_alarmAt_50 : decode cX3_alarmAt 50 = .ok (.iadd, 1) := by decide +kernel
theorem dX3_alarmAt_51 : decode cX3_alarmAt 51 = .ok (.laload, 1) := by decide +kernel
theorem dX3_alarmAt_52 : decode cX3_alarmAt 52 = .ok (.l2i, 1) := by decide +kernel
theorem dX3_alarmAt_53 : decode cX3_alarmAt 53 = .ok (.ireturn, 1) := by decide +kernel
set_option maxRecDepth 20000 in
theorem ggX3_notes_X3_bring : GoodIn wsX3_notes wsX3_bring := goodIn_r _ [7] (by decide +kernel) (by decide +kernel)
set_option maxRecDepth 20000 in
theorem gX3_notes_X3_bring : GoodIn wsX3_notes (va_wsS RX3 175 yX3_bring wsX3_bring) := goodIn_app (goodIn_of _ (by decide +kernel)) ggX3_notes_X3_bring
theorem dX3_notes_0 : decode cX3_notes 0 = .ok (.aload_n 0, 1) := by decide +kernel
theorem dX3_notes_1 : decode cX3_notes 1 = .ok (.getfield 151, 3) := by decide +kernel
theorem dX3_notes_4 : decode cX3_notes 4 = .ok (.bipush 20, 2) := by decide +kernel
theorem dX3_notes_6 : decode cX3_notes 6 = .ok (.if_icmp .ne 30, 3) := by decide +kernel
theorem dX3_notes_9 : decode cX3_notes 9 = .ok (.aload_n 0, 1) := by decide +kernel
theorem dX3_notes_10 : decode cX3_notes 10 = .ok (.getfield 13, 3) := by decide +kernel
theorem dX3_notes_13 : decode cX3_notes 13 = .ok (.bipush 49, 2) := by decide +kernel
theorem dX3_notes_15 : decode cX3_notes 15 = .ok (.aload_n 0, 1) := by decide +kernel
theorem dX3_notes_16 : decode cX3_notes 16 = .ok (.getfield 13, 3) := by decide +kernel
theorem dX3_notes_19 : decode cX3_notes 19 = .ok (.iconst 0, 1) := by decide +kernel
theorem dX3_notes_20 : decode cX3_notes 20 = .ok (.sipush 931, 3) := by decide +kernel
theorem dX3_notes_23 : decode cX3_notes 23 = .ok (.invokestatic 175, 3) := by decide +kernel
theorem dX3_notes_26 : decode cX3_notes 26 = .ok (.aload_n 0, 1) := by decide +kernel
theorem dX3_notes_27 : decode cX3_notes 27 = .ok (.dup, 1) := by decide +kernel
theorem dX3_notes_28 : decode cX3_notes 28 = .ok (.getfield 151, 3) := by decide +kernel
theorem dX3_notes_31 : decode cX3_notes 31 = .ok (.iconst 1, 1) := by decide +kernel
theorem dX3_notes_32 : decode cX3_notes 32 = .ok (.isub, 1) := by decide +kernel
theorem dX3_notes_33 : decode cX3_notes 33 = .ok (.putfield 151, 3) := by decide +kernel
theorem dX3_notes_36 : decode cX3_notes 36 = .ok (.aload_n 0, 1) := by decide +kernel
theorem dX3_notes_37 : decode cX3_notes 37 = .ok (.getfield 7, 3) := by decide +kernel
theorem dX3_notes_40 : decode cX3_notes 40 = .ok (.iconst 0, 1) := by decide +kernel
theorem dX3_notes_41 : decode cX3_notes 41 = .ok (.aload_n 0, 1) := by decide +kernel
theorem dX3_notes_42 : decode cX3_notes 42 = .ok (.getfield 13, 3) := by decide +kernel
theorem dX3_notes_45 : decode cX3_notes 45 = .ok (.bipush 49, 2) := by decide +kernel
theorem dX3_notes_47 : decode cX3_notes 47 = .ok (.aload_n 0, 1) := by decide +kernel
theorem dX3_notes_48 : decode cX3_notes 48 = .ok (.getfield 151, 3) := by decide +kernel
theorem dX3_notes_51 : decode cX3_notes 51 = .ok (.imul, 1) := by decide +kernel
theorem dX3_notes_52 : decode cX3_notes 52 = .ok (.bipush 49, 2) := by decide +kernel
theorem dX3_notes_54 : decode cX3_notes 54 = .ok (.invokestatic 175, 3) := by decide +kernel
theorem dX3_notes_57 : decode cX3_notes 57 = .ok (.aload_n 0, 1) := by decide +kernel
theorem dX3_notes_58 : decode cX3_notes 58 = .ok (.dup, 1) := by decide +kernel
theorem dX3_notes_59 : decode cX3_notes 59 = .ok (.getfield 151, 3) := by decide +kernel
theorem dX3_notes_62 : decode cX3_notes 62 = .ok (.iconst 1, 1) := by decide +kernel
theorem dX3_notes_63 : decode cX3_notes 63 = .ok (.iadd, 1) := by decide +kernel
theorem dX3_notes_64 : decode cX3_notes 64 = .ok (.putfield 151, 3) := by decide +kernel
theorem dX3_notes_67 : decode cX3_notes 67 = .ok (.return_, 1) := by decide +kernel
set_option maxRecDepth 20000 in
theorem ggX3_tick_X3_in : GoodIn wsX3_tick wsX3_in := goodIn_r _ [6] (by decide +kernel) (by decide +kernel)
set_option maxRecDepth 20000 in
theorem gX3_tick_X3_in : GoodIn wsX3_tick (va_wsS RX3 157 yX3_in wsX3_in) := goodIn_app (goodIn_of _ (by decide +kernel)) ggX3_tick_X3_in
set_option maxRecDepth 20000 in
theorem ggX3_tick_X3_notes : GoodIn wsX3_tick wsX3_notes := goodIn_r _ [10, 11, 12, 13, 14, 15, 5, 16, 91, 92, 93, 94, 95, 96, 97, 98] (by decide +kernel) (by decide +kernel)
set_option maxRecDepth 20000 in
theorem gX3_tick_X3_notes : GoodIn wsX3_tick (wsV RX3 179 RX3 yX3_notes wsX3_notes) := goodIn_app (goodIn_of _ (by decide +kernel)) ggX3_tick_X3_notes
set_option maxRecDepth 20000 in
theorem ggX3_tick_X3_goes : GoodIn wsX3_tick wsX3_goes := goodIn_r _ [20, 13, 21, 22, 23, 24, 25, 26, 27, 5, 28, 29, 30, 31, 32, 33, 34, 35, 36, 37, 38, 39, 40, 41, 42, 43, 44, 45, 46, 47, 48, 49, 50, 51, 52, 53, 54, 55, 56, 57, 58, 59, 60, 61, 62, 63, 64, 65, 66, 67, 68, 69, 70, 71, 72, 73, 74, 75, 76, 77, 78, 79, 80, 81, 82, 83, 84, 85, 86, 87, 88, 89, 90, 91, 92, 93, 94, 95, 96, 97, 98] (by decide +kernel) (by decide +kernel)
set_option maxRecDepth 20000 in
theorem gX3_tick_X3_goes : GoodIn wsX3_tick (wsV RX3 182 RX3 yX3_goes wsX3_goes) := goodIn_app (goodIn_of _ (by decide +kernel)) ggX3_tick_X3_goes
theorem dX3_tick_0 : decode cX3_tick 0 = .ok (.iload_n 1, 1) := by decide +kernel
theorem dX3_tick_1 : decode cX3_tick 1 = .ok (.i2l, 1) := by decide +kernel
theorem dX3_tick_2 : decode cX3_tick 2 = .ok (.lconst 1, 1) := by decide +kernel
theorem dX3_tick_3 : decode cX3_tick 3 = .ok (.ldc2_w 132, 3) := by decide +kernel
theorem dX3_tick_6 : decode cX3_tick 6 = .ok (.invokestatic 157, 3) := by decide +kernel
theorem dX3_tick_9 : decode cX3_tick 9 = .ok (.ifCond .ne 6, 3) := by decide +kernel
theorem dX3_tick_12 : decode cX3_tick 12 = .ok (.ldc 154, 2) := by decide +kernel
theorem dX3_tick_14 : decode cX3_tick 14 = .ok (.ireturn, 1) := by decide +kernel
theorem dX3_tick_15 : decode cX3_tick 15 = .ok (.aload_n 0, 1) := by decide +kernel
theorem dX3_tick_16 : decode cX3_tick 16 = .ok (.invokevirtual 179, 3) := by decide +kernel
theorem dX3_tick_19 : decode cX3_tick 19 = .ok (.aload_n 0, 1) := by decide +kernel
theorem dX3_tick_20 : decode cX3_tick 20 = .ok (.iload_n 1, 1) := by decide +kernel
theorem dX3_tick_21 : decode cX3_tick 21 = .ok (.invokevirtual 182, 3) := by decide +kernel
theorem dX3_tick_24 : decode cX3_tick 24 = .ok (.ireturn, 1) := by decide +kernel
set_option maxRecDepth 20000 in
theorem ggX3_warm_X3_in : GoodIn wsX3_warm wsX3_in := goodIn_r _ [8] (by decide +kernel) (by decide +kernel)
set_option maxRecDepth 20000 in
theorem gX3_warm_X3_in : GoodIn wsX3_warm (va_wsS RX3 157 yX3_in wsX3_in) := goodIn_app (goodIn_of _ (by decide +kernel)) ggX3_warm_X3_in
set_option maxRecDepth 20000 in
theorem ggX3_warm_X3_notes : GoodIn wsX3_warm wsX3_notes := goodIn_r _ [12, 13, 14, 4, 15, 16, 7, 17, 18, 19, 20, 21, 22, 23, 24, 25] (by decide +kernel) (by decide +kernel)
set_option maxRecDepth 20000 in
theorem gX3_warm_X3_notes : GoodIn wsX3_warm (wsV RX3 179 RX3 yX3_notes wsX3_notes) := goodIn_app (goodIn_of _ (by decide +kernel)) ggX3_warm_X3_notes
theorem dX3_warm_0 : decode cX3_warm 0 = .ok (.iload_n 1, 1) := by decide +kernel
theorem dX3_warm_1 : decode cX3_warm 1 = .ok (.i2l, 1) := by decide +kernel
theorem dX3_warm_2 : decode cX3_warm 2 = .ok (.ldc2_w 186, 3) := by decide +kernel
theorem dX3_warm_5 : decode cX3_warm 5 = .ok (.ldc2_w 188, 3) := by decide +kernel
theorem dX3_warm_8 : decode cX3_warm 8 = .ok (.invokestatic 157, 3) := by decide +kernel
theorem dX3_warm_11 : decode cX3_warm 11 = .ok (.ifCond .ne 6, 3) := by decide +kernel
theorem dX3_warm_14 : decode cX3_warm 14 = .ok (.ldc 154, 2) := by decide +kernel
theorem dX3_warm_16 : decode cX3_warm 16 = .ok (.ireturn, 1) := by decide +kernel
theorem dX3_warm_17 : decode cX3_warm 17 = .ok (.aload_n 0, 1) := by decide +kernel
theorem dX3_warm_18 : decode cX3_warm 18 = .ok (.getfield 7, 3) := by decide +kernel
theorem dX3_warm_21 : decode cX3_warm 21 = .ok (.iconst 4, 1) := by decide +kernel
theorem dX3_warm_22 : decode cX3_warm 22 = .ok (.laload, 1) := by decide +kernel
theorem dX3_warm_23 : decode cX3_warm 23 = .ok (.l2i, 1) := by decide +kernel
theorem dX3_warm_24 : decode cX3_warm 24 = .ok (.istore_n 2, 1) := by decide +kernel
theorem dX3_warm_25 : decode cX3_warm 25 = .ok (.aload_n 0, 1) := by decide +kernel
theorem dX3_warm_26 : decode cX3_warm 26 = .ok (.invokevirtual 179, 3) := by decide +kernel
theorem dX3_warm_29 : decode cX3_warm 29 = .ok (.aload_n 0, 1) := by decide +kernel
theorem dX3_warm_30 : decode cX3_warm 30 = .ok (.getfield 7, 3) := by decide +kernel
theorem dX3_warm_33 : decode cX3_warm 33 = .ok (.iconst 4, 1) := by decide +kernel
theorem dX3_warm_34 : decode cX3_warm 34 = .ok (.iload_n 1, 1) := by decide +kernel
theorem dX3_warm_35 : decode cX3_warm 35 = .ok (.i2l, 1) := by decide +kernel
theorem dX3_warm_36 : decode cX3_warm 36 = .ok (.lastore, 1) := by decide +kernel
theorem dX3_warm_37 : decode cX3_warm 37 = .ok (.iload_n 2, 1) := by decide +kernel
theorem dX3_warm_38 : decode cX3_warm 38 = .ok (.bipush 20, 2) := by decide +kernel
theorem dX3_warm_40 : decode cX3_warm 40 = .ok (.iadd, 1) := by decide +kernel
theorem dX3_warm_41 : decode cX3_warm 41 = .ok (.ireturn, 1) := by decide +kernel
set_option maxRecDepth 20000 in
theorem ggX3_crystal_X3_in : GoodIn wsX3_crystal wsX3_in := goodIn_r _ [10] (by decide +kernel) (by decide +kernel)
set_option maxRecDepth 20000 in
theorem gX3_crystal_X3_in : GoodIn wsX3_crystal (va_wsS RX3 157 yX3_in wsX3_in) := goodIn_app (goodIn_of _ (by decide +kernel)) ggX3_crystal_X3_in
set_option maxRecDepth 20000 in
theorem ggX3_crystal_X3_notes : GoodIn wsX3_crystal wsX3_notes := goodIn_r _ [14, 15, 16, 6, 17, 18, 9, 19, 25, 26, 27, 28, 29, 30, 31, 32] (by decide +kernel) (by decide +kernel)
set_option maxRecDepth 20000 in
theorem gX3_crystal_X3_notes : GoodIn wsX3_crystal (wsV RX3 179 RX3 yX3_notes wsX3_notes) := goodIn_app (goodIn_of _ (by decide +kernel)) ggX3_crystal_X3_notes
set_option maxRecDepth 20000 in
theorem ggX3_crystal_X3_offAt : GoodIn wsX3_crystal wsX3_offAt := goodIn_r _ [23, 6, 24, 25, 26, 27, 28, 29, 30, 31, 32] (by decide +kernel) (by decide +kernel)
set_option maxRecDepth 20000 in
theorem gX3_crystal_X3_offAt : GoodIn wsX3_crystal (wsV RX3 64 RX3 yX3_offAt wsX3_offAt) := goodIn_app (goodIn_of _ (by decide +kernel)) ggX3_crystal_X3_offAt
theorem dX3_crystal_0 : decode cX3_crystal 0 = .ok (.iload_n 1, 1) := by decide +kernel
theorem dX3_crystal_1 : decode cX3_crystal 1 = .ok (.i2l, 1) := by decide +kernel
theorem dX3_crystal_2 : decode cX3_crystal 2 = .ok (.lconst 0, 1) := by decide +kernel
theorem dX3_crystal_3 : decode cX3_crystal 3 = .ok (.ldc2_w 190, 3) := by decide +kernel
theorem dX3_crystal_6 : decode cX3_crystal 6 = .ok (.invokestatic 157, 3) := by decide +kernel
theorem dX3_crystal_9 : decode cX3_crystal 9 = .ok (.ifCond .eq 29, 3) := by decide +kernel
theorem dX3_crystal_12 : decode cX3_crystal 12 = .ok (.iload_n 2, 1) := by decide +kernel
theorem dX3_crystal_13 : decode cX3_crystal 13 = .ok (.i2l, 1) := by decide +kernel
theorem dX3_crystal_14 : decode cX3_crystal 14 = .ok (.lconst 0, 1) := by decide +kernel
theorem dX3_crystal_15 : decode cX3_crystal 15 = .ok (.ldc2_w 31, 3) := by decide +kernel
theorem dX3_crystal_18 : decode cX3_crystal 18 = .ok (.invokestatic 157, 3) := by decide +kernel
theorem dX3_crystal_21 : decode cX3_crystal 21 = .ok (.ifCond .eq 17, 3) := by decide +kernel
theorem dX3_crystal_24 : decode cX3_crystal 24 = .ok (.iload_n 3, 1) := by decide +kernel
theorem dX3_crystal_25 : decode cX3_crystal 25 = .ok (.i2l, 1) := by decide +kernel
theorem dX3_crystal_26 : decode cX3_crystal 26 = .ok (.ldc2_w 192, 3) := by decide +kernel
theorem dX3_crystal_29 : decode cX3_crystal 29 = .ok (.ldc2_w 112, 3) := by decide +kernel
theorem dX3_crystal_32 : decode cX3_crystal 32 = .ok (.invokestatic 157, 3) := by decide +kernel
theorem dX3_crystal_35 : decode cX3_crystal 35 = .ok (.ifCond .ne 6, 3) := by decide +kernel
theorem dX3_crystal_38 : decode cX3_crystal 38 = .ok (.ldc 154, 2) := by decide +kernel
theorem dX3_crystal_40 : decode cX3_crystal 40 = .ok (.ireturn, 1) := by decide +kernel
theorem dX3_crystal_41 : decode cX3_crystal 41 = .ok (.aload_n 0, 1) := by decide +kernel
theorem dX3_crystal_42 : decode cX3_crystal 42 = .ok (.invokevirtual 179, 3) := by decide +kernel
theorem dX3_crystal_45 : decode cX3_crystal 45 = .ok (.aload_n 0, 1) := by decide +kernel
theorem dX3_crystal_46 : decode cX3_crystal 46 = .ok (.getfield 7, 3) := by decide +kernel
theorem dX3_crystal_49 : decode cX3_crystal 49 = .ok (.iconst 5, 1) := by decide +kernel
theorem dX3_crystal_50 : decode cX3_crystal 50 = .ok (.iload_n 1, 1) := by decide +kernel
theorem dX3_crystal_51 : decode cX3_crystal 51 = .ok (.i2l, 1) := by decide +kernel
theorem dX3_crystal_52 : decode cX3_crystal 52 = .ok (.lastore, 1) := by decide +kernel
theorem dX3_crystal_53 : decode cX3_crystal 53 = .ok (.aload_n 0, 1) := by decide +kernel
theorem dX3_crystal_54 : decode cX3_crystal 54 = .ok (.getfield 7, 3) := by decide +kernel
theorem dX3_crystal_57 : decode cX3_crystal 57 = .ok (.bipush 6, 2) := by decide +kernel
theorem dX3_crystal_59 : decode cX3_crystal 59 = .ok (.iload_n 2, 1) := by decide +kernel
theorem dX3_crystal_60 : decode cX3_crystal 60 = .ok (.i2l, 1) := by decide +kernel
theorem dX3_crystal_61 : decode cX3_crystal 61 = .ok (.lastore, 1) := by decide +kernel
theorem dX3_crystal_62 : decode cX3_crystal 62 = .ok (.aload_n 0, 1) := by decide +kernel
theorem dX3_crystal_63 : decode cX3_crystal 63 = .ok (.getfield 7, 3) := by decide +kernel
theorem dX3_crystal_66 : decode cX3_crystal 66 = .ok (.bipush 7, 2) := by decide +kernel
theorem dX3_crystal_68 : decode cX3_crystal 68 = .ok (.iload_n 3, 1) := by decide +kernel
theorem dX3_crystal_69 : decode cX3_crystal 69 = .ok (.i2l, 1) := by decide +kernel
theorem dX3_crystal_70 : decode cX3_crystal 70 = .ok (.lastore, 1) := by decide +kernel
theorem dX3_crystal_71 : decode cX3_crystal 71 = .ok (.aload_n 0, 1) := by decide +kernel
theorem dX3_crystal_72 : decode cX3_crystal 72 = .ok (.aload_n 0, 1) := by decide +kernel
theorem dX3_crystal_73 : decode cX3_crystal 73 = .ok (.getfield 7, 3) := by decide +kernel
theorem dX3_crystal_76 : decode cX3_crystal 76 = .ok (.iconst 4, 1) := by decide +kernel
theorem dX3_crystal_77 : decode cX3_crystal 77 = .ok (.laload, 1) := by decide +kernel
theorem dX3_crystal_78 : decode cX3_crystal 78 = .ok (.invokevirtual 64, 3) := by decide +kernel
theorem dX3_crystal_81 : decode cX3_crystal 81 = .ok (.l2i, 1) := by decide +kernel
theorem dX3_crystal_82 : decode cX3_crystal 82 = .ok (.sipush 10000, 3) := by decide +kernel
theorem dX3_crystal_85 : decode cX3_crystal 85 = .ok (.iadd, 1) := by decide +kernel
theorem dX3_crystal_86 : decode cX3_crystal 86 = .ok (.ireturn, 1) := by decide +kernel
set_option maxRecDepth 20000 in
theorem ggX3_bound_X3_in : GoodIn wsX3_bound wsX3_in := goodIn_r _ [8] (by decide +kernel) (by decide +kernel)
set_option maxRecDepth 20000 in
theorem gX3_bound_X3_in : GoodIn wsX3_bound (va_wsS RX3 157 yX3_in wsX3_in) := goodIn_app (goodIn_of _ (by decide +kernel)) ggX3_bound_X3_in
set_option maxRecDepth 20000 in
theorem ggX3_bound_X3_notes : GoodIn wsX3_bound wsX3_notes := goodIn_r _ [12, 13, 14, 4, 15, 16, 7, 17, 18, 19, 20, 21, 22, 23, 24, 25] (by decide +kernel) (by decide +kernel)
set_option maxRecDepth 20000 in
theorem gX3_bound_X3_notes : GoodIn wsX3_bound (wsV RX3 179 RX3 yX3_notes wsX3_notes) := goodIn_app (goodIn_of _ (by decide +kernel)) ggX3_bound_X3_notes
theorem dX3_bound_0 : decode cX3_bound 0 = .ok (.iload_n 1, 1) := by decide +kernel
theorem dX3_bound_1 : decode cX3_bound 1 = .ok (.i2l, 1) := by decide +kernel
theorem dX3_bound_2 : decode cX3_bound 2 = .ok (.lconst 0, 1) := by decide +kernel
theorem dX3_bound_3 : decode cX3_bound 3 = .ok (.lconst 1, 1) := by decide +kernel
theorem dX3_bound_4 : decode cX3_bound 4 = .ok (.invokestatic 157, 3) := by decide +kernel
theorem dX3_bound_7 : decode cX3_bound 7 = .ok (.ifCond .eq 28, 3) := by decide +kernel
theorem dX3_bound_10 : decode cX3_bound 10 = .ok (.iload_n 2, 1) := by decide +kernel
theorem dX3_bound_11 : decode cX3_bound 11 = .ok (.i2l, 1) := by decide +kernel
theorem dX3_bound_12 : decode cX3_bound 12 = .ok (.iconst 1, 1) := by decide +kernel
theorem dX3_bound_13 : decode cX3_bound 13 = .ok (.iload_n 1, 1) := by decide +kernel
theorem dX3_bound_14 : decode cX3_bound 14 = .ok (.isub, 1) := by decide +kernel
theorem dX3_bound_15 : decode cX3_bound 15 = .ok (.i2l, 1) := by decide +kernel
theorem dX3_bound_16 : decode cX3_bound 16 = .ok (.iload_n 1, 1) := by decide +kernel
theorem dX3_bound_17 : decode cX3_bound 17 = .ok (.ifCond .ne 9, 3) := by decide +kernel
theorem dX3_bound_20 : decode cX3_bound 20 = .ok (.ldc2_w 194, 3) := by decide +kernel
theorem dX3_bound_23 : decode cX3_bound 23 = .ok (.goto 6, 3) := by decide +kernel
theorem dX3_bound_26 : decode cX3_bound 26 = .ok (.ldc2_w 196, 3) := by decide +kernel
theorem dX3_bound_29 : decode cX3_bound 29 = .ok (.invokestatic 157, 3) := by decide +kernel
theorem dX3_bound_32 : decode cX3_bound 32 = .ok (.ifCond .ne 6, 3) := by decide +kernel
theorem dX3_bound_35 : decode cX3_bound 35 = .ok (.ldc 154, 2) := by decide +kernel
theorem dX3_bound_37 : decode cX3_bound 37 = .ok (.ireturn, 1) := by decide +kernel
theorem dX3_bound_38 : decode cX3_bound 38 = .ok (.aload_n 0, 1) := by decide +kernel
theorem dX3_bound_39 : decode cX3_bound 39 = .ok (.getfield 7, 3) := by decide +kernel
theorem dX3_bound_42 : decode cX3_bound 42 = .ok (.bipush 9, 2) := by decide +kernel
theorem dX3_bound_44 : decode cX3_bound 44 = .ok (.iload_n 1, 1) := by decide +kernel
theorem dX3_bound_45 : decode cX3_bound 45 = .ok (.iadd, 1) := by decide +kernel
theorem dX3_bound_46 : decode cX3_bound 46 = .ok (.laload, 1) := by decide +kernel
theorem dX3_bound_47 : decode cX3_bound 47 = .ok (.l2i, 1) := by decide +kernel
theorem dX3_bound_48 : decode cX3_bound 48 = .ok (.istore_n 3, 1) := by decide +kernel
theorem dX3_bound_49 : decode cX3_bound 49 = .ok (.aload_n 0, 1) := by decide +kernel
theorem dX3_bound_50 : decode cX3_bound 50 = .ok (.invokevirtual 179, 3) := by decide +kernel
theorem dX3_bound_53 : decode cX3_bound 53 = .ok (.aload_n 0, 1) := by decide +kernel
theorem dX3_bound_54 : decode cX3_bound 54 = .ok (.getfield 7, 3) := by decide +kernel
theorem dX3_bound_57 : decode cX3_bound 57 = .ok (.bipush 9, 2) := by decide +kernel
theorem dX3_bound_59 : decode cX3_bound 59 = .ok (.iload_n 1, 1) := by decide +kernel
theorem dX3_bound_60 : decode cX3_bound 60 = .ok (.iadd, 1) := by decide +kernel
theorem dX3_bound_61 : decode cX3_bound 61 = .ok (.iload_n 2, 1) := by decide +kernel
theorem dX3_bound_62 : decode cX3_bound 62 = .ok (.i2l, 1) := by decide +kernel
theorem dX3_bound_63 : decode cX3_bound 63 = .ok (.lastore, 1) := by decide +kernel
theorem dX3_bound_64 : decode cX3_bound 64 = .ok (.iload_n 3, 1) := by decide +kernel
theorem dX3_bound_65 : decode cX3_bound 65 = .ok (.ireturn, 1) := by decide +kernel
set_option maxRecDepth 20000 in
theorem ggX3_power_X3_notes : GoodIn wsX3_power wsX3_notes := goodIn_r _ [6, 7, 8, 1, 9, 10, 5, 11, 12, 13, 14, 15, 16, 17, 18, 19] (by decide +kernel) (by decide +kernel)
set_option maxRecDepth 20000 in
theorem gX3_power_X3_notes : GoodIn wsX3_power (wsV RX3 179 RX3 yX3_notes wsX3_notes) := goodIn_app (goodIn_of _ (by decide +kernel)) ggX3_power_X3_notes
theorem dX3_power_0 : decode cX3_power 0 = .ok (.aload_n 0, 1) := by decide +kernel
theorem dX3_power_1 : decode cX3_power 1 = .ok (.getfield 7, 3) := by decide +kernel
theorem dX3_power_4 : decode cX3_power 4 = .ok (.bipush 11, 2) := by decide +kernel
theorem dX3_power_6 : decode cX3_power 6 = .ok (.laload, 1) := by decide +kernel
theorem dX3_power_7 : decode cX3_power 7 = .ok (.l2i, 1) := by decide +kernel
theorem dX3_power_8 : decode cX3_power 8 = .ok (.istore_n 2, 1) := by decide +kernel
theorem dX3_power_9 : decode cX3_power 9 = .ok (.aload_n 0, 1) := by decide +kernel
theorem dX3_power_10 : decode cX3_power 10 = .ok (.invokevirtual 179, 3) := by decide +kernel
theorem dX3_power_13 : decode cX3_power 13 = .ok (.aload_n 0, 1) := by decide +kernel
theorem dX3_power_14 : decode cX3_power 14 = .ok (.getfield 7, 3) := by decide +kernel
theorem dX3_power_17 : decode cX3_power 17 = .ok (.bipush 11, 2) := by decide +kernel
theorem dX3_power_19 : decode cX3_power 19 = .ok (.iload_n 1, 1) := by decide +kernel
theorem dX3_power_20 : decode cX3_power 20 = .ok (.ifCond .eq 7, 3) := by decide +kernel
theorem dX3_power_23 : decode cX3_power 23 = .ok (.lconst 1, 1) := by decide +kernel
theorem dX3_power_24 : decode cX3_power 24 = .ok (.goto 4, 3) := by decide +kernel
theorem dX3_power_27 : decode cX3_power 27 = .ok (.lconst 0, 1) := by decide +kernel
theorem dX3_power_28 : decode cX3_power 28 = .ok (.lastore, 1) := by decide +kernel
theorem dX3_power_29 : decode cX3_power 29 = .ok (.iload_n 2, 1) := by decide +kernel
theorem dX3_power_30 : decode cX3_power 30 = .ok (.ireturn, 1) := by decide +kernel
set_option maxRecDepth 20000 in
theorem ggX3_hear_X3_in : GoodIn wsX3_hear wsX3_in := goodIn_r _ [8] (by decide +kernel) (by decide +kernel)
set_option maxRecDepth 20000 in
theorem gX3_hear_X3_in : GoodIn wsX3_hear (va_wsS RX3 157 yX3_in wsX3_in) := goodIn_app (goodIn_of _ (by decide +kernel)) ggX3_hear_X3_in
set_option maxRecDepth 20000 in
theorem ggX3_hear_X3_notes : GoodIn wsX3_hear wsX3_notes := goodIn_r _ [12, 13, 14, 15, 16, 17, 7, 18, 48, 49, 50, 51, 52, 53, 54, 55] (by decide +kernel) (by decide +kernel)
set_option maxRecDepth 20000 in
theorem gX3_hear_X3_notes : GoodIn wsX3_hear (wsV RX3 179 RX3 yX3_notes wsX3_notes) := goodIn_app (goodIn_of _ (by decide +kernel)) ggX3_hear_X3_notes
set_option maxRecDepth 20000 in
theorem ggX3_hear_X3_hears : GoodIn wsX3_hear wsX3_hears := goodIn_r _ [22, 15, 23, 24, 25, 26, 27, 28, 7, 29, 30, 31, 1, 2, 32, 33, 34, 35, 36, 37, 38, 39, 40, 41, 42, 43, 44, 45, 46, 47, 48, 49, 50, 51, 52, 53, 54, 55] (by decide +kernel) (by decide +kernel)
set_option maxRecDepth 20000 in
theorem gX3_hear_X3_hears : GoodIn wsX3_hear (wsV RX3 200 RX3 yX3_hears wsX3_hears) := goodIn_app (goodIn_of _ (by decide +kernel)) ggX3_hear_X3_hears
theorem dX3_hear_0 : decode cX3_hear 0 = .ok (.iload_n 1, 1) := by decide +kernel
theorem dX3_hear_1 : decode cX3_hear 1 = .ok (.i2l, 1) := by decide +kernel
theorem dX3_hear_2 : decode cX3_hear 2 = .ok (.ldc2_w 119, 3) := by decide +kernel
theorem dX3_hear_5 : decode cX3_hear 5 = .ok (.ldc2_w 121, 3) := by decide +kernel
theorem dX3_hear_8 : decode cX3_hear 8 = .ok (.invokestatic 157, 3) := by decide +kernel
theorem dX3_hear_11 : decode cX3_hear 11 = .ok (.ifCond .eq 15, 3) := by decide +kernel
theorem dX3_hear_14 : decode cX3_hear 14 = .ok (.iload_n 2, 1) := by decide +kernel
theorem dX3_hear_15 : decode cX3_hear 15 = .ok (.i2l, 1) := by decide +kernel
theorem dX3_hear_16 : decode cX3_hear 16 = .ok (.lconst 0, 1) := by decide +kernel
theorem dX3_hear_17 : decode cX3_hear 17 = .ok (.ldc2_w 198, 3) := by decide +kernel
theorem dX3_hear_20 : decode cX3_hear 20 = .ok (.invokestatic 157, 3) := by decide +kernel
theorem dX3_hear_23 : decode cX3_hear 23 = .ok (.ifCond .ne 6, 3) := by decide +kernel
theorem dX3_hear_26 : decode cX3_hear 26 = .ok (.ldc 154, 2) := by decide +kernel
theorem dX3_hear_28 : decode cX3_hear 28 = .ok (.ireturn, 1) := by decide +kernel
theorem dX3_hear_29 : decode cX3_hear 29 = .ok (.aload_n 0, 1) := by decide +kernel
theorem dX3_hear_30 : decode cX3_hear 30 = .ok (.invokevirtual 179, 3) := by decide +kernel
theorem dX3_hear_33 : decode cX3_hear 33 = .ok (.aload_n 0, 1) := by decide +kernel
theorem dX3_hear_34 : decode cX3_hear 34 = .ok (.iload_n 1, 1) := by decide +kernel
theorem dX3_hear_35 : decode cX3_hear 35 = .ok (.i2l, 1) := by decide +kernel
theorem dX3_hear_36 : decode cX3_hear 36 = .ok (.iload_n 2, 1) := by decide +kernel
theorem dX3_hear_37 : decode cX3_hear 37 = .ok (.i2l, 1) := by decide +kernel
theorem dX3_hear_38 : decode cX3_hear 38 = .ok (.invokevirtual 200, 3) := by decide +kernel
theorem dX3_hear_41 : decode cX3_hear 41 = .ok (.ireturn, 1) := by decide +kernel
set_option maxRecDepth 20000 in
theorem ggX3_alarm_X3_in : GoodIn wsX3_alarm wsX3_in := goodIn_r _ [11] (by decide +kernel) (by decide +kernel)
set_option maxRecDepth 20000 in
theorem gX3_alarm_X3_in : GoodIn wsX3_alarm (va_wsS RX3 157 yX3_in wsX3_in) := goodIn_app (goodIn_of _ (by decide +kernel)) ggX3_alarm_X3_in
set_option maxRecDepth 20000 in
theorem ggX3_alarm_X3_notes : GoodIn wsX3_alarm wsX3_notes := goodIn_r _ [15, 16, 17, 6, 18, 19, 10, 20, 21, 22, 23, 24, 25, 26, 27, 28] (by decide +kernel) (by decide +kernel)
set_option maxRecDepth 20000 in
theorem gX3_alarm_X3_notes : GoodIn wsX3_alarm (wsV RX3 179 RX3 yX3_notes wsX3_notes) := goodIn_app (goodIn_of _ (by decide +kernel)) ggX3_alarm_X3_notes
theorem dX3_alarm_0 : decode cX3_alarm 0 = .ok (.iload_n 1, 1) := by decide +kernel
theorem dX3_alarm_1 : decode cX3_alarm 1 = .ok (.i2l, 1) := by decide +kernel
theorem dX3_alarm_2 : decode cX3_alarm 2 = .ok (.ldc2_w 35, 3) := by decide +kernel
theorem dX3_alarm_5 : decode cX3_alarm 5 = .ok (.ldc2_w 204, 3) := by decide +kernel
theorem dX3_alarm_8 : decode cX3_alarm 8 = .ok (.invokestatic 157, 3) := by decide +kernel
theorem dX3_alarm_11 : decode cX3_alarm 11 = .ok (.ifCond .eq 31, 3) := by decide +kernel
theorem dX3_alarm_14 : decode cX3_alarm 14 = .ok (.iload_n 2, 1) := by decide +kernel
theorem dX3_alarm_15 : decode cX3_alarm 15 = .ok (.i2l, 1) := by decide +kernel
theorem dX3_alarm_16 : decode cX3_alarm 16 = .ok (.ldc2_w 35, 3) := by decide +kernel
theorem dX3_alarm_19 : decode cX3_alarm 19 = .ok (.ldc2_w 206, 3) := by decide +kernel
theorem dX3_alarm_22 : decode cX3_alarm 22 = .ok (.invokestatic 157, 3) := by decide +kernel
theorem dX3_alarm_25 : decode cX3_alarm 25 = .ok (.ifCond .eq 17, 3) := by decide +kernel
theorem dX3_alarm_28 : decode cX3_alarm 28 = .ok (.iload_n 3, 1) := by decide +kernel
theorem dX3_alarm_29 : decode cX3_alarm 29 = .ok (.i2l, 1) := by decide +kernel
theorem dX3_alarm_30 : decode cX3_alarm 30 = .ok (.ldc2_w 35, 3) := by decide +kernel
theorem dX3_alarm_33 : decode cX3_alarm 33 = .ok (.ldc2_w 208, 3) := by decide +kernel
theorem dX3_alarm_36 : decode cX3_alarm 36 = .ok (.invokestatic 157, 3) := by decide +kernel
theorem dX3_alarm_39 : decode cX3_alarm 39 = .ok (.ifCond .ne 6, 3) := by decide +kernel
theorem dX3_alarm_42 : decode cX3_alarm 42 = .ok (.ldc 154, 2) := by decide +kernel
theorem dX3_alarm_44 : decode cX3_alarm 44 = .ok (.ireturn, 1) := by decide +kernel
theorem dX3_alarm_45 : decode cX3_alarm 45 = .ok (.aload_n 0, 1) := by decide +kernel
theorem dX3_alarm_46 : decode cX3_alarm 46 = .ok (.getfield 7, 3) := by decide +kernel
theorem dX3_alarm_49 : decode cX3_alarm 49 = .ok (.bipush 24, 2) := by decide +kernel
theorem dX3_alarm_51 : decode cX3_alarm 51 = .ok (.laload, 1) := by decide +kernel
theorem dX3_alarm_52 : decode cX3_alarm 52 = .ok (.ldc2_w 208, 3) := by decide +kernel
theorem dX3_alarm_55 : decode cX3_alarm 55 = .ok (.lcmp, 1) := by decide +kernel
theorem dX3_alarm_56 : decode cX3_alarm 56 = .ok (.ifCond .ne 6, 3) := by decide +kernel
theorem dX3_alarm_59 : decode cX3_alarm 59 = .ok (.ldc 210, 2) := by decide +kernel
theorem dX3_alarm_61 : decode cX3_alarm 61 = .ok (.ireturn, 1) := by decide +kernel
theorem dX3_alarm_62 : decode cX3_alarm 62 = .ok (.aload_n 0, 1) := by decide +kernel
theorem dX3_alarm_63 : decode cX3_alarm 63 = .ok (.invokevirtual 179, 3) := by decide +kernel
theorem dX3_alarm_66 : decode cX3_alarm 66 = .ok (.aload_n 0, 1) := by decide +kernel
theorem dX3_alarm_67 : decode cX3_alarm 67 = .ok (.getfield 7, 3) := by decide +kernel
theorem dX3_alarm_70 : decode cX3_alarm 70 = .ok (.bipush 24, 2) := by decide +kernel
theorem dX3_alarm_72 : decode cX3_alarm 72 = .ok (.laload, 1) := by decide +kernel
theorem dX3_alarm_73 : decode cX3_alarm 73 = .ok (.l2i, 1) := by decide +kernel
theorem dX3_alarm_74 : decode cX3_alarm 74 = .ok (.istore 4, 2) := by decide +kernel
theorem dX3_alarm_76 : decode cX3_alarm 76 = .ok (.bipush 25, 2) := by decide +kernel
theorem dX3_alarm_78 : decode cX3_alarm 78 = .ok (.iconst 4, 1) := by decide +kernel
theorem dX3_alarm_79 : decode cX3_alarm 79 = .ok (.iload 4, 2) := by decide +kernel
theorem dX3_alarm_81 : decode cX3_alarm 81 = .ok (.imul, 1) := by decide +kernel
theorem dX3_alarm_82 : decode cX3_alarm 82 = .ok (.iadd, 1) := by decide +kernel
theorem dX3_alarm_83 : decode cX3_alarm 83 = .ok (.istore 5, 2) := by decide +kernel
theorem dX3_alarm_85 : decode cX3_alarm 85 = .ok (.aload_n 0, 1) := by decide +kernel
theorem dX3_alarm_86 : decode cX3_alarm 86 = .ok (.getfield 7, 3) := by decide +kernel
theorem dX3_alarm_89 : decode cX3_alarm 89 = .ok (.iload 5, 2) := by decide +kernel
theorem dX3_alarm_91 : decode cX3_alarm 91 = .ok (.iload_n 1, 1) := by decide +kernel
theorem dX3_alarm_92 : decode cX3_alarm 92 = .ok (.i2l, 1) := by decide +kernel
theorem dX3_alarm_93 : decode cX3_alarm 93 = .ok (.lastore, 1) := by decide +kernel
theorem dX3_alarm_94 : decode cX3_alarm 94 = .ok (.aload_n 0, 1) := by decide +kernel
theorem dX3_alarm_95 : decode cX3_alarm 95 = .ok (.getfield 7, 3) := by decide +kernel
theorem dX3_alarm_98 : decode cX3_alarm 98 = .ok (.iload 5, 2) := by decide +kernel
theorem dX3_alarm_100 : decode cX3_alarm 100 = .ok (.iconst 1, 1) := by decide +kernel
theorem dX3_alarm_101 : decode cX3_alarm 101 = .ok (.iadd, 1) := by decide +kernel
theorem dX3_alarm_102 : decode cX3_alarm 102 = .ok (.iload_n 2, 1) := by decide +kernel
theorem dX3_alarm_103 : decode cX3_alarm 103 = .ok (.i2l, 1) := by decide +kernel
theorem dX3_alarm_104 : decode cX3_alarm 104 = .ok (.lastore, 1) := by decide +kernel
theorem dX3_alarm_105 : decode cX3_alarm 105 = .ok (.aload_n 0, 1) := by decide +kernel
theorem dX3_alarm_106 : decode cX3_alarm 106 = .ok (.getfield 7, 3) := by decide +kernel
theorem dX3_alarm_109 : decode cX3_alarm 109 = .ok (.iload 5, 2) := by decide +kernel
theorem dX3_alarm_111 : decode cX3_alarm 111 = .ok (.iconst 2, 1) := by decide +kernel
theorem dX3_alarm_112 : decode cX3_alarm 112 = .ok (.iadd, 1) := by decide +kernel
theorem dX3_alarm_113 : decode cX3_alarm 113 = .ok (.iload_n 3, 1) := by decide +kernel
theorem dX3_alarm_114 : decode cX3_alarm 114 = .ok (.i2l, 1) := by decide +kernel
theorem dX3_alarm_115 : decode cX3_alarm 115 = .ok (.lastore, 1) := by decide +kernel
theorem dX3_alarm_116 : decode cX3_alarm 116 = .ok (.aload_n 0, 1) := by decide +kernel
theorem dX3_alarm_117 : decode cX3_alarm 117 = .ok (.getfield 7, 3) := by decide +kernel
theorem dX3_alarm_120 : decode cX3_alarm 120 = .ok (.iload 5, 2) := by decide +kernel
theorem dX3_alarm_122 : decode cX3_alarm 122 = .ok (.iconst 3, 1) := by decide +kernel
theorem dX3_alarm_123 : decode cX3_alarm 123 = .ok (.iadd, 1) := by decide +kernel
theorem dX3_alarm_124 : decode cX3_alarm 124 = .ok (.lconst 0, 1) := by decide +kernel
theorem dX3_alarm_125 : decode cX3_alarm 125 = .ok (.lastore, 1) := by decide +kernel
theorem dX3_alarm_126 : decode cX3_alarm 126 = .ok (.aload_n 0, 1) := by decide +kernel
theorem dX3_alarm_127 : decode cX3_alarm 127 = .ok (.getfield 7, 3) := by decide +kernel
theorem dX3_alarm_130 : decode cX3_alarm 130 = .ok (.bipush 24, 2) := by decide +kernel
theorem dX3_alarm_132 : decode cX3_alarm 132 = .ok (.dup2, 1) := by decide +kernel
theorem dX3_alarm_133 : decode cX3_alarm 133 = .ok (.laload, 1) := by decide +kernel
theorem dX3_alarm_134 : decode cX3_alarm 134 = .ok (.lconst 1, 1) := by decide +kernel
theorem dX3_alarm_135 : decode cX3_alarm 135 = .ok (.ladd, 1) := by decide +kernel
theorem dX3_alarm_136 : decode cX3_alarm 136 = .ok (.lastore, 1) := by decide +kernel
theorem dX3_alarm_137 : decode cX3_alarm 137 = .ok (.iload 4, 2) := by decide +kernel
theorem dX3_alarm_139 : decode cX3_alarm 139 = .ok (.ireturn, 1) := by decide +kernel
set_option maxRecDepth 20000 in
theorem ggX3_drop_X3_isAlarm : GoodIn wsX3_drop wsX3_isAlarm := goodIn_r _ [7, 2, 8, 9, 6, 10, 20, 21, 22, 23, 24, 25, 26, 27] (by decide +kernel) (by decide +kernel)
set_option maxRecDepth 20000 in
theorem gX3_drop_X3_isAlarm : GoodIn wsX3_drop (wsV RX3 168 RX3 yX3_isAlarm wsX3_isAlarm) := goodIn_app (goodIn_of _ (by decide +kernel)) ggX3_drop_X3_isAlarm
set_option maxRecDepth 20000 in
theorem ggX3_drop_X3_notes : GoodIn wsX3_drop wsX3_notes := goodIn_r _ [14, 15, 16, 2, 17, 18, 6, 19, 20, 21, 22, 23, 24, 25, 26, 27] (by decide +kernel) (by decide +kernel)
set_option maxRecDepth 20000 in
theorem gX3_drop_X3_notes : GoodIn wsX3_drop (wsV RX3 179 RX3 yX3_notes wsX3_notes) := goodIn_app (goodIn_of _ (by decide +kernel)) ggX3_drop_X3_notes
set_option maxRecDepth 20000 in
theorem ggX3_drop_X3_bring : GoodIn wsX3_drop wsX3_bring := goodIn_r _ [19] (by decide +kernel) (by decide +kernel)
set_option maxRecDepth 20000 in
theorem gX3_drop_X3_bring : GoodIn wsX3_drop (va_wsS RX3 175 yX3_bring wsX3_bring) := goodIn_app (goodIn_of _ (by decide +kernel)) ggX3_drop_X3_bring
theorem dX3_drop_0 : decode cX3_drop 0 = .ok (.aload_n 0, 1) := by decide +kernel
theorem dX3_drop_1 : decode cX3_drop 1 = .ok (.iload_n 1, 1) := by decide +kernel
theorem dX3_drop_2 : decode cX3_drop 2 = .ok (.invokevirtual 168, 3) := by decide +kernel
theorem dX3_drop_5 : decode cX3_drop 5 = .ok (.ifCond .ne 6, 3) := by decide +kernel
theorem dX3_drop_8 : decode cX3_drop 8 = .ok (.ldc 161, 2) := by decide +kernel
theorem dX3_drop_10 : decode cX3_drop 10 = .ok (.ireturn, 1) := by decide +kernel
theorem dX3_drop_11 : decode cX3_drop 11 = .ok (.aload_n 0, 1) := by decide +kernel
theorem dX3_drop_12 : decode cX3_drop 12 = .ok (.invokevirtual 179, 3) := by decide +kernel
theorem dX3_drop_15 : decode cX3_drop 15 = .ok (.aload_n 0, 1) := by decide +kernel
theorem dX3_drop_16 : decode cX3_drop 16 = .ok (.getfield 7, 3) := by decide +kernel
theorem dX3_drop_19 : decode cX3_drop 19 = .ok (.bipush 24, 2) := by decide +kernel
theorem dX3_drop_21 : decode cX3_drop 21 = .ok (.dup2, 1) := by decide +kernel
theorem dX3_drop_22 : decode cX3_drop 22 = .ok (.laload, 1) := by decide +kernel
theorem dX3_drop_23 : decode cX3_drop 23 = .ok (.lconst 1, 1) := by decide +kernel
theorem dX3_drop_24 : decode cX3_drop 24 = .ok (.lsub, 1) := by decide +kernel
theorem dX3_drop_25 : decode cX3_drop 25 = .ok (.lastore, 1) := by decide +kernel
theorem dX3_drop_26 : decode cX3_drop 26 = .ok (.aload_n 0, 1) := by decide +kernel
theorem dX3_drop_27 : decode cX3_drop 27 = .ok (.getfield 7, 3) := by decide +kernel
theorem dX3_drop_30 : decode cX3_drop 30 = .ok (.bipush 24, 2) := by decide +kernel
theorem dX3_drop_32 : decode cX3_drop 32 = .ok (.laload, 1) := by decide +kernel
theorem dX3_drop_33 : decode cX3_drop 33 = .ok (.l2i, 1) := by decide +kernel
theorem dX3_drop_34 : decode cX3_drop 34 = .ok (.istore_n 2, 1) := by decide +kernel
theorem dX3_drop_35 : decode cX3_drop 35 = .ok (.bipush 25, 2) := by decide +kernel
theorem dX3_drop_37 : decode cX3_drop 37 = .ok (.iconst 4, 1) := by decide +kernel
theorem dX3_drop_38 : decode cX3_drop 38 = .ok (.iload_n 1, 1) := by decide +kernel
theorem dX3_drop_39 : decode cX3_drop 39 = .ok (.imul, 1) := by decide +kernel
theorem dX3_drop_40 : decode cX3_drop 40 = .ok (.iadd, 1) := by decide +kernel
theorem dX3_drop_41 : decode cX3_drop 41 = .ok (.istore_n 3, 1) := by decide +kernel
theorem dX3_drop_42 : decode cX3_drop 42 = .ok (.aload_n 0, 1) := by decide +kernel
theorem dX3_drop_43 : decode cX3_drop 43 = .ok (.getfield 7, 3) := by decide +kernel
theorem dX3_drop_46 : decode cX3_drop 46 = .ok (.iload_n 3, 1) := by decide +kernel
theorem dX3_drop_47 : decode cX3_drop 47 = .ok (.iconst 4, 1) := by decide +kernel
theorem dX3_drop_48 : decode cX3_drop 48 = .ok (.iadd, 1) := by decide +kernel
theorem dX3_drop_49 : decode cX3_drop 49 = .ok (.aload_n 0, 1) := by decide +kernel
theorem dX3_drop_50 : decode cX3_drop 50 = .ok (.getfield 7, 3) := by decide +kernel
theorem dX3_drop_53 : decode cX3_drop 53 = .ok (.iload_n 3, 1) := by decide +kernel
theorem dX3_drop_54 : decode cX3_drop 54 = .ok (.iconst 4, 1) := by decide +kernel
theorem dX3_drop_55 : decode cX3_drop 55 = .ok (.iload_n 2, 1) := by decide +kernel
theorem dX3_drop_56 : decode cX3_drop 56 = .ok (.iload_n 1, 1) := by decide +kernel
theorem dX3_drop_57 : decode cX3_drop 57 = .ok (.isub, 1) := by decide +kernel
theorem dX3_drop_58 : decode cX3_drop 58 = .ok (.imul, 1) := by decide +kernel
theorem dX3_drop_59 : decode cX3_drop 59 = .ok (.invokestatic 175, 3) := by decide +kernel
theorem dX3_drop_62 : decode cX3_drop 62 = .ok (.iload_n 2, 1) := by decide +kernel
theorem dX3_drop_63 : decode cX3_drop 63 = .ok (.ireturn, 1) := by decide +kernel
set_option maxRecDepth 20000 in
theorem ggX3_learn_X3_in : GoodIn wsX3_learn wsX3_in := goodIn_r _ [10] (by decide +kernel) (by decide +kernel)
set_option maxRecDepth 20000 in
theorem gX3_learn_X3_in : GoodIn wsX3_learn (va_wsS RX3 157 yX3_in wsX3_in) := goodIn_app (goodIn_of _ (by decide +kernel)) ggX3_learn_X3_in
set_option maxRecDepth 20000 in
theorem ggX3_learn_X3_notes : GoodIn wsX3_learn wsX3_notes := goodIn_r _ [14, 15, 16, 6, 17, 18, 9, 19, 20, 21, 22, 23, 24, 25, 26, 27] (by decide +kernel) (by decide +kernel)
set_option maxRecDepth 20000 in
theorem gX3_learn_X3_notes : GoodIn wsX3_learn (wsV RX3 179 RX3 yX3_notes wsX3_notes) := goodIn_app (goodIn_of _ (by decide +kernel)) ggX3_learn_X3_notes
theorem dX3_learn_0 : decode cX3_learn 0 = .ok (.iload_n 1, 1) := by decide +kernel
theorem dX3_learn_1 : decode cX3_learn 1 = .ok (.i2l, 1) := by decide +kernel
theorem dX3_learn_2 : decode cX3_learn 2 = .ok (.lconst 0, 1) := by decide +kernel
theorem dX3_learn_3 : decode cX3_learn 3 = .ok (.ldc2_w 155, 3) := by decide +kernel
theorem dX3_learn_6 : decode cX3_learn 6 = .ok (.invokestatic 157, 3) := by decide +kernel
theorem dX3_learn_9 : decode cX3_learn 9 = .ok (.ifCond .ne 6, 3) := by decide +kernel
theorem dX3_learn_12 : decode cX3_learn 12 = .ok (.ldc 161, 2) := by decide +kernel
theorem dX3_learn_14 : decode cX3_learn 14 = .ok (.ireturn, 1) := by decide +kernel
theorem dX3_learn_15 : decode cX3_learn 15 = .ok (.iload_n 2, 1) := by decide +kernel
theorem dX3_learn_16 : decode cX3_learn 16 = .ok (.i2l, 1) := by decide +kernel
theorem dX3_learn_17 : decode cX3_learn 17 = .ok (.ldc2_w 119, 3) := by decide +kernel
theorem dX3_learn_20 : decode cX3_learn 20 = .ok (.ldc2_w 121, 3) := by decide +kernel
theorem dX3_learn_23 : decode cX3_learn 23 = .ok (.invokestatic 157, 3) := by decide +kernel
theorem dX3_learn_26 : decode cX3_learn 26 = .ok (.ifCond .ne 6, 3) := by decide +kernel
theorem dX3_learn_29 : decode cX3_learn 29 = .ok (.ldc 154, 2) := by decide +kernel
theorem dX3_learn_31 : decode cX3_learn 31 = .ok (.ireturn, 1) := by decide +kernel
theorem dX3_learn_32 : decode cX3_learn 32 = .ok (.aload_n 0, 1) := by decide +kernel
theorem dX3_learn_33 : decode cX3_learn 33 = .ok (.getfield 7, 3) := by decide +kernel
theorem dX3_learn_36 : decode cX3_learn 36 = .ok (.bipush 15, 2) := by decide +kernel
theorem dX3_learn_38 : decode cX3_learn 38 = .ok (.iload_n 1, 1) := by decide +kernel
theorem dX3_learn_39 : decode cX3_learn 39 = .ok (.iadd, 1) := by decide +kernel
theorem dX3_learn_40 : decode cX3_learn 40 = .ok (.laload, 1) := by decide +kernel
theorem dX3_learn_41 : decode cX3_learn 41 = .ok (.l2i, 1) := by decide +kernel
theorem dX3_learn_42 : decode cX3_learn 42 = .ok (.istore_n 3, 1) := by decide +kernel
theorem dX3_learn_43 : decode cX3_learn 43 = .ok (.aload_n 0, 1) := by decide +kernel
theorem dX3_learn_44 : decode cX3_learn 44 = .ok (.invokevirtual 179, 3) := by decide +kernel
theorem dX3_learn_47 : decode cX3_learn 47 = .ok (.aload_n 0, 1) := by decide +kernel
theorem dX3_learn_48 : decode cX3_learn 48 = .ok (.getfield 7, 3) := by decide +kernel
theorem dX3_learn_51 : decode cX3_learn 51 = .ok (.bipush 15, 2) := by decide +kernel
theorem dX3_learn_53 : decode cX3_learn 53 = .ok (.iload_n 1, 1) := by decide +kernel
theorem dX3_learn_54 : decode cX3_learn 54 = .ok (.iadd, 1) := by decide +kernel
theorem dX3_learn_55 : decode cX3_learn 55 = .ok (.iload_n 2, 1) := by decide +kernel
theorem dX3_learn_56 : decode cX3_learn 56 = .ok (.i2l, 1) := by decide +kernel
theorem dX3_learn_57 : decode cX3_learn 57 = .ok (.lastore, 1) := by decide +kernel
theorem dX3_learn_58 : decode cX3_learn 58 = .ok (.iload_n 3, 1) := by decide +kernel
theorem dX3_learn_59 : decode cX3_learn 59 = .ok (.sipush 10000, 3) := by decide +kernel
theorem dX3_learn_62 : decode cX3_learn 62 = .ok (.iadd, 1) := by decide +kernel
theorem dX3_learn_63 : decode cX3_learn 63 = .ok (.ireturn, 1) := by decide +kernel
theorem dX3_draw_0 : decode cX3_draw 0 = .ok (.aload_n 0, 1) := by decide +kernel
theorem dX3_draw_1 : decode cX3_draw 1 = .ok (.aload_n 0, 1) := by decide +kernel
theorem dX3_draw_2 : decode cX3_draw 2 = .ok (.getfield 211, 3) := by decide +kernel
theorem dX3_draw_5 : decode cX3_draw 5 = .ok (.ldc2_w 215, 3) := by decide +kernel
theorem dX3_draw_8 : decode cX3_draw 8 = .ok (.lmul, 1) := by decide +kernel
theorem dX3_draw_9 : decode cX3_draw 9 = .ok (.ldc2_w 217, 3) := by decide +kernel
theorem dX3_draw_12 : decode cX3_draw 12 = .ok (.ladd, 1) := by decide +kernel
theorem dX3_draw_13 : decode cX3_draw 13 = .ok (.ldc2_w 219, 3) := by decide +kernel
theorem dX3_draw_16 : decode cX3_draw 16 = .ok (.lrem, 1) := by decide +kernel
theorem dX3_draw_17 : decode cX3_draw 17 = .ok (.putfield 211, 3) := by decide +kernel
theorem dX3_draw_20 : decode cX3_draw 20 = .ok (.aload_n 0, 1) := by decide +kernel
theorem dX3_draw_21 : decode cX3_draw 21 = .ok (.getfield 211, 3) := by decide +kernel
theorem dX3_draw_24 : decode cX3_draw 24 = .ok (.ldc2_w 221, 3) := by decide +kernel
theorem dX3_draw_27 : decode cX3_draw 27 = .ok (.ldiv, 1) := by decide +kernel
theorem dX3_draw_28 : decode cX3_draw 28 = .ok (.iload_n 1, 1) := by decide +kernel
theorem dX3_draw_29 : decode cX3_draw 29 = .ok (.i2l, 1) := by decide +kernel
theorem dX3_draw_30 : decode cX3_draw 30 = .ok (.lrem, 1) := by decide +kernel
theorem dX3_draw_31 : decode cX3_draw 31 = .ok (.lreturn, 1) := by decide +kernel
set_option maxRecDepth 20000 in
theorem ggX3_drift_X3_in : GoodIn wsX3_drift wsX3_in := goodIn_r _ [8] (by decide +kernel) (by decide +kernel)
set_option maxRecDepth 20000 in
theorem gX3_drift_X3_in : GoodIn wsX3_drift (va_wsS RX3 157 yX3_in wsX3_in) := goodIn_app (goodIn_of _ (by decide +kernel)) ggX3_drift_X3_in
set_option maxRecDepth 20000 in
theorem ggX3_drift_X3_draw : GoodIn wsX3_drift wsX3_draw := goodIn_r _ [12, 13, 14, 15, 16, 17, 123, 124, 125, 126, 127, 128, 129, 130] (by decide +kernel) (by decide +kernel)
set_option maxRecDepth 20000 in
theorem gX3_drift_X3_draw : GoodIn wsX3_drift (wsV RX3 223 RX3 yX3_draw wsX3_draw) := goodIn_app (goodIn_of _ (by decide +kernel)) ggX3_drift_X3_draw
set_option maxRecDepth 20000 in
theorem ggX3_drift_X3_notes : GoodIn wsX3_drift wsX3_notes := goodIn_r _ [21, 22, 23, 4, 24, 25, 7, 26, 123, 124, 125, 126, 127, 128, 129, 130] (by decide +kernel) (by decide +kernel)
set_option maxRecDepth 20000 in
theorem gX3_drift_X3_notes : GoodIn wsX3_drift (wsV RX3 179 RX3 yX3_notes wsX3_notes) := goodIn_app (goodIn_of _ (by decide +kernel)) ggX3_drift_X3_notes
set_option maxRecDepth 20000 in
theorem ggX3_drift_X3_hears : GoodIn wsX3_drift wsX3_hears := goodIn_r _ [30, 4, 31, 32, 33, 34, 35, 36, 7, 37, 38, 39, 40, 41, 42, 43, 44, 45, 46, 47, 48, 49, 50, 51, 52, 53, 54, 55, 56, 57, 123, 124, 125, 126, 127, 128, 129, 130] (by decide +kernel) (by decide +kernel)
set_option maxRecDepth 20000 in
theorem gX3_drift_X3_hears : GoodIn wsX3_drift (wsV RX3 200 RX3 yX3_hears wsX3_hears) := goodIn_app (goodIn_of _ (by decide +kernel)) ggX3_drift_X3_hears
set_option maxRecDepth 20000 in
theorem ggX3_drift_X3_goes : GoodIn wsX3_drift wsX3_goes := goodIn_r _ [61, 4, 62, 63, 64, 38, 65, 66, 67, 7, 68, 69, 70, 71, 72, 73, 74, 75, 76, 77, 31, 78, 79, 80, 81, 1, 82, 52, 53, 54, 83, 84, 85, 86, 55, 56, 57, 46, 47, 48, 87, 88, 89, 90, 91, 92, 93, 94, 95, 96, 97, 98, 99, 100, 101, 102, 103, 104, 105, 33, 106, 107, 108, 109, 110, 111, 112, 113, 114, 115, 116, 117, 118, 123, 124, 125, 126, 127, 128, 129, 130] (by decide +kernel) (by decide +kernel)
set_option maxRecDepth 20000 in
theorem gX3_drift_X3_goes : GoodIn wsX3_drift (wsV RX3 182 RX3 yX3_goes wsX3_goes) := goodIn_app (goodIn_of _ (by decide +kernel)) ggX3_drift_X3_goes
set_option maxRecDepth 20000 in
theorem ggX3_drift_X3_allRings : GoodIn wsX3_drift wsX3_allRings := goodIn_r _ [122, 4, 106, 107, 108, 7, 109, 123, 124, 125, 126, 127, 128, 129, 130] (by decide +kernel) (by decide +kernel)
set_option maxRecDepth 20000 in
theorem gX3_drift_X3_allRings : GoodIn wsX3_drift (wsV RX3 142 RX3 yX3_allRings wsX3_allRings) := goodIn_app (goodIn_of _ (by decide +kernel)) ggX3_drift_X3_allRings
theorem dX3_drift_0 : decode cX3_drift 0 = .ok (.iload_n 1, 1) := by decide +kernel
theorem dX3_drift_1 : decode cX3_drift 1 = .ok (.i2l, 1) := by decide +kernel
theorem dX3_drift_2 : decode cX3_drift 2 = .ok (.lconst 1, 1) := by decide +kernel
theorem dX3_drift_3 : decode cX3_drift 3 = .ok (.ldc2_w 31, 3) := by decide +kernel
theorem dX3_drift_6 : decode cX3_drift 6 = .ok (.invokestatic 157, 3) := by decide +kernel
theorem dX3_drift_9 : decode cX3_drift 9 = .ok (.ifCond .ne 6, 3) := by decide +kernel
theorem dX3_drift_12 : decode cX3_drift 12 = .ok (.ldc 154, 2) := by decide +kernel
theorem dX3_drift_14 : decode cX3_drift 14 = .ok (.ireturn, 1) := by decide +kernel
theorem dX3_drift_15 : decode cX3_drift 15 = .ok (.iconst 0, 1) := by decide +kernel
theorem dX3_drift_16 : decode cX3_drift 16 = .ok (.istore_n 2, 1) := by decide +kernel
theorem dX3_drift_17 : decode cX3_drift 17 = .ok (.iload_n 2, 1) := by decide +kernel
theorem dX3_drift_18 : decode cX3_drift 18 = .ok (.iload_n 1, 1) := by decide +kernel
theorem dX3_drift_19 : decode cX3_drift 19 = .ok (.if_icmp .ge 87, 3) := by decide +kernel
theorem dX3_drift_22 : decode cX3_drift 22 = .ok (.aload_n 0, 1) := by decide +kernel
theorem dX3_drift_23 : decode cX3_drift 23 = .ok (.bipush 8, 2) := by decide +kernel
theorem dX3_drift_25 : decode cX3_drift 25 = .ok (.invokevirtual 223, 3) := by decide +kernel
theorem dX3_drift_28 : decode cX3_drift 28 = .ok (.lstore_n 3, 1) := by decide +kernel
theorem dX3_drift_29 : decode cX3_drift 29 = .ok (.aload_n 0, 1) := by decide +kernel
theorem dX3_drift_30 : decode cX3_drift 30 = .ok (.bipush 90, 2) := by decide +kernel
theorem dX3_drift_32 : decode cX3_drift 32 = .ok (.invokevirtual 223, 3) := by decide +kernel
theorem dX3_drift_35 : decode cX3_drift 35 = .ok (.ldc2_w 31, 3) := by decide +kernel
theorem dX3_drift_38 : decode cX3_drift 38 = .ok (.lsub, 1) := by decide +kernel
theorem dX3_drift_39 : decode cX3_drift 39 = .ok (.lstore 5, 2) := by decide +kernel
theorem dX3_drift_41 : decode cX3_drift 41 = .ok (.aload_n 0, 1) := by decide +kernel
theorem dX3_drift_42 : decode cX3_drift 42 = .ok (.sipush 1001, 3) := by decide +kernel
theorem dX3_drift_45 : decode cX3_drift 45 = .ok (.invokevirtual 223, 3) := by decide +kernel
theorem dX3_drift_48 : decode cX3_drift 48 = .ok (.ldc2_w 226, 3) := by decide +kernel
theorem dX3_drift_51 : decode cX3_drift 51 = .ok (.lsub, 1) := by decide +kernel
theorem dX3_drift_52 : decode cX3_drift 52 = .ok (.lstore 7, 2) := by decide +kernel
theorem dX3_drift_54 : decode cX3_drift 54 = .ok (.aload_n 0, 1) := by decide +kernel
theorem dX3_drift_55 : decode cX3_drift 55 = .ok (.invokevirtual 179, 3) := by decide +kernel
theorem dX3_drift_58 : decode cX3_drift 58 = .ok (.lload_n 3, 1) := by decide +kernel
theorem dX3_drift_59 : decode cX3_drift 59 = .ok (.lconst 0, 1) := by decide +kernel
theorem dX3_drift_60 : decode cX3_drift 60 = .ok (.lcmp, 1) := by decide +kernel
theorem dX3_drift_61 : decode cX3_drift 61 = .ok (.ifCond .ne 14, 3) := by decide +kernel
theorem dX3_drift_64 : decode cX3_drift 64 = .ok (.aload_n 0, 1) := by decide +kernel
theorem dX3_drift_65 : decode cX3_drift 65 = .ok (.getfield 7, 3) := by decide +kernel
theorem dX3_drift_68 : decode cX3_drift 68 = .ok (.iconst 4, 1) := by decide +kernel
theorem dX3_drift_69 : decode cX3_drift 69 = .ok (.lload 5, 2) := by decide +kernel
theorem dX3_drift_71 : decode cX3_drift 71 = .ok (.lastore, 1) := by decide +kernel
theorem dX3_drift_72 : decode cX3_drift 72 = .ok (.goto 28, 3) := by decide +kernel
theorem dX3_drift_75 : decode cX3_drift 75 = .ok (.lload_n 3, 1) := by decide +kernel
theorem dX3_drift_76 : decode cX3_drift 76 = .ok (.lconst 1, 1) := by decide +kernel
theorem dX3_drift_77 : decode cX3_drift 77 = .ok (.lcmp, 1) := by decide +kernel
theorem dX3_drift_78 : decode cX3_drift 78 = .ok (.ifCond .ne 16, 3) := by decide +kernel
theorem dX3_drift_81 : decode cX3_drift 81 = .ok (.aload_n 0, 1) := by decide +kernel
theorem dX3_drift_82 : decode cX3_drift 82 = .ok (.lload 7, 2) := by decide +kernel
theorem dX3_drift_84 : decode cX3_drift 84 = .ok (.ldc2_w 226, 3) := by decide +kernel
theorem dX3_drift_87 : decode cX3_drift 87 = .ok (.invokevirtual 200, 3) := by decide +kernel
theorem dX3_drift_90 : decode cX3_drift 90 = .ok (.pop, 1) := by decide +kernel
theorem dX3_drift_91 : decode cX3_drift 91 = .ok (.goto 9, 3) := by decide +kernel
theorem dX3_drift_94 : decode cX3_drift 94 = .ok (.aload_n 0, 1) := by decide +kernel
theorem dX3_drift_95 : decode cX3_drift 95 = .ok (.iconst 1, 1) := by decide +kernel
theorem dX3_drift_96 : decode cX3_drift 96 = .ok (.invokevirtual 182, 3) := by decide +kernel
theorem dX3_drift_99 : decode cX3_drift 99 = .ok (.pop, 1) := by decide +kernel
theorem dX3_drift_100 : decode cX3_drift 100 = .ok (.iinc 2 1, 3) := by decide +kernel
theorem dX3_drift_103 : decode cX3_drift 103 = .ok (.goto (-86), 3) := by decide +kernel
theorem dX3_drift_106 : decode cX3_drift 106 = .ok (.aload_n 0, 1) := by decide +kernel
theorem dX3_drift_107 : decode cX3_drift 107 = .ok (.invokevirtual 142, 3) := by decide +kernel
theorem dX3_drift_110 : decode cX3_drift 110 = .ok (.l2i, 1) := by decide +kernel
theorem dX3_drift_111 : decode cX3_drift 111 = .ok (.ireturn, 1) := by decide +kernel
set_option maxRecDepth 20000 in
theorem ggX3_undo_X3_in : GoodIn wsX3_undo wsX3_in := goodIn_r _ [10] (by decide +kernel) (by decide +kernel)
set_option maxRecDepth 20000 in
theorem gX3_undo_X3_in : GoodIn wsX3_undo (va_wsS RX3 157 yX3_in wsX3_in) := goodIn_app (goodIn_of _ (by decide +kernel)) ggX3_undo_X3_in
set_option maxRecDepth 20000 in
theorem ggX3_undo_X3_bring : GoodIn wsX3_undo wsX3_bring := goodIn_r _ [13] (by decide +kernel) (by decide +kernel)
set_option maxRecDepth 20000 in
theorem gX3_undo_X3_bring : GoodIn wsX3_undo (va_wsS RX3 175 yX3_bring wsX3_bring) := goodIn_app (goodIn_of _ (by decide +kernel)) ggX3_undo_X3_bring
theorem dX3_undo_0 : decode cX3_undo 0 = .ok (.iload_n 1, 1) := by decide +kernel
theorem dX3_undo_1 : decode cX3_undo 1 = .ok (.i2l, 1) := by decide +kernel
theorem dX3_undo_2 : decode cX3_undo 2 = .ok (.lconst 1, 1) := by decide +kernel
theorem dX3_undo_3 : decode cX3_undo 3 = .ok (.ldc2_w 31, 3) := by decide +kernel
theorem dX3_undo_6 : decode cX3_undo 6 = .ok (.invokestatic 157, 3) := by decide +kernel
theorem dX3_undo_9 : decode cX3_undo 9 = .ok (.ifCond .ne 6, 3) := by decide +kernel
theorem dX3_undo_12 : decode cX3_undo 12 = .ok (.ldc 154, 2) := by decide +kernel
theorem dX3_undo_14 : decode cX3_undo 14 = .ok (.ireturn, 1) := by decide +kernel
theorem dX3_undo_15 : decode cX3_undo 15 = .ok (.iload_n 1, 1) := by decide +kernel
theorem dX3_undo_16 : decode cX3_undo 16 = .ok (.aload_n 0, 1) := by decide +kernel
theorem dX3_undo_17 : decode cX3_undo 17 = .ok (.getfield 151, 3) := by decide +kernel
theorem dX3_undo_20 : decode cX3_undo 20 = .ok (.if_icmp .le 6, 3) := by decide +kernel
theorem dX3_undo_23 : decode cX3_undo 23 = .ok (.ldc 228, 2) := by decide +kernel
theorem dX3_undo_25 : decode cX3_undo 25 = .ok (.ireturn, 1) := by decide +kernel
theorem dX3_undo_26 : decode cX3_undo 26 = .ok (.aload_n 0, 1) := by decide +kernel
theorem dX3_undo_27 : decode cX3_undo 27 = .ok (.dup, 1) := by decide +kernel
theorem dX3_undo_28 : decode cX3_undo 28 = .ok (.getfield 151, 3) := by decide +kernel
theorem dX3_undo_31 : decode cX3_undo 31 = .ok (.iload_n 1, 1) := by decide +kernel
theorem dX3_undo_32 : decode cX3_undo 32 = .ok (.isub, 1) := by decide +kernel
theorem dX3_undo_33 : decode cX3_undo 33 = .ok (.putfield 151, 3) := by decide +kernel
theorem dX3_undo_36 : decode cX3_undo 36 = .ok (.aload_n 0, 1) := by decide +kernel
theorem dX3_undo_37 : decode cX3_undo 37 = .ok (.getfield 13, 3) := by decide +kernel
theorem dX3_undo_40 : decode cX3_undo 40 = .ok (.bipush 49, 2) := by decide +kernel
theorem dX3_undo_42 : decode cX3_undo 42 = .ok (.aload_n 0, 1) := by decide +kernel
theorem dX3_undo_43 : decode cX3_undo 43 = .ok (.getfield 151, 3) := by decide +kernel
theorem dX3_undo_46 : decode cX3_undo 46 = .ok (.imul, 1) := by decide +kernel
theorem dX3_undo_47 : decode cX3_undo 47 = .ok (.aload_n 0, 1) := by decide +kernel
theorem dX3_undo_48 : decode cX3_undo 48 = .ok (.getfield 7, 3) := by decide +kernel
theorem dX3_undo_51 : decode cX3_undo 51 = .ok (.iconst 0, 1) := by decide +kernel
theorem dX3_undo_52 : decode cX3_undo 52 = .ok (.bipush 49, 2) := by decide +kernel
theorem dX3_undo_54 : decode cX3_undo 54 = .ok (.invokestatic 175, 3) := by decide +kernel
theorem dX3_undo_57 : decode cX3_undo 57 = .ok (.aload_n 0, 1) := by decide +kernel
theorem dX3_undo_58 : decode cX3_undo 58 = .ok (.getfield 151, 3) := by decide +kernel
theorem dX3_undo_61 : decode cX3_undo 61 = .ok (.ireturn, 1) := by decide +kernel
set_option maxRecDepth 20000 in
theorem ggX3_evenly_X3_in : GoodIn wsX3_evenly wsX3_in := goodIn_r _ [6] (by decide +kernel) (by decide +kernel)
set_option maxRecDepth 20000 in
theorem gX3_evenly_X3_in : GoodIn wsX3_evenly (va_wsS RX3 157 yX3_in wsX3_in) := goodIn_app (goodIn_of _ (by decide +kernel)) ggX3_evenly_X3_in
theorem dX3_evenly_0 : decode cX3_evenly 0 = .ok (.iload_n 1, 1) := by decide +kernel
theorem dX3_evenly_1 : decode cX3_evenly 1 = .ok (.i2l, 1) := by decide +kernel
theorem dX3_evenly_2 : decode cX3_evenly 2 = .ok (.lconst 1, 1) := by decide +kernel
theorem dX3_evenly_3 : decode cX3_evenly 3 = .ok (.ldc2_w 196, 3) := by decide +kernel
theorem dX3_evenly_6 : decode cX3_evenly 6 = .ok (.invokestatic 157, 3) := by decide +kernel
theorem dX3_evenly_9 : decode cX3_evenly 9 = .ok (.ifCond .eq 27, 3) := by decide +kernel
theorem dX3_evenly_12 : decode cX3_evenly 12 = .ok (.iload_n 2, 1) := by decide +kernel
theorem dX3_evenly_13 : decode cX3_evenly 13 = .ok (.i2l, 1) := by decide +kernel
theorem dX3_evenly_14 : decode cX3_evenly 14 = .ok (.lconst 0, 1) := by decide +kernel
theorem dX3_evenly_15 : decode cX3_evenly 15 = .ok (.iload_n 1, 1) := by decide +kernel
theorem dX3_evenly_16 : decode cX3_evenly 16 = .ok (.i2l, 1) := by decide +kernel
theorem dX3_evenly_17 : decode cX3_evenly 17 = .ok (.invokestatic 157, 3) := by decide +kernel
theorem dX3_evenly_20 : decode cX3_evenly 20 = .ok (.ifCond .eq 16, 3) := by decide +kernel
theorem dX3_evenly_23 : decode cX3_evenly 23 = .ok (.iload_n 3, 1) := by decide +kernel
theorem dX3_evenly_24 : decode cX3_evenly 24 = .ok (.i2l, 1) := by decide +kernel
theorem dX3_evenly_25 : decode cX3_evenly 25 = .ok (.lconst 0, 1) := by decide +kernel
theorem dX3_evenly_26 : decode cX3_evenly 26 = .ok (.iload_n 1, 1) := by decide +kernel
theorem dX3_evenly_27 : decode cX3_evenly 27 = .ok (.iconst 1, 1) := by decide +kernel
theorem dX3_evenly_28 : decode cX3_evenly 28 = .ok (.isub, 1) := by decide +kernel
theorem dX3_evenly_29 : decode cX3_evenly 29 = .ok (.i2l, 1) := by decide +kernel
theorem dX3_evenly_30 : decode cX3_evenly 30 = .ok (.invokestatic 157, 3) := by decide +kernel
theorem dX3_evenly_33 : decode cX3_evenly 33 = .ok (.ifCond .ne 6, 3) := by decide +kernel
theorem dX3_evenly_36 : decode cX3_evenly 36 = .ok (.ldc 154, 2) := by decide +kernel
theorem dX3_evenly_38 : decode cX3_evenly 38 = .ok (.ireturn, 1) := by decide +kernel
theorem dX3_evenly_39 : decode cX3_evenly 39 = .ok (.iload_n 3, 1) := by decide +kernel
theorem dX3_evenly_40 : decode cX3_evenly 40 = .ok (.iload_n 2, 1) := by decide +kernel
theorem dX3_evenly_41 : decode cX3_evenly 41 = .ok (.imul, 1) := by decide +kernel
theorem dX3_evenly_42 : decode cX3_evenly 42 = .ok (.iload_n 1, 1) := by decide +kernel
theorem dX3_evenly_43 : decode cX3_evenly 43 = .ok (.irem, 1) := by decide +kernel
theorem dX3_evenly_44 : decode cX3_evenly 44 = .ok (.iload_n 2, 1) := by decide +kernel
theorem dX3_evenly_45 : decode cX3_evenly 45 = .ok (.iadd, 1) := by decide +kernel
theorem dX3_evenly_46 : decode cX3_evenly 46 = .ok (.iload_n 1, 1) := by decide +kernel
theorem dX3_evenly_47 : decode cX3_evenly 47 = .ok (.if_icmp .lt 7, 3) := by decide +kernel
theorem dX3_evenly_50 : decode cX3_evenly 50 = .ok (.iconst 1, 1) := by decide +kernel
theorem dX3_evenly_51 : decode cX3_evenly 51 = .ok (.goto 4, 3) := by decide +kernel
theorem dX3_evenly_54 : decode cX3_evenly 54 = .ok (.iconst 0, 1) := by decide +kernel
theorem dX3_evenly_55 : decode cX3_evenly 55 = .ok (.ireturn, 1) := by decide +kernel
set_option maxRecDepth 20000 in
theorem ggX3_after_X3_in : GoodIn wsX3_after wsX3_in := goodIn_r _ [6] (by decide +kernel) (by decide +kernel)
set_option maxRecDepth 20000 in
theorem gX3_after_X3_in : GoodIn wsX3_after (va_wsS RX3 157 yX3_in wsX3_in) := goodIn_app (goodIn_of _ (by decide +kernel)) ggX3_after_X3_in
set_option maxRecDepth 20000 in
theorem ggX3_after_X3_boardAfter : GoodIn wsX3_after wsX3_boardAfter := goodIn_r _ [10, 11, 12, 13, 14, 15, 5, 16, 17, 18, 19, 20, 21, 22, 23, 24, 25, 26, 27, 28, 29, 30, 31, 32, 33, 34, 35, 36, 37, 38, 39, 40, 41, 42, 43, 44, 45, 46, 47, 48, 49] (by decide +kernel) (by decide +kernel)
set_option maxRecDepth 20000 in
theorem gX3_after_X3_boardAfter : GoodIn wsX3_after (wsV RX3 92 RX3 yX3_boardAfter wsX3_boardAfter) := goodIn_app (goodIn_of _ (by decide +kernel)) ggX3_after_X3_boardAfter
theorem dX3_after_0 : decode cX3_after 0 = .ok (.iload_n 1, 1) := by decide +kernel
theorem dX3_after_1 : decode cX3_after 1 = .ok (.i2l, 1) := by decide +kernel
theorem dX3_after_2 : decode cX3_after 2 = .ok (.lconst 0, 1) := by decide +kernel
theorem dX3_after_3 : decode cX3_after 3 = .ok (.ldc2_w 132, 3) := by decide +kernel
theorem dX3_after_6 : decode cX3_after 6 = .ok (.invokestatic 157, 3) := by decide +kernel
theorem dX3_after_9 : decode cX3_after 9 = .ok (.ifCond .eq 11, 3) := by decide +kernel
theorem dX3_after_12 : decode cX3_after 12 = .ok (.aload_n 0, 1) := by decide +kernel
theorem dX3_after_13 : decode cX3_after 13 = .ok (.iload_n 1, 1) := by decide +kernel
theorem dX3_after_14 : decode cX3_after 14 = .ok (.invokevirtual 92, 3) := by decide +kernel
theorem dX3_after_17 : decode cX3_after 17 = .ok (.goto 6, 3) := by decide +kernel
theorem dX3_after_20 : decode cX3_after 20 = .ok (.ldc2_w 35, 3) := by decide +kernel
theorem dX3_after_23 : decode cX3_after 23 = .ok (.lreturn, 1) := by decide +kernel
set_option maxRecDepth 20000 in
theorem ggX3_rings_X3_in : GoodIn wsX3_rings wsX3_in := goodIn_r _ [8] (by decide +kernel) (by decide +kernel)
set_option maxRecDepth 20000 in
theorem gX3_rings_X3_in : GoodIn wsX3_rings (va_wsS RX3 157 yX3_in wsX3_in) := goodIn_app (goodIn_of _ (by decide +kernel)) ggX3_rings_X3_in
set_option maxRecDepth 20000 in
theorem ggX3_rings_X3_boardAfter : GoodIn wsX3_rings wsX3_boardAfter := goodIn_r _ [12, 3, 13, 14, 15, 16, 7, 17, 18, 19, 20, 21, 22, 23, 24, 25, 26, 27, 28, 29, 30, 31, 32, 33, 34, 35, 36, 37, 38, 39, 40, 41, 42, 67, 68, 69, 70, 71, 72, 73, 74] (by decide +kernel) (by decide +kernel)
set_option maxRecDepth 20000 in
theorem gX3_rings_X3_boardAfter : GoodIn wsX3_rings (wsV RX3 92 RX3 yX3_boardAfter wsX3_boardAfter) := goodIn_app (goodIn_of _ (by decide +kernel)) ggX3_rings_X3_boardAfter
set_option maxRecDepth 20000 in
theorem ggX3_rings_X3_ringsAt : GoodIn wsX3_rings wsX3_ringsAt := goodIn_r _ [46, 3, 67, 68, 69, 70, 71, 72, 73, 74] (by decide +kernel) (by decide +kernel)
set_option maxRecDepth 20000 in
theorem gX3_rings_X3_ringsAt : GoodIn wsX3_rings (wsV RX3 101 RX3 yX3_ringsAt wsX3_ringsAt) := goodIn_app (goodIn_of _ (by decide +kernel)) ggX3_rings_X3_ringsAt
set_option maxRecDepth 20000 in
theorem ggX3_rings_X3_between : GoodIn wsX3_rings wsX3_between := goodIn_r _ [50, 13, 51, 52, 53, 7, 54, 3, 55, 56, 57, 58, 59, 60, 61, 62, 63, 64, 65, 66, 67, 68, 69, 70, 71, 72, 73, 74] (by decide +kernel) (by decide +kernel)
set_option maxRecDepth 20000 in
theorem gX3_rings_X3_between : GoodIn wsX3_rings (wsV RX3 95 RX3 yX3_between wsX3_between) := goodIn_app (goodIn_of _ (by decide +kernel)) ggX3_rings_X3_between
set_option maxRecDepth 20000 in
theorem ggX3_rings_X3_lesser : GoodIn wsX3_rings wsX3_lesser := goodIn_r _ [42] (by decide +kernel) (by decide +kernel)
set_option maxRecDepth 20000 in
theorem gX3_rings_X3_lesser : GoodIn wsX3_rings (va_wsS RX3 59 yX3_lesser wsX3_lesser) := goodIn_app (goodIn_of _ (by decide +kernel)) ggX3_rings_X3_lesser
theorem dX3_rings_0 : decode cX3_rings 0 = .ok (.iload_n 1, 1) := by decide +kernel
theorem dX3_rings_1 : decode cX3_rings 1 = .ok (.i2l, 1) := by decide +kernel
theorem dX3_rings_2 : decode cX3_rings 2 = .ok (.lconst 0, 1) := by decide +kernel
theorem dX3_rings_3 : decode cX3_rings 3 = .ok (.ldc2_w 132, 3) := by decide +kernel
theorem dX3_rings_6 : decode cX3_rings 6 = .ok (.invokestatic 157, 3) := by decide +kernel
theorem dX3_rings_9 : decode cX3_rings 9 = .ok (.ifCond .ne 6, 3) := by decide +kernel
theorem dX3_rings_12 : decode cX3_rings 12 = .ok (.ldc 154, 2) := by decide +kernel
theorem dX3_rings_14 : decode cX3_rings 14 = .ok (.ireturn, 1) := by decide +kernel
theorem dX3_rings_15 : decode cX3_rings 15 = .ok (.aload_n 0, 1) := by decide +kernel
theorem dX3_rings_16 : decode cX3_rings 16 = .ok (.iload_n 1, 1) := by decide +kernel
theorem dX3_rings_17 : decode cX3_rings 17 = .ok (.invokevirtual 92, 3) := by decide +kernel
theorem dX3_rings_20 : decode cX3_rings 20 = .ok (.lstore_n 2, 1) := by decide +kernel
theorem dX3_rings_21 : decode cX3_rings 21 = .ok (.lconst 0, 1) := by decide +kernel
theorem dX3_rings_22 : decode cX3_rings 22 = .ok (.lstore 4, 2) := by decide +kernel
theorem dX3_rings_24 : decode cX3_rings 24 = .ok (.iconst 0, 1) := by decide +kernel
theorem dX3_rings_25 : decode cX3_rings 25 = .ok (.istore 6, 2) := by decide +kernel
theorem dX3_rings_27 : decode cX3_rings 27 = .ok (.iload 6, 2) := by decide +kernel
theorem dX3_rings_29 : decode cX3_rings 29 = .ok (.i2l, 1) := by decide +kernel
theorem dX3_rings_30 : decode cX3_rings 30 = .ok (.aload_n 0, 1) := by decide +kernel
theorem dX3_rings_31 : decode cX3_rings 31 = .ok (.getfield 7, 3) := by decide +kernel
theorem dX3_rings_34 : decode cX3_rings 34 = .ok (.bipush 24, 2) := by decide +kernel
theorem dX3_rings_36 : decode cX3_rings 36 = .ok (.laload, 1) := by decide +kernel
theorem dX3_rings_37 : decode cX3_rings 37 = .ok (.lcmp, 1) := by decide +kernel
theorem dX3_rings_38 : decode cX3_rings 38 = .ok (.ifCond .ge 34, 3) := by decide +kernel
theorem dX3_rings_41 : decode cX3_rings 41 = .ok (.lload 4, 2) := by decide +kernel
theorem dX3_rings_43 : decode cX3_rings 43 = .ok (.ldc2_w 99, 3) := by decide +kernel
theorem dX3_rings_46 : decode cX3_rings 46 = .ok (.aload_n 0, 1) := by decide +kernel
theorem dX3_rings_47 : decode cX3_rings 47 = .ok (.iload 6, 2) := by decide +kernel
theorem dX3_rings_49 : decode cX3_rings 49 = .ok (.invokevirtual 101, 3) := by decide +kernel
theorem dX3_rings_52 : decode cX3_rings 52 = .ok (.lsub, 1) := by decide +kernel
theorem dX3_rings_53 : decode cX3_rings 53 = .ok (.aload_n 0, 1) := by decide +kernel
theorem dX3_rings_54 : decode cX3_rings 54 = .ok (.iload 6, 2) := by decide +kernel
theorem dX3_rings_56 : decode cX3_rings 56 = .ok (.lload_n 2, 1) := by decide +kernel
theorem dX3_rings_57 : decode cX3_rings 57 = .ok (.invokevirtual 95, 3) := by decide +kernel
theorem dX3_rings_60 : decode cX3_rings 60 = .ok (.invokestatic 59, 3) := by decide +kernel
theorem dX3_rings_63 : decode cX3_rings 63 = .ok (.ladd, 1) := by decide +kernel
theorem dX3_rings_64 : decode cX3_rings 64 = .ok (.lstore 4, 2) := by decide +kernel
theorem dX3_rings_66 : decode cX3_rings 66 = .ok (.iinc 6 1, 3) := by decide +kernel
theorem dX3_rings_69 : decode cX3_rings 69 = .ok (.goto (-42), 3) := by decide +kernel
theorem dX3_rings_72 : decode cX3_rings 72 = .ok (.lload 4, 2) := by decide +kernel
theorem dX3_rings_74 : decode cX3_rings 74 = .ok (.l2i, 1) := by decide +kernel
theorem dX3_rings_75 : decode cX3_rings 75 = .ok (.ireturn, 1) := by decide +kernel
set_option maxRecDepth 20000 in
theorem ggX3_untilWide_X3_in : GoodIn wsX3_untilWide wsX3_in := goodIn_r _ [8] (by decide +kernel) (by decide +kernel)
set_option maxRecDepth 20000 in
theorem gX3_untilWide_X3_in : GoodIn wsX3_untilWide (va_wsS RX3 157 yX3_in wsX3_in) := goodIn_app (goodIn_of _ (by decide +kernel)) ggX3_untilWide_X3_in
set_option maxRecDepth 20000 in
theorem ggX3_untilWide_X3_wider : GoodIn wsX3_untilWide wsX3_wider := goodIn_r _ [12, 4, 13, 14, 15, 16, 17, 18, 19, 20, 21] (by decide +kernel) (by decide +kernel)
set_option maxRecDepth 20000 in
theorem gX3_untilWide_X3_wider : GoodIn wsX3_untilWide (wsV RX3 109 RX3 yX3_wider wsX3_wider) := goodIn_app (goodIn_of _ (by decide +kernel)) ggX3_untilWide_X3_wider
theorem dX3_untilWide_0 : decode cX3_untilWide 0 = .ok (.iload_n 1, 1) := by decide +kernel
theorem dX3_untilWide_1 : decode cX3_untilWide 1 = .ok (.i2l, 1) := by decide +kernel
theorem dX3_untilWide_2 : decode cX3_untilWide 2 = .ok (.lconst 0, 1) := by decide +kernel
theorem dX3_untilWide_3 : decode cX3_untilWide 3 = .ok (.ldc2_w 99, 3) := by decide +kernel
theorem dX3_untilWide_6 : decode cX3_untilWide 6 = .ok (.invokestatic 157, 3) := by decide +kernel
theorem dX3_untilWide_9 : decode cX3_untilWide 9 = .ok (.ifCond .ne 6, 3) := by decide +kernel
theorem dX3_untilWide_12 : decode cX3_untilWide 12 = .ok (.ldc 154, 2) := by decide +kernel
theorem dX3_untilWide_14 : decode cX3_untilWide 14 = .ok (.ireturn, 1) := by decide +kernel
theorem dX3_untilWide_15 : decode cX3_untilWide 15 = .ok (.ldc2_w 45, 3) := by decide +kernel
theorem dX3_untilWide_18 : decode cX3_untilWide 18 = .ok (.iload_n 1, 1) := by decide +kernel
theorem dX3_untilWide_19 : decode cX3_untilWide 19 = .ok (.i2l, 1) := by decide +kernel
theorem dX3_untilWide_20 : decode cX3_untilWide 20 = .ok (.lmul, 1) := by decide +kernel
theorem dX3_untilWide_21 : decode cX3_untilWide 21 = .ok (.aload_n 0, 1) := by decide +kernel
theorem dX3_untilWide_22 : decode cX3_untilWide 22 = .ok (.getfield 7, 3) := by decide +kernel
theorem dX3_untilWide_25 : decode cX3_untilWide 25 = .ok (.iconst 3, 1) := by decide +kernel
theorem dX3_untilWide_26 : decode cX3_untilWide 26 = .ok (.laload, 1) := by decide +kernel
theorem dX3_untilWide_27 : decode cX3_untilWide 27 = .ok (.lsub, 1) := by decide +kernel
theorem dX3_untilWide_28 : decode cX3_untilWide 28 = .ok (.lstore_n 2, 1) := by decide +kernel
theorem dX3_untilWide_29 : decode cX3_untilWide 29 = .ok (.lload_n 2, 1) := by decide +kernel
theorem dX3_untilWide_30 : decode cX3_untilWide 30 = .ok (.lconst 0, 1) := by decide +kernel
theorem dX3_untilWide_31 : decode cX3_untilWide 31 = .ok (.lcmp, 1) := by decide +kernel
theorem dX3_untilWide_32 : decode cX3_untilWide 32 = .ok (.ifCond .ge 5, 3) := by decide +kernel
theorem dX3_untilWide_35 : decode cX3_untilWide 35 = .ok (.iconst 0, 1) := by decide +kernel
theorem dX3_untilWide_36 : decode cX3_untilWide 36 = .ok (.ireturn, 1) := by decide +kernel
theorem dX3_untilWide_37 : decode cX3_untilWide 37 = .ok (.aload_n 0, 1) := by decide +kernel
theorem dX3_untilWide_38 : decode cX3_untilWide 38 = .ok (.invokevirtual 109, 3) := by decide +kernel
theorem dX3_untilWide_41 : decode cX3_untilWide 41 = .ok (.lconst 0, 1) := by decide +kernel
theorem dX3_untilWide_42 : decode cX3_untilWide 42 = .ok (.lcmp, 1) := by decide +kernel
theorem dX3_untilWide_43 : decode cX3_untilWide 43 = .ok (.ifCond .ne 7, 3) := by decide +kernel
theorem dX3_untilWide_46 : decode cX3_untilWide 46 = .ok (.iconst (-1), 1) := by decide +kernel
theorem dX3_untilWide_47 : decode cX3_untilWide 47 = .ok (.goto 12, 3) := by decide +kernel
theorem dX3_untilWide_50 : decode cX3_untilWide 50 = .ok (.lload_n 2, 1) := by decide +kernel
theorem dX3_untilWide_51 : decode cX3_untilWide 51 = .ok (.aload_n 0, 1) := by decide +kernel
theorem dX3_untilWide_52 : decode cX3_untilWide 52 = .ok (.invokevirtual 109, 3) := by decide +kernel
theorem dX3_untilWide_55 : decode cX3_untilWide 55 = .ok (.ldiv, 1) := by decide +kernel
theorem dX3_untilWide_56 : decode cX3_untilWide 56 = .ok (.l2i, 1) := by decide +kernel
theorem dX3_untilWide_57 : decode cX3_untilWide 57 = .ok (.iconst 1, 1) := by decide +kernel
theorem dX3_untilWide_58 : decode cX3_untilWide 58 = .ok (.iadd, 1) := by decide +kernel
theorem dX3_untilWide_59 : decode cX3_untilWide 59 = .ok (.ireturn, 1) := by decide +kernel
theorem dX3_write_0 : decode cX3_write 0 = .ok (.aload_n 0, 1) := by decide +kernel
theorem dX3_write_1 : decode cX3_write 1 = .ok (.getfield 134, 3) := by decide +kernel
theorem dX3_write_4 : decode cX3_write 4 = .ok (.bipush 20, 2) := by decide +kernel
theorem dX3_write_6 : decode cX3_write 6 = .ok (.if_icmp .ne 6, 3) := by decide +kernel
theorem dX3_write_9 : decode cX3_write 9 = .ok (.ldc 210, 2) := by decide +kernel
theorem dX3_write_11 : decode cX3_write 11 = .ok (.ireturn, 1) := by decide +kernel
theorem dX3_write_12 : decode cX3_write 12 = .ok (.aload_n 0, 1) := by decide +kernel
theorem dX3_write_13 : decode cX3_write 13 = .ok (.getfield 23, 3) := by decide +kernel
theorem dX3_write_16 : decode cX3_write 16 = .ok (.aload_n 0, 1) := by decide +kernel
theorem dX3_write_17 : decode cX3_write 17 = .ok (.getfield 134, 3) := by decide +kernel
theorem dX3_write_20 : decode cX3_write 20 = .ok (.iload_n 1, 1) := by decide +kernel
theorem dX3_write_21 : decode cX3_write 21 = .ok (.iastore, 1) := by decide +kernel
theorem dX3_write_22 : decode cX3_write 22 = .ok (.aload_n 0, 1) := by decide +kernel
theorem dX3_write_23 : decode cX3_write 23 = .ok (.dup, 1) := by decide +kernel
theorem dX3_write_24 : decode cX3_write 24 = .ok (.getfield 134, 3) := by decide +kernel
theorem dX3_write_27 : decode cX3_write 27 = .ok (.iconst 1, 1) := by decide +kernel
theorem dX3_write_28 : decode cX3_write 28 = .ok (.iadd, 1) := by decide +kernel
theorem dX3_write_29 : decode cX3_write 29 = .ok (.putfield 134, 3) := by decide +kernel
theorem dX3_write_32 : decode cX3_write 32 = .ok (.aload_n 0, 1) := by decide +kernel
theorem dX3_write_33 : decode cX3_write 33 = .ok (.getfield 134, 3) := by decide +kernel
theorem dX3_write_36 : decode cX3_write 36 = .ok (.ireturn, 1) := by decide +kernel
theorem dX3_tear_0 : decode cX3_tear 0 = .ok (.aload_n 0, 1) := by decide +kernel
theorem dX3_tear_1 : decode cX3_tear 1 = .ok (.getfield 134, 3) := by decide +kernel
theorem dX3_tear_4 : decode cX3_tear 4 = .ok (.istore_n 1, 1) := by decide +kernel
theorem dX3_tear_5 : decode cX3_tear 5 = .ok (.aload_n 0, 1) := by decide +kernel
theorem dX3_tear_6 : decode cX3_tear 6 = .ok (.iconst 0, 1) := by decide +kernel
theorem dX3_tear_7 : decode cX3_tear 7 = .ok (.putfield 134, 3) := by decide +kernel
theorem dX3_tear_10 : decode cX3_tear 10 = .ok (.iload_n 1, 1) := by decide +kernel
theorem dX3_tear_11 : decode cX3_tear 11 = .ok (.ireturn, 1) := by decide +kernel
theorem dX3_seed_0 : decode cX3_seed 0 = .ok (.iload_n 1, 1) := by decide +kernel
theorem dX3_seed_1 : decode cX3_seed 1 = .ok (.ifCond .ge 6, 3) := by decide +kernel
theorem dX3_seed_4 : decode cX3_seed 4 = .ok (.ldc 154, 2) := by decide +kernel
theorem dX3_seed_6 : decode cX3_seed 6 = .ok (.ireturn, 1) := by decide +kernel
theorem dX3_seed_7 : decode cX3_seed 7 = .ok (.aload_n 0, 1) := by decide +kernel
theorem dX3_seed_8 : decode cX3_seed 8 = .ok (.getfield 211, 3) := by decide +kernel
theorem dX3_seed_11 : decode cX3_seed 11 = .ok (.l2i, 1) := by decide +kernel
theorem dX3_seed_12 : decode cX3_seed 12 = .ok (.istore_n 2, 1) := by decide +kernel
theorem dX3_seed_13 : decode cX3_seed 13 = .ok (.aload_n 0, 1) := by decide +kernel
theorem dX3_seed_14 : decode cX3_seed 14 = .ok (.iload_n 1, 1) := by decide +kernel
theorem dX3_seed_15 : decode cX3_seed 15 = .ok (.i2l, 1) := by decide +kernel
theorem dX3_seed_16 : decode cX3_seed 16 = .ok (.putfield 211, 3) := by decide +kernel
theorem dX3_seed_19 : decode cX3_seed 19 = .ok (.iload_n 2, 1) := by decide +kernel
theorem dX3_seed_20 : decode cX3_seed 20 = .ok (.ireturn, 1) := by decide +kernel
set_option maxRecDepth 20000 in
theorem ggX3_keep_X3_in : GoodIn wsX3_keep wsX3_in := goodIn_r _ [10] (by decide +kernel) (by decide +kernel)
set_option maxRecDepth 20000 in
theorem gX3_keep_X3_in : GoodIn wsX3_keep (va_wsS RX3 157 yX3_in wsX3_in) := goodIn_app (goodIn_of _ (by decide +kernel)) ggX3_keep_X3_in
set_option maxRecDepth 20000 in
theorem ggX3_keep_X3_bring : GoodIn wsX3_keep wsX3_bring := goodIn_r _ [13] (by decide +kernel) (by decide +kernel)
set_option maxRecDepth 20000 in
theorem gX3_keep_X3_bring : GoodIn wsX3_keep (va_wsS RX3 175 yX3_bring wsX3_bring) := goodIn_app (goodIn_of _ (by decide +kernel)) ggX3_keep_X3_bring
theorem dX3_keep_0 : decode cX3_keep 0 = .ok (.iload_n 1, 1) := by decide +kernel
theorem dX3_keep_1 : decode cX3_keep 1 = .ok (.i2l, 1) := by decide +kernel
theorem dX3_keep_2 : decode cX3_keep 2 = .ok (.lconst 0, 1) := by decide +kernel
theorem dX3_keep_3 : decode cX3_keep 3 = .ok (.lconst 1, 1) := by decide +kernel
theorem dX3_keep_4 : decode cX3_keep 4 = .ok (.invokestatic 157, 3) := by decide +kernel
theorem dX3_keep_7 : decode cX3_keep 7 = .ok (.ifCond .ne 6, 3) := by decide +kernel
theorem dX3_keep_10 : decode cX3_keep 10 = .ok (.ldc 161, 2) := by decide +kernel
theorem dX3_keep_12 : decode cX3_keep 12 = .ok (.ireturn, 1) := by decide +kernel
theorem dX3_keep_13 : decode cX3_keep 13 = .ok (.aload_n 0, 1) := by decide +kernel
theorem dX3_keep_14 : decode cX3_keep 14 = .ok (.getfield 19, 3) := by decide +kernel
theorem dX3_keep_17 : decode cX3_keep 17 = .ok (.iload_n 1, 1) := by decide +kernel
theorem dX3_keep_18 : decode cX3_keep 18 = .ok (.iconst 1, 1) := by decide +kernel
theorem dX3_keep_19 : decode cX3_keep 19 = .ok (.bastore, 1) := by decide +kernel
theorem dX3_keep_20 : decode cX3_keep 20 = .ok (.aload_n 0, 1) := by decide +kernel
theorem dX3_keep_21 : decode cX3_keep 21 = .ok (.getfield 7, 3) := by decide +kernel
theorem dX3_keep_24 : decode cX3_keep 24 = .ok (.iconst 0, 1) := by decide +kernel
theorem dX3_keep_25 : decode cX3_keep 25 = .ok (.aload_n 0, 1) := by decide +kernel
theorem dX3_keep_26 : decode cX3_keep 26 = .ok (.getfield 16, 3) := by decide +kernel
theorem dX3_keep_29 : decode cX3_keep 29 = .ok (.bipush 50, 2) := by decide +kernel
theorem dX3_keep_31 : decode cX3_keep 31 = .ok (.iload_n 1, 1) := by decide +kernel
theorem dX3_keep_32 : decode cX3_keep 32 = .ok (.imul, 1) := by decide +kernel
theorem dX3_keep_33 : decode cX3_keep 33 = .ok (.bipush 49, 2) := by decide +kernel
theorem dX3_keep_35 : decode cX3_keep 35 = .ok (.invokestatic 175, 3) := by decide +kernel
theorem dX3_keep_38 : decode cX3_keep 38 = .ok (.aload_n 0, 1) := by decide +kernel
theorem dX3_keep_39 : decode cX3_keep 39 = .ok (.getfield 16, 3) := by decide +kernel
theorem dX3_keep_42 : decode cX3_keep 42 = .ok (.bipush 50, 2) := by decide +kernel
theorem dX3_keep_44 : decode cX3_keep 44 = .ok (.iload_n 1, 1) := by decide +kernel
theorem dX3_keep_45 : decode cX3_keep 45 = .ok (.imul, 1) := by decide +kernel
theorem dX3_keep_46 : decode cX3_keep 46 = .ok (.bipush 49, 2) := by decide +kernel
theorem dX3_keep_48 : decode cX3_keep 48 = .ok (.iadd, 1) := by decide +kernel
theorem dX3_keep_49 : decode cX3_keep 49 = .ok (.aload_n 0, 1) := by decide +kernel
theorem dX3_keep_50 : decode cX3_keep 50 = .ok (.getfield 211, 3) := by decide +kernel
theorem dX3_keep_53 : decode cX3_keep 53 = .ok (.lastore, 1) := by decide +kernel
theorem dX3_keep_54 : decode cX3_keep 54 = .ok (.aload_n 0, 1) := by decide +kernel
theorem dX3_keep_55 : decode cX3_keep 55 = .ok (.iconst 0, 1) := by decide +kernel
theorem dX3_keep_56 : decode cX3_keep 56 = .ok (.putfield 151, 3) := by decide +kernel
theorem dX3_keep_59 : decode cX3_keep 59 = .ok (.iconst 1, 1) := by decide +kernel
theorem dX3_keep_60 : decode cX3_keep 60 = .ok (.ireturn, 1) := by decide +kernel
set_option maxRecDepth 20000 in
theorem ggX3_goBack_X3_in : GoodIn wsX3_goBack wsX3_in := goodIn_r _ [11] (by decide +kernel) (by decide +kernel)
set_option maxRecDepth 20000 in
theorem gX3_goBack_X3_in : GoodIn wsX3_goBack (va_wsS RX3 157 yX3_in wsX3_in) := goodIn_app (goodIn_of _ (by decide +kernel)) ggX3_goBack_X3_in
set_option maxRecDepth 20000 in
theorem ggX3_goBack_X3_bring : GoodIn wsX3_goBack wsX3_bring := goodIn_r _ [14] (by decide +kernel) (by decide +kernel)
set_option maxRecDepth 20000 in
theorem gX3_goBack_X3_bring : GoodIn wsX3_goBack (va_wsS RX3 175 yX3_bring wsX3_bring) := goodIn_app (goodIn_of _ (by decide +kernel)) ggX3_goBack_X3_bring
theorem dX3_goBack_0 : decode cX3_goBack 0 = .ok (.iload_n 1, 1) := by decide +kernel
theorem dX3_goBack_1 : decode cX3_goBack 1 = .ok (.i2l, 1) := by decide +kernel
theorem dX3_goBack_2 : decode cX3_goBack 2 = .ok (.lconst 0, 1) := by decide +kernel
theorem dX3_goBack_3 : decode cX3_goBack 3 = .ok (.lconst 1, 1) := by decide +kernel
theorem dX3_goBack_4 : decode cX3_goBack 4 = .ok (.invokestatic 157, 3) := by decide +kernel
theorem dX3_goBack_7 : decode cX3_goBack 7 = .ok (.ifCond .ne 6, 3) := by decide +kernel
theorem dX3_goBack_10 : decode cX3_goBack 10 = .ok (.ldc 161, 2) := by decide +kernel
theorem dX3_goBack_12 : decode cX3_goBack 12 = .ok (.ireturn, 1) := by decide +kernel
theorem dX3_goBack_13 : decode cX3_goBack 13 = .ok (.aload_n 0, 1) := by decide +kernel
theorem dX3_goBack_14 : decode cX3_goBack 14 = .ok (.getfield 19, 3) := by decide +kernel
theorem dX3_goBack_17 : decode cX3_goBack 17 = .ok (.iload_n 1, 1) := by decide +kernel
theorem dX3_goBack_18 : decode cX3_goBack 18 = .ok (.baload, 1) := by decide +kernel
theorem dX3_goBack_19 : decode cX3_goBack 19 = .ok (.ifCond .ne 6, 3) := by decide +kernel
theorem dX3_goBack_22 : decode cX3_goBack 22 = .ok (.ldc 228, 2) := by decide +kernel
theorem dX3_goBack_24 : decode cX3_goBack 24 = .ok (.ireturn, 1) := by decide +kernel
theorem dX3_goBack_25 : decode cX3_goBack 25 = .ok (.aload_n 0, 1) := by decide +kernel
theorem dX3_goBack_26 : decode cX3_goBack 26 = .ok (.getfield 16, 3) := by decide +kernel
theorem dX3_goBack_29 : decode cX3_goBack 29 = .ok (.bipush 50, 2) := by decide +kernel
theorem dX3_goBack_31 : decode cX3_goBack 31 = .ok (.iload_n 1, 1) := by decide +kernel
theorem dX3_goBack_32 : decode cX3_goBack 32 = .ok (.imul, 1) := by decide +kernel
theorem dX3_goBack_33 : decode cX3_goBack 33 = .ok (.aload_n 0, 1) := by decide +kernel
theorem dX3_goBack_34 : decode cX3_goBack 34 = .ok (.getfield 7, 3) := by decide +kernel
theorem dX3_goBack_37 : decode cX3_goBack 37 = .ok (.iconst 0, 1) := by decide +kernel
theorem dX3_goBack_38 : decode cX3_goBack 38 = .ok (.bipush 49, 2) := by decide +kernel
theorem dX3_goBack_40 : decode cX3_goBack 40 = .ok (.invokestatic 175, 3) := by decide +kernel
theorem dX3_goBack_43 : decode cX3_goBack 43 = .ok (.aload_n 0, 1) := by decide +kernel
theorem dX3_goBack_44 : decode cX3_goBack 44 = .ok (.aload_n 0, 1) := by decide +kernel
theorem dX3_goBack_45 : decode cX3_goBack 45 = .ok (.getfield 16, 3) := by decide +kernel
theorem dX3_goBack_48 : decode cX3_goBack 48 = .ok (.bipush 50, 2) := by decide +kernel
theorem dX3_goBack_50 : decode cX3_goBack 50 = .ok (.iload_n 1, 1) := by decide +kernel
theorem dX3_goBack_51 : decode cX3_goBack 51 = .ok (.imul, 1) := by decide +kernel
theorem dX3_goBack_52 : decode cX3_goBack 52 = .ok (.bipush 49, 2) := by decide +kernel
theorem dX3_goBack_54 : decode cX3_goBack 54 = .ok (.iadd, 1) := by decide +kernel
theorem dX3_goBack_55 : decode cX3_goBack 55 = .ok (.laload, 1) := by decide +kernel
theorem dX3_goBack_56 : decode cX3_goBack 56 = .ok (.putfield 211, 3) := by decide +kernel
theorem dX3_goBack_59 : decode cX3_goBack 59 = .ok (.aload_n 0, 1) := by decide +kernel
theorem dX3_goBack_60 : decode cX3_goBack 60 = .ok (.iconst 0, 1) := by decide +kernel
theorem dX3_goBack_61 : decode cX3_goBack 61 = .ok (.putfield 151, 3) := by decide +kernel
theorem dX3_goBack_64 : decode cX3_goBack 64 = .ok (.iconst 1, 1) := by decide +kernel
theorem dX3_goBack_65 : decode cX3_goBack 65 = .ok (.ireturn, 1) := by decide +kernel
theorem dJ9_floorDiv_f86c9_0 : decode cJ9_floorDiv_f86c9 0 = .ok (.lload_n 0, 1) := by decide +kernel
theorem dJ9_floorDiv_f86c9_1 : decode cJ9_floorDiv_f86c9 1 = .ok (.lload_n 2, 1) := by decide +kernel
theorem dJ9_floorDiv_f86c9_2 : decode cJ9_floorDiv_f86c9 2 = .ok (.ldiv, 1) := by decide +kernel
theorem dJ9_floorDiv_f86c9_3 : decode cJ9_floorDiv_f86c9 3 = .ok (.lstore 4, 2) := by decide +kernel
theorem dJ9_floorDiv_f86c9_5 : decode cJ9_floorDiv_f86c9 5 = .ok (.lload_n 0, 1) := by decide +kernel
theorem dJ9_floorDiv_f86c9_6 : decode cJ9_floorDiv_f86c9 6 = .ok (.lload_n 2, 1) := by decide +kernel
theorem dJ9_floorDiv_f86c9_7 : decode cJ9_floorDiv_f86c9 7 = .ok (.lxor, 1) := by decide +kernel
theorem dJ9_floorDiv_f86c9_8 : decode cJ9_floorDiv_f86c9 8 = .ok (.lconst 0, 1) := by decide +kernel
theorem dJ9_floorDiv_f86c9_9 : decode cJ9_floorDiv_f86c9 9 = .ok (.lcmp, 1) := by decide +kernel
theorem dJ9_floorDiv_f86c9_10 : decode cJ9_floorDiv_f86c9 10 = .ok (.ifCond .ge 17, 3) := by decide +kernel
theorem dJ9_floorDiv_f86c9_13 : decode cJ9_floorDiv_f86c9 13 = .ok (.lload 4, 2) := by decide +kernel
theorem dJ9_floorDiv_f86c9_15 : decode cJ9_floorDiv_f86c9 15 = .ok (.lload_n 2, 1) := by decide +kernel
theorem dJ9_floorDiv_f86c9_16 : decode cJ9_floorDiv_f86c9 16 = .ok (.lmul, 1) := by decide +kernel
theorem dJ9_floorDiv_f86c9_17 : decode cJ9_floorDiv_f86c9 17 = .ok (.lload_n 0, 1) := by decide +kernel
theorem dJ9_floorDiv_f86c9_18 : decode cJ9_floorDiv_f86c9 18 = .ok (.lcmp, 1) := by decide +kernel
theorem dJ9_floorDiv_f86c9_19 : decode cJ9_floorDiv_f86c9 19 = .ok (.ifCond .eq 8, 3) := by decide +kernel
theorem dJ9_floorDiv_f86c9_22 : decode cJ9_floorDiv_f86c9 22 = .ok (.lload 4, 2) := by decide +kernel
theorem dJ9_floorDiv_f86c9_24 : decode cJ9_floorDiv_f86c9 24 = .ok (.lconst 1, 1) := by decide +kernel
theorem dJ9_floorDiv_f86c9_25 : decode cJ9_floorDiv_f86c9 25 = .ok (.lsub, 1) := by decide +kernel
theorem dJ9_floorDiv_f86c9_26 : decode cJ9_floorDiv_f86c9 26 = .ok (.lreturn, 1) := by decide +kernel
theorem dJ9_floorDiv_f86c9_27 : decode cJ9_floorDiv_f86c9 27 = .ok (.lload 4, 2) := by decide +kernel
theorem dJ9_floorDiv_f86c9_29 : decode cJ9_floorDiv_f86c9 29 = .ok (.lreturn, 1) := by decide +kernel
theorem dJ9_floorMod_7cf53_0 : decode cJ9_floorMod_7cf53 0 = .ok (.iload_n 0, 1) := by decide +kernel
theorem dJ9_floorMod_7cf53_1 : decode cJ9_floorMod_7cf53 1 = .ok (.iload_n 1, 1) := by decide +kernel
theorem dJ9_floorMod_7cf53_2 : decode cJ9_floorMod_7cf53 2 = .ok (.irem, 1) := by decide +kernel
theorem dJ9_floorMod_7cf53_3 : decode cJ9_floorMod_7cf53 3 = .ok (.istore_n 2, 1) := by decide +kernel
theorem dJ9_floorMod_7cf53_4 : decode cJ9_floorMod_7cf53 4 = .ok (.iload_n 0, 1) := by decide +kernel
theorem dJ9_floorMod_7cf53_5 : decode cJ9_floorMod_7cf53 5 = .ok (.iload_n 1, 1) := by decide +kernel
theorem dJ9_floorMod_7cf53_6 : decode cJ9_floorMod_7cf53 6 = .ok (.ixor, 1) := by decide +kernel
theorem dJ9_floorMod_7cf53_7 : decode cJ9_floorMod_7cf53 7 = .ok (.ifCond .ge 11, 3) := by decide +kernel
theorem dJ9_floorMod_7cf53_10 : decode cJ9_floorMod_7cf53 10 = .ok (.iload_n 2, 1) := by decide +kernel
theorem dJ9_floorMod_7cf53_11 : decode cJ9_floorMod_7cf53 11 = .ok (.ifCond .eq 7, 3) := by decide +kernel
theorem dJ9_floorMod_7cf53_14 : decode cJ9_floorMod_7cf53 14 = .ok (.iload_n 2, 1) := by decide +kernel
theorem dJ9_floorMod_7cf53_15 : decode cJ9_floorMod_7cf53 15 = .ok (.iload_n 1, 1) := by decide +kernel
theorem dJ9_floorMod_7cf53_16 : decode cJ9_floorMod_7cf53 16 = .ok (.iadd, 1) := by decide +kernel
theorem dJ9_floorMod_7cf53_17 : decode cJ9_floorMod_7cf53 17 = .ok (.ireturn, 1) := by decide +kernel
theorem dJ9_floorMod_7cf53_18 : decode cJ9_floorMod_7cf53 18 = .ok (.iload_n 2, 1) := by decide +kernel
theorem dJ9_floorMod_7cf53_19 : decode cJ9_floorMod_7cf53 19 = .ok (.ireturn, 1) := by decide +kernel
theorem dJ9_floorMod_f86c9_0 : decode cJ9_floorMod_f86c9 0 = .ok (.lload_n 0, 1) := by decide +kernel
theorem dJ9_floorMod_f86c9_1 : decode cJ9_floorMod_f86c9 1 = .ok (.lload_n 2, 1) := by decide +kernel
theorem dJ9_floorMod_f86c9_2 : decode cJ9_floorMod_f86c9 2 = .ok (.lrem, 1) := by decide +kernel
theorem dJ9_floorMod_f86c9_3 : decode cJ9_floorMod_f86c9 3 = .ok (.lstore 4, 2) := by decide +kernel
theorem dJ9_floorMod_f86c9_5 : decode cJ9_floorMod_f86c9 5 = .ok (.lload_n 0, 1) := by decide +kernel
theorem dJ9_floorMod_f86c9_6 : decode cJ9_floorMod_f86c9 6 = .ok (.lload_n 2, 1) := by decide +kernel
theorem dJ9_floorMod_f86c9_7 : decode cJ9_floorMod_f86c9 7 = .ok (.lxor, 1) := by decide +kernel
theorem dJ9_floorMod_f86c9_8 : decode cJ9_floorMod_f86c9 8 = .ok (.lconst 0, 1) := by decide +kernel
theorem dJ9_floorMod_f86c9_9 : decode cJ9_floorMod_f86c9 9 = .ok (.lcmp, 1) := by decide +kernel
theorem dJ9_floorMod_f86c9_10 : decode cJ9_floorMod_f86c9 10 = .ok (.ifCond .ge 15, 3) := by decide +kernel
theorem dJ9_floorMod_f86c9_13 : decode cJ9_floorMod_f86c9 13 = .ok (.lload 4, 2) := by decide +kernel
theorem dJ9_floorMod_f86c9_15 : decode cJ9_floorMod_f86c9 15 = .ok (.lconst 0, 1) := by decide +kernel
theorem dJ9_floorMod_f86c9_16 : decode cJ9_floorMod_f86c9 16 = .ok (.lcmp, 1) := by decide +kernel
theorem dJ9_floorMod_f86c9_17 : decode cJ9_floorMod_f86c9 17 = .ok (.ifCond .eq 8, 3) := by decide +kernel
theorem dJ9_floorMod_f86c9_20 : decode cJ9_floorMod_f86c9 20 = .ok (.lload 4, 2) := by decide +kernel
theorem dJ9_floorMod_f86c9_22 : decode cJ9_floorMod_f86c9 22 = .ok (.lload_n 2, 1) := by decide +kernel
theorem dJ9_floorMod_f86c9_23 : decode cJ9_floorMod_f86c9 23 = .ok (.ladd, 1) := by decide +kernel
theorem dJ9_floorMod_f86c9_24 : decode cJ9_floorMod_f86c9 24 = .ok (.lreturn, 1) := by decide +kernel
theorem dJ9_floorMod_f86c9_25 : decode cJ9_floorMod_f86c9 25 = .ok (.lload 4, 2) := by decide +kernel
theorem dJ9_floorMod_f86c9_27 : decode cJ9_floorMod_f86c9 27 = .ok (.lreturn, 1) := by decide +kernel
theorem dJ9_abs_067f4_0 : decode cJ9_abs_067f4 0 = .ok (.lload_n 0, 1) := by decide +kernel
theorem dJ9_abs_067f4_1 : decode cJ9_abs_067f4 1 = .ok (.lconst 0, 1) := by decide +kernel
theorem dJ9_abs_067f4_2 : decode cJ9_abs_067f4 2 = .ok (.lcmp, 1) := by decide +kernel
theorem dJ9_abs_067f4_3 : decode cJ9_abs_067f4 3 = .ok (.ifCond .ge 8, 3) := by decide +kernel
theorem dJ9_abs_067f4_6 : decode cJ9_abs_067f4 6 = .ok (.lload_n 0, 1) := by decide +kernel
theorem dJ9_abs_067f4_7 : decode cJ9_abs_067f4 7 = .ok (.lneg, 1) := by decide +kernel
theorem dJ9_abs_067f4_8 : decode cJ9_abs_067f4 8 = .ok (.goto 4, 3) := by decide +kernel
theorem dJ9_abs_067f4_11 : decode cJ9_abs_067f4 11 = .ok (.lload_n 0, 1) := by decide +kernel
theorem dJ9_abs_067f4_12 : decode cJ9_abs_067f4 12 = .ok (.lreturn, 1) := by decide +kernel
theorem dJ9_max_f86c9_0 : decode cJ9_max_f86c9 0 = .ok (.lload_n 0, 1) := by decide +kernel
theorem dJ9_max_f86c9_1 : decode cJ9_max_f86c9 1 = .ok (.lload_n 2, 1) := by decide +kernel
theorem dJ9_max_f86c9_2 : decode cJ9_max_f86c9 2 = .ok (.lcmp, 1) := by decide +kernel
theorem dJ9_max_f86c9_3 : decode cJ9_max_f86c9 3 = .ok (.ifCond .lt 7, 3) := by decide +kernel
theorem dJ9_max_f86c9_6 : decode cJ9_max_f86c9 6 = .ok (.lload_n 0, 1) := by decide +kernel
theorem dJ9_max_f86c9_7 : decode cJ9_max_f86c9 7 = .ok (.goto 4, 3) := by decide +kernel
theorem dJ9_max_f86c9_10 : decode cJ9_max_f86c9 10 = .ok (.lload_n 2, 1) := by decide +kernel
theorem dJ9_max_f86c9_11 : decode cJ9_max_f86c9 11 = .ok (.lreturn, 1) := by decide +kernel
theorem dJ9_min_7cf53_0 : decode cJ9_min_7cf53 0 = .ok (.iload_n 0, 1) := by decide +kernel
theorem dJ9_min_7cf53_1 : decode cJ9_min_7cf53 1 = .ok (.iload_n 1, 1) := by decide +kernel
theorem dJ9_min_7cf53_2 : decode cJ9_min_7cf53 2 = .ok (.if_icmp .gt 7, 3) := by decide +kernel
theorem dJ9_min_7cf53_5 : decode cJ9_min_7cf53 5 = .ok (.iload_n 0, 1) := by decide +kernel
theorem dJ9_min_7cf53_6 : decode cJ9_min_7cf53 6 = .ok (.goto 4, 3) := by decide +kernel
theorem dJ9_min_7cf53_9 : decode cJ9_min_7cf53 9 = .ok (.iload_n 1, 1) := by decide +kernel
theorem dJ9_min_7cf53_10 : decode cJ9_min_7cf53 10 = .ok (.ireturn, 1) := by decide +kernel
theorem dJ9_min_f86c9_0 : decode cJ9_min_f86c9 0 = .ok (.lload_n 0, 1) := by decide +kernel
theorem dJ9_min_f86c9_1 : decode cJ9_min_f86c9 1 = .ok (.lload_n 2, 1) := by decide +kernel
theorem dJ9_min_f86c9_2 : decode cJ9_min_f86c9 2 = .ok (.lcmp, 1) := by decide +kernel
theorem dJ9_min_f86c9_3 : decode cJ9_min_f86c9 3 = .ok (.ifCond .gt 7, 3) := by decide +kernel
theorem dJ9_min_f86c9_6 : decode cJ9_min_f86c9 6 = .ok (.lload_n 0, 1) := by decide +kernel
theorem dJ9_min_f86c9_7 : decode cJ9_min_f86c9 7 = .ok (.goto 4, 3) := by decide +kernel
theorem dJ9_min_f86c9_10 : decode cJ9_min_f86c9 10 = .ok (.lload_n 2, 1) := by decide +kernel
theorem dJ9_min_f86c9_11 : decode cJ9_min_f86c9 11 = .ok (.lreturn, 1) := by decide +kernel
abbrev vwCl : List vw_C := [(RX0, TX0, 5), (RX1, TX1, 18), (RX2, TX2, 10), (RX3, TX3, 8)]
end
section
/-! values of the class's objects: alarms, a state, the clock; of the reference -/
abbrev zc_G : Type := va_G × (Nat → ClassId)
abbrev zc_Q : Type := Int32 × (Nat → Nat → Int32)
abbrev zc_S : Type := (Nat → Int64) × (Nat → Int32) × (Nat → Int32) × zc_Q
abbrev zc_B : Type := (Nat → Int32) × (Nat → Nat → Int32) × zc_S × (Nat → zc_S)
abbrev zc_M : Type := (Nat → Nat → Int64) × (Nat → Nat → Int32) × (Nat → Int32) × Int64
def zc_qn (q : zc_Q) (x : Int32) : zc_Q := (x, q.2)
def zc_qa (q : zc_Q) (k i : Nat) (x : Int32) : zc_Q := (q.1, va_up q.2 k (upd (q.2 k) i x))
def zc_qf (q : zc_Q) (k : Nat) (f : Nat → Int32) : zc_Q := (q.1, va_up q.2 k f)
def zc_sL (v : zc_S) (k : Nat) (x : Int64) : zc_S := (vp_updL v.1 k x, v.2.1, v.2.2.1, v.2.2.2)
def zc_sI (v : zc_S) (k : Nat) (x : Int32) : zc_S := (v.1, upd v.2.1 k x, v.2.2.1, v.2.2.2)
def zc_sa (v : zc_S) (i : Nat) (x : Int32) : zc_S := (v.1, v.2.1, upd v.2.2.1 i x, v.2.2.2)
def zc_sf (v : zc_S) (f : Nat → Int32) : zc_S := (v.1, v.2.1, f, v.2.2.2)
def zc_sq (v : zc_S) (q : zc_Q) : zc_S := (v.1, v.2.1, v.2.2.1, q)
def zc_bI (b : zc_B) (k : Nat) (x : Int32) : zc_B := (upd b.1 k x, b.2.1, b.2.2.1, b.2.2.2)
def zc_ba (b : zc_B) (k i : Nat) (x : Int32) : zc_B := (b.1, va_up b.2.1 k (upd (b.2.1 k) i x), b.2.2.1, b.2.2.2)
def zc_bs (b : zc_B) (v : zc_S) : zc_B := (b.1, b.2.1, v, b.2.2.2)
def zc_bp (b : zc_B) (k : Nat) (v : zc_S) : zc_B := (b.1, b.2.1, b.2.2.1, va_up b.2.2.2 k v)
def zc_mL (u : zc_M) (k i : Nat) (x : Int64) : zc_M := (va_up u.1 k (vp_updL (u.1 k) i x), u.2.1, u.2.2.1, u.2.2.2)
def zc_mf (u : zc_M) (k : Nat) (f : Nat → Int64) : zc_M := (va_up u.1 k f, u.2.1, u.2.2.1, u.2.2.2)
def zc_ma (u : zc_M) (k i : Nat) (x : Int32) : zc_M := (u.1, va_up u.2.1 k (upd (u.2.1 k) i x), u.2.2.1, u.2.2.2)
def zc_mI (u : zc_M) (k : Nat) (x : Int32) : zc_M := (u.1, u.2.1, upd u.2.2.1 k x, u.2.2.2)
def zc_mS (u : zc_M) (x : Int64) : zc_M := (u.1, u.2.1, u.2.2.1, x)
/-! their cells -/
abbrev zc_al (G : zc_G) (ad : Nat → Nat) (q : zc_Q) : va_W := [(ad 2, .inr (0, [.int q.1, .ref (ad 3), .ref (ad 4), .ref (ad 5), .ref (ad 6)])), (ad 3, .inl (G.2 0, 6, .inl (q.2 0))), (ad 4, .inl (G.2 0, 6, .inl (q.2 1))), (ad 5, .inl (G.2 0, 6, .inl (q.2 2))), (ad 6, .inl (G.2 0, 6, .inl (q.2 3)))]
abbrev zc_st (G : zc_G) (ad : Nat → Nat) (v : zc_S) : va_W := (ad 0, .inr (1, [.long (v.1 0), .long (v.1 1), .long (v.1 2), .int (v.2.1 3), .int (v.2.1 4), .int (v.2.1 5), .int (v.2.1 6), .int (v.2.1 7), .int (v.2.1 8), .int (v.2.1 9), .int (v.2.1 10), .int (v.2.1 11), .int (v.2.1 12), .int (v.2.1 13), .int (v.2.1 14), .int (v.2.1 15), .ref (ad 1), .ref (ad 2)])) :: (ad 1, .inl (G.2 0, 9, .inl v.2.2.1)) :: zc_al G ad v.2.2.2
def zc_pool (G : zc_G) (pa : Nat → Nat → Nat) (pv : Nat → zc_S) : va_W := (List.range 22).flatMap (fun k => zc_st G (pa k) (pv k))
abbrev zc_b6 (G : zc_G) (ba na : Nat → Nat) (pa : Nat → Nat → Nat) (b : zc_B) : va_W := [(ba 0, .inr (2, [.ref (na 0), .int (b.1 0), .ref (ba 1), .int (b.1 1), .int (b.1 2), .ref (ba 2), .ref (ba 3), .ref (ba 4), .ref (ba 5), .int (b.1 3)])), (ba 1, .inl (G.2 3, 20, .inr (.inr (.inr (.inr (fun k => some (pa k 0))))))), (ba 2, .inl (G.2 3, 2, .inr (.inr (.inr (.inr (fun k => some (pa (k + 20) 0))))))), (ba 3, .inl (G.2 0, 2, .inl (b.2.1 0))), (ba 4, .inl (G.2 2, 2, .inl (b.2.1 1))), (ba 5, .inl (G.2 0, 20, .inl (b.2.1 2)))]
abbrev zc_bx (G : zc_G) (ba na : Nat → Nat) (pa : Nat → Nat → Nat) (b : zc_B) : va_W := zc_b6 G ba na pa b ++ zc_st G na b.2.2.1
abbrev zc_bc (G : zc_G) (ba na : Nat → Nat) (pa : Nat → Nat → Nat) (b : zc_B) : va_W := zc_bx G ba na pa b ++ zc_pool G pa b.2.2.2
abbrev zc_mo (G : zc_G) (ma : Nat → Nat) (u : zc_M) : va_W := [(ma 0, .inr (3, [.ref (ma 1), .ref (ma 2), .int (u.2.2.1 0), .ref (ma 3), .ref (ma 4), .ref (ma 5), .int (u.2.2.1 1), .long u.2.2.2])), (ma 1, .inl (G.2 1, 49, .inr (.inl (u.1 0)))), (ma 2, .inl (G.2 1, 980, .inr (.inl (u.1 1)))), (ma 3, .inl (G.2 1, 100, .inr (.inl (u.1 2)))), (ma 4, .inl (G.2 2, 2, .inl (u.2.1 0))), (ma 5, .inl (G.2 0, 20, .inl (u.2.1 1)))]
/-! what the tables say all along: classes, array classes, links among nest mates -/
abbrev zc_tys (G : zc_G) : List (ClassId × FieldType) := [(G.2 0, .int), (G.2 1, .long), (G.2 2, .boolean), (G.2 3, .object RX1)]
def zc_N (U : State) : Prop := va_Nw (.methodLinkNest RX2 9 yX1_init RX2) U ∧ va_Nw (.methodLinkNest RX1 68 yX0_init RX2) U ∧ va_Nw (.methodLinkNest RX1 92 yX2_isSpan RX2) U ∧ va_Nw (.methodLinkNest RX0 66 yX2_weekdayOf RX2) U ∧ va_Nw (.methodLinkNest RX0 70 yX2_hourOf RX2) U ∧ va_Nw (.methodLinkNest RX0 73 yX2_minuteOf RX2) U ∧ va_Nw (.methodLinkNest RX1 108 yX2_spanOf RX2) U ∧ va_Nw (.methodLinkNest RX1 111 yX2_heldBetween RX2) U ∧ va_AO RX1 U
def zc_K (G : zc_G) (U : State) : Prop := va_K G.1 vwCl (zc_tys G) U ∧ zc_N U
theorem zc_N.warm {s U : State} (hW : s.WarmedH U.vm) (h : zc_N s) : zc_N U := by
  obtain ⟨h1, h2, h3, h4, h5, h6, h7, h8, h9⟩ := h
  exact ⟨h1.warmM hW, h2.warmM hW, h3.warmM hW, h4.warmM hW, h5.warmM hW, h6.warmM hW, h7.warmM hW, h8.warmM hW, h9.moved hW.alike⟩
theorem zc_K.warm {G : zc_G} {s U : State} (hW : s.WarmedH U.vm) (h : zc_K G s) : zc_K G U := ⟨va_K.moved hW.alike h.1, h.2.warm hW⟩
theorem zc_N.call {U : State} (g : JFrame) (mk : MethodId) (a : Array Value) (h : zc_N U) : zc_N (U.calling g mk a) := by
  obtain ⟨h1, h2, h3, h4, h5, h6, h7, h8, h9⟩ := h
  exact ⟨h1.same rfl rfl, h2.same rfl rfl, h3.same rfl rfl, h4.same rfl rfl, h5.same rfl rfl, h6.same rfl rfl, h7.same rfl rfl, h8.same rfl rfl, h9.moved (Vm.Alike.refl U.vm)⟩
theorem zc_K.call {G : zc_G} {U : State} (g : JFrame) (mk : MethodId) (a : Array Value) (h : zc_K G U) : zc_K G (U.calling g mk a) := ⟨va_K.moved (u := U) (U := U.calling g mk a) (Vm.Alike.refl U.vm) h.1, h.2.call g mk a⟩
/-! starts and ends of contracts -/
def zc_Pp (G : zc_G) (av : List Value) (ws : va_W) : Array Value → State → Prop := va_Pc av (fun U => va_P G.1 vwCl ws U.heap ∧ zc_K G U)
def zc_Pm (G : zc_G) (av : List Value) (ws : va_W) (sz : Nat) : Array Value → State → Prop := va_Pc av (fun U => U.heap.size = sz ∧ va_P G.1 vwCl ws U.heap ∧ zc_K G U ∧ va_D (fun _ => True) ws)
abbrev zc_Qi (G : zc_G) (r : Int32) (w1 : va_W) (A : Nat → Prop) := va_Qi (fun (r' : Int32) (_ : Unit) => r' = r) (fun _ t => va_P G.1 vwCl w1 t.heap) A
abbrev zc_Ql (G : zc_G) (r : Int64) (w1 : va_W) (A : Nat → Prop) := va_Ql (fun (r' : Int64) (_ : Unit) => r' = r) (fun _ t => va_P G.1 vwCl w1 t.heap) A
abbrev zc_Qv (G : zc_G) (w1 : va_W) (A : Nat → Prop) := va_Qv (fun (_ : Unit) => True) (fun _ t => va_P G.1 vwCl w1 t.heap) A
theorem zc_blindP {G : zc_G} {av : List Value} {ws : va_W} : FrameBlind (zc_Pp G av ws) := fun a U g mk q => ⟨q.1, q.2.1, q.2.2.call g mk a⟩
theorem zc_blindM {G : zc_G} {av : List Value} {ws : va_W} {sz : Nat} : FrameBlind (zc_Pm G av ws sz) := fun a U g mk q => ⟨q.1, q.2.1, q.2.2.1, q.2.2.2.1.call g mk a, q.2.2.2.2⟩
theorem zc_preS {G : zc_G} {s : State} {H : Heap} {As : List Value} {ws : va_W} (hK : zc_K G s) (hP : va_P G.1 vwCl ws H) : PreS s H (zc_Pp G As ws) As := ⟨zc_blindP, fun U hU hW => ⟨rfl, by rw [hU]; exact hP, hK.warm hW⟩⟩
theorem zc_preV {G : zc_G} {s : State} {H : Heap} {As : List Value} {ws : va_W} {b : Nat} (hK : zc_K G s) (hP : va_P G.1 vwCl ws H) (q0 : Nat) {ci : Nat} {C : vw_C} {fs : List Value} (he : ws[q0]? = some (b, .inr (ci, fs))) (hc : vwCl[ci]? = some C) : PreV s H C.1 b (zc_Pp G (.ref b :: As) ws) As :=
  ⟨zc_blindP, va_recv hK.1 hP hc he, fun U hU hW => ⟨rfl, by rw [hU]; exact hP, hK.warm hW⟩⟩
theorem zc_preSm {G : zc_G} {s : State} {H : Heap} {As : List Value} {ws : va_W} {A : Nat → Prop} (hK : zc_K G s) (hP : va_P G.1 vwCl ws H) (hD : va_D A ws) : PreS s H (zc_Pm G As ws H.size) As := ⟨zc_blindM, fun U hU hW => ⟨rfl, by rw [hU], by rw [hU]; exact hP, hK.warm hW, hD.weaken (fun _ _ _ _ => trivial)⟩⟩
theorem zc_preVm {G : zc_G} {s : State} {H : Heap} {As : List Value} {ws : va_W} {b : Nat} {A : Nat → Prop} (hK : zc_K G s) (hP : va_P G.1 vwCl ws H) (hD : va_D A ws) (q0 : Nat) {ci : Nat} {C : vw_C} {fs : List Value} (he : ws[q0]? = some (b, .inr (ci, fs))) (hc : vwCl[ci]? = some C) : PreV s H C.1 b (zc_Pm G (.ref b :: As) ws H.size) As :=
  ⟨zc_blindM, va_recv hK.1 hP hc he, fun U hU hW => ⟨rfl, by rw [hU], by rw [hU]; exact hP, hK.warm hW, hD.weaken (fun _ _ _ _ => trivial)⟩⟩
theorem zc_hp {D : va_G} {cl : List vw_C} {ws : va_W} {t : State} {H : Heap} (ht : t.heap = H) (hP : va_P D cl ws H) : va_P D cl ws t.heap := by rw [ht]; exact hP
/-! a world's addresses alone say that it is apart -/
theorem zc_Ds {A : Nat → Prop} {w w1 : va_W} (h : va_D A w) (e : w1.map Prod.fst = w.map Prod.fst) : va_D A w1 := by
  have key : ∀ (i : Nat) (p : Nat × va_E), w1[i]? = some p → ∃ q, w[i]? = some q ∧ q.1 = p.1 := by
    intro i p hp
    have h1 : (w1.map Prod.fst)[i]? = some p.1 := by rw [List.getElem?_map, hp]; rfl
    rw [e, List.getElem?_map] at h1
    cases hq : w[i]? with
    | none => rw [hq] at h1; cases h1
    | some q => rw [hq] at h1; exact ⟨q, rfl, Option.some.inj h1⟩
  refine ⟨fun i j p q hi hj hpq => ?_, fun k q hk => ?_⟩
  · obtain ⟨p', hp', e1⟩ := key i p hi
    obtain ⟨q', hq', e2⟩ := key j q hj
    exact h.1 i j p' q' hp' hq' (by rw [e1, e2, hpq])
  · obtain ⟨q', hq', e2⟩ := key k q hk
    rw [← e2]; exact h.2 k q' hq'
/-! partial values: how a function that a method stands for is taken apart along a walk -/
def zc_let {α β : Type} (a : α) (f : α → β) : β := f a
def zc_in {α : Type} (i : Int32) (n : Nat) (o : Option α) : Option α := if i < 0 ∨ n ≤ i.toNatClampNeg then none else o
def zc_nz {α : Type} (y : Int32) (o : Option α) : Option α := if y = 0 then none else o
def zc_nzL {α : Type} (y : Int64) (o : Option α) : Option α := if y = 0 then none else o
def zc_z {α : Type} (x : Int32) (o : Option α) : Option α := if x = 0 ∨ x = 1 then o else none
theorem zc_pos {α : Type} {c : Prop} {d : Decidable c} {a b r : α} (h : c) (hF : @ite α c d a b = r) : a = r := by rw [if_pos h] at hF; exact hF
theorem zc_neg {α : Type} {c : Prop} {d : Decidable c} {a b r : α} (h : ¬ c) (hF : @ite α c d a b = r) : b = r := by rw [if_neg h] at hF; exact hF
theorem zc_bind {α β : Type} {o : Option α} {f : α → Option β} {r : β} (h : o.bind f = some r) : ∃ x, o = some x ∧ f x = some r := by
  cases o with
  | none => cases h
  | some x => exact ⟨x, rfl, h⟩
theorem zc_letE {α β : Type} {a x : α} {f : α → β} {r : β} (e : x = a) (h : zc_let a f = r) : f x = r := by rw [e]; exact h
theorem zc_letX {α β : Type} {a : α} {f : α → β} {r : β} (h : zc_let a f = r) : ∃ x, x = a ∧ f x = r := ⟨a, rfl, h⟩
theorem zc_inE {α : Type} {i : Int32} {n : Nat} {o : Option α} {r : α} (h : zc_in i n o = some r) : vp_in i n ∧ o = some r := by
  unfold zc_in at h
  by_cases c : i < 0 ∨ n ≤ i.toNatClampNeg
  · rw [if_pos c] at h; cases h
  · rw [if_neg c] at h; exact ⟨c, h⟩
theorem zc_nzE {α : Type} {y : Int32} {o : Option α} {r : α} (h : zc_nz y o = some r) : ¬ y = 0 ∧ o = some r := by
  unfold zc_nz at h
  by_cases c : y = 0
  · rw [if_pos c] at h; cases h
  · rw [if_neg c] at h; exact ⟨c, h⟩
theorem zc_nzLE {α : Type} {y : Int64} {o : Option α} {r : α} (h : zc_nzL y o = some r) : ¬ y = 0 ∧ o = some r := by
  unfold zc_nzL at h
  by_cases c : y = 0
  · rw [if_pos c] at h; cases h
  · rw [if_neg c] at h; exact ⟨c, h⟩
theorem zc_zE {α : Type} {x : Int32} {o : Option α} {r : α} (h : zc_z x o = some r) : (narrow .boolean (.int x) = .int x ∧ fits .boolean (.int x) = true) ∧ o = some r := by
  unfold zc_z at h
  by_cases c : x = 0 ∨ x = 1
  · rw [if_pos c] at h; rcases c with rfl | rfl <;> exact ⟨⟨by decide, by decide⟩, h⟩
  · rw [if_neg c] at h; cases h
theorem zc_vin {i : Int32} {n : Nat} (h : (decide (i < 0) || decide (n ≤ i.toNatClampNeg)) = false) : vp_in i n := by
  intro c
  rcases c with c | c <;> simp [c] at h
section ZC
variable {p : Program} {l : Launch} {e : Env} {R : Room} {s : State} {m : MethodId} {args : Array Value} {below : List Frame} {meth : Method} {c : Code} {H : Heap} {locs : List Loc} {cells slots : Nat} {Q : State → Prop} {cc : ByteArray} {pc : Nat} {ls : Array Slot} {rest : List Value} {D : va_G} {cl : List vw_C} {tys : List (ClassId × FieldType)} {ws : va_W} {A : Nat → Prop} {H0 : Heap} {a : Nat} {ar : Array Value} {st0 : List Value} {mc ms : Nat} {A0 : Nat → Prop}
theorem zc_ci {r0 : Int32} (hr : va_Run p l e R s m args below meth c H locs cells slots 0 0 (F0 m pc ls st0) rest (vp_Si (fun r => r = r0) ar) (fun _ => False)) (kk : W p l e R s m args below meth c H locs cells slots Q (F0 m (pc + 3) ls (.int r0 :: rest))) : W p l e R s m args below meth c H locs cells slots Q (F0 m pc ls st0) :=
  vp_callSi hr.run (fun r er => by rw [er]; exact kk)
theorem zc_cl {r0 : Int64} (hr : va_Run p l e R s m args below meth c H locs cells slots 0 0 (F0 m pc ls st0) rest (vp_Sl (fun r => r = r0) ar) (fun _ => False)) (kk : W p l e R s m args below meth c H locs cells slots Q (F0 m (pc + 3) ls (.long r0 :: rest))) : W p l e R s m args below meth c H locs cells slots Q (F0 m pc ls st0) :=
  vp_callSl hr.run (fun r er => by rw [er]; exact kk)
theorem zc_iald (hexec : p.tables.exec = Jvm.exec) (hb : c.code = cc) (hK : va_K D cl tys s) (hP : va_P D cl ws H) (q0 t0 : Nat) {cA : ClassId} {n : Nat} {f : Nat → Int32} (ha : ws[q0]? = some (a, .inl (cA, n, .inl f))) (ht : tys[t0]? = some (cA, .int)) {i : Int32} {j : Nat} (hin : vp_in i n) (hj : i.toNatClampNeg = j) (hdg : decode cc pc = .ok (.iaload, 1)) (kk : W p l e R s m args below meth c H locs cells slots Q (F0 m (pc + 1) ls (.int (f j) :: rest))) : W p l e R s m args below meth c H locs cells slots Q (F0 m pc ls (.int i :: .ref a :: rest)) := by
  subst hj; exact va_iald hexec hb hK hP q0 t0 ha ht hin hdg kk
theorem zc_zald (hexec : p.tables.exec = Jvm.exec) (hb : c.code = cc) (hK : va_K D cl tys s) (hP : va_P D cl ws H) (q0 t0 : Nat) {cA : ClassId} {n : Nat} {f : Nat → Int32} (ha : ws[q0]? = some (a, .inl (cA, n, .inl f))) (ht : tys[t0]? = some (cA, .boolean)) {i : Int32} {j : Nat} (hin : vp_in i n) (hj : i.toNatClampNeg = j) (hdg : decode cc pc = .ok (.baload, 1)) (kk : W p l e R s m args below meth c H locs cells slots Q (F0 m (pc + 1) ls (.int (f j) :: rest))) : W p l e R s m args below meth c H locs cells slots Q (F0 m pc ls (.int i :: .ref a :: rest)) := by
  subst hj; exact va_zald hexec hb hK hP q0 t0 ha ht hin hdg kk
theorem zc_lald (hexec : p.tables.exec = Jvm.exec) (hb : c.code = cc) (hK : va_K D cl tys s) (hP : va_P D cl ws H) (q0 t0 : Nat) {cA : ClassId} {n : Nat} {f : Nat → Int64} (ha : ws[q0]? = some (a, .inl (cA, n, .inr (.inl f)))) (ht : tys[t0]? = some (cA, .long)) {i : Int32} {j : Nat} (hin : vp_in i n) (hj : i.toNatClampNeg = j) (hdg : decode cc pc = .ok (.laload, 1)) (kk : W p l e R s m args below meth c H locs cells slots Q (F0 m (pc + 1) ls (.long (f j) :: rest))) : W p l e R s m args below meth c H locs cells slots Q (F0 m pc ls (.int i :: .ref a :: rest)) := by
  subst hj; exact va_lald hexec hb hK hP q0 t0 ha ht hin hdg kk
theorem zc_iast (hexec : p.tables.exec = Jvm.exec) (hb : c.code = cc) (hK : va_K D cl tys s) (hP : va_P D cl ws H) (hD : va_D A ws) (hS : va_S A H0 H locs) (q0 t0 : Nat) {cA : ClassId} {n : Nat} {f : Nat → Int32} (ha : ws[q0]? = some (a, .inl (cA, n, .inl f))) (ht : tys[t0]? = some (cA, .int)) {i : Int32} {x : Int32} {j : Nat} (hin : vp_in i n) (hj : i.toNatClampNeg = j) (hdg : decode cc pc = .ok (.iastore, 1))
    (kk : ∀ (H1 : Heap) (locs1 : List Loc), va_P D cl (ws.set q0 (a, .inl (cA, n, .inl (upd f j x)))) H1 → va_S A H0 H1 locs1 → W p l e R s m args below meth c H1 locs1 cells slots Q (F0 m (pc + 1) ls rest)) : W p l e R s m args below meth c H locs cells slots Q (F0 m pc ls (.int x :: .int i :: .ref a :: rest)) := by
  subst hj; exact va_iast hexec hb hK hP hD hS q0 t0 ha ht hin hdg (fun H1 l1 h1 _ h3 => kk H1 l1 h1 h3)
theorem zc_zast (hexec : p.tables.exec = Jvm.exec) (hb : c.code = cc) (hK : va_K D cl tys s) (hP : va_P D cl ws H) (hD : va_D A ws) (hS : va_S A H0 H locs) (q0 t0 : Nat) {cA : ClassId} {n : Nat} {f : Nat → Int32} (ha : ws[q0]? = some (a, .inl (cA, n, .inl f))) (ht : tys[t0]? = some (cA, .boolean)) {i : Int32} {x x1 : Int32} {j : Nat} (hin : vp_in i n) (hj : i.toNatClampNeg = j) (hx1 : vp_nar .boolean x = x1) (hdg : decode cc pc = .ok (.bastore, 1))
    (kk : ∀ (H1 : Heap) (locs1 : List Loc), va_P D cl (ws.set q0 (a, .inl (cA, n, .inl (upd f j x1)))) H1 → va_S A H0 H1 locs1 → W p l e R s m args below meth c H1 locs1 cells slots Q (F0 m (pc + 1) ls rest)) : W p l e R s m args below meth c H locs cells slots Q (F0 m pc ls (.int x :: .int i :: .ref a :: rest)) := by
  subst hj; subst hx1; exact va_zast hexec hb hK hP hD hS q0 t0 ha ht hin hdg (fun H1 l1 h1 _ h3 => kk H1 l1 h1 h3)
theorem zc_last (hexec : p.tables.exec = Jvm.exec) (hb : c.code = cc) (hK : va_K D cl tys s) (hP : va_P D cl ws H) (hD : va_D A ws) (hS : va_S A H0 H locs) (q0 t0 : Nat) {cA : ClassId} {n : Nat} {f : Nat → Int64} (ha : ws[q0]? = some (a, .inl (cA, n, .inr (.inl f)))) (ht : tys[t0]? = some (cA, .long)) {i : Int32} {x : Int64} {j : Nat} (hin : vp_in i n) (hj : i.toNatClampNeg = j) (hdg : decode cc pc = .ok (.lastore, 1))
    (kk : ∀ (H1 : Heap) (locs1 : List Loc), va_P D cl (ws.set q0 (a, .inl (cA, n, .inr (.inl (vp_updL f j x))))) H1 → va_S A H0 H1 locs1 → W p l e R s m args below meth c H1 locs1 cells slots Q (F0 m (pc + 1) ls rest)) : W p l e R s m args below meth c H locs cells slots Q (F0 m pc ls (.long x :: .int i :: .ref a :: rest)) := by
  subst hj; exact va_last hexec hb hK hP hD hS q0 t0 ha ht hin hdg (fun H1 l1 h1 _ h3 => kk H1 l1 h1 h3)
/-! a call that changes cells: the callee's cells, the rest, and (where there is one) the pool behind them -/
theorem zc_after {X wc wr w1 pl : va_W} {H1 : Heap} (hP : va_P D cl (X ++ pl) H) (hD : va_D A0 (X ++ pl)) (hS : va_S A0 H0 H locs) (hA : ∀ q, H0.size ≤ q → A0 q) (isC isR : List Nat) (hC : isC.map (fun i => X[i]?) = wc.map some) (hnC : va_nd isC = true) (hR : isR.map (fun i => X[i]?) = wr.map some) (hn : va_nd isR = true) (hdis : ∀ i ∈ isR, i ∉ isC) (hw : w1.map Prod.fst = wc.map Prod.fst)
    (hk : ∀ q : Nat, q < H.size → ¬ va_A wc H.size q → H1[q]? = H[q]?) (hP1 : va_P D cl w1 H1) : va_P D cl ((wr ++ w1) ++ pl) H1 ∧ va_D A0 ((wr ++ w1) ++ pl) := by
  have hDx : va_D A0 X := hD.by (fun k => k) (fun k q hk => by
    have := (List.getElem?_eq_some_iff.mp hk).1
    rw [List.getElem?_append_left this]; exact hk) (fun i j _ _ h => h)
  have hDc : va_D A0 wc := hDx.sub isC hnC hC
  have hF : ∀ q, va_A wc H.size q → A0 q := by
    rintro q (⟨k, e', hq⟩ | hq)
    · exact hDc.2 k (q, e') hq
    · exact hA q (Nat.le_trans hS.1 hq)
  exact va_joinQ hP hD isC isR hC hR hn hdis hk hF hP1 (zc_Ds hDc.self hw)
theorem zc_freeC {X wc pl : va_W} (hD : va_D A0 (X ++ pl)) (hS : va_S A0 H0 H locs) (hA : ∀ q, H0.size ≤ q → A0 q) (isC : List Nat) (hC : isC.map (fun i => X[i]?) = wc.map some) : ∀ q, va_A wc H.size q → A0 q := by
  have hDx : va_D A0 X := hD.by (fun k => k) (fun k q hk => by
    have := (List.getElem?_eq_some_iff.mp hk).1
    rw [List.getElem?_append_left this]; exact hk) (fun i j _ _ h => h)
  exact va_free hDx hS hA isC hC
theorem zc_mi {G : zc_G} {X wc wr w1 pl : va_W} {r0 : Int32} (hP : va_P G.1 vwCl (X ++ pl) H) (hD : va_D A0 (X ++ pl)) (hS : va_S A0 H0 H locs) (hA : ∀ q, H0.size ≤ q → A0 q) (isC isR : List Nat) (hC : isC.map (fun i => X[i]?) = wc.map some) (hnC : va_nd isC = true) (hR : isR.map (fun i => X[i]?) = wr.map some) (hn : va_nd isR = true) (hdis : ∀ i ∈ isR, i ∉ isC) (hw : w1.map Prod.fst = wc.map Prod.fst)
    (hr : va_Run p l e R s m args below meth c H locs cells slots 0 0 (F0 m pc ls st0) rest (zc_Qi G r0 w1 (va_A wc H.size) ar) (va_A wc H.size))
    (kk : ∀ (H1 : Heap) (locs1 : List Loc), va_P G.1 vwCl ((wr ++ w1) ++ pl) H1 → va_D A0 ((wr ++ w1) ++ pl) → va_S A0 H0 H1 locs1 → W p l e R s m args below meth c H1 locs1 cells slots Q (F0 m (pc + 3) ls (.int r0 :: rest))) : W p l e R s m args below meth c H locs cells slots Q (F0 m pc ls st0) := by
  have hF := zc_freeC hD hS hA isC hC
  refine va_calli hr hS (fun q _ h => hF q h) hF (fun r u t H1 locs1 ht hvm hw1 hB hz1 hk1 hS1 => ?_)
  have hw1 : r = r0 := hw1
  subst hw1
  have hB : va_P G.1 vwCl w1 t.heap := hB
  rw [ht] at hB
  obtain ⟨h1, h2⟩ := zc_after hP hD hS hA isC isR hC hnC hR hn hdis hw hk1 hB
  exact kk H1 locs1 h1 h2 hS1
theorem zc_ml {G : zc_G} {X wc wr w1 pl : va_W} {r0 : Int64} (hP : va_P G.1 vwCl (X ++ pl) H) (hD : va_D A0 (X ++ pl)) (hS : va_S A0 H0 H locs) (hA : ∀ q, H0.size ≤ q → A0 q) (isC isR : List Nat) (hC : isC.map (fun i => X[i]?) = wc.map some) (hnC : va_nd isC = true) (hR : isR.map (fun i => X[i]?) = wr.map some) (hn : va_nd isR = true) (hdis : ∀ i ∈ isR, i ∉ isC) (hw : w1.map Prod.fst = wc.map Prod.fst)
    (hr : va_Run p l e R s m args below meth c H locs cells slots 0 0 (F0 m pc ls st0) rest (zc_Ql G r0 w1 (va_A wc H.size) ar) (va_A wc H.size))
    (kk : ∀ (H1 : Heap) (locs1 : List Loc), va_P G.1 vwCl ((wr ++ w1) ++ pl) H1 → va_D A0 ((wr ++ w1) ++ pl) → va_S A0 H0 H1 locs1 → W p l e R s m args below meth c H1 locs1 cells slots Q (F0 m (pc + 3) ls (.long r0 :: rest))) : W p l e R s m args below meth c H locs cells slots Q (F0 m pc ls st0) := by
  have hF := zc_freeC hD hS hA isC hC
  refine va_calll hr hS (fun q _ h => hF q h) hF (fun r u t H1 locs1 ht hvm hw1 hB hz1 hk1 hS1 => ?_)
  have hw1 : r = r0 := hw1
  subst hw1
  have hB : va_P G.1 vwCl w1 t.heap := hB
  rw [ht] at hB
  obtain ⟨h1, h2⟩ := zc_after hP hD hS hA isC isR hC hnC hR hn hdis hw hk1 hB
  exact kk H1 locs1 h1 h2 hS1
theorem zc_mv {G : zc_G} {X wc wr w1 pl : va_W} (hP : va_P G.1 vwCl (X ++ pl) H) (hD : va_D A0 (X ++ pl)) (hS : va_S A0 H0 H locs) (hA : ∀ q, H0.size ≤ q → A0 q) (isC isR : List Nat) (hC : isC.map (fun i => X[i]?) = wc.map some) (hnC : va_nd isC = true) (hR : isR.map (fun i => X[i]?) = wr.map some) (hn : va_nd isR = true) (hdis : ∀ i ∈ isR, i ∉ isC) (hw : w1.map Prod.fst = wc.map Prod.fst)
    (hr : va_Run p l e R s m args below meth c H locs cells slots 0 0 (F0 m pc ls st0) rest (zc_Qv G w1 (va_A wc H.size) ar) (va_A wc H.size))
    (kk : ∀ (H1 : Heap) (locs1 : List Loc), va_P G.1 vwCl ((wr ++ w1) ++ pl) H1 → va_D A0 ((wr ++ w1) ++ pl) → va_S A0 H0 H1 locs1 → W p l e R s m args below meth c H1 locs1 cells slots Q (F0 m (pc + 3) ls rest)) : W p l e R s m args below meth c H locs cells slots Q (F0 m pc ls st0) := by
  have hF := zc_freeC hD hS hA isC hC
  refine va_callv hr hS (fun q _ h => hF q h) hF (fun u t H1 locs1 ht hvm hw1 hB hz1 hk1 hS1 => ?_)
  have hB : va_P G.1 vwCl w1 t.heap := hB
  rw [ht] at hB
  obtain ⟨h1, h2⟩ := zc_after hP hD hS hA isC isR hC hnC hR hn hdis hw hk1 hB
  exact kk H1 locs1 h1 h2 hS1
end ZC
end
section
def fJ9_floorDiv_f86c9 (a1 : Int64) (a2 : Int64) : Option (Int64) := zc_nzL a2 (zc_let (a1 / a2) fun (x2 : Int64) => if 0 ≤ (lg_cmp (a1 ^^^ a2) (0 : Int64)) then (some x2) else (if (lg_cmp (x2 * a2) a1) = 0 then (some x2) else (some (x2 - (1 : Int64)))))
set_option maxHeartbeats 4000000 in
set_option maxRecDepth 100000 in
theorem kJ9_floorDiv_f86c9 (l : Launch) (G : zc_G)  {a1 : Int64} {a2 : Int64} {r0 : Int64} (hF : fJ9_floorDiv_f86c9 a1 a2 = some r0) : Met l yJ9_floorDiv_f86c9 wsJ9_floorDiv_f86c9 ({ frames := 0, cells := 0, slots := 0, locals := 0 }) (zc_Pp G [.long a1, .long a2] ([])) (vp_Sl (fun r => r = r0)) 0 0 (fun _ => False) := by
  refine va_MetF (cc := cJ9_floorDiv_f86c9) (maxL := 6) (ret := (some .long)) (by decide +kernel) rfl ?_
  intro p e s m args below meth c s₁ B hml hv
  obtain ⟨rfl, hP, hK⟩ := hv
  have hx := B.exec
  have hb := B.bytes
  have hr := B.returns
  have hts := atoms_spec (ws := wsJ9_floorDiv_f86c9) B.pre
  have hown : s.vm.findClass RJ9 = some m.cls := findClass_of_methodNamed B.named
  have hlocks := B.notSynchronized
  have hl := lv_entry ([.long a1, .long a2]) (n := 6) (Nat.le_of_ble_eq_true rfl)
  rw [lg_entry_eq]
  generalize (lg_sl ([.long a1, .long a2]) ++ List.replicate (6 - (lg_sl ([.long a1, .long a2])).length) Slot.unset).toArray = ls at hl ⊢
  have hl : lv_has ls 6 [(0, .long a1), (2, .long a2)] := hl
  refine lv_lload_n hx hb dJ9_floorDiv_f86c9_0 rfl (lv_at hl 0 rfl) ?_
  refine lv_lload_n hx hb dJ9_floorDiv_f86c9_1 rfl (lv_at hl 1 rfl) ?_
  obtain ⟨hnz1, hF⟩ := zc_nzLE hF
  refine lv_ldiv hx hb dJ9_floorDiv_f86c9_2 hnz1 ?_
  refine lv_topl (fun x2 ex2 => ?_)
  have hF := zc_letE ex2 hF
  refine lv_lstore (lv' := [(4, .long x2), (0, .long a1), (2, .long a2)]) hx hb dJ9_floorDiv_f86c9_3 hl (by decide) rfl (fun ls hl => ?_)
  refine lv_lload_n hx hb dJ9_floorDiv_f86c9_5 rfl (lv_at hl 1 rfl) ?_
  refine lv_lload_n hx hb dJ9_floorDiv_f86c9_6 rfl (lv_at hl 2 rfl) ?_
  refine lv_lxor hx hb dJ9_floorDiv_f86c9_7 ?_
  refine lv_lconst (v := (0 : Int64)) hx hb dJ9_floorDiv_f86c9_8 (by decide) ?_
  refine W.lcmp hx hb dJ9_floorDiv_f86c9_9 ?_
  refine lv_if_ge (tgt := 27) hx hb dJ9_floorDiv_f86c9_10 (by decide) (fun c3 => ?_) (fun c3 => ?_)
  · have hF := zc_pos c3 hF
    refine lv_lload hx hb dJ9_floorDiv_f86c9_27 (lv_at hl 0 rfl) ?_
    exact W.lret hx hb hr (fun t ht hW => ⟨_, rfl, Option.some.inj hF, ht⟩) (fun _ h => by cases h) dJ9_floorDiv_f86c9_29
  · have hF := zc_neg c3 hF
    refine lv_lload hx hb dJ9_floorDiv_f86c9_13 (lv_at hl 0 rfl) ?_
    refine lv_lload_n hx hb dJ9_floorDiv_f86c9_15 rfl (lv_at hl 2 rfl) ?_
    refine lv_lmul hx hb dJ9_floorDiv_f86c9_16 ?_
    refine lv_lload_n hx hb dJ9_floorDiv_f86c9_17 rfl (lv_at hl 1 rfl) ?_
    refine W.lcmp hx hb dJ9_floorDiv_f86c9_18 ?_
    refine lv_if_eq (tgt := 27) hx hb dJ9_floorDiv_f86c9_19 (by decide) (fun c4 => ?_) (fun c4 => ?_)
    · have hF := zc_pos c4 hF
      refine lv_lload hx hb dJ9_floorDiv_f86c9_27 (lv_at hl 0 rfl) ?_
      exact W.lret hx hb hr (fun t ht hW => ⟨_, rfl, Option.some.inj hF, ht⟩) (fun _ h => by cases h) dJ9_floorDiv_f86c9_29
    · have hF := zc_neg c4 hF
      refine lv_lload hx hb dJ9_floorDiv_f86c9_22 (lv_at hl 0 rfl) ?_
      refine lv_lconst (v := (1 : Int64)) hx hb dJ9_floorDiv_f86c9_24 (by decide) ?_
      refine lv_lsub hx hb dJ9_floorDiv_f86c9_25 ?_
      exact W.lret hx hb hr (fun t ht hW => ⟨_, rfl, Option.some.inj hF, ht⟩) (fun _ h => by cases h) dJ9_floorDiv_f86c9_26
def fJ9_floorMod_7cf53 (a1 : Int32) (a2 : Int32) : Option (Int32) := zc_nz a2 (zc_let (a1 - a1 / a2 * a2) fun (x2 : Int32) => if 0 ≤ (a1 ^^^ a2) then (some x2) else (if x2 = 0 then (some x2) else (some (x2 + a2))))
set_option maxHeartbeats 4000000 in
set_option maxRecDepth 100000 in
theorem kJ9_floorMod_7cf53 (l : Launch) (G : zc_G)  {a1 : Int32} {a2 : Int32} {r0 : Int32} (hF : fJ9_floorMod_7cf53 a1 a2 = some r0) : Met l yJ9_floorMod_7cf53 wsJ9_floorMod_7cf53 ({ frames := 0, cells := 0, slots := 0, locals := 0 }) (zc_Pp G [.int a1, .int a2] ([])) (vp_Si (fun r => r = r0)) 0 0 (fun _ => False) := by
  refine va_MetF (cc := cJ9_floorMod_7cf53) (maxL := 3) (ret := (some .int)) (by decide +kernel) rfl ?_
  intro p e s m args below meth c s₁ B hml hv
  obtain ⟨rfl, hP, hK⟩ := hv
  have hx := B.exec
  have hb := B.bytes
  have hr := B.returns
  have hts := atoms_spec (ws := wsJ9_floorMod_7cf53) B.pre
  have hown : s.vm.findClass RJ9 = some m.cls := findClass_of_methodNamed B.named
  have hlocks := B.notSynchronized
  have hl := lv_entry ([.int a1, .int a2]) (n := 3) (Nat.le_of_ble_eq_true rfl)
  rw [lg_entry_eq]
  generalize (lg_sl ([.int a1, .int a2]) ++ List.replicate (3 - (lg_sl ([.int a1, .int a2])).length) Slot.unset).toArray = ls at hl ⊢
  have hl : lv_has ls 3 [(0, .int a1), (1, .int a2)] := hl
  refine lv_iload_n hx hb dJ9_floorMod_7cf53_0 rfl (lv_at hl 0 rfl) ?_
  refine lv_iload_n hx hb dJ9_floorMod_7cf53_1 rfl (lv_at hl 1 rfl) ?_
  obtain ⟨hnz1, hF⟩ := zc_nzE hF
  refine lv_irem hx hb dJ9_floorMod_7cf53_2 hnz1 ?_
  refine lv_topi (fun x2 ex2 => ?_)
  have hF := zc_letE ex2 hF
  refine lv_istore_n (lv' := [(2, .int x2), (0, .int a1), (1, .int a2)]) hx hb dJ9_floorMod_7cf53_3 rfl hl (by decide) rfl (fun ls hl => ?_)
  refine lv_iload_n hx hb dJ9_floorMod_7cf53_4 rfl (lv_at hl 1 rfl) ?_
  refine lv_iload_n hx hb dJ9_floorMod_7cf53_5 rfl (lv_at hl 2 rfl) ?_
  refine lv_ixor hx hb dJ9_floorMod_7cf53_6 ?_
  refine lv_if_ge (tgt := 18) hx hb dJ9_floorMod_7cf53_7 (by decide) (fun c3 => ?_) (fun c3 => ?_)
  · have hF := zc_pos c3 hF
    refine lv_iload_n hx hb dJ9_floorMod_7cf53_18 rfl (lv_at hl 0 rfl) ?_
    exact W.iret hx hb hr (fun t ht hW => ⟨_, rfl, Option.some.inj hF, ht⟩) (fun _ h => by cases h) dJ9_floorMod_7cf53_19
  · have hF := zc_neg c3 hF
    refine lv_iload_n hx hb dJ9_floorMod_7cf53_10 rfl (lv_at hl 0 rfl) ?_
    refine lv_if_eq (tgt := 18) hx hb dJ9_floorMod_7cf53_11 (by decide) (fun c4 => ?_) (fun c4 => ?_)
    · have hF := zc_pos c4 hF
      refine lv_iload_n hx hb dJ9_floorMod_7cf53_18 rfl (lv_at hl 0 rfl) ?_
      exact W.iret hx hb hr (fun t ht hW => ⟨_, rfl, Option.some.inj hF, ht⟩) (fun _ h => by cases h) dJ9_floorMod_7cf53_19
    · have hF := zc_neg c4 hF
      refine lv_iload_n hx hb dJ9_floorMod_7cf53_14 rfl (lv_at hl 0 rfl) ?_
      refine lv_iload_n hx hb dJ9_floorMod_7cf53_15 rfl (lv_at hl 2 rfl) ?_
      refine lv_iadd hx hb dJ9_floorMod_7cf53_16 ?_
      exact W.iret hx hb hr (fun t ht hW => ⟨_, rfl, Option.some.inj hF, ht⟩) (fun _ h => by cases h) dJ9_floorMod_7cf53_17
def fJ9_floorMod_f86c9 (a1 : Int64) (a2 : Int64) : Option (Int64) := zc_nzL a2 (zc_let (a1 - a1 / a2 * a2) fun (x2 : Int64) => if 0 ≤ (lg_cmp (a1 ^^^ a2) (0 : Int64)) then (some x2) else (if (lg_cmp x2 (0 : Int64)) = 0 then (some x2) else (some (x2 + a2))))
set_option maxHeartbeats 4000000 in
set_option maxRecDepth 100000 in
theorem kJ9_floorMod_f86c9 (l : Launch) (G : zc_G)  {a1 : Int64} {a2 : Int64} {r0 : Int64} (hF : fJ9_floorMod_f86c9 a1 a2 = some r0) : Met l yJ9_floorMod_f86c9 wsJ9_floorMod_f86c9 ({ frames := 0, cells := 0, slots := 0, locals := 0 }) (zc_Pp G [.long a1, .long a2] ([])) (vp_Sl (fun r => r = r0)) 0 0 (fun _ => False) := by
  refine va_MetF (cc := cJ9_floorMod_f86c9) (maxL := 6) (ret := (some .long)) (by decide +kernel) rfl ?_
  intro p e s m args below meth c s₁ B hml hv
  obtain ⟨rfl, hP, hK⟩ := hv
  have hx := B.exec
  have hb := B.bytes
  have hr := B.returns
  have hts := atoms_spec (ws := wsJ9_floorMod_f86c9) B.pre
  have hown : s.vm.findClass RJ9 = some m.cls := findClass_of_methodNamed B.named
  have hlocks := B.notSynchronized
  have hl := lv_entry ([.long a1, .long a2]) (n := 6) (Nat.le_of_ble_eq_true rfl)
  rw [lg_entry_eq]
  generalize (lg_sl ([.long a1, .long a2]) ++ List.replicate (6 - (lg_sl ([.long a1, .long a2])).length) Slot.unset).toArray = ls at hl ⊢
  have hl : lv_has ls 6 [(0, .long a1), (2, .long a2)] := hl
  refine lv_lload_n hx hb dJ9_floorMod_f86c9_0 rfl (lv_at hl 0 rfl) ?_
  refine lv_lload_n hx hb dJ9_floorMod_f86c9_1 rfl (lv_at hl 1 rfl) ?_
  obtain ⟨hnz1, hF⟩ := zc_nzLE hF
  refine lv_lrem hx hb dJ9_floorMod_f86c9_2 hnz1 ?_
  refine lv_topl (fun x2 ex2 => ?_)
  have hF := zc_letE ex2 hF
  refine lv_lstore (lv' := [(4, .long x2), (0, .long a1), (2, .long a2)]) hx hb dJ9_floorMod_f86c9_3 hl (by decide) rfl (fun ls hl => ?_)
  refine lv_lload_n hx hb dJ9_floorMod_f86c9_5 rfl (lv_at hl 1 rfl) ?_
  refine lv_lload_n hx hb dJ9_floorMod_f86c9_6 rfl (lv_at hl 2 rfl) ?_
  refine lv_lxor hx hb dJ9_floorMod_f86c9_7 ?_
  refine lv_lconst (v := (0 : Int64)) hx hb dJ9_floorMod_f86c9_8 (by decide) ?_
  refine W.lcmp hx hb dJ9_floorMod_f86c9_9 ?_
  refine lv_if_ge (tgt := 25) hx hb dJ9_floorMod_f86c9_10 (by decide) (fun c3 => ?_) (fun c3 => ?_)
  · have hF := zc_pos c3 hF
    refine lv_lload hx hb dJ9_floorMod_f86c9_25 (lv_at hl 0 rfl) ?_
    exact W.lret hx hb hr (fun t ht hW => ⟨_, rfl, Option.some.inj hF, ht⟩) (fun _ h => by cases h) dJ9_floorMod_f86c9_27
  · have hF := zc_neg c3 hF
    refine lv_lload hx hb dJ9_floorMod_f86c9_13 (lv_at hl 0 rfl) ?_
    refine lv_lconst (v := (0 : Int64)) hx hb dJ9_floorMod_f86c9_15 (by decide) ?_
    refine W.lcmp hx hb dJ9_floorMod_f86c9_16 ?_
    refine lv_if_eq (tgt := 25) hx hb dJ9_floorMod_f86c9_17 (by decide) (fun c4 => ?_) (fun c4 => ?_)
    · have hF := zc_pos c4 hF
      refine lv_lload hx hb dJ9_floorMod_f86c9_25 (lv_at hl 0 rfl) ?_
      exact W.lret hx hb hr (fun t ht hW => ⟨_, rfl, Option.some.inj hF, ht⟩) (fun _ h => by cases h) dJ9_floorMod_f86c9_27
    · have hF := zc_neg c4 hF
      refine lv_lload hx hb dJ9_floorMod_f86c9_20 (lv_at hl 0 rfl) ?_
      refine lv_lload_n hx hb dJ9_floorMod_f86c9_22 rfl (lv_at hl 2 rfl) ?_
      refine lv_ladd hx hb dJ9_floorMod_f86c9_23 ?_
      exact W.lret hx hb hr (fun t ht hW => ⟨_, rfl, Option.some.inj hF, ht⟩) (fun _ h => by cases h) dJ9_floorMod_f86c9_24
def fX2_asInt (a1 : Int32) : Option (Int32) := if a1 = 0 then (some (0 : Int32)) else (some (1 : Int32))
set_option maxHeartbeats 4000000 in
set_option maxRecDepth 100000 in
theorem kX2_asInt (l : Launch) (G : zc_G)  {a1 : Int32} {r0 : Int32} (hF : fX2_asInt a1 = some r0) : Met l yX2_asInt wsX2_asInt ({ frames := 0, cells := 0, slots := 0, locals := 0 }) (zc_Pp G [.int a1] ([])) (vp_Si (fun r => r = r0)) 0 0 (fun _ => False) := by
  refine Met.ofW (cc := cX2_asInt) (maxL := 1) (ret := (some .int)) (by decide) rfl ?_
  intro p e s m args below meth c s₁ B hml hv
  obtain ⟨rfl, hP, hK⟩ := hv
  have hx := B.exec
  have hb := B.bytes
  have hr := B.returns
  have hts := atoms_spec (ws := wsX2_asInt) B.pre
  have hown : s.vm.findClass RX2 = some m.cls := findClass_of_methodNamed B.named
  have hlocks := B.notSynchronized
  have hl := lv_entry ([.int a1]) (n := 1) (Nat.le_of_ble_eq_true rfl)
  rw [lg_entry_eq]
  generalize (lg_sl ([.int a1]) ++ List.replicate (1 - (lg_sl ([.int a1])).length) Slot.unset).toArray = ls at hl ⊢
  have hl : lv_has ls 1 [(0, .int a1)] := hl
  refine lv_iload_n hx hb dX2_asInt_0 rfl (lv_at hl 0 rfl) ?_
  refine lv_if_eq (tgt := 8) hx hb dX2_asInt_1 (by decide) (fun c1 => ?_) (fun c1 => ?_)
  · have hF := zc_pos c1 hF
    refine lv_iconst (v := (0 : Int32)) hx hb dX2_asInt_8 (by decide) ?_
    exact W.iret hx hb hr (fun t ht hW => ⟨_, rfl, Option.some.inj hF, ht⟩) (fun _ h => by cases h) dX2_asInt_9
  · have hF := zc_neg c1 hF
    refine lv_iconst (v := (1 : Int32)) hx hb dX2_asInt_4 (by decide) ?_
    refine lv_goto (tgt := 9) hx hb dX2_asInt_5 (by decide) ?_
    exact W.iret hx hb hr (fun t ht hW => ⟨_, rfl, Option.some.inj hF, ht⟩) (fun _ h => by cases h) dX2_asInt_9
def fX2_isWithin (a1 : Int32) (a2 : Int32) (a3 : Int32) : Option (Int32) := if a1 < a2 then (some (0 : Int32)) else (if a3 < a1 then (some (0 : Int32)) else (some (1 : Int32)))
set_option maxHeartbeats 4000000 in
set_option maxRecDepth 100000 in
theorem kX2_isWithin (l : Launch) (G : zc_G)  {a1 : Int32} {a2 : Int32} {a3 : Int32} {r0 : Int32} (hF : fX2_isWithin a1 a2 a3 = some r0) : Met l yX2_isWithin wsX2_isWithin ({ frames := 0, cells := 0, slots := 0, locals := 0 }) (zc_Pp G [.int a1, .int a2, .int a3] ([])) (vp_Si (fun r => r = r0)) 0 0 (fun _ => False) := by
  refine Met.ofW (cc := cX2_isWithin) (maxL := 3) (ret := (some .boolean)) (by decide) rfl ?_
  intro p e s m args below meth c s₁ B hml hv
  obtain ⟨rfl, hP, hK⟩ := hv
  have hx := B.exec
  have hb := B.bytes
  have hr := B.returns
  have hts := atoms_spec (ws := wsX2_isWithin) B.pre
  have hown : s.vm.findClass RX2 = some m.cls := findClass_of_methodNamed B.named
  have hlocks := B.notSynchronized
  have hl := lv_entry ([.int a1, .int a2, .int a3]) (n := 3) (Nat.le_of_ble_eq_true rfl)
  rw [lg_entry_eq]
  generalize (lg_sl ([.int a1, .int a2, .int a3]) ++ List.replicate (3 - (lg_sl ([.int a1, .int a2, .int a3])).length) Slot.unset).toArray = ls at hl ⊢
  have hl : lv_has ls 3 [(0, .int a1), (1, .int a2), (2, .int a3)] := hl
  refine lv_iload_n hx hb dX2_isWithin_0 rfl (lv_at hl 0 rfl) ?_
  refine lv_iload_n hx hb dX2_isWithin_1 rfl (lv_at hl 1 rfl) ?_
  refine lv_icmp_lt (tgt := 14) hx hb dX2_isWithin_2 (by decide) (fun c1 => ?_) (fun c1 => ?_)
  · have hF := zc_pos c1 hF
    refine lv_iconst (v := (0 : Int32)) hx hb dX2_isWithin_14 (by decide) ?_
    exact W.zret hx hb hr (by decide) (fun t ht hW => ⟨_, rfl, Option.some.inj hF, ht⟩) (fun _ h => by cases h) dX2_isWithin_15
  · have hF := zc_neg c1 hF
    refine lv_iload_n hx hb dX2_isWithin_5 rfl (lv_at hl 0 rfl) ?_
    refine lv_iload_n hx hb dX2_isWithin_6 rfl (lv_at hl 2 rfl) ?_
    refine lv_icmp_gt (tgt := 14) hx hb dX2_isWithin_7 (by decide) (fun c2 => ?_) (fun c2 => ?_)
    · have hF := zc_pos c2 hF
      refine lv_iconst (v := (0 : Int32)) hx hb dX2_isWithin_14 (by decide) ?_
      exact W.zret hx hb hr (by decide) (fun t ht hW => ⟨_, rfl, Option.some.inj hF, ht⟩) (fun _ h => by cases h) dX2_isWithin_15
    · have hF := zc_neg c2 hF
      refine lv_iconst (v := (1 : Int32)) hx hb dX2_isWithin_10 (by decide) ?_
      refine lv_goto (tgt := 15) hx hb dX2_isWithin_11 (by decide) ?_
      exact W.zret hx hb hr (by decide) (fun t ht hW => ⟨_, rfl, Option.some.inj hF, ht⟩) (fun _ h => by cases h) dX2_isWithin_15
def fX2_heldBetween (a1 : Int64) (a2 : Int64) (a3 : Int64) : Option (Int64) := some (if (if a3 < a1 then a3 else a1) < a2 then a2 else (if a3 < a1 then a3 else a1))
set_option maxHeartbeats 4000000 in
set_option maxRecDepth 100000 in
theorem kX2_heldBetween (l : Launch) (G : zc_G)  {a1 : Int64} {a2 : Int64} {a3 : Int64} {r0 : Int64} (hF : fX2_heldBetween a1 a2 a3 = some r0) : Met l yX2_heldBetween wsX2_heldBetween ({ frames := 1, cells := 0, slots := 0, locals := 25 }) (zc_Pp G [.long a1, .long a2, .long a3] ([])) (vp_Sl (fun r => r = r0)) 0 0 (fun _ => False) := by
  refine Met.ofW (cc := cX2_heldBetween) (maxL := 6) (ret := (some .long)) (by decide) rfl ?_
  intro p e s m args below meth c s₁ B hml hv
  obtain ⟨rfl, hP, hK⟩ := hv
  have hx := B.exec
  have hb := B.bytes
  have hr := B.returns
  have hts := atoms_spec (ws := wsX2_heldBetween) B.pre
  have hown : s.vm.findClass RX2 = some m.cls := findClass_of_methodNamed B.named
  have hlocks := B.notSynchronized
  have hl := lv_entry ([.long a1, .long a2, .long a3]) (n := 6) (Nat.le_of_ble_eq_true rfl)
  rw [lg_entry_eq]
  generalize (lg_sl ([.long a1, .long a2, .long a3]) ++ List.replicate (6 - (lg_sl ([.long a1, .long a2, .long a3])).length) Slot.unset).toArray = ls at hl ⊢
  have hl : lv_has ls 6 [(0, .long a1), (2, .long a2), (4, .long a3)] := hl
  refine lv_lload_n hx hb dX2_heldBetween_0 rfl (lv_at hl 1 rfl) ?_
  refine lv_lload_n hx hb dX2_heldBetween_1 rfl (lv_at hl 0 rfl) ?_
  refine lv_lload hx hb dX2_heldBetween_2 (lv_at hl 2 rfl) ?_
  refine va_mmin_long hx hb (hml.trans hl.1.symm) hown (hts (.methodLink RX2 248 Lib.MathLoose.min_long.x) (List.mem_of_getElem? (i := 1) rfl)) (hts (.static Lib.MathLoose.min_long.x) (List.mem_of_getElem? (i := 2) rfl)) (hts (.initialized "java/lang/Math") (List.mem_of_getElem? (i := 3) rfl)) (hts (.code Lib.MathLoose.min_long.x Lib.MathLoose.min_long.code 4 (some .long)) (List.mem_of_getElem? (i := 4) rfl)) (Nat.le_of_ble_eq_true rfl) (Nat.le_of_ble_eq_true rfl) (Nat.zero_le _) (Nat.zero_le _) dX2_heldBetween_4 ?_
  refine va_mmax_long hx hb (hml.trans hl.1.symm) hown (hts (.methodLink RX2 251 Lib.MathLoose.max_long.x) (List.mem_of_getElem? (i := 5) rfl)) (hts (.static Lib.MathLoose.max_long.x) (List.mem_of_getElem? (i := 6) rfl)) (hts (.initialized "java/lang/Math") (List.mem_of_getElem? (i := 3) rfl)) (hts (.code Lib.MathLoose.max_long.x Lib.MathLoose.max_long.code 4 (some .long)) (List.mem_of_getElem? (i := 7) rfl)) (Nat.le_of_ble_eq_true rfl) (Nat.le_of_ble_eq_true rfl) (Nat.zero_le _) (Nat.zero_le _) dX2_heldBetween_7 ?_
  exact W.lret hx hb hr (fun t ht hW => ⟨_, rfl, Option.some.inj hF, ht⟩) (fun _ h => by cases h) dX2_heldBetween_10
def fX2_isSpan (a1 : Int32) : Option (Int32) := if a1 < 0 then (some (0 : Int32)) else (if (9 : Int32) ≤ a1 then (some (0 : Int32)) else (some (1 : Int32)))
set_option maxHeartbeats 4000000 in
set_option maxRecDepth 100000 in
theorem kX2_isSpan (l : Launch) (G : zc_G)  {a1 : Int32} {r0 : Int32} (hF : fX2_isSpan a1 = some r0) : Met l yX2_isSpan wsX2_isSpan ({ frames := 0, cells := 0, slots := 0, locals := 0 }) (zc_Pp G [.int a1] ([])) (vp_Si (fun r => r = r0)) 0 0 (fun _ => False) := by
  refine Met.ofW (cc := cX2_isSpan) (maxL := 1) (ret := (some .boolean)) (by decide) rfl ?_
  intro p e s m args below meth c s₁ B hml hv
  obtain ⟨rfl, hP, hK⟩ := hv
  have hx := B.exec
  have hb := B.bytes
  have hr := B.returns
  have hts := atoms_spec (ws := wsX2_isSpan) B.pre
  have hown : s.vm.findClass RX2 = some m.cls := findClass_of_methodNamed B.named
  have hlocks := B.notSynchronized
  have hl := lv_entry ([.int a1]) (n := 1) (Nat.le_of_ble_eq_true rfl)
  rw [lg_entry_eq]
  generalize (lg_sl ([.int a1]) ++ List.replicate (1 - (lg_sl ([.int a1])).length) Slot.unset).toArray = ls at hl ⊢
  have hl : lv_has ls 1 [(0, .int a1)] := hl
  refine lv_iload_n hx hb dX2_isSpan_0 rfl (lv_at hl 0 rfl) ?_
  refine lv_if_lt (tgt := 14) hx hb dX2_isSpan_1 (by decide) (fun c1 => ?_) (fun c1 => ?_)
  · have hF := zc_pos c1 hF
    refine lv_iconst (v := (0 : Int32)) hx hb dX2_isSpan_14 (by decide) ?_
    exact W.zret hx hb hr (by decide) (fun t ht hW => ⟨_, rfl, Option.some.inj hF, ht⟩) (fun _ h => by cases h) dX2_isSpan_15
  · have hF := zc_neg c1 hF
    refine lv_iload_n hx hb dX2_isSpan_4 rfl (lv_at hl 0 rfl) ?_
    refine lv_bipush (v := (9 : Int32)) hx hb dX2_isSpan_5 (by decide) ?_
    refine lv_icmp_ge (tgt := 14) hx hb dX2_isSpan_7 (by decide) (fun c2 => ?_) (fun c2 => ?_)
    · have hF := zc_pos c2 hF
      refine lv_iconst (v := (0 : Int32)) hx hb dX2_isSpan_14 (by decide) ?_
      exact W.zret hx hb hr (by decide) (fun t ht hW => ⟨_, rfl, Option.some.inj hF, ht⟩) (fun _ h => by cases h) dX2_isSpan_15
    · have hF := zc_neg c2 hF
      refine lv_iconst (v := (1 : Int32)) hx hb dX2_isSpan_10 (by decide) ?_
      refine lv_goto (tgt := 15) hx hb dX2_isSpan_11 (by decide) ?_
      exact W.zret hx hb hr (by decide) (fun t ht hW => ⟨_, rfl, Option.some.inj hF, ht⟩) (fun _ h => by cases h) dX2_isSpan_15
def fX2_spanOf (a1 : Int32) : Option (Int32) := some ((a1 - (-20 : Int32)) / (10 : Int32))
set_option maxHeartbeats 4000000 in
set_option maxRecDepth 100000 in
theorem kX2_spanOf (l : Launch) (G : zc_G)  {a1 : Int32} {r0 : Int32} (hF : fX2_spanOf a1 = some r0) : Met l yX2_spanOf wsX2_spanOf ({ frames := 0, cells := 0, slots := 0, locals := 0 }) (zc_Pp G [.int a1] ([])) (vp_Si (fun r => r = r0)) 0 0 (fun _ => False) := by
  refine Met.ofW (cc := cX2_spanOf) (maxL := 1) (ret := (some .int)) (by decide) rfl ?_
  intro p e s m args below meth c s₁ B hml hv
  obtain ⟨rfl, hP, hK⟩ := hv
  have hx := B.exec
  have hb := B.bytes
  have hr := B.returns
  have hts := atoms_spec (ws := wsX2_spanOf) B.pre
  have hown : s.vm.findClass RX2 = some m.cls := findClass_of_methodNamed B.named
  have hlocks := B.notSynchronized
  have hl := lv_entry ([.int a1]) (n := 1) (Nat.le_of_ble_eq_true rfl)
  rw [lg_entry_eq]
  generalize (lg_sl ([.int a1]) ++ List.replicate (1 - (lg_sl ([.int a1])).length) Slot.unset).toArray = ls at hl ⊢
  have hl : lv_has ls 1 [(0, .int a1)] := hl
  refine lv_iload_n hx hb dX2_spanOf_0 rfl (lv_at hl 0 rfl) ?_
  refine lv_bipush (v := (-20 : Int32)) hx hb dX2_spanOf_1 (by decide) ?_
  refine lv_isub hx hb dX2_spanOf_3 ?_
  refine lv_bipush (v := (10 : Int32)) hx hb dX2_spanOf_4 (by decide) ?_
  refine lv_idiv hx hb dX2_spanOf_6 (by decide) ?_
  exact W.iret hx hb hr (fun t ht hW => ⟨_, rfl, Option.some.inj hF, ht⟩) (fun _ h => by cases h) dX2_spanOf_7
def fX2_minuteOf (a1 : Int64) : Option (Int32) := some ((a1 - a1 / (60 : Int64) * (60 : Int64))).toInt32
set_option maxHeartbeats 4000000 in
set_option maxRecDepth 100000 in
theorem kX2_minuteOf (l : Launch) (G : zc_G)  {a1 : Int64} {r0 : Int32} (hF : fX2_minuteOf a1 = some r0) : Met l yX2_minuteOf wsX2_minuteOf ({ frames := 0, cells := 0, slots := 0, locals := 0 }) (zc_Pp G [.long a1] ([])) (vp_Si (fun r => r = r0)) 0 0 (fun _ => False) := by
  refine Met.ofW (cc := cX2_minuteOf) (maxL := 2) (ret := (some .int)) (by decide) rfl ?_
  intro p e s m args below meth c s₁ B hml hv
  obtain ⟨rfl, hP, hK⟩ := hv
  have hx := B.exec
  have hb := B.bytes
  have hr := B.returns
  have hts := atoms_spec (ws := wsX2_minuteOf) B.pre
  have hown : s.vm.findClass RX2 = some m.cls := findClass_of_methodNamed B.named
  have hlocks := B.notSynchronized
  have hl := lv_entry ([.long a1]) (n := 2) (Nat.le_of_ble_eq_true rfl)
  rw [lg_entry_eq]
  generalize (lg_sl ([.long a1]) ++ List.replicate (2 - (lg_sl ([.long a1])).length) Slot.unset).toArray = ls at hl ⊢
  have hl : lv_has ls 2 [(0, .long a1)] := hl
  refine lv_lload_n hx hb dX2_minuteOf_0 rfl (lv_at hl 0 rfl) ?_
  refine lv_ldc2 hx hb hown (hts (.constantLong RX2 254 (60)) (List.mem_of_getElem? (i := 1) rfl)) dX2_minuteOf_1 ?_
  refine lv_lrem hx hb dX2_minuteOf_4 (by decide) ?_
  refine lv_l2i hx hb dX2_minuteOf_5 rfl ?_
  exact W.iret hx hb hr (fun t ht hW => ⟨_, rfl, Option.some.inj hF, ht⟩) (fun _ h => by cases h) dX2_minuteOf_6
def fX2_hourOf (a1 : Int64) : Option (Int32) := some (((a1 / (60 : Int64)) - (a1 / (60 : Int64)) / (24 : Int64) * (24 : Int64))).toInt32
set_option maxHeartbeats 4000000 in
set_option maxRecDepth 100000 in
theorem kX2_hourOf (l : Launch) (G : zc_G)  {a1 : Int64} {r0 : Int32} (hF : fX2_hourOf a1 = some r0) : Met l yX2_hourOf wsX2_hourOf ({ frames := 0, cells := 0, slots := 0, locals := 0 }) (zc_Pp G [.long a1] ([])) (vp_Si (fun r => r = r0)) 0 0 (fun _ => False) := by
  refine Met.ofW (cc := cX2_hourOf) (maxL := 2) (ret := (some .int)) (by decide) rfl ?_
  intro p e s m args below meth c s₁ B hml hv
  obtain ⟨rfl, hP, hK⟩ := hv
  have hx := B.exec
  have hb := B.bytes
  have hr := B.returns
  have hts := atoms_spec (ws := wsX2_hourOf) B.pre
  have hown : s.vm.findClass RX2 = some m.cls := findClass_of_methodNamed B.named
  have hlocks := B.notSynchronized
  have hl := lv_entry ([.long a1]) (n := 2) (Nat.le_of_ble_eq_true rfl)
  rw [lg_entry_eq]
  generalize (lg_sl ([.long a1]) ++ List.replicate (2 - (lg_sl ([.long a1])).length) Slot.unset).toArray = ls at hl ⊢
  have hl : lv_has ls 2 [(0, .long a1)] := hl
  refine lv_lload_n hx hb dX2_hourOf_0 rfl (lv_at hl 0 rfl) ?_
  refine lv_ldc2 hx hb hown (hts (.constantLong RX2 254 (60)) (List.mem_of_getElem? (i := 1) rfl)) dX2_hourOf_1 ?_
  refine lv_ldiv hx hb dX2_hourOf_4 (by decide) ?_
  refine lv_ldc2 hx hb hown (hts (.constantLong RX2 256 (24)) (List.mem_of_getElem? (i := 2) rfl)) dX2_hourOf_5 ?_
  refine lv_lrem hx hb dX2_hourOf_8 (by decide) ?_
  refine lv_l2i hx hb dX2_hourOf_9 rfl ?_
  exact W.iret hx hb hr (fun t ht hW => ⟨_, rfl, Option.some.inj hF, ht⟩) (fun _ h => by cases h) dX2_hourOf_10
def fX2_weekdayOf (a1 : Int64) : Option (Int32) := some (((a1 / (1440 : Int64)) - (a1 / (1440 : Int64)) / (7 : Int64) * (7 : Int64))).toInt32
set_option maxHeartbeats 4000000 in
set_option maxRecDepth 100000 in
theorem kX2_weekdayOf (l : Launch) (G : zc_G)  {a1 : Int64} {r0 : Int32} (hF : fX2_weekdayOf a1 = some r0) : Met l yX2_weekdayOf wsX2_weekdayOf ({ frames := 0, cells := 0, slots := 0, locals := 0 }) (zc_Pp G [.long a1] ([])) (vp_Si (fun r => r = r0)) 0 0 (fun _ => False) := by
  refine Met.ofW (cc := cX2_weekdayOf) (maxL := 2) (ret := (some .int)) (by decide) rfl ?_
  intro p e s m args below meth c s₁ B hml hv
  obtain ⟨rfl, hP, hK⟩ := hv
  have hx := B.exec
  have hb := B.bytes
  have hr := B.returns
  have hts := atoms_spec (ws := wsX2_weekdayOf) B.pre
  have hown : s.vm.findClass RX2 = some m.cls := findClass_of_methodNamed B.named
  have hlocks := B.notSynchronized
  have hl := lv_entry ([.long a1]) (n := 2) (Nat.le_of_ble_eq_true rfl)
  rw [lg_entry_eq]
  generalize (lg_sl ([.long a1]) ++ List.replicate (2 - (lg_sl ([.long a1])).length) Slot.unset).toArray = ls at hl ⊢
  have hl : lv_has ls 2 [(0, .long a1)] := hl
  refine lv_lload_n hx hb dX2_weekdayOf_0 rfl (lv_at hl 0 rfl) ?_
  refine lv_ldc2 hx hb hown (hts (.constantLong RX2 258 (1440)) (List.mem_of_getElem? (i := 1) rfl)) dX2_weekdayOf_1 ?_
  refine lv_ldiv hx hb dX2_weekdayOf_4 (by decide) ?_
  refine lv_ldc2 hx hb hown (hts (.constantLong RX2 260 (7)) (List.mem_of_getElem? (i := 2) rfl)) dX2_weekdayOf_5 ?_
  refine lv_lrem hx hb dX2_weekdayOf_8 (by decide) ?_
  refine lv_l2i hx hb dX2_weekdayOf_9 rfl ?_
  exact W.iret hx hb hr (fun t ht hW => ⟨_, rfl, Option.some.inj hF, ht⟩) (fun _ h => by cases h) dX2_weekdayOf_10
end
section
def fX0_has (q : zc_Q) (a1 : Int32) : Option (Int32) := if a1 < 0 then (some (0 : Int32)) else (if (q.1) ≤ a1 then (some (0 : Int32)) else (if (6 : Int32) ≤ a1 then (some (0 : Int32)) else (some (1 : Int32))))
theorem iX0_has_X0 : ∀ w ∈ wsX00, w ∈ wsX0_has := fun _ h => List.mem_cons_of_mem _ (List.mem_append_right _ h)
set_option maxHeartbeats 4000000 in
set_option maxRecDepth 100000 in
theorem kX0_has (l : Launch) (G : zc_G) (ad : Nat → Nat) {q : zc_Q} {a1 : Int32} {r0 : Int32} (hF : fX0_has q a1 = some r0) : Met l yX0_has wsX0_has ({ frames := 0, cells := 0, slots := 0, locals := 0 }) (zc_Pp G [.ref (ad 2), .int a1] (zc_al G ad q)) (vp_Si (fun r => r = r0)) 0 0 (fun _ => False) := by
  refine Met.ofW (cc := cX0_has) (maxL := 2) (ret := (some .boolean)) (by decide) rfl ?_
  intro p e s m args below meth c s₁ B hml hv
  obtain ⟨rfl, hP, hK⟩ := hv
  have hx := B.exec
  have hb := B.bytes
  have hr := B.returns
  have hts := atoms_spec (ws := wsX0_has) B.pre
  have hown : s.vm.findClass RX0 = some m.cls := findClass_of_methodNamed B.named
  have hlocks := B.notSynchronized
  have hl := lv_entry ([.ref (ad 2), .int a1]) (n := 2) (Nat.le_of_ble_eq_true rfl)
  rw [lg_entry_eq]
  generalize (lg_sl ([.ref (ad 2), .int a1]) ++ List.replicate (2 - (lg_sl ([.ref (ad 2), .int a1])).length) Slot.unset).toArray = ls at hl ⊢
  have hl : lv_has ls 2 [(0, .ref (ad 2)), (1, .int a1)] := hl
  refine lv_iload_n hx hb dX0_has_0 rfl (lv_at hl 1 rfl) ?_
  refine lv_if_lt (tgt := 22) hx hb dX0_has_1 (by decide) (fun c1 => ?_) (fun c1 => ?_)
  · have hF := zc_pos c1 hF
    refine lv_iconst (v := (0 : Int32)) hx hb dX0_has_22 (by decide) ?_
    exact W.zret hx hb hr (by decide) (fun t ht hW => ⟨_, rfl, Option.some.inj hF, ht⟩) (fun _ h => by cases h) dX0_has_23
  · have hF := zc_neg c1 hF
    refine lv_iload_n hx hb dX0_has_4 rfl (lv_at hl 1 rfl) ?_
    refine lv_aload_n hx hb dX0_has_5 rfl (lv_at hl 0 rfl) ?_
    refine va_get (D := G.1) (ci := 0) (C := RX0) (T := TX0) (N := 5) hx hb hts iX0_has_X0 hown hK.1 hP 0 rfl rfl 0 (by decide) (hts (.fieldLink RX0 9 "BoardClock$Alarms" "count" "I") (List.mem_of_getElem? (i := 1) rfl)) (fun _ h9 => h9) rfl dX0_has_6 ?_
    refine lv_icmp_ge (tgt := 22) hx hb dX0_has_9 (by decide) (fun c2 => ?_) (fun c2 => ?_)
    · have hF := zc_pos c2 hF
      refine lv_iconst (v := (0 : Int32)) hx hb dX0_has_22 (by decide) ?_
      exact W.zret hx hb hr (by decide) (fun t ht hW => ⟨_, rfl, Option.some.inj hF, ht⟩) (fun _ h => by cases h) dX0_has_23
    · have hF := zc_neg c2 hF
      refine lv_iload_n hx hb dX0_has_12 rfl (lv_at hl 1 rfl) ?_
      refine lv_bipush (v := (6 : Int32)) hx hb dX0_has_13 (by decide) ?_
      refine lv_icmp_ge (tgt := 22) hx hb dX0_has_15 (by decide) (fun c3 => ?_) (fun c3 => ?_)
      · have hF := zc_pos c3 hF
        refine lv_iconst (v := (0 : Int32)) hx hb dX0_has_22 (by decide) ?_
        exact W.zret hx hb hr (by decide) (fun t ht hW => ⟨_, rfl, Option.some.inj hF, ht⟩) (fun _ h => by cases h) dX0_has_23
      · have hF := zc_neg c3 hF
        refine lv_iconst (v := (1 : Int32)) hx hb dX0_has_18 (by decide) ?_
        refine lv_goto (tgt := 23) hx hb dX0_has_19 (by decide) ?_
        exact W.zret hx hb hr (by decide) (fun t ht hW => ⟨_, rfl, Option.some.inj hF, ht⟩) (fun _ h => by cases h) dX0_has_23
def fX0_fitsDay (q : zc_Q) (a1 : Int32) (a2 : Int64) : Option (Int32) := Option.bind (fX0_has q a1) fun (r1 : Int32) => if r1 = 0 then (some (0 : Int32)) else (zc_in a1 6 (if (q.2 2 a1.toNatClampNeg) = (-1 : Int32) then (some (1 : Int32)) else (zc_in a1 6 (Option.bind (fX2_weekdayOf a2) fun (r6 : Int32) => if (q.2 2 a1.toNatClampNeg) = r6 then (some (1 : Int32)) else (some (0 : Int32))))))
theorem iX0_fitsDay_X0 : ∀ w ∈ wsX00, w ∈ wsX0_fitsDay := fun _ h => List.mem_cons_of_mem _ (List.mem_append_right _ h)
set_option maxHeartbeats 4000000 in
set_option maxRecDepth 100000 in
theorem kX0_fitsDay (l : Launch) (G : zc_G) (ad : Nat → Nat) {q : zc_Q} {a1 : Int32} {a2 : Int64} {r0 : Int32} (hF : fX0_fitsDay q a1 a2 = some r0) : Met l yX0_fitsDay wsX0_fitsDay ({ frames := 1, cells := 0, slots := 0, locals := 21 }) (zc_Pp G [.ref (ad 2), .int a1, .long a2] (zc_al G ad q)) (vp_Si (fun r => r = r0)) 0 0 (fun _ => False) := by
  refine Met.ofW (cc := cX0_fitsDay) (maxL := 4) (ret := (some .boolean)) (by decide) rfl ?_
  intro p e s m args below meth c s₁ B hml hv
  obtain ⟨rfl, hP, hK⟩ := hv
  have hx := B.exec
  have hb := B.bytes
  have hr := B.returns
  have hts := atoms_spec (ws := wsX0_fitsDay) B.pre
  have hown : s.vm.findClass RX0 = some m.cls := findClass_of_methodNamed B.named
  have hlocks := B.notSynchronized
  have hl := lv_entry ([.ref (ad 2), .int a1, .long a2]) (n := 4) (Nat.le_of_ble_eq_true rfl)
  rw [lg_entry_eq]
  generalize (lg_sl ([.ref (ad 2), .int a1, .long a2]) ++ List.replicate (4 - (lg_sl ([.ref (ad 2), .int a1, .long a2])).length) Slot.unset).toArray = ls at hl ⊢
  have hl : lv_has ls 4 [(0, .ref (ad 2)), (1, .int a1), (2, .long a2)] := hl
  refine lv_aload_n hx hb dX0_fitsDay_0 rfl (lv_at hl 0 rfl) ?_
  refine lv_iload_n hx hb dX0_fitsDay_1 rfl (lv_at hl 1 rfl) ?_
  obtain ⟨r1, er1, hF⟩ := zc_bind hF
  refine zc_ci (va_runV (As := [.int _]) ⟨hx, hb, hml, hown, hts⟩ (kX0_has l G ad er1) (cwV 1 hts gX0_fitsDay_X0_has rfl rfl rfl (by decide +kernel) ⟨Nat.le_of_ble_eq_true rfl, Nat.le_of_ble_eq_true rfl⟩) (zc_preV hK hP 0 rfl rfl) rfl rfl hl.1 rfl (lv_room (Nat.le_of_ble_eq_true rfl)) dX0_fitsDay_2 ⟨Nat.le_of_ble_eq_true rfl, Nat.le_of_ble_eq_true rfl⟩) ?_
  refine lv_if_eq (tgt := 35) hx hb dX0_fitsDay_5 (by decide) (fun c2 => ?_) (fun c2 => ?_)
  · have hF := zc_pos c2 hF
    refine lv_iconst (v := (0 : Int32)) hx hb dX0_fitsDay_35 (by decide) ?_
    exact W.zret hx hb hr (by decide) (fun t ht hW => ⟨_, rfl, Option.some.inj hF, ht⟩) (fun _ h => by cases h) dX0_fitsDay_36
  · have hF := zc_neg c2 hF
    refine lv_aload_n hx hb dX0_fitsDay_8 rfl (lv_at hl 0 rfl) ?_
    refine va_get (D := G.1) (ci := 0) (C := RX0) (T := TX0) (N := 5) hx hb hts iX0_fitsDay_X0 hown hK.1 hP 0 rfl rfl 3 (by decide) (hts (.fieldLink RX0 22 "BoardClock$Alarms" "weekdays" "[I") (List.mem_of_getElem? (i := 1) rfl)) (fun _ h9 => h9) rfl dX0_fitsDay_9 ?_
    refine lv_iload_n hx hb dX0_fitsDay_12 rfl (lv_at hl 1 rfl) ?_
    obtain ⟨hi3, hF⟩ := zc_inE hF
    refine zc_iald hx hb hK.1 hP 3 0 rfl rfl hi3 rfl dX0_fitsDay_13 ?_
    refine lv_iconst (v := (-1 : Int32)) hx hb dX0_fitsDay_14 (by decide) ?_
    refine lv_icmp_eq (tgt := 31) hx hb dX0_fitsDay_15 (by decide) (fun c4 => ?_) (fun c4 => ?_)
    · have hF := zc_pos c4 hF
      refine lv_iconst (v := (1 : Int32)) hx hb dX0_fitsDay_31 (by decide) ?_
      refine lv_goto (tgt := 36) hx hb dX0_fitsDay_32 (by decide) ?_
      exact W.zret hx hb hr (by decide) (fun t ht hW => ⟨_, rfl, Option.some.inj hF, ht⟩) (fun _ h => by cases h) dX0_fitsDay_36
    · have hF := zc_neg c4 hF
      refine lv_aload_n hx hb dX0_fitsDay_18 rfl (lv_at hl 0 rfl) ?_
      refine va_get (D := G.1) (ci := 0) (C := RX0) (T := TX0) (N := 5) hx hb hts iX0_fitsDay_X0 hown hK.1 hP 0 rfl rfl 3 (by decide) (hts (.fieldLink RX0 22 "BoardClock$Alarms" "weekdays" "[I") (List.mem_of_getElem? (i := 1) rfl)) (fun _ h9 => h9) rfl dX0_fitsDay_19 ?_
      refine lv_iload_n hx hb dX0_fitsDay_22 rfl (lv_at hl 1 rfl) ?_
      obtain ⟨hi5, hF⟩ := zc_inE hF
      refine zc_iald hx hb hK.1 hP 3 0 rfl rfl hi5 rfl dX0_fitsDay_23 ?_
      refine lv_lload_n hx hb dX0_fitsDay_24 rfl (lv_at hl 2 rfl) ?_
      obtain ⟨r6, er6, hF⟩ := zc_bind hF
      refine zc_ci (va_runSN (As := [.long _]) ⟨hx, hb, hml, hown, hts⟩ (kX2_weekdayOf l G er6) ⟨va_cnB 1 hts gX0_fitsDay_X2_weekdayOf_n66 rfl rfl rfl hK.2.2.2.2.1 (hts (.initialized RX2) (List.mem_of_getElem? (i := 9) rfl)) (by decide +kernel) ⟨Nat.le_of_ble_eq_true rfl, Nat.le_of_ble_eq_true rfl⟩, (hts (.static yX2_weekdayOf) (List.mem_of_getElem? (i := 8) rfl)), trivial⟩ (zc_preS hK (show va_P G.1 vwCl [] _ from fun k q h => by simp at h)) rfl rfl hl.1 rfl (lv_room (Nat.le_of_ble_eq_true rfl)) dX0_fitsDay_25 ⟨Nat.le_of_ble_eq_true rfl, Nat.le_of_ble_eq_true rfl⟩) ?_
      refine lv_icmp_ne (tgt := 35) hx hb dX0_fitsDay_28 (by decide) (fun c7 => ?_) (fun c7 => ?_)
      · have hF := zc_neg c7 hF
        refine lv_iconst (v := (0 : Int32)) hx hb dX0_fitsDay_35 (by decide) ?_
        exact W.zret hx hb hr (by decide) (fun t ht hW => ⟨_, rfl, Option.some.inj hF, ht⟩) (fun _ h => by cases h) dX0_fitsDay_36
      · have hF := zc_pos c7 hF
        refine lv_iconst (v := (1 : Int32)) hx hb dX0_fitsDay_31 (by decide) ?_
        refine lv_goto (tgt := 36) hx hb dX0_fitsDay_32 (by decide) ?_
        exact W.zret hx hb hr (by decide) (fun t ht hW => ⟨_, rfl, Option.some.inj hF, ht⟩) (fun _ h => by cases h) dX0_fitsDay_36
def fX0_fitsHour (q : zc_Q) (a1 : Int32) (a2 : Int64) : Option (Int32) := Option.bind (fX0_has q a1) fun (r1 : Int32) => if r1 = 0 then (some (0 : Int32)) else (zc_in a1 6 (if (q.2 1 a1.toNatClampNeg) = (-1 : Int32) then (some (1 : Int32)) else (zc_in a1 6 (Option.bind (fX2_hourOf a2) fun (r6 : Int32) => if (q.2 1 a1.toNatClampNeg) = r6 then (some (1 : Int32)) else (some (0 : Int32))))))
theorem iX0_fitsHour_X0 : ∀ w ∈ wsX00, w ∈ wsX0_fitsHour := fun _ h => List.mem_cons_of_mem _ (List.mem_append_right _ h)
set_option maxHeartbeats 4000000 in
set_option maxRecDepth 100000 in
theorem kX0_fitsHour (l : Launch) (G : zc_G) (ad : Nat → Nat) {q : zc_Q} {a1 : Int32} {a2 : Int64} {r0 : Int32} (hF : fX0_fitsHour q a1 a2 = some r0) : Met l yX0_fitsHour wsX0_fitsHour ({ frames := 1, cells := 0, slots := 0, locals := 21 }) (zc_Pp G [.ref (ad 2), .int a1, .long a2] (zc_al G ad q)) (vp_Si (fun r => r = r0)) 0 0 (fun _ => False) := by
  refine Met.ofW (cc := cX0_fitsHour) (maxL := 4) (ret := (some .boolean)) (by decide) rfl ?_
  intro p e s m args below meth c s₁ B hml hv
  obtain ⟨rfl, hP, hK⟩ := hv
  have hx := B.exec
  have hb := B.bytes
  have hr := B.returns
  have hts := atoms_spec (ws := wsX0_fitsHour) B.pre
  have hown : s.vm.findClass RX0 = some m.cls := findClass_of_methodNamed B.named
  have hlocks := B.notSynchronized
  have hl := lv_entry ([.ref (ad 2), .int a1, .long a2]) (n := 4) (Nat.le_of_ble_eq_true rfl)
  rw [lg_entry_eq]
  generalize (lg_sl ([.ref (ad 2), .int a1, .long a2]) ++ List.replicate (4 - (lg_sl ([.ref (ad 2), .int a1, .long a2])).length) Slot.unset).toArray = ls at hl ⊢
  have hl : lv_has ls 4 [(0, .ref (ad 2)), (1, .int a1), (2, .long a2)] := hl
  refine lv_aload_n hx hb dX0_fitsHour_0 rfl (lv_at hl 0 rfl) ?_
  refine lv_iload_n hx hb dX0_fitsHour_1 rfl (lv_at hl 1 rfl) ?_
  obtain ⟨r1, er1, hF⟩ := zc_bind hF
  refine zc_ci (va_runV (As := [.int _]) ⟨hx, hb, hml, hown, hts⟩ (kX0_has l G ad er1) (cwV 1 hts gX0_fitsHour_X0_has rfl rfl rfl (by decide +kernel) ⟨Nat.le_of_ble_eq_true rfl, Nat.le_of_ble_eq_true rfl⟩) (zc_preV hK hP 0 rfl rfl) rfl rfl hl.1 rfl (lv_room (Nat.le_of_ble_eq_true rfl)) dX0_fitsHour_2 ⟨Nat.le_of_ble_eq_true rfl, Nat.le_of_ble_eq_true rfl⟩) ?_
  refine lv_if_eq (tgt := 35) hx hb dX0_fitsHour_5 (by decide) (fun c2 => ?_) (fun c2 => ?_)
  · have hF := zc_pos c2 hF
    refine lv_iconst (v := (0 : Int32)) hx hb dX0_fitsHour_35 (by decide) ?_
    exact W.zret hx hb hr (by decide) (fun t ht hW => ⟨_, rfl, Option.some.inj hF, ht⟩) (fun _ h => by cases h) dX0_fitsHour_36
  · have hF := zc_neg c2 hF
    refine lv_aload_n hx hb dX0_fitsHour_8 rfl (lv_at hl 0 rfl) ?_
    refine va_get (D := G.1) (ci := 0) (C := RX0) (T := TX0) (N := 5) hx hb hts iX0_fitsHour_X0 hown hK.1 hP 0 rfl rfl 2 (by decide) (hts (.fieldLink RX0 19 "BoardClock$Alarms" "hours" "[I") (List.mem_of_getElem? (i := 1) rfl)) (fun _ h9 => h9) rfl dX0_fitsHour_9 ?_
    refine lv_iload_n hx hb dX0_fitsHour_12 rfl (lv_at hl 1 rfl) ?_
    obtain ⟨hi3, hF⟩ := zc_inE hF
    refine zc_iald hx hb hK.1 hP 2 0 rfl rfl hi3 rfl dX0_fitsHour_13 ?_
    refine lv_iconst (v := (-1 : Int32)) hx hb dX0_fitsHour_14 (by decide) ?_
    refine lv_icmp_eq (tgt := 31) hx hb dX0_fitsHour_15 (by decide) (fun c4 => ?_) (fun c4 => ?_)
    · have hF := zc_pos c4 hF
      refine lv_iconst (v := (1 : Int32)) hx hb dX0_fitsHour_31 (by decide) ?_
      refine lv_goto (tgt := 36) hx hb dX0_fitsHour_32 (by decide) ?_
      exact W.zret hx hb hr (by decide) (fun t ht hW => ⟨_, rfl, Option.some.inj hF, ht⟩) (fun _ h => by cases h) dX0_fitsHour_36
    · have hF := zc_neg c4 hF
      refine lv_aload_n hx hb dX0_fitsHour_18 rfl (lv_at hl 0 rfl) ?_
      refine va_get (D := G.1) (ci := 0) (C := RX0) (T := TX0) (N := 5) hx hb hts iX0_fitsHour_X0 hown hK.1 hP 0 rfl rfl 2 (by decide) (hts (.fieldLink RX0 19 "BoardClock$Alarms" "hours" "[I") (List.mem_of_getElem? (i := 1) rfl)) (fun _ h9 => h9) rfl dX0_fitsHour_19 ?_
      refine lv_iload_n hx hb dX0_fitsHour_22 rfl (lv_at hl 1 rfl) ?_
      obtain ⟨hi5, hF⟩ := zc_inE hF
      refine zc_iald hx hb hK.1 hP 2 0 rfl rfl hi5 rfl dX0_fitsHour_23 ?_
      refine lv_lload_n hx hb dX0_fitsHour_24 rfl (lv_at hl 2 rfl) ?_
      obtain ⟨r6, er6, hF⟩ := zc_bind hF
      refine zc_ci (va_runSN (As := [.long _]) ⟨hx, hb, hml, hown, hts⟩ (kX2_hourOf l G er6) ⟨va_cnB 1 hts gX0_fitsHour_X2_hourOf_n70 rfl rfl rfl hK.2.2.2.2.2.1 (hts (.initialized RX2) (List.mem_of_getElem? (i := 9) rfl)) (by decide +kernel) ⟨Nat.le_of_ble_eq_true rfl, Nat.le_of_ble_eq_true rfl⟩, (hts (.static yX2_hourOf) (List.mem_of_getElem? (i := 8) rfl)), trivial⟩ (zc_preS hK (show va_P G.1 vwCl [] _ from fun k q h => by simp at h)) rfl rfl hl.1 rfl (lv_room (Nat.le_of_ble_eq_true rfl)) dX0_fitsHour_25 ⟨Nat.le_of_ble_eq_true rfl, Nat.le_of_ble_eq_true rfl⟩) ?_
      refine lv_icmp_ne (tgt := 35) hx hb dX0_fitsHour_28 (by decide) (fun c7 => ?_) (fun c7 => ?_)
      · have hF := zc_neg c7 hF
        refine lv_iconst (v := (0 : Int32)) hx hb dX0_fitsHour_35 (by decide) ?_
        exact W.zret hx hb hr (by decide) (fun t ht hW => ⟨_, rfl, Option.some.inj hF, ht⟩) (fun _ h => by cases h) dX0_fitsHour_36
      · have hF := zc_pos c7 hF
        refine lv_iconst (v := (1 : Int32)) hx hb dX0_fitsHour_31 (by decide) ?_
        refine lv_goto (tgt := 36) hx hb dX0_fitsHour_32 (by decide) ?_
        exact W.zret hx hb hr (by decide) (fun t ht hW => ⟨_, rfl, Option.some.inj hF, ht⟩) (fun _ h => by cases h) dX0_fitsHour_36
def fX0_fitsMinute (q : zc_Q) (a1 : Int32) (a2 : Int64) : Option (Int32) := Option.bind (fX0_has q a1) fun (r1 : Int32) => if r1 = 0 then (some (0 : Int32)) else (zc_in a1 6 (if (q.2 0 a1.toNatClampNeg) = (-1 : Int32) then (some (1 : Int32)) else (zc_in a1 6 (Option.bind (fX2_minuteOf a2) fun (r6 : Int32) => if (q.2 0 a1.toNatClampNeg) = r6 then (some (1 : Int32)) else (some (0 : Int32))))))
theorem iX0_fitsMinute_X0 : ∀ w ∈ wsX00, w ∈ wsX0_fitsMinute := fun _ h => List.mem_cons_of_mem _ (List.mem_append_right _ h)
set_option maxHeartbeats 4000000 in
set_option maxRecDepth 100000 in
theorem kX0_fitsMinute (l : Launch) (G : zc_G) (ad : Nat → Nat) {q : zc_Q} {a1 : Int32} {a2 : Int64} {r0 : Int32} (hF : fX0_fitsMinute q a1 a2 = some r0) : Met l yX0_fitsMinute wsX0_fitsMinute ({ frames := 1, cells := 0, slots := 0, locals := 21 }) (zc_Pp G [.ref (ad 2), .int a1, .long a2] (zc_al G ad q)) (vp_Si (fun r => r = r0)) 0 0 (fun _ => False) := by
  refine Met.ofW (cc := cX0_fitsMinute) (maxL := 4) (ret := (some .boolean)) (by decide) rfl ?_
  intro p e s m args below meth c s₁ B hml hv
  obtain ⟨rfl, hP, hK⟩ := hv
  have hx := B.exec
  have hb := B.bytes
  have hr := B.returns
  have hts := atoms_spec (ws := wsX0_fitsMinute) B.pre
  have hown : s.vm.findClass RX0 = some m.cls := findClass_of_methodNamed B.named
  have hlocks := B.notSynchronized
  have hl := lv_entry ([.ref (ad 2), .int a1, .long a2]) (n := 4) (Nat.le_of_ble_eq_true rfl)
  rw [lg_entry_eq]
  generalize (lg_sl ([.ref (ad 2), .int a1, .long a2]) ++ List.replicate (4 - (lg_sl ([.ref (ad 2), .int a1, .long a2])).length) Slot.unset).toArray = ls at hl ⊢
  have hl : lv_has ls 4 [(0, .ref (ad 2)), (1, .int a1), (2, .long a2)] := hl
  refine lv_aload_n hx hb dX0_fitsMinute_0 rfl (lv_at hl 0 rfl) ?_
  refine lv_iload_n hx hb dX0_fitsMinute_1 rfl (lv_at hl 1 rfl) ?_
  obtain ⟨r1, er1, hF⟩ := zc_bind hF
  refine zc_ci (va_runV (As := [.int _]) ⟨hx, hb, hml, hown, hts⟩ (kX0_has l G ad er1) (cwV 1 hts gX0_fitsMinute_X0_has rfl rfl rfl (by decide +kernel) ⟨Nat.le_of_ble_eq_true rfl, Nat.le_of_ble_eq_true rfl⟩) (zc_preV hK hP 0 rfl rfl) rfl rfl hl.1 rfl (lv_room (Nat.le_of_ble_eq_true rfl)) dX0_fitsMinute_2 ⟨Nat.le_of_ble_eq_true rfl, Nat.le_of_ble_eq_true rfl⟩) ?_
  refine lv_if_eq (tgt := 35) hx hb dX0_fitsMinute_5 (by decide) (fun c2 => ?_) (fun c2 => ?_)
  · have hF := zc_pos c2 hF
    refine lv_iconst (v := (0 : Int32)) hx hb dX0_fitsMinute_35 (by decide) ?_
    exact W.zret hx hb hr (by decide) (fun t ht hW => ⟨_, rfl, Option.some.inj hF, ht⟩) (fun _ h => by cases h) dX0_fitsMinute_36
  · have hF := zc_neg c2 hF
    refine lv_aload_n hx hb dX0_fitsMinute_8 rfl (lv_at hl 0 rfl) ?_
    refine va_get (D := G.1) (ci := 0) (C := RX0) (T := TX0) (N := 5) hx hb hts iX0_fitsMinute_X0 hown hK.1 hP 0 rfl rfl 1 (by decide) (hts (.fieldLink RX0 15 "BoardClock$Alarms" "minutes" "[I") (List.mem_of_getElem? (i := 1) rfl)) (fun _ h9 => h9) rfl dX0_fitsMinute_9 ?_
    refine lv_iload_n hx hb dX0_fitsMinute_12 rfl (lv_at hl 1 rfl) ?_
    obtain ⟨hi3, hF⟩ := zc_inE hF
    refine zc_iald hx hb hK.1 hP 1 0 rfl rfl hi3 rfl dX0_fitsMinute_13 ?_
    refine lv_iconst (v := (-1 : Int32)) hx hb dX0_fitsMinute_14 (by decide) ?_
    refine lv_icmp_eq (tgt := 31) hx hb dX0_fitsMinute_15 (by decide) (fun c4 => ?_) (fun c4 => ?_)
    · have hF := zc_pos c4 hF
      refine lv_iconst (v := (1 : Int32)) hx hb dX0_fitsMinute_31 (by decide) ?_
      refine lv_goto (tgt := 36) hx hb dX0_fitsMinute_32 (by decide) ?_
      exact W.zret hx hb hr (by decide) (fun t ht hW => ⟨_, rfl, Option.some.inj hF, ht⟩) (fun _ h => by cases h) dX0_fitsMinute_36
    · have hF := zc_neg c4 hF
      refine lv_aload_n hx hb dX0_fitsMinute_18 rfl (lv_at hl 0 rfl) ?_
      refine va_get (D := G.1) (ci := 0) (C := RX0) (T := TX0) (N := 5) hx hb hts iX0_fitsMinute_X0 hown hK.1 hP 0 rfl rfl 1 (by decide) (hts (.fieldLink RX0 15 "BoardClock$Alarms" "minutes" "[I") (List.mem_of_getElem? (i := 1) rfl)) (fun _ h9 => h9) rfl dX0_fitsMinute_19 ?_
      refine lv_iload_n hx hb dX0_fitsMinute_22 rfl (lv_at hl 1 rfl) ?_
      obtain ⟨hi5, hF⟩ := zc_inE hF
      refine zc_iald hx hb hK.1 hP 1 0 rfl rfl hi5 rfl dX0_fitsMinute_23 ?_
      refine lv_lload_n hx hb dX0_fitsMinute_24 rfl (lv_at hl 2 rfl) ?_
      obtain ⟨r6, er6, hF⟩ := zc_bind hF
      refine zc_ci (va_runSN (As := [.long _]) ⟨hx, hb, hml, hown, hts⟩ (kX2_minuteOf l G er6) ⟨va_cnB 1 hts gX0_fitsMinute_X2_minuteOf_n73 rfl rfl rfl hK.2.2.2.2.2.2.1 (hts (.initialized RX2) (List.mem_of_getElem? (i := 9) rfl)) (by decide +kernel) ⟨Nat.le_of_ble_eq_true rfl, Nat.le_of_ble_eq_true rfl⟩, (hts (.static yX2_minuteOf) (List.mem_of_getElem? (i := 8) rfl)), trivial⟩ (zc_preS hK (show va_P G.1 vwCl [] _ from fun k q h => by simp at h)) rfl rfl hl.1 rfl (lv_room (Nat.le_of_ble_eq_true rfl)) dX0_fitsMinute_25 ⟨Nat.le_of_ble_eq_true rfl, Nat.le_of_ble_eq_true rfl⟩) ?_
      refine lv_icmp_ne (tgt := 35) hx hb dX0_fitsMinute_28 (by decide) (fun c7 => ?_) (fun c7 => ?_)
      · have hF := zc_neg c7 hF
        refine lv_iconst (v := (0 : Int32)) hx hb dX0_fitsMinute_35 (by decide) ?_
        exact W.zret hx hb hr (by decide) (fun t ht hW => ⟨_, rfl, Option.some.inj hF, ht⟩) (fun _ h => by cases h) dX0_fitsMinute_36
      · have hF := zc_pos c7 hF
        refine lv_iconst (v := (1 : Int32)) hx hb dX0_fitsMinute_31 (by decide) ?_
        refine lv_goto (tgt := 36) hx hb dX0_fitsMinute_32 (by decide) ?_
        exact W.zret hx hb hr (by decide) (fun t ht hW => ⟨_, rfl, Option.some.inj hF, ht⟩) (fun _ h => by cases h) dX0_fitsMinute_36
def fX0_countFitting_L (N : Nat) : Nat → zc_Q → Int32 → Int64 → Int64 → Int32 → Int64 → Option (Int32)
  | 0, _, _, _, _, _, _ => none
  | n + 1, q, y1, y2, y4, y6, y7 => if 0 < (lg_cmp y7 y4) then (some y6) else (Option.bind (fX0_fitsDay q y1 y7) fun (r3 : Int32) => if r3 = 0 then (zc_let (y7 + (1 : Int64)) fun (x5 : Int64) => fX0_countFitting_L N n q y1 y2 y4 y6 x5) else (Option.bind (fX0_fitsHour q y1 y7) fun (r6 : Int32) => if r6 = 0 then (zc_let (y7 + (1 : Int64)) fun (x8 : Int64) => fX0_countFitting_L N n q y1 y2 y4 y6 x8) else (Option.bind (fX0_fitsMinute q y1 y7) fun (r9 : Int32) => if r9 = 0 then (zc_let (y7 + (1 : Int64)) fun (x11 : Int64) => fX0_countFitting_L N n q y1 y2 y4 y6 x11) else (zc_let (y6 + (1 : Int32)) fun (x12 : Int32) => zc_let (y7 + (1 : Int64)) fun (x13 : Int64) => fX0_countFitting_L N n q y1 y2 y4 x12 x13))))
def fX0_countFitting (N : Nat) (q : zc_Q) (a1 : Int32) (a2 : Int64) (a3 : Int64) : Option (Int32) := zc_let (a2 + (1 : Int64)) fun (x1 : Int64) => fX0_countFitting_L N N q a1 a2 a3 (0 : Int32) x1
set_option maxHeartbeats 4000000 in
set_option maxRecDepth 100000 in
theorem kX0_countFitting (l : Launch) (G : zc_G) (ad : Nat → Nat) {N : Nat} {q : zc_Q} {a1 : Int32} {a2 : Int64} {a3 : Int64} {r0 : Int32} (hF : fX0_countFitting N q a1 a2 a3 = some r0) : Met l yX0_countFitting wsX0_countFitting ({ frames := 2, cells := 0, slots := 0, locals := 44 }) (zc_Pp G [.ref (ad 2), .int a1, .long a2, .long a3] (zc_al G ad q)) (vp_Si (fun r => r = r0)) 0 0 (fun _ => False) := by
  refine Met.ofW (cc := cX0_countFitting) (maxL := 9) (ret := (some .int)) (by decide) rfl ?_
  intro p e s m args below meth c s₁ B hml hv
  obtain ⟨rfl, hP, hK⟩ := hv
  have hx := B.exec
  have hb := B.bytes
  have hr := B.returns
  have hts := atoms_spec (ws := wsX0_countFitting) B.pre
  have hown : s.vm.findClass RX0 = some m.cls := findClass_of_methodNamed B.named
  have hlocks := B.notSynchronized
  have hl := lv_entry ([.ref (ad 2), .int a1, .long a2, .long a3]) (n := 9) (Nat.le_of_ble_eq_true rfl)
  rw [lg_entry_eq]
  generalize (lg_sl ([.ref (ad 2), .int a1, .long a2, .long a3]) ++ List.replicate (9 - (lg_sl ([.ref (ad 2), .int a1, .long a2, .long a3])).length) Slot.unset).toArray = ls at hl ⊢
  have hl : lv_has ls 9 [(0, .ref (ad 2)), (1, .int a1), (2, .long a2), (4, .long a3)] := hl
  have loop : ∀ (n : Nat) (y1 : Int32) (y2 : Int64) (y4 : Int64) (y6 : Int32) (y7 : Int64) (ls : Array Slot), lv_has ls 9 [(0, .ref (ad 2)), (1, .int y1), (2, .long y2), (4, .long y4), (6, .int y6), (7, .long y7)] → fX0_countFitting_L N n q y1 y2 y4 y6 y7 = some r0 → W p l e (headSpec wsX0_countFitting ({ frames := 2, cells := 0, slots := 0, locals := 44 })).room s m ([.ref (ad 2), .int a1, .long a2, .long a3] : List Value).toArray below meth c s.heap [] 0 0 (MQ below (vp_Si (fun r => r = r0)) ([.ref (ad 2), .int a1, .long a2, .long a3] : List Value).toArray s 0 0 (fun _ => False)) (F0 m 8 ls []) := by
    intro n
    induction n with
    | zero =>
      intro y1 y2 y4 y6 y7 ls hl hF
      cases hF
    | succ n ih =>
      intro y1 y2 y4 y6 y7 ls hl hF
      rw [fX0_countFitting_L] at hF
      refine lv_lload hx hb dX0_countFitting_8 (lv_at hl 5 rfl) ?_
      refine lv_lload hx hb dX0_countFitting_10 (lv_at hl 3 rfl) ?_
      refine W.lcmp hx hb dX0_countFitting_12 ?_
      refine lv_if_gt (tgt := 58) hx hb dX0_countFitting_13 (by decide) (fun c2 => ?_) (fun c2 => ?_)
      · have hF := zc_pos c2 hF
        refine lv_iload hx hb dX0_countFitting_58 (lv_at hl 4 rfl) ?_
        exact W.iret hx hb hr (fun t ht hW => ⟨_, rfl, Option.some.inj hF, ht⟩) (fun _ h => by cases h) dX0_countFitting_60
      · have hF := zc_neg c2 hF
        refine lv_aload_n hx hb dX0_countFitting_16 rfl (lv_at hl 0 rfl) ?_
        refine lv_iload_n hx hb dX0_countFitting_17 rfl (lv_at hl 1 rfl) ?_
        refine lv_lload hx hb dX0_countFitting_18 (lv_at hl 5 rfl) ?_
        obtain ⟨r3, er3, hF⟩ := zc_bind hF
        refine zc_ci (va_runV (As := [.int _, .long _]) ⟨hx, hb, hml, hown, hts⟩ (kX0_fitsDay l G ad er3) (cwV 2 hts gX0_countFitting_X0_fitsDay rfl rfl rfl (by decide +kernel) ⟨Nat.le_of_ble_eq_true rfl, Nat.le_of_ble_eq_true rfl⟩) (zc_preV hK hP 0 rfl rfl) rfl rfl hl.1 rfl (lv_room (Nat.le_of_ble_eq_true rfl)) dX0_countFitting_20 ⟨Nat.le_of_ble_eq_true rfl, Nat.le_of_ble_eq_true rfl⟩) ?_
        refine lv_if_eq (tgt := 49) hx hb dX0_countFitting_23 (by decide) (fun c4 => ?_) (fun c4 => ?_)
        · have hF := zc_pos c4 hF
          refine lv_lload hx hb dX0_countFitting_49 (lv_at hl 5 rfl) ?_
          refine lv_lconst (v := (1 : Int64)) hx hb dX0_countFitting_51 (by decide) ?_
          refine lv_ladd hx hb dX0_countFitting_52 ?_
          refine lv_topl (fun x5 ex5 => ?_)
          have hF := zc_letE ex5 hF
          refine lv_lstore (lv' := [(7, .long x5), (0, .ref (ad 2)), (1, .int y1), (2, .long y2), (4, .long y4), (6, .int y6)]) hx hb dX0_countFitting_53 hl (by decide) rfl (fun ls hl => ?_)
          refine lv_goto (tgt := 8) hx hb dX0_countFitting_55 (by decide) ?_
          exact ih y1 y2 y4 y6 x5 ls (lv_sub hl [1, 2, 3, 4, 5, 0] rfl) hF
        · have hF := zc_neg c4 hF
          refine lv_aload_n hx hb dX0_countFitting_26 rfl (lv_at hl 0 rfl) ?_
          refine lv_iload_n hx hb dX0_countFitting_27 rfl (lv_at hl 1 rfl) ?_
          refine lv_lload hx hb dX0_countFitting_28 (lv_at hl 5 rfl) ?_
          obtain ⟨r6, er6, hF⟩ := zc_bind hF
          refine zc_ci (va_runV (As := [.int _, .long _]) ⟨hx, hb, hml, hown, hts⟩ (kX0_fitsHour l G ad er6) (cwV 2 hts gX0_countFitting_X0_fitsHour rfl rfl rfl (by decide +kernel) ⟨Nat.le_of_ble_eq_true rfl, Nat.le_of_ble_eq_true rfl⟩) (zc_preV hK hP 0 rfl rfl) rfl rfl hl.1 rfl (lv_room (Nat.le_of_ble_eq_true rfl)) dX0_countFitting_30 ⟨Nat.le_of_ble_eq_true rfl, Nat.le_of_ble_eq_true rfl⟩) ?_
          refine lv_if_eq (tgt := 49) hx hb dX0_countFitting_33 (by decide) (fun c7 => ?_) (fun c7 => ?_)
          · have hF := zc_pos c7 hF
            refine lv_lload hx hb dX0_countFitting_49 (lv_at hl 5 rfl) ?_
            refine lv_lconst (v := (1 : Int64)) hx hb dX0_countFitting_51 (by decide) ?_
            refine lv_ladd hx hb dX0_countFitting_52 ?_
            refine lv_topl (fun x8 ex8 => ?_)
            have hF := zc_letE ex8 hF
            refine lv_lstore (lv' := [(7, .long x8), (0, .ref (ad 2)), (1, .int y1), (2, .long y2), (4, .long y4), (6, .int y6)]) hx hb dX0_countFitting_53 hl (by decide) rfl (fun ls hl => ?_)
            refine lv_goto (tgt := 8) hx hb dX0_countFitting_55 (by decide) ?_
            exact ih y1 y2 y4 y6 x8 ls (lv_sub hl [1, 2, 3, 4, 5, 0] rfl) hF
          · have hF := zc_neg c7 hF
            refine lv_aload_n hx hb dX0_countFitting_36 rfl (lv_at hl 0 rfl) ?_
            refine lv_iload_n hx hb dX0_countFitting_37 rfl (lv_at hl 1 rfl) ?_
            refine lv_lload hx hb dX0_countFitting_38 (lv_at hl 5 rfl) ?_
            obtain ⟨r9, er9, hF⟩ := zc_bind hF
            refine zc_ci (va_runV (As := [.int _, .long _]) ⟨hx, hb, hml, hown, hts⟩ (kX0_fitsMinute l G ad er9) (cwV 2 hts gX0_countFitting_X0_fitsMinute rfl rfl rfl (by decide +kernel) ⟨Nat.le_of_ble_eq_true rfl, Nat.le_of_ble_eq_true rfl⟩) (zc_preV hK hP 0 rfl rfl) rfl rfl hl.1 rfl (lv_room (Nat.le_of_ble_eq_true rfl)) dX0_countFitting_40 ⟨Nat.le_of_ble_eq_true rfl, Nat.le_of_ble_eq_true rfl⟩) ?_
            refine lv_if_eq (tgt := 49) hx hb dX0_countFitting_43 (by decide) (fun c10 => ?_) (fun c10 => ?_)
            · have hF := zc_pos c10 hF
              refine lv_lload hx hb dX0_countFitting_49 (lv_at hl 5 rfl) ?_
              refine lv_lconst (v := (1 : Int64)) hx hb dX0_countFitting_51 (by decide) ?_
              refine lv_ladd hx hb dX0_countFitting_52 ?_
              refine lv_topl (fun x11 ex11 => ?_)
              have hF := zc_letE ex11 hF
              refine lv_lstore (lv' := [(7, .long x11), (0, .ref (ad 2)), (1, .int y1), (2, .long y2), (4, .long y4), (6, .int y6)]) hx hb dX0_countFitting_53 hl (by decide) rfl (fun ls hl => ?_)
              refine lv_goto (tgt := 8) hx hb dX0_countFitting_55 (by decide) ?_
              exact ih y1 y2 y4 y6 x11 ls (lv_sub hl [1, 2, 3, 4, 5, 0] rfl) hF
            · have hF := zc_neg c10 hF
              obtain ⟨x12, ex12⟩ : ∃ y : Int32, y = y6 + (1 : Int32) := ⟨_, rfl⟩
              have hF := zc_letE ex12 hF
              refine lv_iinc (v := x12) (lv' := [(6, .int x12), (0, .ref (ad 2)), (1, .int y1), (2, .long y2), (4, .long y4), (7, .long y7)]) hx hb dX0_countFitting_46 hl (k := 4) rfl (by rw [ex12]; rfl) (by decide) rfl (fun ls hl => ?_)
              refine lv_lload hx hb dX0_countFitting_49 (lv_at hl 5 rfl) ?_
              refine lv_lconst (v := (1 : Int64)) hx hb dX0_countFitting_51 (by decide) ?_
              refine lv_ladd hx hb dX0_countFitting_52 ?_
              refine lv_topl (fun x13 ex13 => ?_)
              have hF := zc_letE ex13 hF
              refine lv_lstore (lv' := [(7, .long x13), (6, .int x12), (0, .ref (ad 2)), (1, .int y1), (2, .long y2), (4, .long y4)]) hx hb dX0_countFitting_53 hl (by decide) rfl (fun ls hl => ?_)
              refine lv_goto (tgt := 8) hx hb dX0_countFitting_55 (by decide) ?_
              exact ih y1 y2 y4 x12 x13 ls (lv_sub hl [2, 3, 4, 5, 1, 0] rfl) hF
  refine lv_iconst (v := (0 : Int32)) hx hb dX0_countFitting_0 (by decide) ?_
  refine lv_istore (lv' := [(6, .int (0 : Int32)), (0, .ref (ad 2)), (1, .int a1), (2, .long a2), (4, .long a3)]) hx hb dX0_countFitting_1 hl (by decide) rfl (fun ls hl => ?_)
  refine lv_lload_n hx hb dX0_countFitting_3 rfl (lv_at hl 3 rfl) ?_
  refine lv_lconst (v := (1 : Int64)) hx hb dX0_countFitting_4 (by decide) ?_
  refine lv_ladd hx hb dX0_countFitting_5 ?_
  refine lv_topl (fun x1 ex1 => ?_)
  have hF := zc_letE ex1 hF
  refine lv_lstore (lv' := [(7, .long x1), (6, .int (0 : Int32)), (0, .ref (ad 2)), (1, .int a1), (2, .long a2), (4, .long a3)]) hx hb dX0_countFitting_6 hl (by decide) rfl (fun ls hl => ?_)
  exact loop N a1 a2 a3 (0 : Int32) x1 ls (lv_sub hl [2, 3, 4, 5, 1, 0] rfl) hF
def fX0_totalRings_L (N : Nat) : Nat → zc_Q → Int32 → Int32 → Option (Int32)
  | 0, _, _, _ => none
  | n + 1, q, y1, y2 => if (q.1) ≤ y2 then (some y1) else (if (6 : Int32) ≤ y2 then (some y1) else (zc_in y2 6 (zc_let (y1 + (q.2 3 y2.toNatClampNeg)) fun (x4 : Int32) => zc_let (y2 + (1 : Int32)) fun (x5 : Int32) => fX0_totalRings_L N n q x4 x5)))
def fX0_totalRings (N : Nat) (q : zc_Q) : Option (Int32) := fX0_totalRings_L N N q (0 : Int32) (0 : Int32)
theorem iX0_totalRings_X0 : ∀ w ∈ wsX00, w ∈ wsX0_totalRings := fun _ h => List.mem_cons_of_mem _ (List.mem_append_right _ h)
set_option maxHeartbeats 4000000 in
set_option maxRecDepth 100000 in
theorem kX0_totalRings (l : Launch) (G : zc_G) (ad : Nat → Nat) {N : Nat} {q : zc_Q} {r0 : Int32} (hF : fX0_totalRings N q = some r0) : Met l yX0_totalRings wsX0_totalRings ({ frames := 0, cells := 0, slots := 0, locals := 0 }) (zc_Pp G [.ref (ad 2)] (zc_al G ad q)) (vp_Si (fun r => r = r0)) 0 0 (fun _ => False) := by
  refine Met.ofW (cc := cX0_totalRings) (maxL := 3) (ret := (some .int)) (by decide) rfl ?_
  intro p e s m args below meth c s₁ B hml hv
  obtain ⟨rfl, hP, hK⟩ := hv
  have hx := B.exec
  have hb := B.bytes
  have hr := B.returns
  have hts := atoms_spec (ws := wsX0_totalRings) B.pre
  have hown : s.vm.findClass RX0 = some m.cls := findClass_of_methodNamed B.named
  have hlocks := B.notSynchronized
  have hl := lv_entry ([.ref (ad 2)]) (n := 3) (Nat.le_of_ble_eq_true rfl)
  rw [lg_entry_eq]
  generalize (lg_sl ([.ref (ad 2)]) ++ List.replicate (3 - (lg_sl ([.ref (ad 2)])).length) Slot.unset).toArray = ls at hl ⊢
  have hl : lv_has ls 3 [(0, .ref (ad 2))] := hl
  have loop : ∀ (n : Nat) (y1 : Int32) (y2 : Int32) (ls : Array Slot), lv_has ls 3 [(0, .ref (ad 2)), (1, .int y1), (2, .int y2)] → fX0_totalRings_L N n q y1 y2 = some r0 → W p l e (headSpec wsX0_totalRings ({ frames := 0, cells := 0, slots := 0, locals := 0 })).room s m ([.ref (ad 2)] : List Value).toArray below meth c s.heap [] 0 0 (MQ below (vp_Si (fun r => r = r0)) ([.ref (ad 2)] : List Value).toArray s 0 0 (fun _ => False)) (F0 m 4 ls []) := by
    intro n
    induction n with
    | zero =>
      intro y1 y2 ls hl hF
      cases hF
    | succ n ih =>
      intro y1 y2 ls hl hF
      rw [fX0_totalRings_L] at hF
      refine lv_iload_n hx hb dX0_totalRings_4 rfl (lv_at hl 2 rfl) ?_
      refine lv_aload_n hx hb dX0_totalRings_5 rfl (lv_at hl 0 rfl) ?_
      refine va_get (D := G.1) (ci := 0) (C := RX0) (T := TX0) (N := 5) hx hb hts iX0_totalRings_X0 hown hK.1 hP 0 rfl rfl 0 (by decide) (hts (.fieldLink RX0 9 "BoardClock$Alarms" "count" "I") (List.mem_of_getElem? (i := 1) rfl)) (fun _ h9 => h9) rfl dX0_totalRings_6 ?_
      refine lv_icmp_ge (tgt := 33) hx hb dX0_totalRings_9 (by decide) (fun c1 => ?_) (fun c1 => ?_)
      · have hF := zc_pos c1 hF
        refine lv_iload_n hx hb dX0_totalRings_33 rfl (lv_at hl 1 rfl) ?_
        exact W.iret hx hb hr (fun t ht hW => ⟨_, rfl, Option.some.inj hF, ht⟩) (fun _ h => by cases h) dX0_totalRings_34
      · have hF := zc_neg c1 hF
        refine lv_iload_n hx hb dX0_totalRings_12 rfl (lv_at hl 2 rfl) ?_
        refine lv_bipush (v := (6 : Int32)) hx hb dX0_totalRings_13 (by decide) ?_
        refine lv_icmp_ge (tgt := 33) hx hb dX0_totalRings_15 (by decide) (fun c2 => ?_) (fun c2 => ?_)
        · have hF := zc_pos c2 hF
          refine lv_iload_n hx hb dX0_totalRings_33 rfl (lv_at hl 1 rfl) ?_
          exact W.iret hx hb hr (fun t ht hW => ⟨_, rfl, Option.some.inj hF, ht⟩) (fun _ h => by cases h) dX0_totalRings_34
        · have hF := zc_neg c2 hF
          refine lv_iload_n hx hb dX0_totalRings_18 rfl (lv_at hl 1 rfl) ?_
          refine lv_aload_n hx hb dX0_totalRings_19 rfl (lv_at hl 0 rfl) ?_
          refine va_get (D := G.1) (ci := 0) (C := RX0) (T := TX0) (N := 5) hx hb hts iX0_totalRings_X0 hown hK.1 hP 0 rfl rfl 4 (by decide) (hts (.fieldLink RX0 25 "BoardClock$Alarms" "rung" "[I") (List.mem_of_getElem? (i := 2) rfl)) (fun _ h9 => h9) rfl dX0_totalRings_20 ?_
          refine lv_iload_n hx hb dX0_totalRings_23 rfl (lv_at hl 2 rfl) ?_
          obtain ⟨hi3, hF⟩ := zc_inE hF
          refine zc_iald hx hb hK.1 hP 4 0 rfl rfl hi3 rfl dX0_totalRings_24 ?_
          refine lv_iadd hx hb dX0_totalRings_25 ?_
          refine lv_topi (fun x4 ex4 => ?_)
          have hF := zc_letE ex4 hF
          refine lv_istore_n (lv' := [(1, .int x4), (0, .ref (ad 2)), (2, .int y2)]) hx hb dX0_totalRings_26 rfl hl (by decide) rfl (fun ls hl => ?_)
          obtain ⟨x5, ex5⟩ : ∃ y : Int32, y = y2 + (1 : Int32) := ⟨_, rfl⟩
          have hF := zc_letE ex5 hF
          refine lv_iinc (v := x5) (lv' := [(2, .int x5), (1, .int x4), (0, .ref (ad 2))]) hx hb dX0_totalRings_27 hl (k := 2) rfl (by rw [ex5]; rfl) (by decide) rfl (fun ls hl => ?_)
          refine lv_goto (tgt := 4) hx hb dX0_totalRings_30 (by decide) ?_
          exact ih x4 x5 ls (lv_sub hl [2, 1, 0] rfl) hF
  refine lv_iconst (v := (0 : Int32)) hx hb dX0_totalRings_0 (by decide) ?_
  refine lv_istore_n (lv' := [(1, .int (0 : Int32)), (0, .ref (ad 2))]) hx hb dX0_totalRings_1 rfl hl (by decide) rfl (fun ls hl => ?_)
  refine lv_iconst (v := (0 : Int32)) hx hb dX0_totalRings_2 (by decide) ?_
  refine lv_istore_n (lv' := [(2, .int (0 : Int32)), (1, .int (0 : Int32)), (0, .ref (ad 2))]) hx hb dX0_totalRings_3 rfl hl (by decide) rfl (fun ls hl => ?_)
  exact loop N (0 : Int32) (0 : Int32) ls (lv_sub hl [2, 1, 0] rfl) hF
def fX0_ringsToCome_L (N : Nat) : Nat → zc_Q → Int64 → Int64 → Int32 → Int32 → Option (Int32)
  | 0, _, _, _, _, _ => none
  | n + 1, q, y1, y3, y5, y6 => if (q.1) ≤ y6 then (some y5) else (if (6 : Int32) ≤ y6 then (some y5) else (Option.bind (fX0_countFitting N q y6 y1 y3) fun (r3 : Int32) => zc_in y6 6 (zc_let (y5 + (if ((99999 : Int32) - (q.2 3 y6.toNatClampNeg)) < r3 then ((99999 : Int32) - (q.2 3 y6.toNatClampNeg)) else r3)) fun (x5 : Int32) => zc_let (y6 + (1 : Int32)) fun (x6 : Int32) => fX0_ringsToCome_L N n q y1 y3 x5 x6)))
def fX0_ringsToCome (N : Nat) (q : zc_Q) (a1 : Int64) (a2 : Int64) : Option (Int32) := fX0_ringsToCome_L N N q a1 a2 (0 : Int32) (0 : Int32)
theorem iX0_ringsToCome_X0 : ∀ w ∈ wsX00, w ∈ wsX0_ringsToCome := fun _ h => List.mem_cons_of_mem _ (List.mem_append_right _ h)
set_option maxHeartbeats 4000000 in
set_option maxRecDepth 100000 in
theorem kX0_ringsToCome (l : Launch) (G : zc_G) (ad : Nat → Nat) {N : Nat} {q : zc_Q} {a1 : Int64} {a2 : Int64} {r0 : Int32} (hF : fX0_ringsToCome N q a1 a2 = some r0) : Met l yX0_ringsToCome wsX0_ringsToCome ({ frames := 3, cells := 0, slots := 0, locals := 72 }) (zc_Pp G [.ref (ad 2), .long a1, .long a2] (zc_al G ad q)) (vp_Si (fun r => r = r0)) 0 0 (fun _ => False) := by
  refine Met.ofW (cc := cX0_ringsToCome) (maxL := 7) (ret := (some .int)) (by decide) rfl ?_
  intro p e s m args below meth c s₁ B hml hv
  obtain ⟨rfl, hP, hK⟩ := hv
  have hx := B.exec
  have hb := B.bytes
  have hr := B.returns
  have hts := atoms_spec (ws := wsX0_ringsToCome) B.pre
  have hown : s.vm.findClass RX0 = some m.cls := findClass_of_methodNamed B.named
  have hlocks := B.notSynchronized
  have hl := lv_entry ([.ref (ad 2), .long a1, .long a2]) (n := 7) (Nat.le_of_ble_eq_true rfl)
  rw [lg_entry_eq]
  generalize (lg_sl ([.ref (ad 2), .long a1, .long a2]) ++ List.replicate (7 - (lg_sl ([.ref (ad 2), .long a1, .long a2])).length) Slot.unset).toArray = ls at hl ⊢
  have hl : lv_has ls 7 [(0, .ref (ad 2)), (1, .long a1), (3, .long a2)] := hl
  have loop : ∀ (n : Nat) (y1 : Int64) (y3 : Int64) (y5 : Int32) (y6 : Int32) (ls : Array Slot), lv_has ls 7 [(0, .ref (ad 2)), (1, .long y1), (3, .long y3), (5, .int y5), (6, .int y6)] → fX0_ringsToCome_L N n q y1 y3 y5 y6 = some r0 → W p l e (headSpec wsX0_ringsToCome ({ frames := 3, cells := 0, slots := 0, locals := 72 })).room s m ([.ref (ad 2), .long a1, .long a2] : List Value).toArray below meth c s.heap [] 0 0 (MQ below (vp_Si (fun r => r = r0)) ([.ref (ad 2), .long a1, .long a2] : List Value).toArray s 0 0 (fun _ => False)) (F0 m 6 ls []) := by
    intro n
    induction n with
    | zero =>
      intro y1 y3 y5 y6 ls hl hF
      cases hF
    | succ n ih =>
      intro y1 y3 y5 y6 ls hl hF
      rw [fX0_ringsToCome_L] at hF
      refine lv_iload hx hb dX0_ringsToCome_6 (lv_at hl 4 rfl) ?_
      refine lv_aload_n hx hb dX0_ringsToCome_8 rfl (lv_at hl 0 rfl) ?_
      refine va_get (D := G.1) (ci := 0) (C := RX0) (T := TX0) (N := 5) hx hb hts iX0_ringsToCome_X0 hown hK.1 hP 0 rfl rfl 0 (by decide) (hts (.fieldLink RX0 9 "BoardClock$Alarms" "count" "I") (List.mem_of_getElem? (i := 1) rfl)) (fun _ h9 => h9) rfl dX0_ringsToCome_9 ?_
      refine lv_icmp_ge (tgt := 54) hx hb dX0_ringsToCome_12 (by decide) (fun c1 => ?_) (fun c1 => ?_)
      · have hF := zc_pos c1 hF
        refine lv_iload hx hb dX0_ringsToCome_54 (lv_at hl 3 rfl) ?_
        exact W.iret hx hb hr (fun t ht hW => ⟨_, rfl, Option.some.inj hF, ht⟩) (fun _ h => by cases h) dX0_ringsToCome_56
      · have hF := zc_neg c1 hF
        refine lv_iload hx hb dX0_ringsToCome_15 (lv_at hl 4 rfl) ?_
        refine lv_bipush (v := (6 : Int32)) hx hb dX0_ringsToCome_17 (by decide) ?_
        refine lv_icmp_ge (tgt := 54) hx hb dX0_ringsToCome_19 (by decide) (fun c2 => ?_) (fun c2 => ?_)
        · have hF := zc_pos c2 hF
          refine lv_iload hx hb dX0_ringsToCome_54 (lv_at hl 3 rfl) ?_
          exact W.iret hx hb hr (fun t ht hW => ⟨_, rfl, Option.some.inj hF, ht⟩) (fun _ h => by cases h) dX0_ringsToCome_56
        · have hF := zc_neg c2 hF
          refine lv_iload hx hb dX0_ringsToCome_22 (lv_at hl 3 rfl) ?_
          refine lv_aload_n hx hb dX0_ringsToCome_24 rfl (lv_at hl 0 rfl) ?_
          refine lv_iload hx hb dX0_ringsToCome_25 (lv_at hl 4 rfl) ?_
          refine lv_lload_n hx hb dX0_ringsToCome_27 rfl (lv_at hl 1 rfl) ?_
          refine lv_lload_n hx hb dX0_ringsToCome_28 rfl (lv_at hl 2 rfl) ?_
          obtain ⟨r3, er3, hF⟩ := zc_bind hF
          refine zc_ci (va_runV (As := [.int _, .long _, .long _]) ⟨hx, hb, hml, hown, hts⟩ (kX0_countFitting l G ad er3) (cwV 3 hts gX0_ringsToCome_X0_countFitting rfl rfl rfl (by decide +kernel) ⟨Nat.le_of_ble_eq_true rfl, Nat.le_of_ble_eq_true rfl⟩) (zc_preV hK hP 0 rfl rfl) rfl rfl hl.1 rfl (lv_room (Nat.le_of_ble_eq_true rfl)) dX0_ringsToCome_29 ⟨Nat.le_of_ble_eq_true rfl, Nat.le_of_ble_eq_true rfl⟩) ?_
          refine lv_ldc hx hb hown (hts (.constant RX0 43 (99999)) (List.mem_of_getElem? (i := 2) rfl)) dX0_ringsToCome_32 ?_
          refine lv_aload_n hx hb dX0_ringsToCome_34 rfl (lv_at hl 0 rfl) ?_
          refine va_get (D := G.1) (ci := 0) (C := RX0) (T := TX0) (N := 5) hx hb hts iX0_ringsToCome_X0 hown hK.1 hP 0 rfl rfl 4 (by decide) (hts (.fieldLink RX0 25 "BoardClock$Alarms" "rung" "[I") (List.mem_of_getElem? (i := 3) rfl)) (fun _ h9 => h9) rfl dX0_ringsToCome_35 ?_
          refine lv_iload hx hb dX0_ringsToCome_38 (lv_at hl 4 rfl) ?_
          obtain ⟨hi4, hF⟩ := zc_inE hF
          refine zc_iald hx hb hK.1 hP 4 0 rfl rfl hi4 rfl dX0_ringsToCome_40 ?_
          refine lv_isub hx hb dX0_ringsToCome_41 ?_
          refine va_mmin hx hb (hml.trans hl.1.symm) hown (hts (.methodLink RX0 44 Lib.Math.min.name) (List.mem_of_getElem? (i := 4) rfl)) (hts (.static Lib.Math.min.name) (List.mem_of_getElem? (i := 5) rfl)) (hts (.initialized "java/lang/Math") (List.mem_of_getElem? (i := 6) rfl)) (hts (.code Lib.Math.min.name Lib.Math.min.code 2 (some .int)) (List.mem_of_getElem? (i := 7) rfl)) (Nat.le_of_ble_eq_true rfl) (Nat.le_of_ble_eq_true rfl) (Nat.zero_le _) (Nat.zero_le _) dX0_ringsToCome_42 ?_
          refine lv_iadd hx hb dX0_ringsToCome_45 ?_
          refine lv_topi (fun x5 ex5 => ?_)
          have hF := zc_letE ex5 hF
          refine lv_istore (lv' := [(5, .int x5), (0, .ref (ad 2)), (1, .long y1), (3, .long y3), (6, .int y6)]) hx hb dX0_ringsToCome_46 hl (by decide) rfl (fun ls hl => ?_)
          obtain ⟨x6, ex6⟩ : ∃ y : Int32, y = y6 + (1 : Int32) := ⟨_, rfl⟩
          have hF := zc_letE ex6 hF
          refine lv_iinc (v := x6) (lv' := [(6, .int x6), (5, .int x5), (0, .ref (ad 2)), (1, .long y1), (3, .long y3)]) hx hb dX0_ringsToCome_48 hl (k := 4) rfl (by rw [ex6]; rfl) (by decide) rfl (fun ls hl => ?_)
          refine lv_goto (tgt := 6) hx hb dX0_ringsToCome_51 (by decide) ?_
          exact ih y1 y3 x5 x6 ls (lv_sub hl [2, 3, 4, 1, 0] rfl) hF
  refine lv_iconst (v := (0 : Int32)) hx hb dX0_ringsToCome_0 (by decide) ?_
  refine lv_istore (lv' := [(5, .int (0 : Int32)), (0, .ref (ad 2)), (1, .long a1), (3, .long a2)]) hx hb dX0_ringsToCome_1 hl (by decide) rfl (fun ls hl => ?_)
  refine lv_iconst (v := (0 : Int32)) hx hb dX0_ringsToCome_3 (by decide) ?_
  refine lv_istore (lv' := [(6, .int (0 : Int32)), (5, .int (0 : Int32)), (0, .ref (ad 2)), (1, .long a1), (3, .long a2)]) hx hb dX0_ringsToCome_4 hl (by decide) rfl (fun ls hl => ?_)
  exact loop N a1 a2 (0 : Int32) (0 : Int32) ls (lv_sub hl [2, 3, 4, 1, 0] rfl) hF
def fX0_nextFit_L (N : Nat) : Nat → zc_Q → Int32 → Int64 → Int64 → Int32 → Option (Int64)
  | 0, _, _, _, _, _ => none
  | n + 1, q, y1, y2, y4, y6 => if (1000 : Int32) ≤ y6 then (some (-1 : Int64)) else (Option.bind (fX0_fitsDay q y1 y4) fun (r3 : Int32) => if r3 = 0 then (zc_let (((y4 / (1440 : Int64)) + (1 : Int64)) * (1440 : Int64)) fun (x13 : Int64) => zc_let (y6 + (1 : Int32)) fun (x14 : Int32) => fX0_nextFit_L N n q y1 y2 x13 x14) else (Option.bind (fX0_fitsHour q y1 y4) fun (r5 : Int32) => if r5 = 0 then (zc_let (((y4 / (60 : Int64)) + (1 : Int64)) * (60 : Int64)) fun (x11 : Int64) => zc_let (y6 + (1 : Int32)) fun (x12 : Int32) => fX0_nextFit_L N n q y1 y2 x11 x12) else (Option.bind (fX0_fitsMinute q y1 y4) fun (r7 : Int32) => if r7 = 0 then (zc_let (y4 + (1 : Int64)) fun (x9 : Int64) => zc_let (y6 + (1 : Int32)) fun (x10 : Int32) => fX0_nextFit_L N n q y1 y2 x9 x10) else (some y4))))
def fX0_nextFit (N : Nat) (q : zc_Q) (a1 : Int32) (a2 : Int64) : Option (Int64) := zc_let (a2 + (1 : Int64)) fun (x1 : Int64) => fX0_nextFit_L N N q a1 a2 x1 (0 : Int32)
set_option maxHeartbeats 4000000 in
set_option maxRecDepth 100000 in
theorem kX0_nextFit (l : Launch) (G : zc_G) (ad : Nat → Nat) {N : Nat} {q : zc_Q} {a1 : Int32} {a2 : Int64} {r0 : Int64} (hF : fX0_nextFit N q a1 a2 = some r0) : Met l yX0_nextFit wsX0_nextFit ({ frames := 2, cells := 0, slots := 0, locals := 44 }) (zc_Pp G [.ref (ad 2), .int a1, .long a2] (zc_al G ad q)) (vp_Sl (fun r => r = r0)) 0 0 (fun _ => False) := by
  refine Met.ofW (cc := cX0_nextFit) (maxL := 7) (ret := (some .long)) (by decide) rfl ?_
  intro p e s m args below meth c s₁ B hml hv
  obtain ⟨rfl, hP, hK⟩ := hv
  have hx := B.exec
  have hb := B.bytes
  have hr := B.returns
  have hts := atoms_spec (ws := wsX0_nextFit) B.pre
  have hown : s.vm.findClass RX0 = some m.cls := findClass_of_methodNamed B.named
  have hlocks := B.notSynchronized
  have hl := lv_entry ([.ref (ad 2), .int a1, .long a2]) (n := 7) (Nat.le_of_ble_eq_true rfl)
  rw [lg_entry_eq]
  generalize (lg_sl ([.ref (ad 2), .int a1, .long a2]) ++ List.replicate (7 - (lg_sl ([.ref (ad 2), .int a1, .long a2])).length) Slot.unset).toArray = ls at hl ⊢
  have hl : lv_has ls 7 [(0, .ref (ad 2)), (1, .int a1), (2, .long a2)] := hl
  have loop : ∀ (n : Nat) (y1 : Int32) (y2 : Int64) (y4 : Int64) (y6 : Int32) (ls : Array Slot), lv_has ls 7 [(0, .ref (ad 2)), (1, .int y1), (2, .long y2), (4, .long y4), (6, .int y6)] → fX0_nextFit_L N n q y1 y2 y4 y6 = some r0 → W p l e (headSpec wsX0_nextFit ({ frames := 2, cells := 0, slots := 0, locals := 44 })).room s m ([.ref (ad 2), .int a1, .long a2] : List Value).toArray below meth c s.heap [] 0 0 (MQ below (vp_Sl (fun r => r = r0)) ([.ref (ad 2), .int a1, .long a2] : List Value).toArray s 0 0 (fun _ => False)) (F0 m 8 ls []) := by
    intro n
    induction n with
    | zero =>
      intro y1 y2 y4 y6 ls hl hF
      cases hF
    | succ n ih =>
      intro y1 y2 y4 y6 ls hl hF
      rw [fX0_nextFit_L] at hF
      refine lv_iload hx hb dX0_nextFit_8 (lv_at hl 4 rfl) ?_
      refine lv_sipush (v := (1000 : Int32)) hx hb dX0_nextFit_10 (by decide) ?_
      refine lv_icmp_ge (tgt := 98) hx hb dX0_nextFit_13 (by decide) (fun c2 => ?_) (fun c2 => ?_)
      · have hF := zc_pos c2 hF
        refine lv_ldc2 hx hb hown (hts (.constantLong RX0 64 (-1)) (List.mem_of_getElem? (i := 3) rfl)) dX0_nextFit_98 ?_
        exact W.lret hx hb hr (fun t ht hW => ⟨_, rfl, Option.some.inj hF, ht⟩) (fun _ h => by cases h) dX0_nextFit_101
      · have hF := zc_neg c2 hF
        refine lv_aload_n hx hb dX0_nextFit_16 rfl (lv_at hl 0 rfl) ?_
        refine lv_iload_n hx hb dX0_nextFit_17 rfl (lv_at hl 1 rfl) ?_
        refine lv_lload hx hb dX0_nextFit_18 (lv_at hl 3 rfl) ?_
        obtain ⟨r3, er3, hF⟩ := zc_bind hF
        refine zc_ci (va_runV (As := [.int _, .long _]) ⟨hx, hb, hml, hown, hts⟩ (kX0_fitsDay l G ad er3) (cwV 2 hts gX0_nextFit_X0_fitsDay rfl rfl rfl (by decide +kernel) ⟨Nat.le_of_ble_eq_true rfl, Nat.le_of_ble_eq_true rfl⟩) (zc_preV hK hP 0 rfl rfl) rfl rfl hl.1 rfl (lv_room (Nat.le_of_ble_eq_true rfl)) dX0_nextFit_20 ⟨Nat.le_of_ble_eq_true rfl, Nat.le_of_ble_eq_true rfl⟩) ?_
        refine lv_if_ne (tgt := 43) hx hb dX0_nextFit_23 (by decide) (fun c4 => ?_) (fun c4 => ?_)
        · have hF := zc_neg c4 hF
          refine lv_aload_n hx hb dX0_nextFit_43 rfl (lv_at hl 0 rfl) ?_
          refine lv_iload_n hx hb dX0_nextFit_44 rfl (lv_at hl 1 rfl) ?_
          refine lv_lload hx hb dX0_nextFit_45 (lv_at hl 3 rfl) ?_
          obtain ⟨r5, er5, hF⟩ := zc_bind hF
          refine zc_ci (va_runV (As := [.int _, .long _]) ⟨hx, hb, hml, hown, hts⟩ (kX0_fitsHour l G ad er5) (cwV 2 hts gX0_nextFit_X0_fitsHour rfl rfl rfl (by decide +kernel) ⟨Nat.le_of_ble_eq_true rfl, Nat.le_of_ble_eq_true rfl⟩) (zc_preV hK hP 0 rfl rfl) rfl rfl hl.1 rfl (lv_room (Nat.le_of_ble_eq_true rfl)) dX0_nextFit_47 ⟨Nat.le_of_ble_eq_true rfl, Nat.le_of_ble_eq_true rfl⟩) ?_
          refine lv_if_ne (tgt := 70) hx hb dX0_nextFit_50 (by decide) (fun c6 => ?_) (fun c6 => ?_)
          · have hF := zc_neg c6 hF
            refine lv_aload_n hx hb dX0_nextFit_70 rfl (lv_at hl 0 rfl) ?_
            refine lv_iload_n hx hb dX0_nextFit_71 rfl (lv_at hl 1 rfl) ?_
            refine lv_lload hx hb dX0_nextFit_72 (lv_at hl 3 rfl) ?_
            obtain ⟨r7, er7, hF⟩ := zc_bind hF
            refine zc_ci (va_runV (As := [.int _, .long _]) ⟨hx, hb, hml, hown, hts⟩ (kX0_fitsMinute l G ad er7) (cwV 2 hts gX0_nextFit_X0_fitsMinute rfl rfl rfl (by decide +kernel) ⟨Nat.le_of_ble_eq_true rfl, Nat.le_of_ble_eq_true rfl⟩) (zc_preV hK hP 0 rfl rfl) rfl rfl hl.1 rfl (lv_room (Nat.le_of_ble_eq_true rfl)) dX0_nextFit_74 ⟨Nat.le_of_ble_eq_true rfl, Nat.le_of_ble_eq_true rfl⟩) ?_
            refine lv_if_ne (tgt := 89) hx hb dX0_nextFit_77 (by decide) (fun c8 => ?_) (fun c8 => ?_)
            · have hF := zc_neg c8 hF
              refine lv_lload hx hb dX0_nextFit_89 (lv_at hl 3 rfl) ?_
              exact W.lret hx hb hr (fun t ht hW => ⟨_, rfl, Option.some.inj hF, ht⟩) (fun _ h => by cases h) dX0_nextFit_91
            · have hF := zc_pos c8 hF
              refine lv_lload hx hb dX0_nextFit_80 (lv_at hl 3 rfl) ?_
              refine lv_lconst (v := (1 : Int64)) hx hb dX0_nextFit_82 (by decide) ?_
              refine lv_ladd hx hb dX0_nextFit_83 ?_
              refine lv_topl (fun x9 ex9 => ?_)
              have hF := zc_letE ex9 hF
              refine lv_lstore (lv' := [(4, .long x9), (0, .ref (ad 2)), (1, .int y1), (2, .long y2), (6, .int y6)]) hx hb dX0_nextFit_84 hl (by decide) rfl (fun ls hl => ?_)
              refine lv_goto (tgt := 92) hx hb dX0_nextFit_86 (by decide) ?_
              obtain ⟨x10, ex10⟩ : ∃ y : Int32, y = y6 + (1 : Int32) := ⟨_, rfl⟩
              have hF := zc_letE ex10 hF
              refine lv_iinc (v := x10) (lv' := [(6, .int x10), (4, .long x9), (0, .ref (ad 2)), (1, .int y1), (2, .long y2)]) hx hb dX0_nextFit_92 hl (k := 4) rfl (by rw [ex10]; rfl) (by decide) rfl (fun ls hl => ?_)
              refine lv_goto (tgt := 8) hx hb dX0_nextFit_95 (by decide) ?_
              exact ih y1 y2 x9 x10 ls (lv_sub hl [2, 3, 4, 1, 0] rfl) hF
          · have hF := zc_pos c6 hF
            refine lv_lload hx hb dX0_nextFit_53 (lv_at hl 3 rfl) ?_
            refine lv_ldc2 hx hb hown (hts (.constantLong RX0 62 (60)) (List.mem_of_getElem? (i := 2) rfl)) dX0_nextFit_55 ?_
            refine lv_ldiv hx hb dX0_nextFit_58 (by decide) ?_
            refine lv_lconst (v := (1 : Int64)) hx hb dX0_nextFit_59 (by decide) ?_
            refine lv_ladd hx hb dX0_nextFit_60 ?_
            refine lv_ldc2 hx hb hown (hts (.constantLong RX0 62 (60)) (List.mem_of_getElem? (i := 2) rfl)) dX0_nextFit_61 ?_
            refine lv_lmul hx hb dX0_nextFit_64 ?_
            refine lv_topl (fun x11 ex11 => ?_)
            have hF := zc_letE ex11 hF
            refine lv_lstore (lv' := [(4, .long x11), (0, .ref (ad 2)), (1, .int y1), (2, .long y2), (6, .int y6)]) hx hb dX0_nextFit_65 hl (by decide) rfl (fun ls hl => ?_)
            refine lv_goto (tgt := 92) hx hb dX0_nextFit_67 (by decide) ?_
            obtain ⟨x12, ex12⟩ : ∃ y : Int32, y = y6 + (1 : Int32) := ⟨_, rfl⟩
            have hF := zc_letE ex12 hF
            refine lv_iinc (v := x12) (lv' := [(6, .int x12), (4, .long x11), (0, .ref (ad 2)), (1, .int y1), (2, .long y2)]) hx hb dX0_nextFit_92 hl (k := 4) rfl (by rw [ex12]; rfl) (by decide) rfl (fun ls hl => ?_)
            refine lv_goto (tgt := 8) hx hb dX0_nextFit_95 (by decide) ?_
            exact ih y1 y2 x11 x12 ls (lv_sub hl [2, 3, 4, 1, 0] rfl) hF
        · have hF := zc_pos c4 hF
          refine lv_lload hx hb dX0_nextFit_26 (lv_at hl 3 rfl) ?_
          refine lv_ldc2 hx hb hown (hts (.constantLong RX0 60 (1440)) (List.mem_of_getElem? (i := 1) rfl)) dX0_nextFit_28 ?_
          refine lv_ldiv hx hb dX0_nextFit_31 (by decide) ?_
          refine lv_lconst (v := (1 : Int64)) hx hb dX0_nextFit_32 (by decide) ?_
          refine lv_ladd hx hb dX0_nextFit_33 ?_
          refine lv_ldc2 hx hb hown (hts (.constantLong RX0 60 (1440)) (List.mem_of_getElem? (i := 1) rfl)) dX0_nextFit_34 ?_
          refine lv_lmul hx hb dX0_nextFit_37 ?_
          refine lv_topl (fun x13 ex13 => ?_)
          have hF := zc_letE ex13 hF
          refine lv_lstore (lv' := [(4, .long x13), (0, .ref (ad 2)), (1, .int y1), (2, .long y2), (6, .int y6)]) hx hb dX0_nextFit_38 hl (by decide) rfl (fun ls hl => ?_)
          refine lv_goto (tgt := 92) hx hb dX0_nextFit_40 (by decide) ?_
          obtain ⟨x14, ex14⟩ : ∃ y : Int32, y = y6 + (1 : Int32) := ⟨_, rfl⟩
          have hF := zc_letE ex14 hF
          refine lv_iinc (v := x14) (lv' := [(6, .int x14), (4, .long x13), (0, .ref (ad 2)), (1, .int y1), (2, .long y2)]) hx hb dX0_nextFit_92 hl (k := 4) rfl (by rw [ex14]; rfl) (by decide) rfl (fun ls hl => ?_)
          refine lv_goto (tgt := 8) hx hb dX0_nextFit_95 (by decide) ?_
          exact ih y1 y2 x13 x14 ls (lv_sub hl [2, 3, 4, 1, 0] rfl) hF
  refine lv_lload_n hx hb dX0_nextFit_0 rfl (lv_at hl 2 rfl) ?_
  refine lv_lconst (v := (1 : Int64)) hx hb dX0_nextFit_1 (by decide) ?_
  refine lv_ladd hx hb dX0_nextFit_2 ?_
  refine lv_topl (fun x1 ex1 => ?_)
  have hF := zc_letE ex1 hF
  refine lv_lstore (lv' := [(4, .long x1), (0, .ref (ad 2)), (1, .int a1), (2, .long a2)]) hx hb dX0_nextFit_3 hl (by decide) rfl (fun ls hl => ?_)
  refine lv_iconst (v := (0 : Int32)) hx hb dX0_nextFit_5 (by decide) ?_
  refine lv_istore (lv' := [(6, .int (0 : Int32)), (4, .long x1), (0, .ref (ad 2)), (1, .int a1), (2, .long a2)]) hx hb dX0_nextFit_6 hl (by decide) rfl (fun ls hl => ?_)
  exact loop N a1 a2 x1 (0 : Int32) ls (lv_sub hl [2, 3, 4, 1, 0] rfl) hF
end
section
def fX0_add (q : zc_Q) (a1 : Int32) (a2 : Int32) (a3 : Int32) : Option (Int32 × zc_Q) := if (q.1) < 0 then (some ((-1000000004 : Int32), q)) else (if (q.1) < (6 : Int32) then (zc_let (q.1) fun (x3 : Int32) => zc_in x3 6 (zc_let (zc_qa q 0 x3.toNatClampNeg a1) fun (q5 : zc_Q) => zc_in x3 6 (zc_let (zc_qa q5 1 x3.toNatClampNeg a2) fun (q7 : zc_Q) => zc_in x3 6 (zc_let (zc_qa q7 2 x3.toNatClampNeg a3) fun (q9 : zc_Q) => zc_in x3 6 (zc_let (zc_qa q9 3 x3.toNatClampNeg (0 : Int32)) fun (q11 : zc_Q) => zc_let (zc_qn q11 ((q11.1) + (1 : Int32))) fun (q12 : zc_Q) => some (x3, q12)))))) else (some ((-1000000004 : Int32), q)))
theorem iX0_add_X0 : ∀ w ∈ wsX00, w ∈ wsX0_add := fun _ h => List.mem_cons_of_mem _ (List.mem_append_right _ h)
set_option maxHeartbeats 4000000 in
set_option maxRecDepth 100000 in
theorem kX0_add (l : Launch) (G : zc_G) (ad : Nat → Nat) (sz : Nat) {q : zc_Q} {a1 : Int32} {a2 : Int32} {a3 : Int32} {r0 : Int32 × zc_Q} (hF : fX0_add q a1 a2 a3 = some r0) : Met l yX0_add wsX0_add ({ frames := 0, cells := 0, slots := 0, locals := 0 }) (zc_Pm G [.ref (ad 2), .int a1, .int a2, .int a3] (zc_al G ad q) sz) (zc_Qi G r0.1 (zc_al G ad r0.2) (va_A (zc_al G ad q) sz)) 0 0 (va_A (zc_al G ad q) sz) := by
  refine Met.ofW (cc := cX0_add) (maxL := 5) (ret := (some .int)) (by decide) rfl ?_
  intro p e s m args below meth c s₁ B hml hv
  obtain ⟨rfl, hsz, hP, hK, hD0⟩ := hv
  have hx := B.exec
  have hb := B.bytes
  have hr := B.returns
  have hts := atoms_spec (ws := wsX0_add) B.pre
  have hown : s.vm.findClass RX0 = some m.cls := findClass_of_methodNamed B.named
  have hlocks := B.notSynchronized
  subst hsz
  have hD := hD0.self (sz := s.heap.size)
  generalize hAe : va_A (zc_al G ad q) s.heap.size = A at hD ⊢
  have hA : ∀ q : Nat, s.heap.size ≤ q → A q := fun q h => by rw [← hAe]; exact Or.inr h
  have hS : va_S A s.heap s.heap [] := va_S.rf
  have hl := lv_entry ([.ref (ad 2), .int a1, .int a2, .int a3]) (n := 5) (Nat.le_of_ble_eq_true rfl)
  rw [lg_entry_eq]
  generalize (lg_sl ([.ref (ad 2), .int a1, .int a2, .int a3]) ++ List.replicate (5 - (lg_sl ([.ref (ad 2), .int a1, .int a2, .int a3])).length) Slot.unset).toArray = ls at hl ⊢
  have hl : lv_has ls 5 [(0, .ref (ad 2)), (1, .int a1), (2, .int a2), (3, .int a3)] := hl
  refine lv_aload_n hx hb dX0_add_0 rfl (lv_at hl 0 rfl) ?_
  refine va_get (D := G.1) (ci := 0) (C := RX0) (T := TX0) (N := 5) hx hb hts iX0_add_X0 hown hK.1 hP 0 rfl rfl 0 (by decide) (hts (.fieldLink RX0 9 "BoardClock$Alarms" "count" "I") (List.mem_of_getElem? (i := 1) rfl)) (fun _ h9 => h9) rfl dX0_add_1 ?_
  refine lv_if_lt (tgt := 16) hx hb dX0_add_4 (by decide) (fun c1 => ?_) (fun c1 => ?_)
  · have hF := zc_pos c1 hF
    refine lv_ldc hx hb hown (hts (.constant RX0 34 (-1000000004)) (List.mem_of_getElem? (i := 2) rfl)) dX0_add_16 ?_
    obtain rfl := Option.some.inj hF
    exact W.iret hx hb hr (fun t ht hW => ⟨⟨_, (), rfl, rfl, zc_hp ht hP⟩, hS.F ht⟩) hS.2.2 dX0_add_18
  · have hF := zc_neg c1 hF
    refine lv_aload_n hx hb dX0_add_7 rfl (lv_at hl 0 rfl) ?_
    refine va_get (D := G.1) (ci := 0) (C := RX0) (T := TX0) (N := 5) hx hb hts iX0_add_X0 hown hK.1 hP 0 rfl rfl 0 (by decide) (hts (.fieldLink RX0 9 "BoardClock$Alarms" "count" "I") (List.mem_of_getElem? (i := 1) rfl)) (fun _ h9 => h9) rfl dX0_add_8 ?_
    refine lv_bipush (v := (6 : Int32)) hx hb dX0_add_11 (by decide) ?_
    refine lv_icmp_lt (tgt := 19) hx hb dX0_add_13 (by decide) (fun c2 => ?_) (fun c2 => ?_)
    · have hF := zc_pos c2 hF
      refine lv_aload_n hx hb dX0_add_19 rfl (lv_at hl 0 rfl) ?_
      refine va_get (D := G.1) (ci := 0) (C := RX0) (T := TX0) (N := 5) hx hb hts iX0_add_X0 hown hK.1 hP 0 rfl rfl 0 (by decide) (hts (.fieldLink RX0 9 "BoardClock$Alarms" "count" "I") (List.mem_of_getElem? (i := 1) rfl)) (fun _ h9 => h9) rfl dX0_add_20 ?_
      refine lv_topi (fun x3 ex3 => ?_)
      have hF := zc_letE ex3 hF
      refine lv_istore (lv' := [(4, .int x3), (0, .ref (ad 2)), (1, .int a1), (2, .int a2), (3, .int a3)]) hx hb dX0_add_23 hl (by decide) rfl (fun ls hl => ?_)
      refine lv_aload_n hx hb dX0_add_25 rfl (lv_at hl 1 rfl) ?_
      refine va_get (D := G.1) (ci := 0) (C := RX0) (T := TX0) (N := 5) hx hb hts iX0_add_X0 hown hK.1 hP 0 rfl rfl 1 (by decide) (hts (.fieldLink RX0 15 "BoardClock$Alarms" "minutes" "[I") (List.mem_of_getElem? (i := 3) rfl)) (fun _ h9 => h9) rfl dX0_add_26 ?_
      refine lv_iload hx hb dX0_add_29 (lv_at hl 0 rfl) ?_
      refine lv_iload_n hx hb dX0_add_31 rfl (lv_at hl 2 rfl) ?_
      obtain ⟨hi4, hF⟩ := zc_inE hF
      refine zc_iast hx hb hK.1 hP hD hS 1 0 rfl rfl hi4 rfl dX0_add_32 (fun H locs hP hS => ?_)
      obtain ⟨q5, eq5, hF⟩ := zc_letX hF
      have hP : va_P G.1 vwCl (zc_al G ad q5) H := by rw [eq5]; exact hP
      have hD : va_D A (zc_al G ad q5) := zc_Ds hD rfl
      refine lv_aload_n hx hb dX0_add_33 rfl (lv_at hl 1 rfl) ?_
      refine va_get (D := G.1) (ci := 0) (C := RX0) (T := TX0) (N := 5) hx hb hts iX0_add_X0 hown hK.1 hP 0 rfl rfl 2 (by decide) (hts (.fieldLink RX0 19 "BoardClock$Alarms" "hours" "[I") (List.mem_of_getElem? (i := 4) rfl)) (fun _ h9 => h9) rfl dX0_add_34 ?_
      refine lv_iload hx hb dX0_add_37 (lv_at hl 0 rfl) ?_
      refine lv_iload_n hx hb dX0_add_39 rfl (lv_at hl 3 rfl) ?_
      obtain ⟨hi6, hF⟩ := zc_inE hF
      refine zc_iast hx hb hK.1 hP hD hS 2 0 rfl rfl hi6 rfl dX0_add_40 (fun H locs hP hS => ?_)
      obtain ⟨q7, eq7, hF⟩ := zc_letX hF
      have hP : va_P G.1 vwCl (zc_al G ad q7) H := by rw [eq7]; exact hP
      have hD : va_D A (zc_al G ad q7) := zc_Ds hD rfl
      refine lv_aload_n hx hb dX0_add_41 rfl (lv_at hl 1 rfl) ?_
      refine va_get (D := G.1) (ci := 0) (C := RX0) (T := TX0) (N := 5) hx hb hts iX0_add_X0 hown hK.1 hP 0 rfl rfl 3 (by decide) (hts (.fieldLink RX0 22 "BoardClock$Alarms" "weekdays" "[I") (List.mem_of_getElem? (i := 5) rfl)) (fun _ h9 => h9) rfl dX0_add_42 ?_
      refine lv_iload hx hb dX0_add_45 (lv_at hl 0 rfl) ?_
      refine lv_iload_n hx hb dX0_add_47 rfl (lv_at hl 4 rfl) ?_
      obtain ⟨hi8, hF⟩ := zc_inE hF
      refine zc_iast hx hb hK.1 hP hD hS 3 0 rfl rfl hi8 rfl dX0_add_48 (fun H locs hP hS => ?_)
      obtain ⟨q9, eq9, hF⟩ := zc_letX hF
      have hP : va_P G.1 vwCl (zc_al G ad q9) H := by rw [eq9]; exact hP
      have hD : va_D A (zc_al G ad q9) := zc_Ds hD rfl
      refine lv_aload_n hx hb dX0_add_49 rfl (lv_at hl 1 rfl) ?_
      refine va_get (D := G.1) (ci := 0) (C := RX0) (T := TX0) (N := 5) hx hb hts iX0_add_X0 hown hK.1 hP 0 rfl rfl 4 (by decide) (hts (.fieldLink RX0 25 "BoardClock$Alarms" "rung" "[I") (List.mem_of_getElem? (i := 6) rfl)) (fun _ h9 => h9) rfl dX0_add_50 ?_
      refine lv_iload hx hb dX0_add_53 (lv_at hl 0 rfl) ?_
      refine lv_iconst (v := (0 : Int32)) hx hb dX0_add_55 (by decide) ?_
      obtain ⟨hi10, hF⟩ := zc_inE hF
      refine zc_iast hx hb hK.1 hP hD hS 4 0 rfl rfl hi10 rfl dX0_add_56 (fun H locs hP hS => ?_)
      obtain ⟨q11, eq11, hF⟩ := zc_letX hF
      have hP : va_P G.1 vwCl (zc_al G ad q11) H := by rw [eq11]; exact hP
      have hD : va_D A (zc_al G ad q11) := zc_Ds hD rfl
      refine lv_aload_n hx hb dX0_add_57 rfl (lv_at hl 1 rfl) ?_
      refine lv_dup hx hb dX0_add_58 rfl ?_
      refine va_get (D := G.1) (ci := 0) (C := RX0) (T := TX0) (N := 5) hx hb hts iX0_add_X0 hown hK.1 hP 0 rfl rfl 0 (by decide) (hts (.fieldLink RX0 9 "BoardClock$Alarms" "count" "I") (List.mem_of_getElem? (i := 1) rfl)) (fun _ h9 => h9) rfl dX0_add_59 ?_
      refine lv_iconst (v := (1 : Int32)) hx hb dX0_add_62 (by decide) ?_
      refine lv_iadd hx hb dX0_add_63 ?_
      refine va_put (D := G.1) (ci := 0) (v := .int ((q11.1) + (1 : Int32))) (ty := .int) (C := RX0) (T := TX0) (N := 5) hx hb hts iX0_add_X0 tyX0 tyX0_ok nmX0 hown hK.1 hP hD hS 0 rfl rfl 0 (by decide) (hts (.fieldLink RX0 9 "BoardClock$Alarms" "count" "I") (List.mem_of_getElem? (i := 1) rfl)) (fun _ h9 => h9) rfl (by decide +kernel) rfl rfl (Nat.le_of_ble_eq_true rfl) dX0_add_64 (fun H locs hP _ hS => ?_)
      obtain ⟨q12, eq12, hF⟩ := zc_letX hF
      have hP : va_P G.1 vwCl (zc_al G ad q12) H := by rw [eq12]; exact hP
      have hD : va_D A (zc_al G ad q12) := zc_Ds hD rfl
      refine lv_iload hx hb dX0_add_67 (lv_at hl 0 rfl) ?_
      obtain rfl := Option.some.inj hF
      exact W.iret hx hb hr (fun t ht hW => ⟨⟨_, (), rfl, rfl, zc_hp ht hP⟩, hS.F ht⟩) hS.2.2 dX0_add_69
    · have hF := zc_neg c2 hF
      refine lv_ldc hx hb hown (hts (.constant RX0 34 (-1000000004)) (List.mem_of_getElem? (i := 2) rfl)) dX0_add_16 ?_
      obtain rfl := Option.some.inj hF
      exact W.iret hx hb hr (fun t ht hW => ⟨⟨_, (), rfl, rfl, zc_hp ht hP⟩, hS.F ht⟩) hS.2.2 dX0_add_18
def fX0_remove_L (N : Nat) : Nat → zc_Q → Int32 → Int32 → Option (zc_Q)
  | 0, _, _, _ => none
  | n + 1, q0, y1, y2 => if (q0.1) ≤ y2 then (some q0) else (if (6 : Int32) ≤ (y2 + (1 : Int32)) then (some q0) else (zc_in (y2 + (1 : Int32)) 6 (zc_in y2 6 (zc_let (zc_qa q0 0 y2.toNatClampNeg (q0.2 0 ((y2 + (1 : Int32))).toNatClampNeg)) fun (q8 : zc_Q) => zc_in (y2 + (1 : Int32)) 6 (zc_in y2 6 (zc_let (zc_qa q8 1 y2.toNatClampNeg (q8.2 1 ((y2 + (1 : Int32))).toNatClampNeg)) fun (q11 : zc_Q) => zc_in (y2 + (1 : Int32)) 6 (zc_in y2 6 (zc_let (zc_qa q11 2 y2.toNatClampNeg (q11.2 2 ((y2 + (1 : Int32))).toNatClampNeg)) fun (q14 : zc_Q) => zc_in (y2 + (1 : Int32)) 6 (zc_in y2 6 (zc_let (zc_qa q14 3 y2.toNatClampNeg (q14.2 3 ((y2 + (1 : Int32))).toNatClampNeg)) fun (q17 : zc_Q) => zc_let (y2 + (1 : Int32)) fun (x18 : Int32) => fX0_remove_L N n q17 y1 x18))))))))))
def fX0_remove (N : Nat) (q : zc_Q) (a1 : Int32) : Option (zc_Q) := Option.bind (fX0_has q a1) fun (r1 : Int32) => if r1 = 0 then (some q) else (zc_let (zc_qn q ((q.1) - (1 : Int32))) fun (q3 : zc_Q) => fX0_remove_L N N q3 a1 a1)
theorem iX0_remove_X0 : ∀ w ∈ wsX00, w ∈ wsX0_remove := fun _ h => List.mem_cons_of_mem _ (List.mem_append_right _ h)
set_option maxHeartbeats 4000000 in
set_option maxRecDepth 100000 in
theorem kX0_remove (l : Launch) (G : zc_G) (ad : Nat → Nat) (sz : Nat) {N : Nat} {q : zc_Q} {a1 : Int32} {r0 : zc_Q} (hF : fX0_remove N q a1 = some r0) : Met l yX0_remove wsX0_remove ({ frames := 1, cells := 0, slots := 0, locals := 21 }) (zc_Pm G [.ref (ad 2), .int a1] (zc_al G ad q) sz) (zc_Qv G (zc_al G ad r0) (va_A (zc_al G ad q) sz)) 0 0 (va_A (zc_al G ad q) sz) := by
  refine Met.ofW (cc := cX0_remove) (maxL := 3) (ret := none) (by decide) rfl ?_
  intro p e s m args below meth c s₁ B hml hv
  obtain ⟨rfl, hsz, hP, hK, hD0⟩ := hv
  have hx := B.exec
  have hb := B.bytes
  have hr := B.returns
  have hts := atoms_spec (ws := wsX0_remove) B.pre
  have hown : s.vm.findClass RX0 = some m.cls := findClass_of_methodNamed B.named
  have hlocks := B.notSynchronized
  subst hsz
  have hD := hD0.self (sz := s.heap.size)
  generalize hAe : va_A (zc_al G ad q) s.heap.size = A at hD ⊢
  have hA : ∀ q : Nat, s.heap.size ≤ q → A q := fun q h => by rw [← hAe]; exact Or.inr h
  have hS : va_S A s.heap s.heap [] := va_S.rf
  have hl := lv_entry ([.ref (ad 2), .int a1]) (n := 3) (Nat.le_of_ble_eq_true rfl)
  rw [lg_entry_eq]
  generalize (lg_sl ([.ref (ad 2), .int a1]) ++ List.replicate (3 - (lg_sl ([.ref (ad 2), .int a1])).length) Slot.unset).toArray = ls at hl ⊢
  have hl : lv_has ls 3 [(0, .ref (ad 2)), (1, .int a1)] := hl
  have loop : ∀ (n : Nat) (q0 : zc_Q) (y1 : Int32) (y2 : Int32) (H : Heap) (locs : List Loc), va_P G.1 vwCl (zc_al G ad q0) H → va_D A (zc_al G ad q0) → va_S A s.heap H locs → ∀ (ls : Array Slot), lv_has ls 3 [(0, .ref (ad 2)), (1, .int y1), (2, .int y2)] → fX0_remove_L N n q0 y1 y2 = some r0 → W p l e (headSpec wsX0_remove ({ frames := 1, cells := 0, slots := 0, locals := 21 })).room s m ([.ref (ad 2), .int a1] : List Value).toArray below meth c H locs 0 0 (MQ below (zc_Qv G (zc_al G ad r0) A) ([.ref (ad 2), .int a1] : List Value).toArray s 0 0 A) (F0 m 21 ls []) := by
    intro n
    induction n with
    | zero =>
      intro q0 y1 y2 H locs hP hD hS ls hl hF
      cases hF
    | succ n ih =>
      intro q0 y1 y2 H locs hP hD hS ls hl hF
      rw [fX0_remove_L] at hF
      refine lv_iload_n hx hb dX0_remove_21 rfl (lv_at hl 2 rfl) ?_
      refine lv_aload_n hx hb dX0_remove_22 rfl (lv_at hl 0 rfl) ?_
      refine va_get (D := G.1) (ci := 0) (C := RX0) (T := TX0) (N := 5) hx hb hts iX0_remove_X0 hown hK.1 hP 0 rfl rfl 0 (by decide) (hts (.fieldLink RX0 9 "BoardClock$Alarms" "count" "I") (List.mem_of_getElem? (i := 1) rfl)) (fun _ h9 => h9) rfl dX0_remove_23 ?_
      refine lv_icmp_ge (tgt := 99) hx hb dX0_remove_26 (by decide) (fun c4 => ?_) (fun c4 => ?_)
      · have hF := zc_pos c4 hF
        obtain rfl := Option.some.inj hF
        exact W.vret hx hb hr (fun t ht hW => ⟨⟨(), rfl, trivial, zc_hp ht hP⟩, hS.F ht⟩) hS.2.2 dX0_remove_99
      · have hF := zc_neg c4 hF
        refine lv_iload_n hx hb dX0_remove_29 rfl (lv_at hl 2 rfl) ?_
        refine lv_iconst (v := (1 : Int32)) hx hb dX0_remove_30 (by decide) ?_
        refine lv_iadd hx hb dX0_remove_31 ?_
        refine lv_bipush (v := (6 : Int32)) hx hb dX0_remove_32 (by decide) ?_
        refine lv_icmp_ge (tgt := 99) hx hb dX0_remove_34 (by decide) (fun c5 => ?_) (fun c5 => ?_)
        · have hF := zc_pos c5 hF
          obtain rfl := Option.some.inj hF
          exact W.vret hx hb hr (fun t ht hW => ⟨⟨(), rfl, trivial, zc_hp ht hP⟩, hS.F ht⟩) hS.2.2 dX0_remove_99
        · have hF := zc_neg c5 hF
          refine lv_aload_n hx hb dX0_remove_37 rfl (lv_at hl 0 rfl) ?_
          refine va_get (D := G.1) (ci := 0) (C := RX0) (T := TX0) (N := 5) hx hb hts iX0_remove_X0 hown hK.1 hP 0 rfl rfl 1 (by decide) (hts (.fieldLink RX0 15 "BoardClock$Alarms" "minutes" "[I") (List.mem_of_getElem? (i := 2) rfl)) (fun _ h9 => h9) rfl dX0_remove_38 ?_
          refine lv_iload_n hx hb dX0_remove_41 rfl (lv_at hl 2 rfl) ?_
          refine lv_aload_n hx hb dX0_remove_42 rfl (lv_at hl 0 rfl) ?_
          refine va_get (D := G.1) (ci := 0) (C := RX0) (T := TX0) (N := 5) hx hb hts iX0_remove_X0 hown hK.1 hP 0 rfl rfl 1 (by decide) (hts (.fieldLink RX0 15 "BoardClock$Alarms" "minutes" "[I") (List.mem_of_getElem? (i := 2) rfl)) (fun _ h9 => h9) rfl dX0_remove_43 ?_
          refine lv_iload_n hx hb dX0_remove_46 rfl (lv_at hl 2 rfl) ?_
          refine lv_iconst (v := (1 : Int32)) hx hb dX0_remove_47 (by decide) ?_
          refine lv_iadd hx hb dX0_remove_48 ?_
          obtain ⟨hi6, hF⟩ := zc_inE hF
          refine zc_iald hx hb hK.1 hP 1 0 rfl rfl hi6 rfl dX0_remove_49 ?_
          obtain ⟨hi7, hF⟩ := zc_inE hF
          refine zc_iast hx hb hK.1 hP hD hS 1 0 rfl rfl hi7 rfl dX0_remove_50 (fun H locs hP hS => ?_)
          obtain ⟨q8, eq8, hF⟩ := zc_letX hF
          have hP : va_P G.1 vwCl (zc_al G ad q8) H := by rw [eq8]; exact hP
          have hD : va_D A (zc_al G ad q8) := zc_Ds hD rfl
          refine lv_aload_n hx hb dX0_remove_51 rfl (lv_at hl 0 rfl) ?_
          refine va_get (D := G.1) (ci := 0) (C := RX0) (T := TX0) (N := 5) hx hb hts iX0_remove_X0 hown hK.1 hP 0 rfl rfl 2 (by decide) (hts (.fieldLink RX0 19 "BoardClock$Alarms" "hours" "[I") (List.mem_of_getElem? (i := 3) rfl)) (fun _ h9 => h9) rfl dX0_remove_52 ?_
          refine lv_iload_n hx hb dX0_remove_55 rfl (lv_at hl 2 rfl) ?_
          refine lv_aload_n hx hb dX0_remove_56 rfl (lv_at hl 0 rfl) ?_
          refine va_get (D := G.1) (ci := 0) (C := RX0) (T := TX0) (N := 5) hx hb hts iX0_remove_X0 hown hK.1 hP 0 rfl rfl 2 (by decide) (hts (.fieldLink RX0 19 "BoardClock$Alarms" "hours" "[I") (List.mem_of_getElem? (i := 3) rfl)) (fun _ h9 => h9) rfl dX0_remove_57 ?_
          refine lv_iload_n hx hb dX0_remove_60 rfl (lv_at hl 2 rfl) ?_
          refine lv_iconst (v := (1 : Int32)) hx hb dX0_remove_61 (by decide) ?_
          refine lv_iadd hx hb dX0_remove_62 ?_
          obtain ⟨hi9, hF⟩ := zc_inE hF
          refine zc_iald hx hb hK.1 hP 2 0 rfl rfl hi9 rfl dX0_remove_63 ?_
          obtain ⟨hi10, hF⟩ := zc_inE hF
          refine zc_iast hx hb hK.1 hP hD hS 2 0 rfl rfl hi10 rfl dX0_remove_64 (fun H locs hP hS => ?_)
          obtain ⟨q11, eq11, hF⟩ := zc_letX hF
          have hP : va_P G.1 vwCl (zc_al G ad q11) H := by rw [eq11]; exact hP
          have hD : va_D A (zc_al G ad q11) := zc_Ds hD rfl
          refine lv_aload_n hx hb dX0_remove_65 rfl (lv_at hl 0 rfl) ?_
          refine va_get (D := G.1) (ci := 0) (C := RX0) (T := TX0) (N := 5) hx hb hts iX0_remove_X0 hown hK.1 hP 0 rfl rfl 3 (by decide) (hts (.fieldLink RX0 22 "BoardClock$Alarms" "weekdays" "[I") (List.mem_of_getElem? (i := 4) rfl)) (fun _ h9 => h9) rfl dX0_remove_66 ?_
          refine lv_iload_n hx hb dX0_remove_69 rfl (lv_at hl 2 rfl) ?_
          refine lv_aload_n hx hb dX0_remove_70 rfl (lv_at hl 0 rfl) ?_
          refine va_get (D := G.1) (ci := 0) (C := RX0) (T := TX0) (N := 5) hx hb hts iX0_remove_X0 hown hK.1 hP 0 rfl rfl 3 (by decide) (hts (.fieldLink RX0 22 "BoardClock$Alarms" "weekdays" "[I") (List.mem_of_getElem? (i := 4) rfl)) (fun _ h9 => h9) rfl dX0_remove_71 ?_
          refine lv_iload_n hx hb dX0_remove_74 rfl (lv_at hl 2 rfl) ?_
          refine lv_iconst (v := (1 : Int32)) hx hb dX0_remove_75 (by decide) ?_
          refine lv_iadd hx hb dX0_remove_76 ?_
          obtain ⟨hi12, hF⟩ := zc_inE hF
          refine zc_iald hx hb hK.1 hP 3 0 rfl rfl hi12 rfl dX0_remove_77 ?_
          obtain ⟨hi13, hF⟩ := zc_inE hF
          refine zc_iast hx hb hK.1 hP hD hS 3 0 rfl rfl hi13 rfl dX0_remove_78 (fun H locs hP hS => ?_)
          obtain ⟨q14, eq14, hF⟩ := zc_letX hF
          have hP : va_P G.1 vwCl (zc_al G ad q14) H := by rw [eq14]; exact hP
          have hD : va_D A (zc_al G ad q14) := zc_Ds hD rfl
          refine lv_aload_n hx hb dX0_remove_79 rfl (lv_at hl 0 rfl) ?_
          refine va_get (D := G.1) (ci := 0) (C := RX0) (T := TX0) (N := 5) hx hb hts iX0_remove_X0 hown hK.1 hP 0 rfl rfl 4 (by decide) (hts (.fieldLink RX0 25 "BoardClock$Alarms" "rung" "[I") (List.mem_of_getElem? (i := 5) rfl)) (fun _ h9 => h9) rfl dX0_remove_80 ?_
          refine lv_iload_n hx hb dX0_remove_83 rfl (lv_at hl 2 rfl) ?_
          refine lv_aload_n hx hb dX0_remove_84 rfl (lv_at hl 0 rfl) ?_
          refine va_get (D := G.1) (ci := 0) (C := RX0) (T := TX0) (N := 5) hx hb hts iX0_remove_X0 hown hK.1 hP 0 rfl rfl 4 (by decide) (hts (.fieldLink RX0 25 "BoardClock$Alarms" "rung" "[I") (List.mem_of_getElem? (i := 5) rfl)) (fun _ h9 => h9) rfl dX0_remove_85 ?_
          refine lv_iload_n hx hb dX0_remove_88 rfl (lv_at hl 2 rfl) ?_
          refine lv_iconst (v := (1 : Int32)) hx hb dX0_remove_89 (by decide) ?_
          refine lv_iadd hx hb dX0_remove_90 ?_
          obtain ⟨hi15, hF⟩ := zc_inE hF
          refine zc_iald hx hb hK.1 hP 4 0 rfl rfl hi15 rfl dX0_remove_91 ?_
          obtain ⟨hi16, hF⟩ := zc_inE hF
          refine zc_iast hx hb hK.1 hP hD hS 4 0 rfl rfl hi16 rfl dX0_remove_92 (fun H locs hP hS => ?_)
          obtain ⟨q17, eq17, hF⟩ := zc_letX hF
          have hP : va_P G.1 vwCl (zc_al G ad q17) H := by rw [eq17]; exact hP
          have hD : va_D A (zc_al G ad q17) := zc_Ds hD rfl
          obtain ⟨x18, ex18⟩ : ∃ y : Int32, y = y2 + (1 : Int32) := ⟨_, rfl⟩
          have hF := zc_letE ex18 hF
          refine lv_iinc (v := x18) (lv' := [(2, .int x18), (0, .ref (ad 2)), (1, .int y1)]) hx hb dX0_remove_93 hl (k := 2) rfl (by rw [ex18]; rfl) (by decide) rfl (fun ls hl => ?_)
          refine lv_goto (tgt := 21) hx hb dX0_remove_96 (by decide) ?_
          exact ih q17 y1 x18 H locs hP hD hS ls (lv_sub hl [1, 2, 0] rfl) hF
  refine lv_aload_n hx hb dX0_remove_0 rfl (lv_at hl 0 rfl) ?_
  refine lv_iload_n hx hb dX0_remove_1 rfl (lv_at hl 1 rfl) ?_
  obtain ⟨r1, er1, hF⟩ := zc_bind hF
  refine zc_ci (va_runV (As := [.int _]) ⟨hx, hb, hml, hown, hts⟩ (kX0_has l G ad er1) (cwV 1 hts gX0_remove_X0_has rfl rfl rfl (by decide +kernel) ⟨Nat.le_of_ble_eq_true rfl, Nat.le_of_ble_eq_true rfl⟩) (zc_preV hK hP 0 rfl rfl) rfl rfl hl.1 rfl (lv_room (Nat.le_of_ble_eq_true rfl)) dX0_remove_2 ⟨Nat.le_of_ble_eq_true rfl, Nat.le_of_ble_eq_true rfl⟩) ?_
  refine lv_if_ne (tgt := 9) hx hb dX0_remove_5 (by decide) (fun c2 => ?_) (fun c2 => ?_)
  · have hF := zc_neg c2 hF
    refine lv_aload_n hx hb dX0_remove_9 rfl (lv_at hl 0 rfl) ?_
    refine lv_dup hx hb dX0_remove_10 rfl ?_
    refine va_get (D := G.1) (ci := 0) (C := RX0) (T := TX0) (N := 5) hx hb hts iX0_remove_X0 hown hK.1 hP 0 rfl rfl 0 (by decide) (hts (.fieldLink RX0 9 "BoardClock$Alarms" "count" "I") (List.mem_of_getElem? (i := 1) rfl)) (fun _ h9 => h9) rfl dX0_remove_11 ?_
    refine lv_iconst (v := (1 : Int32)) hx hb dX0_remove_14 (by decide) ?_
    refine lv_isub hx hb dX0_remove_15 ?_
    refine va_put (D := G.1) (ci := 0) (v := .int ((q.1) - (1 : Int32))) (ty := .int) (C := RX0) (T := TX0) (N := 5) hx hb hts iX0_remove_X0 tyX0 tyX0_ok nmX0 hown hK.1 hP hD hS 0 rfl rfl 0 (by decide) (hts (.fieldLink RX0 9 "BoardClock$Alarms" "count" "I") (List.mem_of_getElem? (i := 1) rfl)) (fun _ h9 => h9) rfl (by decide +kernel) rfl rfl (Nat.le_of_ble_eq_true rfl) dX0_remove_16 (fun H locs hP _ hS => ?_)
    obtain ⟨q3, eq3, hF⟩ := zc_letX hF
    have hP : va_P G.1 vwCl (zc_al G ad q3) H := by rw [eq3]; exact hP
    have hD : va_D A (zc_al G ad q3) := zc_Ds hD rfl
    refine lv_iload_n hx hb dX0_remove_19 rfl (lv_at hl 1 rfl) ?_
    refine lv_istore_n (lv' := [(2, .int a1), (0, .ref (ad 2)), (1, .int a1)]) hx hb dX0_remove_20 rfl hl (by decide) rfl (fun ls hl => ?_)
    exact loop N q3 a1 a1 _ _ hP hD hS ls (lv_sub hl [1, 2, 0] rfl) hF
  · have hF := zc_pos c2 hF
    obtain rfl := Option.some.inj hF
    exact W.vret hx hb hr (fun t ht hW => ⟨⟨(), rfl, trivial, zc_hp ht hP⟩, hS.F ht⟩) hS.2.2 dX0_remove_8
def fX0_ring_L (N : Nat) : Nat → zc_Q → Int64 → Int64 → Int32 → Int32 → Option (Int32 × zc_Q)
  | 0, _, _, _, _, _ => none
  | n + 1, q0, y1, y3, y5, y6 => if (q0.1) ≤ y6 then (some (y5, q0)) else (if (6 : Int32) ≤ y6 then (some (y5, q0)) else (Option.bind (fX0_countFitting N q0 y6 y1 y3) fun (r3 : Int32) => if r3 ≤ 0 then (zc_let (y6 + (1 : Int32)) fun (x5 : Int32) => fX0_ring_L N n q0 y1 y3 y5 x5) else (zc_let (y5 ||| ((1 : Int32) <<< (y6 &&& 31))) fun (x6 : Int32) => zc_in y6 6 (zc_in y6 6 (zc_let (zc_qa q0 3 y6.toNatClampNeg (if (99999 : Int32) < ((q0.2 3 y6.toNatClampNeg) + r3) then (99999 : Int32) else ((q0.2 3 y6.toNatClampNeg) + r3))) fun (q9 : zc_Q) => zc_let (y6 + (1 : Int32)) fun (x10 : Int32) => fX0_ring_L N n q9 y1 y3 x6 x10)))))
def fX0_ring (N : Nat) (q : zc_Q) (a1 : Int64) (a2 : Int64) : Option (Int32 × zc_Q) := fX0_ring_L N N q a1 a2 (0 : Int32) (0 : Int32)
theorem iX0_ring_X0 : ∀ w ∈ wsX00, w ∈ wsX0_ring := fun _ h => List.mem_cons_of_mem _ (List.mem_append_right _ h)
set_option maxHeartbeats 4000000 in
set_option maxRecDepth 100000 in
theorem kX0_ring (l : Launch) (G : zc_G) (ad : Nat → Nat) (sz : Nat) {N : Nat} {q : zc_Q} {a1 : Int64} {a2 : Int64} {r0 : Int32 × zc_Q} (hF : fX0_ring N q a1 a2 = some r0) : Met l yX0_ring wsX0_ring ({ frames := 3, cells := 0, slots := 0, locals := 72 }) (zc_Pm G [.ref (ad 2), .long a1, .long a2] (zc_al G ad q) sz) (zc_Qi G r0.1 (zc_al G ad r0.2) (va_A (zc_al G ad q) sz)) 0 0 (va_A (zc_al G ad q) sz) := by
  refine Met.ofW (cc := cX0_ring) (maxL := 8) (ret := (some .int)) (by decide) rfl ?_
  intro p e s m args below meth c s₁ B hml hv
  obtain ⟨rfl, hsz, hP, hK, hD0⟩ := hv
  have hx := B.exec
  have hb := B.bytes
  have hr := B.returns
  have hts := atoms_spec (ws := wsX0_ring) B.pre
  have hown : s.vm.findClass RX0 = some m.cls := findClass_of_methodNamed B.named
  have hlocks := B.notSynchronized
  subst hsz
  have hD := hD0.self (sz := s.heap.size)
  generalize hAe : va_A (zc_al G ad q) s.heap.size = A at hD ⊢
  have hA : ∀ q : Nat, s.heap.size ≤ q → A q := fun q h => by rw [← hAe]; exact Or.inr h
  have hS : va_S A s.heap s.heap [] := va_S.rf
  have hl := lv_entry ([.ref (ad 2), .long a1, .long a2]) (n := 8) (Nat.le_of_ble_eq_true rfl)
  rw [lg_entry_eq]
  generalize (lg_sl ([.ref (ad 2), .long a1, .long a2]) ++ List.replicate (8 - (lg_sl ([.ref (ad 2), .long a1, .long a2])).length) Slot.unset).toArray = ls at hl ⊢
  have hl : lv_has ls 8 [(0, .ref (ad 2)), (1, .long a1), (3, .long a2)] := hl
  have loop : ∀ (n : Nat) (q0 : zc_Q) (y1 : Int64) (y3 : Int64) (y5 : Int32) (y6 : Int32) (H : Heap) (locs : List Loc), va_P G.1 vwCl (zc_al G ad q0) H → va_D A (zc_al G ad q0) → va_S A s.heap H locs → ∀ (ls : Array Slot), lv_has ls 8 [(0, .ref (ad 2)), (1, .long y1), (3, .long y3), (5, .int y5), (6, .int y6)] → fX0_ring_L N n q0 y1 y3 y5 y6 = some r0 → W p l e (headSpec wsX0_ring ({ frames := 3, cells := 0, slots := 0, locals := 72 })).room s m ([.ref (ad 2), .long a1, .long a2] : List Value).toArray below meth c H locs 0 0 (MQ below (zc_Qi G r0.1 (zc_al G ad r0.2) A) ([.ref (ad 2), .long a1, .long a2] : List Value).toArray s 0 0 A) (F0 m 6 ls []) := by
    intro n
    induction n with
    | zero =>
      intro q0 y1 y3 y5 y6 H locs hP hD hS ls hl hF
      cases hF
    | succ n ih =>
      intro q0 y1 y3 y5 y6 H locs hP hD hS ls hl hF
      rw [fX0_ring_L] at hF
      refine lv_iload hx hb dX0_ring_6 (lv_at hl 4 rfl) ?_
      refine lv_aload_n hx hb dX0_ring_8 rfl (lv_at hl 0 rfl) ?_
      refine va_get (D := G.1) (ci := 0) (C := RX0) (T := TX0) (N := 5) hx hb hts iX0_ring_X0 hown hK.1 hP 0 rfl rfl 0 (by decide) (hts (.fieldLink RX0 9 "BoardClock$Alarms" "count" "I") (List.mem_of_getElem? (i := 1) rfl)) (fun _ h9 => h9) rfl dX0_ring_9 ?_
      refine lv_icmp_ge (tgt := 74) hx hb dX0_ring_12 (by decide) (fun c1 => ?_) (fun c1 => ?_)
      · have hF := zc_pos c1 hF
        refine lv_iload hx hb dX0_ring_74 (lv_at hl 3 rfl) ?_
        obtain rfl := Option.some.inj hF
        exact W.iret hx hb hr (fun t ht hW => ⟨⟨_, (), rfl, rfl, zc_hp ht hP⟩, hS.F ht⟩) hS.2.2 dX0_ring_76
      · have hF := zc_neg c1 hF
        refine lv_iload hx hb dX0_ring_15 (lv_at hl 4 rfl) ?_
        refine lv_bipush (v := (6 : Int32)) hx hb dX0_ring_17 (by decide) ?_
        refine lv_icmp_ge (tgt := 74) hx hb dX0_ring_19 (by decide) (fun c2 => ?_) (fun c2 => ?_)
        · have hF := zc_pos c2 hF
          refine lv_iload hx hb dX0_ring_74 (lv_at hl 3 rfl) ?_
          obtain rfl := Option.some.inj hF
          exact W.iret hx hb hr (fun t ht hW => ⟨⟨_, (), rfl, rfl, zc_hp ht hP⟩, hS.F ht⟩) hS.2.2 dX0_ring_76
        · have hF := zc_neg c2 hF
          refine lv_aload_n hx hb dX0_ring_22 rfl (lv_at hl 0 rfl) ?_
          refine lv_iload hx hb dX0_ring_23 (lv_at hl 4 rfl) ?_
          refine lv_lload_n hx hb dX0_ring_25 rfl (lv_at hl 1 rfl) ?_
          refine lv_lload_n hx hb dX0_ring_26 rfl (lv_at hl 2 rfl) ?_
          obtain ⟨r3, er3, hF⟩ := zc_bind hF
          refine zc_ci (va_runV (As := [.int _, .long _, .long _]) ⟨hx, hb, hml, hown, hts⟩ (kX0_countFitting l G ad er3) (cwV 3 hts gX0_ring_X0_countFitting rfl rfl rfl (by decide +kernel) ⟨Nat.le_of_ble_eq_true rfl, Nat.le_of_ble_eq_true rfl⟩) (zc_preV hK hP 0 rfl rfl) rfl rfl hl.1 rfl (lv_room (Nat.le_of_ble_eq_true rfl)) dX0_ring_27 ⟨Nat.le_of_ble_eq_true rfl, Nat.le_of_ble_eq_true rfl⟩) ?_
          refine lv_istore (lv' := [(7, .int r3), (0, .ref (ad 2)), (1, .long y1), (3, .long y3), (5, .int y5), (6, .int y6)]) hx hb dX0_ring_30 hl (by decide) rfl (fun ls hl => ?_)
          refine lv_iload hx hb dX0_ring_32 (lv_at hl 0 rfl) ?_
          refine lv_if_le (tgt := 68) hx hb dX0_ring_34 (by decide) (fun c4 => ?_) (fun c4 => ?_)
          · have hF := zc_pos c4 hF
            obtain ⟨x5, ex5⟩ : ∃ y : Int32, y = y6 + (1 : Int32) := ⟨_, rfl⟩
            have hF := zc_letE ex5 hF
            refine lv_iinc (v := x5) (lv' := [(6, .int x5), (7, .int r3), (0, .ref (ad 2)), (1, .long y1), (3, .long y3), (5, .int y5)]) hx hb dX0_ring_68 hl (k := 5) rfl (by rw [ex5]; rfl) (by decide) rfl (fun ls hl => ?_)
            refine lv_goto (tgt := 6) hx hb dX0_ring_71 (by decide) ?_
            exact ih q0 y1 y3 y5 x5 H locs hP hD hS ls (lv_sub hl [2, 3, 4, 5, 0] rfl) hF
          · have hF := zc_neg c4 hF
            refine lv_iload hx hb dX0_ring_37 (lv_at hl 4 rfl) ?_
            refine lv_iconst (v := (1 : Int32)) hx hb dX0_ring_39 (by decide) ?_
            refine lv_iload hx hb dX0_ring_40 (lv_at hl 5 rfl) ?_
            refine lv_ishl hx hb dX0_ring_42 ?_
            refine lv_ior hx hb dX0_ring_43 ?_
            refine lv_topi (fun x6 ex6 => ?_)
            have hF := zc_letE ex6 hF
            refine lv_istore (lv' := [(5, .int x6), (7, .int r3), (0, .ref (ad 2)), (1, .long y1), (3, .long y3), (6, .int y6)]) hx hb dX0_ring_44 hl (by decide) rfl (fun ls hl => ?_)
            refine lv_aload_n hx hb dX0_ring_46 rfl (lv_at hl 2 rfl) ?_
            refine va_get (D := G.1) (ci := 0) (C := RX0) (T := TX0) (N := 5) hx hb hts iX0_ring_X0 hown hK.1 hP 0 rfl rfl 4 (by decide) (hts (.fieldLink RX0 25 "BoardClock$Alarms" "rung" "[I") (List.mem_of_getElem? (i := 2) rfl)) (fun _ h9 => h9) rfl dX0_ring_47 ?_
            refine lv_iload hx hb dX0_ring_50 (lv_at hl 5 rfl) ?_
            refine lv_aload_n hx hb dX0_ring_52 rfl (lv_at hl 2 rfl) ?_
            refine va_get (D := G.1) (ci := 0) (C := RX0) (T := TX0) (N := 5) hx hb hts iX0_ring_X0 hown hK.1 hP 0 rfl rfl 4 (by decide) (hts (.fieldLink RX0 25 "BoardClock$Alarms" "rung" "[I") (List.mem_of_getElem? (i := 2) rfl)) (fun _ h9 => h9) rfl dX0_ring_53 ?_
            refine lv_iload hx hb dX0_ring_56 (lv_at hl 5 rfl) ?_
            obtain ⟨hi7, hF⟩ := zc_inE hF
            refine zc_iald hx hb hK.1 hP 4 0 rfl rfl hi7 rfl dX0_ring_58 ?_
            refine lv_iload hx hb dX0_ring_59 (lv_at hl 1 rfl) ?_
            refine lv_iadd hx hb dX0_ring_61 ?_
            refine lv_ldc hx hb hown (hts (.constant RX0 43 (99999)) (List.mem_of_getElem? (i := 3) rfl)) dX0_ring_62 ?_
            refine va_mmin hx hb (hml.trans hl.1.symm) hown (hts (.methodLink RX0 44 Lib.Math.min.name) (List.mem_of_getElem? (i := 4) rfl)) (hts (.static Lib.Math.min.name) (List.mem_of_getElem? (i := 5) rfl)) (hts (.initialized "java/lang/Math") (List.mem_of_getElem? (i := 6) rfl)) (hts (.code Lib.Math.min.name Lib.Math.min.code 2 (some .int)) (List.mem_of_getElem? (i := 7) rfl)) (Nat.le_of_ble_eq_true rfl) (Nat.le_of_ble_eq_true rfl) (Nat.zero_le _) (Nat.zero_le _) dX0_ring_64 ?_
            obtain ⟨hi8, hF⟩ := zc_inE hF
            refine zc_iast hx hb hK.1 hP hD hS 4 0 rfl rfl hi8 rfl dX0_ring_67 (fun H locs hP hS => ?_)
            obtain ⟨q9, eq9, hF⟩ := zc_letX hF
            have hP : va_P G.1 vwCl (zc_al G ad q9) H := by rw [eq9]; exact hP
            have hD : va_D A (zc_al G ad q9) := zc_Ds hD rfl
            obtain ⟨x10, ex10⟩ : ∃ y : Int32, y = y6 + (1 : Int32) := ⟨_, rfl⟩
            have hF := zc_letE ex10 hF
            refine lv_iinc (v := x10) (lv' := [(6, .int x10), (5, .int x6), (7, .int r3), (0, .ref (ad 2)), (1, .long y1), (3, .long y3)]) hx hb dX0_ring_68 hl (k := 5) rfl (by rw [ex10]; rfl) (by decide) rfl (fun ls hl => ?_)
            refine lv_goto (tgt := 6) hx hb dX0_ring_71 (by decide) ?_
            exact ih q9 y1 y3 x6 x10 H locs hP hD hS ls (lv_sub hl [3, 4, 5, 1, 0] rfl) hF
  refine lv_iconst (v := (0 : Int32)) hx hb dX0_ring_0 (by decide) ?_
  refine lv_istore (lv' := [(5, .int (0 : Int32)), (0, .ref (ad 2)), (1, .long a1), (3, .long a2)]) hx hb dX0_ring_1 hl (by decide) rfl (fun ls hl => ?_)
  refine lv_iconst (v := (0 : Int32)) hx hb dX0_ring_3 (by decide) ?_
  refine lv_istore (lv' := [(6, .int (0 : Int32)), (5, .int (0 : Int32)), (0, .ref (ad 2)), (1, .long a1), (3, .long a2)]) hx hb dX0_ring_4 hl (by decide) rfl (fun ls hl => ?_)
  exact loop N q a1 a2 (0 : Int32) (0 : Int32) _ _ hP hD hS ls (lv_sub hl [2, 3, 4, 1, 0] rfl) hF
def fX0_copyFrom (q : zc_Q) (w : zc_Q) : Option (zc_Q) := zc_let (zc_qn q (w.1)) fun (q1 : zc_Q) => zc_let (zc_qf q1 0 (va_cpy (w.2 0) (q1.2 0) 0 0 6)) fun (q2 : zc_Q) => zc_let (zc_qf q2 1 (va_cpy (w.2 1) (q2.2 1) 0 0 6)) fun (q3 : zc_Q) => zc_let (zc_qf q3 2 (va_cpy (w.2 2) (q3.2 2) 0 0 6)) fun (q4 : zc_Q) => zc_let (zc_qf q4 3 (va_cpy (w.2 3) (q4.2 3) 0 0 6)) fun (q5 : zc_Q) => some q5
theorem iX0_copyFrom_X0 : ∀ w ∈ wsX00, w ∈ wsX0_copyFrom := fun _ h => List.mem_cons_of_mem _ (List.mem_append_right _ h)
set_option maxHeartbeats 4000000 in
set_option maxRecDepth 100000 in
theorem kX0_copyFrom (l : Launch) (G : zc_G) (ad ae : Nat → Nat) (sz : Nat) {q : zc_Q} {w : zc_Q} {r0 : zc_Q} (hF : fX0_copyFrom q w = some r0) : Met l yX0_copyFrom wsX0_copyFrom ({ frames := 1, cells := 0, slots := 0, locals := 60 }) (zc_Pm G [.ref (ad 2), .ref (ae 2)] (zc_al G ad q ++ zc_al G ae w) sz) (zc_Qv G (zc_al G ad r0 ++ zc_al G ae w) (va_A (zc_al G ad q ++ zc_al G ae w) sz)) 0 0 (va_A (zc_al G ad q ++ zc_al G ae w) sz) := by
  refine Met.ofW (cc := cX0_copyFrom) (maxL := 2) (ret := none) (by decide) rfl ?_
  intro p e s m args below meth c s₁ B hml hv
  obtain ⟨rfl, hsz, hP, hK, hD0⟩ := hv
  have hx := B.exec
  have hb := B.bytes
  have hr := B.returns
  have hts := atoms_spec (ws := wsX0_copyFrom) B.pre
  have hown : s.vm.findClass RX0 = some m.cls := findClass_of_methodNamed B.named
  have hlocks := B.notSynchronized
  subst hsz
  have hD := hD0.self (sz := s.heap.size)
  generalize hAe : va_A (zc_al G ad q ++ zc_al G ae w) s.heap.size = A at hD ⊢
  have hA : ∀ q : Nat, s.heap.size ≤ q → A q := fun q h => by rw [← hAe]; exact Or.inr h
  have hS : va_S A s.heap s.heap [] := va_S.rf
  have hl := lv_entry ([.ref (ad 2), .ref (ae 2)]) (n := 2) (Nat.le_of_ble_eq_true rfl)
  rw [lg_entry_eq]
  generalize (lg_sl ([.ref (ad 2), .ref (ae 2)]) ++ List.replicate (2 - (lg_sl ([.ref (ad 2), .ref (ae 2)])).length) Slot.unset).toArray = ls at hl ⊢
  have hl : lv_has ls 2 [(0, .ref (ad 2)), (1, .ref (ae 2))] := hl
  refine lv_aload_n hx hb dX0_copyFrom_0 rfl (lv_at hl 0 rfl) ?_
  refine lv_aload_n hx hb dX0_copyFrom_1 rfl (lv_at hl 1 rfl) ?_
  refine va_get (D := G.1) (ci := 0) (C := RX0) (T := TX0) (N := 5) hx hb hts iX0_copyFrom_X0 hown hK.1 hP 5 rfl rfl 0 (by decide) (hts (.fieldLink RX0 9 "BoardClock$Alarms" "count" "I") (List.mem_of_getElem? (i := 1) rfl)) (fun _ h9 => h9) rfl dX0_copyFrom_2 ?_
  refine va_put (D := G.1) (ci := 0) (v := .int (w.1)) (ty := .int) (C := RX0) (T := TX0) (N := 5) hx hb hts iX0_copyFrom_X0 tyX0 tyX0_ok nmX0 hown hK.1 hP hD hS 0 rfl rfl 0 (by decide) (hts (.fieldLink RX0 9 "BoardClock$Alarms" "count" "I") (List.mem_of_getElem? (i := 1) rfl)) (fun _ h9 => h9) rfl (by decide +kernel) rfl rfl (Nat.le_of_ble_eq_true rfl) dX0_copyFrom_5 (fun H locs hP _ hS => ?_)
  obtain ⟨q1, eq1, hF⟩ := zc_letX hF
  have hP : va_P G.1 vwCl (zc_al G ad q1 ++ zc_al G ae w) H := by rw [eq1]; exact hP
  have hD : va_D A (zc_al G ad q1 ++ zc_al G ae w) := zc_Ds hD rfl
  refine lv_aload_n hx hb dX0_copyFrom_8 rfl (lv_at hl 1 rfl) ?_
  refine va_get (D := G.1) (ci := 0) (C := RX0) (T := TX0) (N := 5) hx hb hts iX0_copyFrom_X0 hown hK.1 hP 5 rfl rfl 1 (by decide) (hts (.fieldLink RX0 15 "BoardClock$Alarms" "minutes" "[I") (List.mem_of_getElem? (i := 2) rfl)) (fun _ h9 => h9) rfl dX0_copyFrom_9 ?_
  refine lv_iconst (v := (0 : Int32)) hx hb dX0_copyFrom_12 (by decide) ?_
  refine lv_aload_n hx hb dX0_copyFrom_13 rfl (lv_at hl 0 rfl) ?_
  refine va_get (D := G.1) (ci := 0) (C := RX0) (T := TX0) (N := 5) hx hb hts iX0_copyFrom_X0 hown hK.1 hP 0 rfl rfl 1 (by decide) (hts (.fieldLink RX0 15 "BoardClock$Alarms" "minutes" "[I") (List.mem_of_getElem? (i := 2) rfl)) (fun _ h9 => h9) rfl dX0_copyFrom_14 ?_
  refine lv_iconst (v := (0 : Int32)) hx hb dX0_copyFrom_17 (by decide) ?_
  refine lv_bipush (v := (6 : Int32)) hx hb dX0_copyFrom_18 (by decide) ?_
  refine va_copyi hx hb (hml.trans hl.1.symm) hown (hts (.methodLink RX0 28 arraycopyName) (List.mem_of_getElem? (i := 3) rfl)) (hts (.native arraycopyName) (List.mem_of_getElem? (i := 4) rfl)) (hts (.static arraycopyName) (List.mem_of_getElem? (i := 5) rfl)) (hts (.initialized "java/lang/System") (List.mem_of_getElem? (i := 6) rfl)) hK.1 hP hD hS 6 1 0 0 rfl rfl rfl rfl rfl (by decide) (by decide) (by decide) (by decide) (by decide) (fun _ _ => rfl) (Nat.le_of_ble_eq_true rfl) (by decide +kernel) dX0_copyFrom_20 (fun H locs hP _ hS => ?_)
  obtain ⟨q2, eq2, hF⟩ := zc_letX hF
  have hP : va_P G.1 vwCl (zc_al G ad q2 ++ zc_al G ae w) H := by rw [eq2]; exact hP
  have hD : va_D A (zc_al G ad q2 ++ zc_al G ae w) := zc_Ds hD rfl
  refine lv_aload_n hx hb dX0_copyFrom_23 rfl (lv_at hl 1 rfl) ?_
  refine va_get (D := G.1) (ci := 0) (C := RX0) (T := TX0) (N := 5) hx hb hts iX0_copyFrom_X0 hown hK.1 hP 5 rfl rfl 2 (by decide) (hts (.fieldLink RX0 19 "BoardClock$Alarms" "hours" "[I") (List.mem_of_getElem? (i := 7) rfl)) (fun _ h9 => h9) rfl dX0_copyFrom_24 ?_
  refine lv_iconst (v := (0 : Int32)) hx hb dX0_copyFrom_27 (by decide) ?_
  refine lv_aload_n hx hb dX0_copyFrom_28 rfl (lv_at hl 0 rfl) ?_
  refine va_get (D := G.1) (ci := 0) (C := RX0) (T := TX0) (N := 5) hx hb hts iX0_copyFrom_X0 hown hK.1 hP 0 rfl rfl 2 (by decide) (hts (.fieldLink RX0 19 "BoardClock$Alarms" "hours" "[I") (List.mem_of_getElem? (i := 7) rfl)) (fun _ h9 => h9) rfl dX0_copyFrom_29 ?_
  refine lv_iconst (v := (0 : Int32)) hx hb dX0_copyFrom_32 (by decide) ?_
  refine lv_bipush (v := (6 : Int32)) hx hb dX0_copyFrom_33 (by decide) ?_
  refine va_copyi hx hb (hml.trans hl.1.symm) hown (hts (.methodLink RX0 28 arraycopyName) (List.mem_of_getElem? (i := 3) rfl)) (hts (.native arraycopyName) (List.mem_of_getElem? (i := 4) rfl)) (hts (.static arraycopyName) (List.mem_of_getElem? (i := 5) rfl)) (hts (.initialized "java/lang/System") (List.mem_of_getElem? (i := 6) rfl)) hK.1 hP hD hS 7 2 0 0 rfl rfl rfl rfl rfl (by decide) (by decide) (by decide) (by decide) (by decide) (fun _ _ => rfl) (Nat.le_of_ble_eq_true rfl) (by decide +kernel) dX0_copyFrom_35 (fun H locs hP _ hS => ?_)
  obtain ⟨q3, eq3, hF⟩ := zc_letX hF
  have hP : va_P G.1 vwCl (zc_al G ad q3 ++ zc_al G ae w) H := by rw [eq3]; exact hP
  have hD : va_D A (zc_al G ad q3 ++ zc_al G ae w) := zc_Ds hD rfl
  refine lv_aload_n hx hb dX0_copyFrom_38 rfl (lv_at hl 1 rfl) ?_
  refine va_get (D := G.1) (ci := 0) (C := RX0) (T := TX0) (N := 5) hx hb hts iX0_copyFrom_X0 hown hK.1 hP 5 rfl rfl 3 (by decide) (hts (.fieldLink RX0 22 "BoardClock$Alarms" "weekdays" "[I") (List.mem_of_getElem? (i := 8) rfl)) (fun _ h9 => h9) rfl dX0_copyFrom_39 ?_
  refine lv_iconst (v := (0 : Int32)) hx hb dX0_copyFrom_42 (by decide) ?_
  refine lv_aload_n hx hb dX0_copyFrom_43 rfl (lv_at hl 0 rfl) ?_
  refine va_get (D := G.1) (ci := 0) (C := RX0) (T := TX0) (N := 5) hx hb hts iX0_copyFrom_X0 hown hK.1 hP 0 rfl rfl 3 (by decide) (hts (.fieldLink RX0 22 "BoardClock$Alarms" "weekdays" "[I") (List.mem_of_getElem? (i := 8) rfl)) (fun _ h9 => h9) rfl dX0_copyFrom_44 ?_
  refine lv_iconst (v := (0 : Int32)) hx hb dX0_copyFrom_47 (by decide) ?_
  refine lv_bipush (v := (6 : Int32)) hx hb dX0_copyFrom_48 (by decide) ?_
  refine va_copyi hx hb (hml.trans hl.1.symm) hown (hts (.methodLink RX0 28 arraycopyName) (List.mem_of_getElem? (i := 3) rfl)) (hts (.native arraycopyName) (List.mem_of_getElem? (i := 4) rfl)) (hts (.static arraycopyName) (List.mem_of_getElem? (i := 5) rfl)) (hts (.initialized "java/lang/System") (List.mem_of_getElem? (i := 6) rfl)) hK.1 hP hD hS 8 3 0 0 rfl rfl rfl rfl rfl (by decide) (by decide) (by decide) (by decide) (by decide) (fun _ _ => rfl) (Nat.le_of_ble_eq_true rfl) (by decide +kernel) dX0_copyFrom_50 (fun H locs hP _ hS => ?_)
  obtain ⟨q4, eq4, hF⟩ := zc_letX hF
  have hP : va_P G.1 vwCl (zc_al G ad q4 ++ zc_al G ae w) H := by rw [eq4]; exact hP
  have hD : va_D A (zc_al G ad q4 ++ zc_al G ae w) := zc_Ds hD rfl
  refine lv_aload_n hx hb dX0_copyFrom_53 rfl (lv_at hl 1 rfl) ?_
  refine va_get (D := G.1) (ci := 0) (C := RX0) (T := TX0) (N := 5) hx hb hts iX0_copyFrom_X0 hown hK.1 hP 5 rfl rfl 4 (by decide) (hts (.fieldLink RX0 25 "BoardClock$Alarms" "rung" "[I") (List.mem_of_getElem? (i := 9) rfl)) (fun _ h9 => h9) rfl dX0_copyFrom_54 ?_
  refine lv_iconst (v := (0 : Int32)) hx hb dX0_copyFrom_57 (by decide) ?_
  refine lv_aload_n hx hb dX0_copyFrom_58 rfl (lv_at hl 0 rfl) ?_
  refine va_get (D := G.1) (ci := 0) (C := RX0) (T := TX0) (N := 5) hx hb hts iX0_copyFrom_X0 hown hK.1 hP 0 rfl rfl 4 (by decide) (hts (.fieldLink RX0 25 "BoardClock$Alarms" "rung" "[I") (List.mem_of_getElem? (i := 9) rfl)) (fun _ h9 => h9) rfl dX0_copyFrom_59 ?_
  refine lv_iconst (v := (0 : Int32)) hx hb dX0_copyFrom_62 (by decide) ?_
  refine lv_bipush (v := (6 : Int32)) hx hb dX0_copyFrom_63 (by decide) ?_
  refine va_copyi hx hb (hml.trans hl.1.symm) hown (hts (.methodLink RX0 28 arraycopyName) (List.mem_of_getElem? (i := 3) rfl)) (hts (.native arraycopyName) (List.mem_of_getElem? (i := 4) rfl)) (hts (.static arraycopyName) (List.mem_of_getElem? (i := 5) rfl)) (hts (.initialized "java/lang/System") (List.mem_of_getElem? (i := 6) rfl)) hK.1 hP hD hS 9 4 0 0 rfl rfl rfl rfl rfl (by decide) (by decide) (by decide) (by decide) (by decide) (fun _ _ => rfl) (Nat.le_of_ble_eq_true rfl) (by decide +kernel) dX0_copyFrom_65 (fun H locs hP _ hS => ?_)
  obtain ⟨q5, eq5, hF⟩ := zc_letX hF
  have hP : va_P G.1 vwCl (zc_al G ad q5 ++ zc_al G ae w) H := by rw [eq5]; exact hP
  have hD : va_D A (zc_al G ad q5 ++ zc_al G ae w) := zc_Ds hD rfl
  obtain rfl := Option.some.inj hF
  exact W.vret hx hb hr (fun t ht hW => ⟨⟨(), rfl, trivial, zc_hp ht hP⟩, hS.F ht⟩) hS.2.2 dX0_copyFrom_68
end
section
def fX1_aim (v : zc_S) : Option (Int64) := some ((v.1 1) + (v.1 2))
theorem iX1_aim_X1 : ∀ w ∈ wsX10, w ∈ wsX1_aim := fun _ h => List.mem_cons_of_mem _ (List.mem_append_right _ h)
set_option maxHeartbeats 4000000 in
set_option maxRecDepth 100000 in
theorem kX1_aim (l : Launch) (G : zc_G) (ad : Nat → Nat) {v : zc_S} {r0 : Int64} (hF : fX1_aim v = some r0) : Met l yX1_aim wsX1_aim ({ frames := 0, cells := 0, slots := 0, locals := 0 }) (zc_Pp G [.ref (ad 0)] (zc_st G ad v)) (vp_Sl (fun r => r = r0)) 0 0 (fun _ => False) := by
  refine Met.ofW (cc := cX1_aim) (maxL := 1) (ret := (some .long)) (by decide) rfl ?_
  intro p e s m args below meth c s₁ B hml hv
  obtain ⟨rfl, hP, hK⟩ := hv
  have hx := B.exec
  have hb := B.bytes
  have hr := B.returns
  have hts := atoms_spec (ws := wsX1_aim) B.pre
  have hown : s.vm.findClass RX1 = some m.cls := findClass_of_methodNamed B.named
  have hlocks := B.notSynchronized
  have hl := lv_entry ([.ref (ad 0)]) (n := 1) (Nat.le_of_ble_eq_true rfl)
  rw [lg_entry_eq]
  generalize (lg_sl ([.ref (ad 0)]) ++ List.replicate (1 - (lg_sl ([.ref (ad 0)])).length) Slot.unset).toArray = ls at hl ⊢
  have hl : lv_has ls 1 [(0, .ref (ad 0))] := hl
  refine lv_aload_n hx hb dX1_aim_0 rfl (lv_at hl 0 rfl) ?_
  refine va_get (D := G.1) (ci := 1) (C := RX1) (T := TX1) (N := 18) hx hb hts iX1_aim_X1 hown hK.1 hP 0 rfl rfl 1 (by decide) (hts (.fieldLink RX1 15 "BoardClock$State" "boardTime" "J") (List.mem_of_getElem? (i := 1) rfl)) (fun _ h9 => h9) rfl dX1_aim_1 ?_
  refine lv_aload_n hx hb dX1_aim_4 rfl (lv_at hl 0 rfl) ?_
  refine va_get (D := G.1) (ci := 1) (C := RX1) (T := TX1) (N := 18) hx hb hts iX1_aim_X1 hown hK.1 hP 0 rfl rfl 2 (by decide) (hts (.fieldLink RX1 18 "BoardClock$State" "ahead" "J") (List.mem_of_getElem? (i := 2) rfl)) (fun _ h9 => h9) rfl dX1_aim_5 ?_
  refine lv_ladd hx hb dX1_aim_8 ?_
  exact W.lret hx hb hr (fun t ht hW => ⟨_, rfl, Option.some.inj hF, ht⟩) (fun _ h => by cases h) dX1_aim_9
def fX1_minuteNumber (v : zc_S) : Option (Int64) := some ((v.1 1) / (60000 : Int64))
theorem iX1_minuteNumber_X1 : ∀ w ∈ wsX10, w ∈ wsX1_minuteNumber := fun _ h => List.mem_cons_of_mem _ (List.mem_append_right _ h)
set_option maxHeartbeats 4000000 in
set_option maxRecDepth 100000 in
theorem kX1_minuteNumber (l : Launch) (G : zc_G) (ad : Nat → Nat) {v : zc_S} {r0 : Int64} (hF : fX1_minuteNumber v = some r0) : Met l yX1_minuteNumber wsX1_minuteNumber ({ frames := 0, cells := 0, slots := 0, locals := 0 }) (zc_Pp G [.ref (ad 0)] (zc_st G ad v)) (vp_Sl (fun r => r = r0)) 0 0 (fun _ => False) := by
  refine Met.ofW (cc := cX1_minuteNumber) (maxL := 1) (ret := (some .long)) (by decide) rfl ?_
  intro p e s m args below meth c s₁ B hml hv
  obtain ⟨rfl, hP, hK⟩ := hv
  have hx := B.exec
  have hb := B.bytes
  have hr := B.returns
  have hts := atoms_spec (ws := wsX1_minuteNumber) B.pre
  have hown : s.vm.findClass RX1 = some m.cls := findClass_of_methodNamed B.named
  have hlocks := B.notSynchronized
  have hl := lv_entry ([.ref (ad 0)]) (n := 1) (Nat.le_of_ble_eq_true rfl)
  rw [lg_entry_eq]
  generalize (lg_sl ([.ref (ad 0)]) ++ List.replicate (1 - (lg_sl ([.ref (ad 0)])).length) Slot.unset).toArray = ls at hl ⊢
  have hl : lv_has ls 1 [(0, .ref (ad 0))] := hl
  refine lv_aload_n hx hb dX1_minuteNumber_0 rfl (lv_at hl 0 rfl) ?_
  refine va_get (D := G.1) (ci := 1) (C := RX1) (T := TX1) (N := 18) hx hb hts iX1_minuteNumber_X1 hown hK.1 hP 0 rfl rfl 1 (by decide) (hts (.fieldLink RX1 15 "BoardClock$State" "boardTime" "J") (List.mem_of_getElem? (i := 1) rfl)) (fun _ h9 => h9) rfl dX1_minuteNumber_1 ?_
  refine lv_ldc2 hx hb hown (hts (.constantLong RX1 83 (60000)) (List.mem_of_getElem? (i := 2) rfl)) dX1_minuteNumber_4 ?_
  refine lv_ldiv hx hb dX1_minuteNumber_7 (by decide) ?_
  exact W.lret hx hb hr (fun t ht hW => ⟨_, rfl, Option.some.inj hF, ht⟩) (fun _ h => by cases h) dX1_minuteNumber_8
def fX1_offAt (v : zc_S) (a1 : Int32) : Option (Int32) := zc_let (a1 - (v.2.1 4)) fun (x1 : Int32) => some ((v.2.1 6) - ((((v.2.1 5) * x1) * x1) / (100 : Int32)))
theorem iX1_offAt_X1 : ∀ w ∈ wsX10, w ∈ wsX1_offAt := fun _ h => List.mem_cons_of_mem _ (List.mem_append_right _ h)
set_option maxHeartbeats 4000000 in
set_option maxRecDepth 100000 in
theorem kX1_offAt (l : Launch) (G : zc_G) (ad : Nat → Nat) {v : zc_S} {a1 : Int32} {r0 : Int32} (hF : fX1_offAt v a1 = some r0) : Met l yX1_offAt wsX1_offAt ({ frames := 0, cells := 0, slots := 0, locals := 0 }) (zc_Pp G [.ref (ad 0), .int a1] (zc_st G ad v)) (vp_Si (fun r => r = r0)) 0 0 (fun _ => False) := by
  refine Met.ofW (cc := cX1_offAt) (maxL := 3) (ret := (some .int)) (by decide) rfl ?_
  intro p e s m args below meth c s₁ B hml hv
  obtain ⟨rfl, hP, hK⟩ := hv
  have hx := B.exec
  have hb := B.bytes
  have hr := B.returns
  have hts := atoms_spec (ws := wsX1_offAt) B.pre
  have hown : s.vm.findClass RX1 = some m.cls := findClass_of_methodNamed B.named
  have hlocks := B.notSynchronized
  have hl := lv_entry ([.ref (ad 0), .int a1]) (n := 3) (Nat.le_of_ble_eq_true rfl)
  rw [lg_entry_eq]
  generalize (lg_sl ([.ref (ad 0), .int a1]) ++ List.replicate (3 - (lg_sl ([.ref (ad 0), .int a1])).length) Slot.unset).toArray = ls at hl ⊢
  have hl : lv_has ls 3 [(0, .ref (ad 0)), (1, .int a1)] := hl
  refine lv_iload_n hx hb dX1_offAt_0 rfl (lv_at hl 1 rfl) ?_
  refine lv_aload_n hx hb dX1_offAt_1 rfl (lv_at hl 0 rfl) ?_
  refine va_get (D := G.1) (ci := 1) (C := RX1) (T := TX1) (N := 18) hx hb hts iX1_offAt_X1 hown hK.1 hP 0 rfl rfl 4 (by decide) (hts (.fieldLink RX1 25 "BoardClock$State" "top" "I") (List.mem_of_getElem? (i := 1) rfl)) (fun _ h9 => h9) rfl dX1_offAt_2 ?_
  refine lv_isub hx hb dX1_offAt_5 ?_
  refine lv_topi (fun x1 ex1 => ?_)
  have hF := zc_letE ex1 hF
  refine lv_istore_n (lv' := [(2, .int x1), (0, .ref (ad 0)), (1, .int a1)]) hx hb dX1_offAt_6 rfl hl (by decide) rfl (fun ls hl => ?_)
  refine lv_aload_n hx hb dX1_offAt_7 rfl (lv_at hl 1 rfl) ?_
  refine va_get (D := G.1) (ci := 1) (C := RX1) (T := TX1) (N := 18) hx hb hts iX1_offAt_X1 hown hK.1 hP 0 rfl rfl 6 (by decide) (hts (.fieldLink RX1 31 "BoardClock$State" "base" "I") (List.mem_of_getElem? (i := 2) rfl)) (fun _ h9 => h9) rfl dX1_offAt_8 ?_
  refine lv_aload_n hx hb dX1_offAt_11 rfl (lv_at hl 1 rfl) ?_
  refine va_get (D := G.1) (ci := 1) (C := RX1) (T := TX1) (N := 18) hx hb hts iX1_offAt_X1 hown hK.1 hP 0 rfl rfl 5 (by decide) (hts (.fieldLink RX1 28 "BoardClock$State" "curve" "I") (List.mem_of_getElem? (i := 3) rfl)) (fun _ h9 => h9) rfl dX1_offAt_12 ?_
  refine lv_iload_n hx hb dX1_offAt_15 rfl (lv_at hl 0 rfl) ?_
  refine lv_imul hx hb dX1_offAt_16 ?_
  refine lv_iload_n hx hb dX1_offAt_17 rfl (lv_at hl 0 rfl) ?_
  refine lv_imul hx hb dX1_offAt_18 ?_
  refine lv_bipush (v := (100 : Int32)) hx hb dX1_offAt_19 (by decide) ?_
  refine lv_idiv hx hb dX1_offAt_21 (by decide) ?_
  refine lv_isub hx hb dX1_offAt_22 ?_
  exact W.iret hx hb hr (fun t ht hW => ⟨_, rfl, Option.some.inj hF, ht⟩) (fun _ h => by cases h) dX1_offAt_23
def fX1_learnedOf (v : zc_S) (a1 : Int32) : Option (Int32) := Option.bind (fX2_isSpan a1) fun (r1 : Int32) => if r1 = 0 then (some (0 : Int32)) else (zc_in a1 9 (some (v.2.2.1 a1.toNatClampNeg)))
theorem iX1_learnedOf_X1 : ∀ w ∈ wsX10, w ∈ wsX1_learnedOf := fun _ h => List.mem_cons_of_mem _ (List.mem_append_right _ h)
set_option maxHeartbeats 4000000 in
set_option maxRecDepth 100000 in
theorem kX1_learnedOf (l : Launch) (G : zc_G) (ad : Nat → Nat) {v : zc_S} {a1 : Int32} {r0 : Int32} (hF : fX1_learnedOf v a1 = some r0) : Met l yX1_learnedOf wsX1_learnedOf ({ frames := 1, cells := 0, slots := 0, locals := 20 }) (zc_Pp G [.ref (ad 0), .int a1] (zc_st G ad v)) (vp_Si (fun r => r = r0)) 0 0 (fun _ => False) := by
  refine Met.ofW (cc := cX1_learnedOf) (maxL := 2) (ret := (some .int)) (by decide) rfl ?_
  intro p e s m args below meth c s₁ B hml hv
  obtain ⟨rfl, hP, hK⟩ := hv
  have hx := B.exec
  have hb := B.bytes
  have hr := B.returns
  have hts := atoms_spec (ws := wsX1_learnedOf) B.pre
  have hown : s.vm.findClass RX1 = some m.cls := findClass_of_methodNamed B.named
  have hlocks := B.notSynchronized
  have hl := lv_entry ([.ref (ad 0), .int a1]) (n := 2) (Nat.le_of_ble_eq_true rfl)
  rw [lg_entry_eq]
  generalize (lg_sl ([.ref (ad 0), .int a1]) ++ List.replicate (2 - (lg_sl ([.ref (ad 0), .int a1])).length) Slot.unset).toArray = ls at hl ⊢
  have hl : lv_has ls 2 [(0, .ref (ad 0)), (1, .int a1)] := hl
  refine lv_iload_n hx hb dX1_learnedOf_0 rfl (lv_at hl 1 rfl) ?_
  obtain ⟨r1, er1, hF⟩ := zc_bind hF
  refine zc_ci (va_runSN (As := [.int _]) ⟨hx, hb, hml, hown, hts⟩ (kX2_isSpan l G er1) ⟨va_cnB 1 hts gX1_learnedOf_X2_isSpan_n92 rfl rfl rfl hK.2.2.2.1 (hts (.initialized RX2) (List.mem_of_getElem? (i := 3) rfl)) (by decide +kernel) ⟨Nat.le_of_ble_eq_true rfl, Nat.le_of_ble_eq_true rfl⟩, (hts (.static yX2_isSpan) (List.mem_of_getElem? (i := 2) rfl)), trivial⟩ (zc_preS hK (show va_P G.1 vwCl [] _ from fun k q h => by simp at h)) rfl rfl hl.1 rfl (lv_room (Nat.le_of_ble_eq_true rfl)) dX1_learnedOf_1 ⟨Nat.le_of_ble_eq_true rfl, Nat.le_of_ble_eq_true rfl⟩) ?_
  refine lv_if_eq (tgt := 16) hx hb dX1_learnedOf_4 (by decide) (fun c2 => ?_) (fun c2 => ?_)
  · have hF := zc_pos c2 hF
    refine lv_iconst (v := (0 : Int32)) hx hb dX1_learnedOf_16 (by decide) ?_
    exact W.iret hx hb hr (fun t ht hW => ⟨_, rfl, Option.some.inj hF, ht⟩) (fun _ h => by cases h) dX1_learnedOf_17
  · have hF := zc_neg c2 hF
    refine lv_aload_n hx hb dX1_learnedOf_7 rfl (lv_at hl 0 rfl) ?_
    refine va_get (D := G.1) (ci := 1) (C := RX1) (T := TX1) (N := 18) hx hb hts iX1_learnedOf_X1 hown hK.1 hP 0 rfl rfl 16 (by decide) (hts (.fieldLink RX1 62 "BoardClock$State" "learned" "[I") (List.mem_of_getElem? (i := 1) rfl)) (fun _ h9 => h9) rfl dX1_learnedOf_8 ?_
    refine lv_iload_n hx hb dX1_learnedOf_11 rfl (lv_at hl 1 rfl) ?_
    obtain ⟨hi3, hF⟩ := zc_inE hF
    refine zc_iald hx hb hK.1 hP 1 0 rfl rfl hi3 rfl dX1_learnedOf_12 ?_
    refine lv_goto (tgt := 17) hx hb dX1_learnedOf_13 (by decide) ?_
    exact W.iret hx hb hr (fun t ht hW => ⟨_, rfl, Option.some.inj hF, ht⟩) (fun _ h => by cases h) dX1_learnedOf_17
def fX1_fitOf (v : zc_S) (a1 : Int32) : Option (Int32) := zc_let (((-20 : Int32) + (a1 * (10 : Int32))) + (5 : Int32)) fun (x1 : Int32) => Option.bind (fX1_learnedOf v a1) fun (r2 : Int32) => Option.bind (fX1_offAt v x1) fun (r3 : Int32) => some (r2 - ((16 : Int32) * r3))
set_option maxHeartbeats 4000000 in
set_option maxRecDepth 100000 in
theorem kX1_fitOf (l : Launch) (G : zc_G) (ad : Nat → Nat) {v : zc_S} {a1 : Int32} {r0 : Int32} (hF : fX1_fitOf v a1 = some r0) : Met l yX1_fitOf wsX1_fitOf ({ frames := 2, cells := 0, slots := 0, locals := 41 }) (zc_Pp G [.ref (ad 0), .int a1] (zc_st G ad v)) (vp_Si (fun r => r = r0)) 0 0 (fun _ => False) := by
  refine Met.ofW (cc := cX1_fitOf) (maxL := 3) (ret := (some .int)) (by decide) rfl ?_
  intro p e s m args below meth c s₁ B hml hv
  obtain ⟨rfl, hP, hK⟩ := hv
  have hx := B.exec
  have hb := B.bytes
  have hr := B.returns
  have hts := atoms_spec (ws := wsX1_fitOf) B.pre
  have hown : s.vm.findClass RX1 = some m.cls := findClass_of_methodNamed B.named
  have hlocks := B.notSynchronized
  have hl := lv_entry ([.ref (ad 0), .int a1]) (n := 3) (Nat.le_of_ble_eq_true rfl)
  rw [lg_entry_eq]
  generalize (lg_sl ([.ref (ad 0), .int a1]) ++ List.replicate (3 - (lg_sl ([.ref (ad 0), .int a1])).length) Slot.unset).toArray = ls at hl ⊢
  have hl : lv_has ls 3 [(0, .ref (ad 0)), (1, .int a1)] := hl
  refine lv_bipush (v := (-20 : Int32)) hx hb dX1_fitOf_0 (by decide) ?_
  refine lv_iload_n hx hb dX1_fitOf_2 rfl (lv_at hl 1 rfl) ?_
  refine lv_bipush (v := (10 : Int32)) hx hb dX1_fitOf_3 (by decide) ?_
  refine lv_imul hx hb dX1_fitOf_5 ?_
  refine lv_iadd hx hb dX1_fitOf_6 ?_
  refine lv_iconst (v := (5 : Int32)) hx hb dX1_fitOf_7 (by decide) ?_
  refine lv_iadd hx hb dX1_fitOf_8 ?_
  refine lv_topi (fun x1 ex1 => ?_)
  have hF := zc_letE ex1 hF
  refine lv_istore_n (lv' := [(2, .int x1), (0, .ref (ad 0)), (1, .int a1)]) hx hb dX1_fitOf_9 rfl hl (by decide) rfl (fun ls hl => ?_)
  refine lv_aload_n hx hb dX1_fitOf_10 rfl (lv_at hl 1 rfl) ?_
  refine lv_iload_n hx hb dX1_fitOf_11 rfl (lv_at hl 2 rfl) ?_
  obtain ⟨r2, er2, hF⟩ := zc_bind hF
  refine zc_ci (va_runV (As := [.int _]) ⟨hx, hb, hml, hown, hts⟩ (kX1_learnedOf l G ad er2) (cwV 1 hts gX1_fitOf_X1_learnedOf rfl rfl rfl (by decide +kernel) ⟨Nat.le_of_ble_eq_true rfl, Nat.le_of_ble_eq_true rfl⟩) (zc_preV hK hP 0 rfl rfl) rfl rfl hl.1 rfl (lv_room (Nat.le_of_ble_eq_true rfl)) dX1_fitOf_12 ⟨Nat.le_of_ble_eq_true rfl, Nat.le_of_ble_eq_true rfl⟩) ?_
  refine lv_bipush (v := (16 : Int32)) hx hb dX1_fitOf_15 (by decide) ?_
  refine lv_aload_n hx hb dX1_fitOf_17 rfl (lv_at hl 1 rfl) ?_
  refine lv_iload_n hx hb dX1_fitOf_18 rfl (lv_at hl 0 rfl) ?_
  obtain ⟨r3, er3, hF⟩ := zc_bind hF
  refine zc_ci (va_runV (As := [.int _]) ⟨hx, hb, hml, hown, hts⟩ (kX1_offAt l G ad er3) (cwV 1 hts gX1_fitOf_X1_offAt rfl rfl rfl (by decide +kernel) ⟨Nat.le_of_ble_eq_true rfl, Nat.le_of_ble_eq_true rfl⟩) (zc_preV hK hP 0 rfl rfl) rfl rfl hl.1 rfl (lv_room (Nat.le_of_ble_eq_true rfl)) dX1_fitOf_19 ⟨Nat.le_of_ble_eq_true rfl, Nat.le_of_ble_eq_true rfl⟩) ?_
  refine lv_imul hx hb dX1_fitOf_22 ?_
  refine lv_isub hx hb dX1_fitOf_23 ?_
  exact W.iret hx hb hr (fun t ht hW => ⟨_, rfl, Option.some.inj hF, ht⟩) (fun _ h => by cases h) dX1_fitOf_24
def fX1_isWithinBounds (v : zc_S) : Option (Int32) := Option.bind (fX1_aim v) fun (r1 : Int64) => if 0 < (lg_cmp ((if 0 < ((v.1 0) - r1) then ((v.1 0) - r1) else -((v.1 0) - r1)) * (16 : Int64)) ((v.2.1 9)).toInt64) then (some (0 : Int32)) else (some (1 : Int32))
theorem iX1_isWithinBounds_X1 : ∀ w ∈ wsX10, w ∈ wsX1_isWithinBounds := fun _ h => List.mem_cons_of_mem _ (List.mem_append_right _ h)
set_option maxHeartbeats 4000000 in
set_option maxRecDepth 100000 in
theorem kX1_isWithinBounds (l : Launch) (G : zc_G) (ad : Nat → Nat) {v : zc_S} {r0 : Int32} (hF : fX1_isWithinBounds v = some r0) : Met l yX1_isWithinBounds wsX1_isWithinBounds ({ frames := 1, cells := 0, slots := 0, locals := 25 }) (zc_Pp G [.ref (ad 0)] (zc_st G ad v)) (vp_Si (fun r => r = r0)) 0 0 (fun _ => False) := by
  refine Met.ofW (cc := cX1_isWithinBounds) (maxL := 1) (ret := (some .boolean)) (by decide) rfl ?_
  intro p e s m args below meth c s₁ B hml hv
  obtain ⟨rfl, hP, hK⟩ := hv
  have hx := B.exec
  have hb := B.bytes
  have hr := B.returns
  have hts := atoms_spec (ws := wsX1_isWithinBounds) B.pre
  have hown : s.vm.findClass RX1 = some m.cls := findClass_of_methodNamed B.named
  have hlocks := B.notSynchronized
  have hl := lv_entry ([.ref (ad 0)]) (n := 1) (Nat.le_of_ble_eq_true rfl)
  rw [lg_entry_eq]
  generalize (lg_sl ([.ref (ad 0)]) ++ List.replicate (1 - (lg_sl ([.ref (ad 0)])).length) Slot.unset).toArray = ls at hl ⊢
  have hl : lv_has ls 1 [(0, .ref (ad 0))] := hl
  refine lv_aload_n hx hb dX1_isWithinBounds_0 rfl (lv_at hl 0 rfl) ?_
  refine va_get (D := G.1) (ci := 1) (C := RX1) (T := TX1) (N := 18) hx hb hts iX1_isWithinBounds_X1 hown hK.1 hP 0 rfl rfl 0 (by decide) (hts (.fieldLink RX1 9 "BoardClock$State" "trueTime" "J") (List.mem_of_getElem? (i := 1) rfl)) (fun _ h9 => h9) rfl dX1_isWithinBounds_1 ?_
  refine lv_aload_n hx hb dX1_isWithinBounds_4 rfl (lv_at hl 0 rfl) ?_
  obtain ⟨r1, er1, hF⟩ := zc_bind hF
  refine zc_cl (va_runV (As := []) ⟨hx, hb, hml, hown, hts⟩ (kX1_aim l G ad er1) (cwV 0 hts gX1_isWithinBounds_X1_aim rfl rfl rfl (by decide +kernel) ⟨Nat.le_of_ble_eq_true rfl, Nat.le_of_ble_eq_true rfl⟩) (zc_preV hK hP 0 rfl rfl) rfl rfl hl.1 rfl (lv_room (Nat.le_of_ble_eq_true rfl)) dX1_isWithinBounds_5 ⟨Nat.le_of_ble_eq_true rfl, Nat.le_of_ble_eq_true rfl⟩) ?_
  refine lv_lsub hx hb dX1_isWithinBounds_8 ?_
  refine va_mabs_long hx hb (hml.trans hl.1.symm) hown (hts (.methodLink RX1 100 Lib.MathLoose.abs_long.x) (List.mem_of_getElem? (i := 2) rfl)) (hts (.static Lib.MathLoose.abs_long.x) (List.mem_of_getElem? (i := 3) rfl)) (hts (.initialized "java/lang/Math") (List.mem_of_getElem? (i := 4) rfl)) (hts (.code Lib.MathLoose.abs_long.x Lib.MathLoose.abs_long.code 2 (some .long)) (List.mem_of_getElem? (i := 5) rfl)) (Nat.le_of_ble_eq_true rfl) (Nat.le_of_ble_eq_true rfl) (Nat.zero_le _) (Nat.zero_le _) dX1_isWithinBounds_9 ?_
  refine lv_ldc2 hx hb hown (hts (.constantLong RX1 106 (16)) (List.mem_of_getElem? (i := 6) rfl)) dX1_isWithinBounds_12 ?_
  refine lv_lmul hx hb dX1_isWithinBounds_15 ?_
  refine lv_aload_n hx hb dX1_isWithinBounds_16 rfl (lv_at hl 0 rfl) ?_
  refine va_get (D := G.1) (ci := 1) (C := RX1) (T := TX1) (N := 18) hx hb hts iX1_isWithinBounds_X1 hown hK.1 hP 0 rfl rfl 9 (by decide) (hts (.fieldLink RX1 40 "BoardClock$State" "width" "I") (List.mem_of_getElem? (i := 7) rfl)) (fun _ h9 => h9) rfl dX1_isWithinBounds_17 ?_
  refine lv_i2l hx hb dX1_isWithinBounds_20 rfl ?_
  refine W.lcmp hx hb dX1_isWithinBounds_21 ?_
  refine lv_if_gt (tgt := 29) hx hb dX1_isWithinBounds_22 (by decide) (fun c2 => ?_) (fun c2 => ?_)
  · have hF := zc_pos c2 hF
    refine lv_iconst (v := (0 : Int32)) hx hb dX1_isWithinBounds_29 (by decide) ?_
    exact W.zret hx hb hr (by decide) (fun t ht hW => ⟨_, rfl, Option.some.inj hF, ht⟩) (fun _ h => by cases h) dX1_isWithinBounds_30
  · have hF := zc_neg c2 hF
    refine lv_iconst (v := (1 : Int32)) hx hb dX1_isWithinBounds_25 (by decide) ?_
    refine lv_goto (tgt := 30) hx hb dX1_isWithinBounds_26 (by decide) ?_
    exact W.zret hx hb hr (by decide) (fun t ht hW => ⟨_, rfl, Option.some.inj hF, ht⟩) (fun _ h => by cases h) dX1_isWithinBounds_30
def fX1_sixteenthsAfter (v : zc_S) (a1 : Int32) : Option (Int64) := Option.bind (fX2_spanOf (v.2.1 3)) fun (r1 : Int32) => Option.bind (fX1_learnedOf v r1) fun (r2 : Int32) => some (((v.2.1 7)).toInt64 - (a1.toInt64 * r2.toInt64))
theorem iX1_sixteenthsAfter_X1 : ∀ w ∈ wsX10, w ∈ wsX1_sixteenthsAfter := fun _ h => List.mem_cons_of_mem _ (List.mem_append_right _ h)
set_option maxHeartbeats 4000000 in
set_option maxRecDepth 100000 in
theorem kX1_sixteenthsAfter (l : Launch) (G : zc_G) (ad : Nat → Nat) {v : zc_S} {a1 : Int32} {r0 : Int64} (hF : fX1_sixteenthsAfter v a1 = some r0) : Met l yX1_sixteenthsAfter wsX1_sixteenthsAfter ({ frames := 2, cells := 0, slots := 0, locals := 41 }) (zc_Pp G [.ref (ad 0), .int a1] (zc_st G ad v)) (vp_Sl (fun r => r = r0)) 0 0 (fun _ => False) := by
  refine Met.ofW (cc := cX1_sixteenthsAfter) (maxL := 2) (ret := (some .long)) (by decide) rfl ?_
  intro p e s m args below meth c s₁ B hml hv
  obtain ⟨rfl, hP, hK⟩ := hv
  have hx := B.exec
  have hb := B.bytes
  have hr := B.returns
  have hts := atoms_spec (ws := wsX1_sixteenthsAfter) B.pre
  have hown : s.vm.findClass RX1 = some m.cls := findClass_of_methodNamed B.named
  have hlocks := B.notSynchronized
  have hl := lv_entry ([.ref (ad 0), .int a1]) (n := 2) (Nat.le_of_ble_eq_true rfl)
  rw [lg_entry_eq]
  generalize (lg_sl ([.ref (ad 0), .int a1]) ++ List.replicate (2 - (lg_sl ([.ref (ad 0), .int a1])).length) Slot.unset).toArray = ls at hl ⊢
  have hl : lv_has ls 2 [(0, .ref (ad 0)), (1, .int a1)] := hl
  refine lv_aload_n hx hb dX1_sixteenthsAfter_0 rfl (lv_at hl 0 rfl) ?_
  refine va_get (D := G.1) (ci := 1) (C := RX1) (T := TX1) (N := 18) hx hb hts iX1_sixteenthsAfter_X1 hown hK.1 hP 0 rfl rfl 7 (by decide) (hts (.fieldLink RX1 34 "BoardClock$State" "rest" "I") (List.mem_of_getElem? (i := 1) rfl)) (fun _ h9 => h9) rfl dX1_sixteenthsAfter_1 ?_
  refine lv_i2l hx hb dX1_sixteenthsAfter_4 rfl ?_
  refine lv_iload_n hx hb dX1_sixteenthsAfter_5 rfl (lv_at hl 1 rfl) ?_
  refine lv_i2l hx hb dX1_sixteenthsAfter_6 rfl ?_
  refine lv_aload_n hx hb dX1_sixteenthsAfter_7 rfl (lv_at hl 0 rfl) ?_
  refine lv_aload_n hx hb dX1_sixteenthsAfter_8 rfl (lv_at hl 0 rfl) ?_
  refine va_get (D := G.1) (ci := 1) (C := RX1) (T := TX1) (N := 18) hx hb hts iX1_sixteenthsAfter_X1 hown hK.1 hP 0 rfl rfl 3 (by decide) (hts (.fieldLink RX1 21 "BoardClock$State" "warmth" "I") (List.mem_of_getElem? (i := 2) rfl)) (fun _ h9 => h9) rfl dX1_sixteenthsAfter_9 ?_
  obtain ⟨r1, er1, hF⟩ := zc_bind hF
  refine zc_ci (va_runSN (As := [.int _]) ⟨hx, hb, hml, hown, hts⟩ (kX2_spanOf l G er1) ⟨va_cnB 1 hts gX1_sixteenthsAfter_X2_spanOf_n108 rfl rfl rfl hK.2.2.2.2.2.2.2.1 (hts (.initialized RX2) (List.mem_of_getElem? (i := 4) rfl)) (by decide +kernel) ⟨Nat.le_of_ble_eq_true rfl, Nat.le_of_ble_eq_true rfl⟩, (hts (.static yX2_spanOf) (List.mem_of_getElem? (i := 3) rfl)), trivial⟩ (zc_preS hK (show va_P G.1 vwCl [] _ from fun k q h => by simp at h)) rfl rfl hl.1 rfl (lv_room (Nat.le_of_ble_eq_true rfl)) dX1_sixteenthsAfter_12 ⟨Nat.le_of_ble_eq_true rfl, Nat.le_of_ble_eq_true rfl⟩) ?_
  obtain ⟨r2, er2, hF⟩ := zc_bind hF
  refine zc_ci (va_runV (As := [.int _]) ⟨hx, hb, hml, hown, hts⟩ (kX1_learnedOf l G ad er2) (cwV 1 hts gX1_sixteenthsAfter_X1_learnedOf rfl rfl rfl (by decide +kernel) ⟨Nat.le_of_ble_eq_true rfl, Nat.le_of_ble_eq_true rfl⟩) (zc_preV hK hP 0 rfl rfl) rfl rfl hl.1 rfl (lv_room (Nat.le_of_ble_eq_true rfl)) dX1_sixteenthsAfter_15 ⟨Nat.le_of_ble_eq_true rfl, Nat.le_of_ble_eq_true rfl⟩) ?_
  refine lv_i2l hx hb dX1_sixteenthsAfter_18 rfl ?_
  refine lv_lmul hx hb dX1_sixteenthsAfter_19 ?_
  refine lv_lsub hx hb dX1_sixteenthsAfter_20 ?_
  exact W.lret hx hb hr (fun t ht hW => ⟨_, rfl, Option.some.inj hF, ht⟩) (fun _ h => by cases h) dX1_sixteenthsAfter_21
def fX1_stepsAfter (v : zc_S) (a1 : Int32) : Option (Int64) := zc_let (a1.toInt64 * ((v.2.1 8)).toInt64) fun (x1 : Int64) => Option.bind (fX2_heldBetween (v.1 2) (-x1) x1) fun (r2 : Int64) => some r2
theorem iX1_stepsAfter_X1 : ∀ w ∈ wsX10, w ∈ wsX1_stepsAfter := fun _ h => List.mem_cons_of_mem _ (List.mem_append_right _ h)
set_option maxHeartbeats 4000000 in
set_option maxRecDepth 100000 in
theorem kX1_stepsAfter (l : Launch) (G : zc_G) (ad : Nat → Nat) {v : zc_S} {a1 : Int32} {r0 : Int64} (hF : fX1_stepsAfter v a1 = some r0) : Met l yX1_stepsAfter wsX1_stepsAfter ({ frames := 2, cells := 0, slots := 0, locals := 50 }) (zc_Pp G [.ref (ad 0), .int a1] (zc_st G ad v)) (vp_Sl (fun r => r = r0)) 0 0 (fun _ => False) := by
  refine Met.ofW (cc := cX1_stepsAfter) (maxL := 4) (ret := (some .long)) (by decide) rfl ?_
  intro p e s m args below meth c s₁ B hml hv
  obtain ⟨rfl, hP, hK⟩ := hv
  have hx := B.exec
  have hb := B.bytes
  have hr := B.returns
  have hts := atoms_spec (ws := wsX1_stepsAfter) B.pre
  have hown : s.vm.findClass RX1 = some m.cls := findClass_of_methodNamed B.named
  have hlocks := B.notSynchronized
  have hl := lv_entry ([.ref (ad 0), .int a1]) (n := 4) (Nat.le_of_ble_eq_true rfl)
  rw [lg_entry_eq]
  generalize (lg_sl ([.ref (ad 0), .int a1]) ++ List.replicate (4 - (lg_sl ([.ref (ad 0), .int a1])).length) Slot.unset).toArray = ls at hl ⊢
  have hl : lv_has ls 4 [(0, .ref (ad 0)), (1, .int a1)] := hl
  refine lv_iload_n hx hb dX1_stepsAfter_0 rfl (lv_at hl 1 rfl) ?_
  refine lv_i2l hx hb dX1_stepsAfter_1 rfl ?_
  refine lv_aload_n hx hb dX1_stepsAfter_2 rfl (lv_at hl 0 rfl) ?_
  refine va_get (D := G.1) (ci := 1) (C := RX1) (T := TX1) (N := 18) hx hb hts iX1_stepsAfter_X1 hown hK.1 hP 0 rfl rfl 8 (by decide) (hts (.fieldLink RX1 37 "BoardClock$State" "step" "I") (List.mem_of_getElem? (i := 1) rfl)) (fun _ h9 => h9) rfl dX1_stepsAfter_3 ?_
  refine lv_i2l hx hb dX1_stepsAfter_6 rfl ?_
  refine lv_lmul hx hb dX1_stepsAfter_7 ?_
  refine lv_topl (fun x1 ex1 => ?_)
  have hF := zc_letE ex1 hF
  refine lv_lstore_n (lv' := [(2, .long x1), (0, .ref (ad 0)), (1, .int a1)]) hx hb dX1_stepsAfter_8 rfl hl (by decide) rfl (fun ls hl => ?_)
  refine lv_aload_n hx hb dX1_stepsAfter_9 rfl (lv_at hl 1 rfl) ?_
  refine va_get (D := G.1) (ci := 1) (C := RX1) (T := TX1) (N := 18) hx hb hts iX1_stepsAfter_X1 hown hK.1 hP 0 rfl rfl 2 (by decide) (hts (.fieldLink RX1 18 "BoardClock$State" "ahead" "J") (List.mem_of_getElem? (i := 2) rfl)) (fun _ h9 => h9) rfl dX1_stepsAfter_10 ?_
  refine lv_lload_n hx hb dX1_stepsAfter_13 rfl (lv_at hl 0 rfl) ?_
  refine lv_lneg hx hb dX1_stepsAfter_14 ?_
  refine lv_lload_n hx hb dX1_stepsAfter_15 rfl (lv_at hl 0 rfl) ?_
  obtain ⟨r2, er2, hF⟩ := zc_bind hF
  refine zc_cl (va_runSN (As := [.long _, .long _, .long _]) ⟨hx, hb, hml, hown, hts⟩ (kX2_heldBetween l G er2) ⟨va_cnB 3 hts gX1_stepsAfter_X2_heldBetween_n111 rfl rfl rfl hK.2.2.2.2.2.2.2.2.1 (hts (.initialized RX2) (List.mem_of_getElem? (i := 4) rfl)) (by decide +kernel) ⟨Nat.le_of_ble_eq_true rfl, Nat.le_of_ble_eq_true rfl⟩, (hts (.static yX2_heldBetween) (List.mem_of_getElem? (i := 3) rfl)), trivial⟩ (zc_preS hK (show va_P G.1 vwCl [] _ from fun k q h => by simp at h)) rfl rfl hl.1 rfl (lv_room (Nat.le_of_ble_eq_true rfl)) dX1_stepsAfter_16 ⟨Nat.le_of_ble_eq_true rfl, Nat.le_of_ble_eq_true rfl⟩) ?_
  exact W.lret hx hb hr (fun t ht hW => ⟨_, rfl, Option.some.inj hF, ht⟩) (fun _ h => by cases h) dX1_stepsAfter_19
def fX1_boardTimeAfter (v : zc_S) (a1 : Int32) : Option (Int64) := Option.bind (fX1_offAt v (v.2.1 3)) fun (r1 : Int32) => zc_let ((v.1 1) + (a1.toInt64 * ((60000 : Int64) + r1.toInt64))) fun (x2 : Int64) => if (v.2.1 11) = 0 then (some x2) else (Option.bind (fX1_sixteenthsAfter v a1) fun (r4 : Int64) => Option.bind (fJ9_floorDiv_f86c9 r4 (16 : Int64)) fun (r5 : Int64) => Option.bind (fX1_stepsAfter v a1) fun (r6 : Int64) => some ((x2 + r5) + r6))
theorem iX1_boardTimeAfter_X1 : ∀ w ∈ wsX10, w ∈ wsX1_boardTimeAfter := fun _ h => List.mem_cons_of_mem _ (List.mem_append_right _ h)
set_option maxHeartbeats 4000000 in
set_option maxRecDepth 100000 in
theorem kX1_boardTimeAfter (l : Launch) (G : zc_G) (ad : Nat → Nat) {v : zc_S} {a1 : Int32} {r0 : Int64} (hF : fX1_boardTimeAfter v a1 = some r0) : Met l yX1_boardTimeAfter wsX1_boardTimeAfter ({ frames := 3, cells := 0, slots := 0, locals := 73 }) (zc_Pp G [.ref (ad 0), .int a1] (zc_st G ad v)) (vp_Sl (fun r => r = r0)) 0 0 (fun _ => False) := by
  refine Met.ofW (cc := cX1_boardTimeAfter) (maxL := 4) (ret := (some .long)) (by decide) rfl ?_
  intro p e s m args below meth c s₁ B hml hv
  obtain ⟨rfl, hP, hK⟩ := hv
  have hx := B.exec
  have hb := B.bytes
  have hr := B.returns
  have hts := atoms_spec (ws := wsX1_boardTimeAfter) B.pre
  have hown : s.vm.findClass RX1 = some m.cls := findClass_of_methodNamed B.named
  have hlocks := B.notSynchronized
  have hl := lv_entry ([.ref (ad 0), .int a1]) (n := 4) (Nat.le_of_ble_eq_true rfl)
  rw [lg_entry_eq]
  generalize (lg_sl ([.ref (ad 0), .int a1]) ++ List.replicate (4 - (lg_sl ([.ref (ad 0), .int a1])).length) Slot.unset).toArray = ls at hl ⊢
  have hl : lv_has ls 4 [(0, .ref (ad 0)), (1, .int a1)] := hl
  refine lv_aload_n hx hb dX1_boardTimeAfter_0 rfl (lv_at hl 0 rfl) ?_
  refine va_get (D := G.1) (ci := 1) (C := RX1) (T := TX1) (N := 18) hx hb hts iX1_boardTimeAfter_X1 hown hK.1 hP 0 rfl rfl 1 (by decide) (hts (.fieldLink RX1 15 "BoardClock$State" "boardTime" "J") (List.mem_of_getElem? (i := 1) rfl)) (fun _ h9 => h9) rfl dX1_boardTimeAfter_1 ?_
  refine lv_iload_n hx hb dX1_boardTimeAfter_4 rfl (lv_at hl 1 rfl) ?_
  refine lv_i2l hx hb dX1_boardTimeAfter_5 rfl ?_
  refine lv_ldc2 hx hb hown (hts (.constantLong RX1 83 (60000)) (List.mem_of_getElem? (i := 2) rfl)) dX1_boardTimeAfter_6 ?_
  refine lv_aload_n hx hb dX1_boardTimeAfter_9 rfl (lv_at hl 0 rfl) ?_
  refine lv_aload_n hx hb dX1_boardTimeAfter_10 rfl (lv_at hl 0 rfl) ?_
  refine va_get (D := G.1) (ci := 1) (C := RX1) (T := TX1) (N := 18) hx hb hts iX1_boardTimeAfter_X1 hown hK.1 hP 0 rfl rfl 3 (by decide) (hts (.fieldLink RX1 21 "BoardClock$State" "warmth" "I") (List.mem_of_getElem? (i := 3) rfl)) (fun _ h9 => h9) rfl dX1_boardTimeAfter_11 ?_
  obtain ⟨r1, er1, hF⟩ := zc_bind hF
  refine zc_ci (va_runV (As := [.int _]) ⟨hx, hb, hml, hown, hts⟩ (kX1_offAt l G ad er1) (cwV 1 hts gX1_boardTimeAfter_X1_offAt rfl rfl rfl (by decide +kernel) ⟨Nat.le_of_ble_eq_true rfl, Nat.le_of_ble_eq_true rfl⟩) (zc_preV hK hP 0 rfl rfl) rfl rfl hl.1 rfl (lv_room (Nat.le_of_ble_eq_true rfl)) dX1_boardTimeAfter_14 ⟨Nat.le_of_ble_eq_true rfl, Nat.le_of_ble_eq_true rfl⟩) ?_
  refine lv_i2l hx hb dX1_boardTimeAfter_17 rfl ?_
  refine lv_ladd hx hb dX1_boardTimeAfter_18 ?_
  refine lv_lmul hx hb dX1_boardTimeAfter_19 ?_
  refine lv_ladd hx hb dX1_boardTimeAfter_20 ?_
  refine lv_topl (fun x2 ex2 => ?_)
  have hF := zc_letE ex2 hF
  refine lv_lstore_n (lv' := [(2, .long x2), (0, .ref (ad 0)), (1, .int a1)]) hx hb dX1_boardTimeAfter_21 rfl hl (by decide) rfl (fun ls hl => ?_)
  refine lv_aload_n hx hb dX1_boardTimeAfter_22 rfl (lv_at hl 1 rfl) ?_
  refine va_get (D := G.1) (ci := 1) (C := RX1) (T := TX1) (N := 18) hx hb hts iX1_boardTimeAfter_X1 hown hK.1 hP 0 rfl rfl 11 (by decide) (hts (.fieldLink RX1 46 "BoardClock$State" "powered" "Z") (List.mem_of_getElem? (i := 4) rfl)) (fun _ h9 => h9) rfl dX1_boardTimeAfter_23 ?_
  refine lv_if_ne (tgt := 31) hx hb dX1_boardTimeAfter_26 (by decide) (fun c3 => ?_) (fun c3 => ?_)
  · have hF := zc_neg c3 hF
    refine lv_lload_n hx hb dX1_boardTimeAfter_31 rfl (lv_at hl 0 rfl) ?_
    refine lv_aload_n hx hb dX1_boardTimeAfter_32 rfl (lv_at hl 1 rfl) ?_
    refine lv_iload_n hx hb dX1_boardTimeAfter_33 rfl (lv_at hl 2 rfl) ?_
    obtain ⟨r4, er4, hF⟩ := zc_bind hF
    refine zc_cl (va_runV (As := [.int _]) ⟨hx, hb, hml, hown, hts⟩ (kX1_sixteenthsAfter l G ad er4) (cwV 1 hts gX1_boardTimeAfter_X1_sixteenthsAfter rfl rfl rfl (by decide +kernel) ⟨Nat.le_of_ble_eq_true rfl, Nat.le_of_ble_eq_true rfl⟩) (zc_preV hK hP 0 rfl rfl) rfl rfl hl.1 rfl (lv_room (Nat.le_of_ble_eq_true rfl)) dX1_boardTimeAfter_34 ⟨Nat.le_of_ble_eq_true rfl, Nat.le_of_ble_eq_true rfl⟩) ?_
    refine lv_ldc2 hx hb hown (hts (.constantLong RX1 106 (16)) (List.mem_of_getElem? (i := 5) rfl)) dX1_boardTimeAfter_37 ?_
    obtain ⟨r5, er5, hF⟩ := zc_bind hF
    refine zc_cl (va_runS (As := [.long _, .long _]) ⟨hx, hb, hml, hown, hts⟩ (kJ9_floorDiv_f86c9 l G er5) (va_cwS 2 hts gX1_boardTimeAfter_J9_floorDiv_f86c9 rfl rfl rfl (by decide +kernel) ⟨Nat.le_of_ble_eq_true rfl, Nat.le_of_ble_eq_true rfl⟩) (zc_preS hK (show va_P G.1 vwCl [] _ from fun k q h => by simp at h)) rfl rfl hl.1 rfl (lv_room (Nat.le_of_ble_eq_true rfl)) dX1_boardTimeAfter_40 ⟨Nat.le_of_ble_eq_true rfl, Nat.le_of_ble_eq_true rfl⟩) ?_
    refine lv_ladd hx hb dX1_boardTimeAfter_43 ?_
    refine lv_aload_n hx hb dX1_boardTimeAfter_44 rfl (lv_at hl 1 rfl) ?_
    refine lv_iload_n hx hb dX1_boardTimeAfter_45 rfl (lv_at hl 2 rfl) ?_
    obtain ⟨r6, er6, hF⟩ := zc_bind hF
    refine zc_cl (va_runV (As := [.int _]) ⟨hx, hb, hml, hown, hts⟩ (kX1_stepsAfter l G ad er6) (cwV 1 hts gX1_boardTimeAfter_X1_stepsAfter rfl rfl rfl (by decide +kernel) ⟨Nat.le_of_ble_eq_true rfl, Nat.le_of_ble_eq_true rfl⟩) (zc_preV hK hP 0 rfl rfl) rfl rfl hl.1 rfl (lv_room (Nat.le_of_ble_eq_true rfl)) dX1_boardTimeAfter_46 ⟨Nat.le_of_ble_eq_true rfl, Nat.le_of_ble_eq_true rfl⟩) ?_
    refine lv_ladd hx hb dX1_boardTimeAfter_49 ?_
    exact W.lret hx hb hr (fun t ht hW => ⟨_, rfl, Option.some.inj hF, ht⟩) (fun _ h => by cases h) dX1_boardTimeAfter_50
  · have hF := zc_pos c3 hF
    refine lv_lload_n hx hb dX1_boardTimeAfter_29 rfl (lv_at hl 0 rfl) ?_
    exact W.lret hx hb hr (fun t ht hW => ⟨_, rfl, Option.some.inj hF, ht⟩) (fun _ h => by cases h) dX1_boardTimeAfter_30
def fX1_widthPerTick (v : zc_S) : Option (Int32) := if (v.2.1 11) = 0 then (some ((4 : Int32) * (v.2.1 10))) else (some (v.2.1 10))
theorem iX1_widthPerTick_X1 : ∀ w ∈ wsX10, w ∈ wsX1_widthPerTick := fun _ h => List.mem_cons_of_mem _ (List.mem_append_right _ h)
set_option maxHeartbeats 4000000 in
set_option maxRecDepth 100000 in
theorem kX1_widthPerTick (l : Launch) (G : zc_G) (ad : Nat → Nat) {v : zc_S} {r0 : Int32} (hF : fX1_widthPerTick v = some r0) : Met l yX1_widthPerTick wsX1_widthPerTick ({ frames := 0, cells := 0, slots := 0, locals := 0 }) (zc_Pp G [.ref (ad 0)] (zc_st G ad v)) (vp_Si (fun r => r = r0)) 0 0 (fun _ => False) := by
  refine Met.ofW (cc := cX1_widthPerTick) (maxL := 1) (ret := (some .int)) (by decide) rfl ?_
  intro p e s m args below meth c s₁ B hml hv
  obtain ⟨rfl, hP, hK⟩ := hv
  have hx := B.exec
  have hb := B.bytes
  have hr := B.returns
  have hts := atoms_spec (ws := wsX1_widthPerTick) B.pre
  have hown : s.vm.findClass RX1 = some m.cls := findClass_of_methodNamed B.named
  have hlocks := B.notSynchronized
  have hl := lv_entry ([.ref (ad 0)]) (n := 1) (Nat.le_of_ble_eq_true rfl)
  rw [lg_entry_eq]
  generalize (lg_sl ([.ref (ad 0)]) ++ List.replicate (1 - (lg_sl ([.ref (ad 0)])).length) Slot.unset).toArray = ls at hl ⊢
  have hl : lv_has ls 1 [(0, .ref (ad 0))] := hl
  refine lv_aload_n hx hb dX1_widthPerTick_0 rfl (lv_at hl 0 rfl) ?_
  refine va_get (D := G.1) (ci := 1) (C := RX1) (T := TX1) (N := 18) hx hb hts iX1_widthPerTick_X1 hown hK.1 hP 0 rfl rfl 11 (by decide) (hts (.fieldLink RX1 46 "BoardClock$State" "powered" "Z") (List.mem_of_getElem? (i := 1) rfl)) (fun _ h9 => h9) rfl dX1_widthPerTick_1 ?_
  refine lv_if_eq (tgt := 14) hx hb dX1_widthPerTick_4 (by decide) (fun c1 => ?_) (fun c1 => ?_)
  · have hF := zc_pos c1 hF
    refine lv_iconst (v := (4 : Int32)) hx hb dX1_widthPerTick_14 (by decide) ?_
    refine lv_aload_n hx hb dX1_widthPerTick_15 rfl (lv_at hl 0 rfl) ?_
    refine va_get (D := G.1) (ci := 1) (C := RX1) (T := TX1) (N := 18) hx hb hts iX1_widthPerTick_X1 hown hK.1 hP 0 rfl rfl 10 (by decide) (hts (.fieldLink RX1 43 "BoardClock$State" "wider" "I") (List.mem_of_getElem? (i := 2) rfl)) (fun _ h9 => h9) rfl dX1_widthPerTick_16 ?_
    refine lv_imul hx hb dX1_widthPerTick_19 ?_
    exact W.iret hx hb hr (fun t ht hW => ⟨_, rfl, Option.some.inj hF, ht⟩) (fun _ h => by cases h) dX1_widthPerTick_20
  · have hF := zc_neg c1 hF
    refine lv_aload_n hx hb dX1_widthPerTick_7 rfl (lv_at hl 0 rfl) ?_
    refine va_get (D := G.1) (ci := 1) (C := RX1) (T := TX1) (N := 18) hx hb hts iX1_widthPerTick_X1 hown hK.1 hP 0 rfl rfl 10 (by decide) (hts (.fieldLink RX1 43 "BoardClock$State" "wider" "I") (List.mem_of_getElem? (i := 2) rfl)) (fun _ h9 => h9) rfl dX1_widthPerTick_8 ?_
    refine lv_goto (tgt := 20) hx hb dX1_widthPerTick_11 (by decide) ?_
    exact W.iret hx hb hr (fun t ht hW => ⟨_, rfl, Option.some.inj hF, ht⟩) (fun _ h => by cases h) dX1_widthPerTick_20
def fX1_ticksUntilDone (v : zc_S) : Option (Int32) := if (lg_cmp (v.1 2) (0 : Int64)) = 0 then (some (0 : Int32)) else (if (v.2.1 11) = 0 then (some (-1 : Int32)) else (if (1 : Int32) ≤ (v.2.1 8) then (zc_nzL ((v.2.1 8)).toInt64 (zc_let ((((if 0 < (v.1 2) then (v.1 2) else -(v.1 2)) + ((v.2.1 8)).toInt64) - (1 : Int64)) / ((v.2.1 8)).toInt64) fun (x5 : Int64) => if 0 < (lg_cmp x5 (2000 : Int64)) then (some (-1 : Int32)) else (some (x5).toInt32))) else (some (-1 : Int32))))
theorem iX1_ticksUntilDone_X1 : ∀ w ∈ wsX10, w ∈ wsX1_ticksUntilDone := fun _ h => List.mem_cons_of_mem _ (List.mem_append_right _ h)
set_option maxHeartbeats 4000000 in
set_option maxRecDepth 100000 in
theorem kX1_ticksUntilDone (l : Launch) (G : zc_G) (ad : Nat → Nat) {v : zc_S} {r0 : Int32} (hF : fX1_ticksUntilDone v = some r0) : Met l yX1_ticksUntilDone wsX1_ticksUntilDone ({ frames := 1, cells := 0, slots := 0, locals := 25 }) (zc_Pp G [.ref (ad 0)] (zc_st G ad v)) (vp_Si (fun r => r = r0)) 0 0 (fun _ => False) := by
  refine Met.ofW (cc := cX1_ticksUntilDone) (maxL := 3) (ret := (some .int)) (by decide) rfl ?_
  intro p e s m args below meth c s₁ B hml hv
  obtain ⟨rfl, hP, hK⟩ := hv
  have hx := B.exec
  have hb := B.bytes
  have hr := B.returns
  have hts := atoms_spec (ws := wsX1_ticksUntilDone) B.pre
  have hown : s.vm.findClass RX1 = some m.cls := findClass_of_methodNamed B.named
  have hlocks := B.notSynchronized
  have hl := lv_entry ([.ref (ad 0)]) (n := 3) (Nat.le_of_ble_eq_true rfl)
  rw [lg_entry_eq]
  generalize (lg_sl ([.ref (ad 0)]) ++ List.replicate (3 - (lg_sl ([.ref (ad 0)])).length) Slot.unset).toArray = ls at hl ⊢
  have hl : lv_has ls 3 [(0, .ref (ad 0))] := hl
  refine lv_aload_n hx hb dX1_ticksUntilDone_0 rfl (lv_at hl 0 rfl) ?_
  refine va_get (D := G.1) (ci := 1) (C := RX1) (T := TX1) (N := 18) hx hb hts iX1_ticksUntilDone_X1 hown hK.1 hP 0 rfl rfl 2 (by decide) (hts (.fieldLink RX1 18 "BoardClock$State" "ahead" "J") (List.mem_of_getElem? (i := 1) rfl)) (fun _ h9 => h9) rfl dX1_ticksUntilDone_1 ?_
  refine lv_lconst (v := (0 : Int64)) hx hb dX1_ticksUntilDone_4 (by decide) ?_
  refine W.lcmp hx hb dX1_ticksUntilDone_5 ?_
  refine lv_if_ne (tgt := 11) hx hb dX1_ticksUntilDone_6 (by decide) (fun c1 => ?_) (fun c1 => ?_)
  · have hF := zc_neg c1 hF
    refine lv_aload_n hx hb dX1_ticksUntilDone_11 rfl (lv_at hl 0 rfl) ?_
    refine va_get (D := G.1) (ci := 1) (C := RX1) (T := TX1) (N := 18) hx hb hts iX1_ticksUntilDone_X1 hown hK.1 hP 0 rfl rfl 11 (by decide) (hts (.fieldLink RX1 46 "BoardClock$State" "powered" "Z") (List.mem_of_getElem? (i := 2) rfl)) (fun _ h9 => h9) rfl dX1_ticksUntilDone_12 ?_
    refine lv_if_eq (tgt := 26) hx hb dX1_ticksUntilDone_15 (by decide) (fun c2 => ?_) (fun c2 => ?_)
    · have hF := zc_pos c2 hF
      refine lv_iconst (v := (-1 : Int32)) hx hb dX1_ticksUntilDone_26 (by decide) ?_
      exact W.iret hx hb hr (fun t ht hW => ⟨_, rfl, Option.some.inj hF, ht⟩) (fun _ h => by cases h) dX1_ticksUntilDone_27
    · have hF := zc_neg c2 hF
      refine lv_aload_n hx hb dX1_ticksUntilDone_18 rfl (lv_at hl 0 rfl) ?_
      refine va_get (D := G.1) (ci := 1) (C := RX1) (T := TX1) (N := 18) hx hb hts iX1_ticksUntilDone_X1 hown hK.1 hP 0 rfl rfl 8 (by decide) (hts (.fieldLink RX1 37 "BoardClock$State" "step" "I") (List.mem_of_getElem? (i := 3) rfl)) (fun _ h9 => h9) rfl dX1_ticksUntilDone_19 ?_
      refine lv_iconst (v := (1 : Int32)) hx hb dX1_ticksUntilDone_22 (by decide) ?_
      refine lv_icmp_ge (tgt := 28) hx hb dX1_ticksUntilDone_23 (by decide) (fun c3 => ?_) (fun c3 => ?_)
      · have hF := zc_pos c3 hF
        refine lv_aload_n hx hb dX1_ticksUntilDone_28 rfl (lv_at hl 0 rfl) ?_
        refine va_get (D := G.1) (ci := 1) (C := RX1) (T := TX1) (N := 18) hx hb hts iX1_ticksUntilDone_X1 hown hK.1 hP 0 rfl rfl 2 (by decide) (hts (.fieldLink RX1 18 "BoardClock$State" "ahead" "J") (List.mem_of_getElem? (i := 1) rfl)) (fun _ h9 => h9) rfl dX1_ticksUntilDone_29 ?_
        refine va_mabs_long hx hb (hml.trans hl.1.symm) hown (hts (.methodLink RX1 100 Lib.MathLoose.abs_long.x) (List.mem_of_getElem? (i := 4) rfl)) (hts (.static Lib.MathLoose.abs_long.x) (List.mem_of_getElem? (i := 5) rfl)) (hts (.initialized "java/lang/Math") (List.mem_of_getElem? (i := 6) rfl)) (hts (.code Lib.MathLoose.abs_long.x Lib.MathLoose.abs_long.code 2 (some .long)) (List.mem_of_getElem? (i := 7) rfl)) (Nat.le_of_ble_eq_true rfl) (Nat.le_of_ble_eq_true rfl) (Nat.zero_le _) (Nat.zero_le _) dX1_ticksUntilDone_32 ?_
        refine lv_aload_n hx hb dX1_ticksUntilDone_35 rfl (lv_at hl 0 rfl) ?_
        refine va_get (D := G.1) (ci := 1) (C := RX1) (T := TX1) (N := 18) hx hb hts iX1_ticksUntilDone_X1 hown hK.1 hP 0 rfl rfl 8 (by decide) (hts (.fieldLink RX1 37 "BoardClock$State" "step" "I") (List.mem_of_getElem? (i := 3) rfl)) (fun _ h9 => h9) rfl dX1_ticksUntilDone_36 ?_
        refine lv_i2l hx hb dX1_ticksUntilDone_39 rfl ?_
        refine lv_ladd hx hb dX1_ticksUntilDone_40 ?_
        refine lv_lconst (v := (1 : Int64)) hx hb dX1_ticksUntilDone_41 (by decide) ?_
        refine lv_lsub hx hb dX1_ticksUntilDone_42 ?_
        refine lv_aload_n hx hb dX1_ticksUntilDone_43 rfl (lv_at hl 0 rfl) ?_
        refine va_get (D := G.1) (ci := 1) (C := RX1) (T := TX1) (N := 18) hx hb hts iX1_ticksUntilDone_X1 hown hK.1 hP 0 rfl rfl 8 (by decide) (hts (.fieldLink RX1 37 "BoardClock$State" "step" "I") (List.mem_of_getElem? (i := 3) rfl)) (fun _ h9 => h9) rfl dX1_ticksUntilDone_44 ?_
        refine lv_i2l hx hb dX1_ticksUntilDone_47 rfl ?_
        obtain ⟨hnz4, hF⟩ := zc_nzLE hF
        refine lv_ldiv hx hb dX1_ticksUntilDone_48 hnz4 ?_
        refine lv_topl (fun x5 ex5 => ?_)
        have hF := zc_letE ex5 hF
        refine lv_lstore_n (lv' := [(1, .long x5), (0, .ref (ad 0))]) hx hb dX1_ticksUntilDone_49 rfl hl (by decide) rfl (fun ls hl => ?_)
        refine lv_lload_n hx hb dX1_ticksUntilDone_50 rfl (lv_at hl 0 rfl) ?_
        refine lv_ldc2 hx hb hown (hts (.constantLong RX1 171 (2000)) (List.mem_of_getElem? (i := 8) rfl)) dX1_ticksUntilDone_51 ?_
        refine W.lcmp hx hb dX1_ticksUntilDone_54 ?_
        refine lv_if_gt (tgt := 63) hx hb dX1_ticksUntilDone_55 (by decide) (fun c6 => ?_) (fun c6 => ?_)
        · have hF := zc_pos c6 hF
          refine lv_iconst (v := (-1 : Int32)) hx hb dX1_ticksUntilDone_63 (by decide) ?_
          exact W.iret hx hb hr (fun t ht hW => ⟨_, rfl, Option.some.inj hF, ht⟩) (fun _ h => by cases h) dX1_ticksUntilDone_64
        · have hF := zc_neg c6 hF
          refine lv_lload_n hx hb dX1_ticksUntilDone_58 rfl (lv_at hl 0 rfl) ?_
          refine lv_l2i hx hb dX1_ticksUntilDone_59 rfl ?_
          refine lv_goto (tgt := 64) hx hb dX1_ticksUntilDone_60 (by decide) ?_
          exact W.iret hx hb hr (fun t ht hW => ⟨_, rfl, Option.some.inj hF, ht⟩) (fun _ h => by cases h) dX1_ticksUntilDone_64
      · have hF := zc_neg c3 hF
        refine lv_iconst (v := (-1 : Int32)) hx hb dX1_ticksUntilDone_26 (by decide) ?_
        exact W.iret hx hb hr (fun t ht hW => ⟨_, rfl, Option.some.inj hF, ht⟩) (fun _ h => by cases h) dX1_ticksUntilDone_27
  · have hF := zc_pos c1 hF
    refine lv_iconst (v := (0 : Int32)) hx hb dX1_ticksUntilDone_9 (by decide) ?_
    exact W.iret hx hb hr (fun t ht hW => ⟨_, rfl, Option.some.inj hF, ht⟩) (fun _ h => by cases h) dX1_ticksUntilDone_10
def fX1_ticksUntilWide (v : zc_S) (a1 : Int64) : Option (Int32) := if (lg_cmp ((v.2.1 9)).toInt64 a1) ≤ 0 then (Option.bind (fX1_widthPerTick v) fun (r2 : Int32) => if 0 < r2 then (zc_nzL r2.toInt64 (some ((((a1 - ((v.2.1 9)).toInt64) / r2.toInt64)).toInt32 + (1 : Int32)))) else (some (-1 : Int32))) else (some (0 : Int32))
theorem iX1_ticksUntilWide_X1 : ∀ w ∈ wsX10, w ∈ wsX1_ticksUntilWide := fun _ h => List.mem_cons_of_mem _ (List.mem_append_right _ h)
set_option maxHeartbeats 4000000 in
set_option maxRecDepth 100000 in
theorem kX1_ticksUntilWide (l : Launch) (G : zc_G) (ad : Nat → Nat) {v : zc_S} {a1 : Int64} {r0 : Int32} (hF : fX1_ticksUntilWide v a1 = some r0) : Met l yX1_ticksUntilWide wsX1_ticksUntilWide ({ frames := 1, cells := 0, slots := 0, locals := 20 }) (zc_Pp G [.ref (ad 0), .long a1] (zc_st G ad v)) (vp_Si (fun r => r = r0)) 0 0 (fun _ => False) := by
  refine Met.ofW (cc := cX1_ticksUntilWide) (maxL := 4) (ret := (some .int)) (by decide) rfl ?_
  intro p e s m args below meth c s₁ B hml hv
  obtain ⟨rfl, hP, hK⟩ := hv
  have hx := B.exec
  have hb := B.bytes
  have hr := B.returns
  have hts := atoms_spec (ws := wsX1_ticksUntilWide) B.pre
  have hown : s.vm.findClass RX1 = some m.cls := findClass_of_methodNamed B.named
  have hlocks := B.notSynchronized
  have hl := lv_entry ([.ref (ad 0), .long a1]) (n := 4) (Nat.le_of_ble_eq_true rfl)
  rw [lg_entry_eq]
  generalize (lg_sl ([.ref (ad 0), .long a1]) ++ List.replicate (4 - (lg_sl ([.ref (ad 0), .long a1])).length) Slot.unset).toArray = ls at hl ⊢
  have hl : lv_has ls 4 [(0, .ref (ad 0)), (1, .long a1)] := hl
  refine lv_aload_n hx hb dX1_ticksUntilWide_0 rfl (lv_at hl 0 rfl) ?_
  refine va_get (D := G.1) (ci := 1) (C := RX1) (T := TX1) (N := 18) hx hb hts iX1_ticksUntilWide_X1 hown hK.1 hP 0 rfl rfl 9 (by decide) (hts (.fieldLink RX1 40 "BoardClock$State" "width" "I") (List.mem_of_getElem? (i := 1) rfl)) (fun _ h9 => h9) rfl dX1_ticksUntilWide_1 ?_
  refine lv_i2l hx hb dX1_ticksUntilWide_4 rfl ?_
  refine lv_lload_n hx hb dX1_ticksUntilWide_5 rfl (lv_at hl 1 rfl) ?_
  refine W.lcmp hx hb dX1_ticksUntilWide_6 ?_
  refine lv_if_le (tgt := 12) hx hb dX1_ticksUntilWide_7 (by decide) (fun c1 => ?_) (fun c1 => ?_)
  · have hF := zc_pos c1 hF
    refine lv_aload_n hx hb dX1_ticksUntilWide_12 rfl (lv_at hl 0 rfl) ?_
    obtain ⟨r2, er2, hF⟩ := zc_bind hF
    refine zc_ci (va_runV (As := []) ⟨hx, hb, hml, hown, hts⟩ (kX1_widthPerTick l G ad er2) (cwV 0 hts gX1_ticksUntilWide_X1_widthPerTick rfl rfl rfl (by decide +kernel) ⟨Nat.le_of_ble_eq_true rfl, Nat.le_of_ble_eq_true rfl⟩) (zc_preV hK hP 0 rfl rfl) rfl rfl hl.1 rfl (lv_room (Nat.le_of_ble_eq_true rfl)) dX1_ticksUntilWide_13 ⟨Nat.le_of_ble_eq_true rfl, Nat.le_of_ble_eq_true rfl⟩) ?_
    refine lv_istore_n (lv' := [(3, .int r2), (0, .ref (ad 0)), (1, .long a1)]) hx hb dX1_ticksUntilWide_16 rfl hl (by decide) rfl (fun ls hl => ?_)
    refine lv_iload_n hx hb dX1_ticksUntilWide_17 rfl (lv_at hl 0 rfl) ?_
    refine lv_if_gt (tgt := 23) hx hb dX1_ticksUntilWide_18 (by decide) (fun c3 => ?_) (fun c3 => ?_)
    · have hF := zc_pos c3 hF
      refine lv_lload_n hx hb dX1_ticksUntilWide_23 rfl (lv_at hl 2 rfl) ?_
      refine lv_aload_n hx hb dX1_ticksUntilWide_24 rfl (lv_at hl 1 rfl) ?_
      refine va_get (D := G.1) (ci := 1) (C := RX1) (T := TX1) (N := 18) hx hb hts iX1_ticksUntilWide_X1 hown hK.1 hP 0 rfl rfl 9 (by decide) (hts (.fieldLink RX1 40 "BoardClock$State" "width" "I") (List.mem_of_getElem? (i := 1) rfl)) (fun _ h9 => h9) rfl dX1_ticksUntilWide_25 ?_
      refine lv_i2l hx hb dX1_ticksUntilWide_28 rfl ?_
      refine lv_lsub hx hb dX1_ticksUntilWide_29 ?_
      refine lv_iload_n hx hb dX1_ticksUntilWide_30 rfl (lv_at hl 0 rfl) ?_
      refine lv_i2l hx hb dX1_ticksUntilWide_31 rfl ?_
      obtain ⟨hnz4, hF⟩ := zc_nzLE hF
      refine lv_ldiv hx hb dX1_ticksUntilWide_32 hnz4 ?_
      refine lv_l2i hx hb dX1_ticksUntilWide_33 rfl ?_
      refine lv_iconst (v := (1 : Int32)) hx hb dX1_ticksUntilWide_34 (by decide) ?_
      refine lv_iadd hx hb dX1_ticksUntilWide_35 ?_
      exact W.iret hx hb hr (fun t ht hW => ⟨_, rfl, Option.some.inj hF, ht⟩) (fun _ h => by cases h) dX1_ticksUntilWide_36
    · have hF := zc_neg c3 hF
      refine lv_iconst (v := (-1 : Int32)) hx hb dX1_ticksUntilWide_21 (by decide) ?_
      exact W.iret hx hb hr (fun t ht hW => ⟨_, rfl, Option.some.inj hF, ht⟩) (fun _ h => by cases h) dX1_ticksUntilWide_22
  · have hF := zc_neg c1 hF
    refine lv_iconst (v := (0 : Int32)) hx hb dX1_ticksUntilWide_10 (by decide) ?_
    exact W.iret hx hb hr (fun t ht hW => ⟨_, rfl, Option.some.inj hF, ht⟩) (fun _ h => by cases h) dX1_ticksUntilWide_11
end
section
def fX1_noteTicks (v : zc_S) (a1 : Int32) : Option (zc_S) := Option.bind (fX2_spanOf (v.2.1 3)) fun (r1 : Int32) => if (v.2.1 13) = 0 then (zc_let (zc_sI v 14 r1) fun (v10 : zc_S) => zc_z (v10.2.1 11) (zc_let (zc_sI v10 15 (v10.2.1 11)) fun (v12 : zc_S) => zc_let (zc_sI v12 13 ((v12.2.1 13) + a1)) fun (v13 : zc_S) => some v13)) else (if (v.2.1 14) = r1 then (if (v.2.1 11) = 0 then (zc_let (zc_sI v 15 (0 : Int32)) fun (v8 : zc_S) => zc_let (zc_sI v8 13 ((v8.2.1 13) + a1)) fun (v9 : zc_S) => some v9) else (zc_let (zc_sI v 13 ((v.2.1 13) + a1)) fun (v7 : zc_S) => some v7)) else (zc_let (zc_sI v 15 (0 : Int32)) fun (v4 : zc_S) => zc_let (zc_sI v4 13 ((v4.2.1 13) + a1)) fun (v5 : zc_S) => some v5))
theorem iX1_noteTicks_X1 : ∀ w ∈ wsX10, w ∈ wsX1_noteTicks := fun _ h => List.mem_cons_of_mem _ (List.mem_append_right _ h)
set_option maxHeartbeats 4000000 in
set_option maxRecDepth 100000 in
theorem kX1_noteTicks (l : Launch) (G : zc_G) (ad : Nat → Nat) (sz : Nat) {v : zc_S} {a1 : Int32} {r0 : zc_S} (hF : fX1_noteTicks v a1 = some r0) : Met l yX1_noteTicks wsX1_noteTicks ({ frames := 1, cells := 0, slots := 0, locals := 20 }) (zc_Pm G [.ref (ad 0), .int a1] (zc_st G ad v) sz) (zc_Qv G (zc_st G ad r0) (va_A (zc_st G ad v) sz)) 0 0 (va_A (zc_st G ad v) sz) := by
  refine Met.ofW (cc := cX1_noteTicks) (maxL := 3) (ret := none) (by decide) rfl ?_
  intro p e s m args below meth c s₁ B hml hv
  obtain ⟨rfl, hsz, hP, hK, hD0⟩ := hv
  have hx := B.exec
  have hb := B.bytes
  have hr := B.returns
  have hts := atoms_spec (ws := wsX1_noteTicks) B.pre
  have hown : s.vm.findClass RX1 = some m.cls := findClass_of_methodNamed B.named
  have hlocks := B.notSynchronized
  subst hsz
  have hD := hD0.self (sz := s.heap.size)
  generalize hAe : va_A (zc_st G ad v) s.heap.size = A at hD ⊢
  have hA : ∀ q : Nat, s.heap.size ≤ q → A q := fun q h => by rw [← hAe]; exact Or.inr h
  have hS : va_S A s.heap s.heap [] := va_S.rf
  have hl := lv_entry ([.ref (ad 0), .int a1]) (n := 3) (Nat.le_of_ble_eq_true rfl)
  rw [lg_entry_eq]
  generalize (lg_sl ([.ref (ad 0), .int a1]) ++ List.replicate (3 - (lg_sl ([.ref (ad 0), .int a1])).length) Slot.unset).toArray = ls at hl ⊢
  have hl : lv_has ls 3 [(0, .ref (ad 0)), (1, .int a1)] := hl
  refine lv_aload_n hx hb dX1_noteTicks_0 rfl (lv_at hl 0 rfl) ?_
  refine va_get (D := G.1) (ci := 1) (C := RX1) (T := TX1) (N := 18) hx hb hts iX1_noteTicks_X1 hown hK.1 hP 0 rfl rfl 3 (by decide) (hts (.fieldLink RX1 21 "BoardClock$State" "warmth" "I") (List.mem_of_getElem? (i := 1) rfl)) (fun _ h9 => h9) rfl dX1_noteTicks_1 ?_
  obtain ⟨r1, er1, hF⟩ := zc_bind hF
  refine zc_ci (va_runSN (As := [.int _]) ⟨hx, hb, hml, hown, hts⟩ (kX2_spanOf l G er1) ⟨va_cnB 1 hts gX1_noteTicks_X2_spanOf_n108 rfl rfl rfl hK.2.2.2.2.2.2.2.1 (hts (.initialized RX2) (List.mem_of_getElem? (i := 7) rfl)) (by decide +kernel) ⟨Nat.le_of_ble_eq_true rfl, Nat.le_of_ble_eq_true rfl⟩, (hts (.static yX2_spanOf) (List.mem_of_getElem? (i := 6) rfl)), trivial⟩ (zc_preS hK (show va_P G.1 vwCl [] _ from fun k q h => by simp at h)) rfl rfl hl.1 rfl (lv_room (Nat.le_of_ble_eq_true rfl)) dX1_noteTicks_4 ⟨Nat.le_of_ble_eq_true rfl, Nat.le_of_ble_eq_true rfl⟩) ?_
  refine lv_istore_n (lv' := [(2, .int r1), (0, .ref (ad 0)), (1, .int a1)]) hx hb dX1_noteTicks_7 rfl hl (by decide) rfl (fun ls hl => ?_)
  refine lv_aload_n hx hb dX1_noteTicks_8 rfl (lv_at hl 1 rfl) ?_
  refine va_get (D := G.1) (ci := 1) (C := RX1) (T := TX1) (N := 18) hx hb hts iX1_noteTicks_X1 hown hK.1 hP 0 rfl rfl 13 (by decide) (hts (.fieldLink RX1 53 "BoardClock$State" "ticks" "I") (List.mem_of_getElem? (i := 2) rfl)) (fun _ h9 => h9) rfl dX1_noteTicks_9 ?_
  refine lv_if_ne (tgt := 31) hx hb dX1_noteTicks_12 (by decide) (fun c2 => ?_) (fun c2 => ?_)
  · have hF := zc_neg c2 hF
    refine lv_aload_n hx hb dX1_noteTicks_31 rfl (lv_at hl 1 rfl) ?_
    refine va_get (D := G.1) (ci := 1) (C := RX1) (T := TX1) (N := 18) hx hb hts iX1_noteTicks_X1 hown hK.1 hP 0 rfl rfl 14 (by decide) (hts (.fieldLink RX1 56 "BoardClock$State" "tickSpan" "I") (List.mem_of_getElem? (i := 3) rfl)) (fun _ h9 => h9) rfl dX1_noteTicks_32 ?_
    refine lv_iload_n hx hb dX1_noteTicks_35 rfl (lv_at hl 0 rfl) ?_
    refine lv_icmp_ne (tgt := 46) hx hb dX1_noteTicks_36 (by decide) (fun c3 => ?_) (fun c3 => ?_)
    · have hF := zc_neg c3 hF
      refine lv_aload_n hx hb dX1_noteTicks_46 rfl (lv_at hl 1 rfl) ?_
      refine lv_iconst (v := (0 : Int32)) hx hb dX1_noteTicks_47 (by decide) ?_
      refine va_put (D := G.1) (ci := 1) (v := .int (0 : Int32)) (ty := .boolean) (C := RX1) (T := TX1) (N := 18) hx hb hts iX1_noteTicks_X1 tyX1 tyX1_ok nmX1 hown hK.1 hP hD hS 0 rfl rfl 15 (by decide) (hts (.fieldLink RX1 59 "BoardClock$State" "steady" "Z") (List.mem_of_getElem? (i := 5) rfl)) (fun _ h9 => h9) rfl (by decide +kernel) (by decide) (by decide) (Nat.le_of_ble_eq_true rfl) dX1_noteTicks_48 (fun H locs hP _ hS => ?_)
      obtain ⟨v4, ev4, hF⟩ := zc_letX hF
      have hP : va_P G.1 vwCl (zc_st G ad v4) H := by rw [ev4]; exact hP
      have hD : va_D A (zc_st G ad v4) := zc_Ds hD rfl
      refine lv_aload_n hx hb dX1_noteTicks_51 rfl (lv_at hl 1 rfl) ?_
      refine lv_dup hx hb dX1_noteTicks_52 rfl ?_
      refine va_get (D := G.1) (ci := 1) (C := RX1) (T := TX1) (N := 18) hx hb hts iX1_noteTicks_X1 hown hK.1 hP 0 rfl rfl 13 (by decide) (hts (.fieldLink RX1 53 "BoardClock$State" "ticks" "I") (List.mem_of_getElem? (i := 2) rfl)) (fun _ h9 => h9) rfl dX1_noteTicks_53 ?_
      refine lv_iload_n hx hb dX1_noteTicks_56 rfl (lv_at hl 2 rfl) ?_
      refine lv_iadd hx hb dX1_noteTicks_57 ?_
      refine va_put (D := G.1) (ci := 1) (v := .int ((v4.2.1 13) + a1)) (ty := .int) (C := RX1) (T := TX1) (N := 18) hx hb hts iX1_noteTicks_X1 tyX1 tyX1_ok nmX1 hown hK.1 hP hD hS 0 rfl rfl 13 (by decide) (hts (.fieldLink RX1 53 "BoardClock$State" "ticks" "I") (List.mem_of_getElem? (i := 2) rfl)) (fun _ h9 => h9) rfl (by decide +kernel) rfl rfl (Nat.le_of_ble_eq_true rfl) dX1_noteTicks_58 (fun H locs hP _ hS => ?_)
      obtain ⟨v5, ev5, hF⟩ := zc_letX hF
      have hP : va_P G.1 vwCl (zc_st G ad v5) H := by rw [ev5]; exact hP
      have hD : va_D A (zc_st G ad v5) := zc_Ds hD rfl
      obtain rfl := Option.some.inj hF
      exact W.vret hx hb hr (fun t ht hW => ⟨⟨(), rfl, trivial, zc_hp ht hP⟩, hS.F ht⟩) hS.2.2 dX1_noteTicks_61
    · have hF := zc_pos c3 hF
      refine lv_aload_n hx hb dX1_noteTicks_39 rfl (lv_at hl 1 rfl) ?_
      refine va_get (D := G.1) (ci := 1) (C := RX1) (T := TX1) (N := 18) hx hb hts iX1_noteTicks_X1 hown hK.1 hP 0 rfl rfl 11 (by decide) (hts (.fieldLink RX1 46 "BoardClock$State" "powered" "Z") (List.mem_of_getElem? (i := 4) rfl)) (fun _ h9 => h9) rfl dX1_noteTicks_40 ?_
      refine lv_if_ne (tgt := 51) hx hb dX1_noteTicks_43 (by decide) (fun c6 => ?_) (fun c6 => ?_)
      · have hF := zc_neg c6 hF
        refine lv_aload_n hx hb dX1_noteTicks_51 rfl (lv_at hl 1 rfl) ?_
        refine lv_dup hx hb dX1_noteTicks_52 rfl ?_
        refine va_get (D := G.1) (ci := 1) (C := RX1) (T := TX1) (N := 18) hx hb hts iX1_noteTicks_X1 hown hK.1 hP 0 rfl rfl 13 (by decide) (hts (.fieldLink RX1 53 "BoardClock$State" "ticks" "I") (List.mem_of_getElem? (i := 2) rfl)) (fun _ h9 => h9) rfl dX1_noteTicks_53 ?_
        refine lv_iload_n hx hb dX1_noteTicks_56 rfl (lv_at hl 2 rfl) ?_
        refine lv_iadd hx hb dX1_noteTicks_57 ?_
        refine va_put (D := G.1) (ci := 1) (v := .int ((v.2.1 13) + a1)) (ty := .int) (C := RX1) (T := TX1) (N := 18) hx hb hts iX1_noteTicks_X1 tyX1 tyX1_ok nmX1 hown hK.1 hP hD hS 0 rfl rfl 13 (by decide) (hts (.fieldLink RX1 53 "BoardClock$State" "ticks" "I") (List.mem_of_getElem? (i := 2) rfl)) (fun _ h9 => h9) rfl (by decide +kernel) rfl rfl (Nat.le_of_ble_eq_true rfl) dX1_noteTicks_58 (fun H locs hP _ hS => ?_)
        obtain ⟨v7, ev7, hF⟩ := zc_letX hF
        have hP : va_P G.1 vwCl (zc_st G ad v7) H := by rw [ev7]; exact hP
        have hD : va_D A (zc_st G ad v7) := zc_Ds hD rfl
        obtain rfl := Option.some.inj hF
        exact W.vret hx hb hr (fun t ht hW => ⟨⟨(), rfl, trivial, zc_hp ht hP⟩, hS.F ht⟩) hS.2.2 dX1_noteTicks_61
      · have hF := zc_pos c6 hF
        refine lv_aload_n hx hb dX1_noteTicks_46 rfl (lv_at hl 1 rfl) ?_
        refine lv_iconst (v := (0 : Int32)) hx hb dX1_noteTicks_47 (by decide) ?_
        refine va_put (D := G.1) (ci := 1) (v := .int (0 : Int32)) (ty := .boolean) (C := RX1) (T := TX1) (N := 18) hx hb hts iX1_noteTicks_X1 tyX1 tyX1_ok nmX1 hown hK.1 hP hD hS 0 rfl rfl 15 (by decide) (hts (.fieldLink RX1 59 "BoardClock$State" "steady" "Z") (List.mem_of_getElem? (i := 5) rfl)) (fun _ h9 => h9) rfl (by decide +kernel) (by decide) (by decide) (Nat.le_of_ble_eq_true rfl) dX1_noteTicks_48 (fun H locs hP _ hS => ?_)
        obtain ⟨v8, ev8, hF⟩ := zc_letX hF
        have hP : va_P G.1 vwCl (zc_st G ad v8) H := by rw [ev8]; exact hP
        have hD : va_D A (zc_st G ad v8) := zc_Ds hD rfl
        refine lv_aload_n hx hb dX1_noteTicks_51 rfl (lv_at hl 1 rfl) ?_
        refine lv_dup hx hb dX1_noteTicks_52 rfl ?_
        refine va_get (D := G.1) (ci := 1) (C := RX1) (T := TX1) (N := 18) hx hb hts iX1_noteTicks_X1 hown hK.1 hP 0 rfl rfl 13 (by decide) (hts (.fieldLink RX1 53 "BoardClock$State" "ticks" "I") (List.mem_of_getElem? (i := 2) rfl)) (fun _ h9 => h9) rfl dX1_noteTicks_53 ?_
        refine lv_iload_n hx hb dX1_noteTicks_56 rfl (lv_at hl 2 rfl) ?_
        refine lv_iadd hx hb dX1_noteTicks_57 ?_
        refine va_put (D := G.1) (ci := 1) (v := .int ((v8.2.1 13) + a1)) (ty := .int) (C := RX1) (T := TX1) (N := 18) hx hb hts iX1_noteTicks_X1 tyX1 tyX1_ok nmX1 hown hK.1 hP hD hS 0 rfl rfl 13 (by decide) (hts (.fieldLink RX1 53 "BoardClock$State" "ticks" "I") (List.mem_of_getElem? (i := 2) rfl)) (fun _ h9 => h9) rfl (by decide +kernel) rfl rfl (Nat.le_of_ble_eq_true rfl) dX1_noteTicks_58 (fun H locs hP _ hS => ?_)
        obtain ⟨v9, ev9, hF⟩ := zc_letX hF
        have hP : va_P G.1 vwCl (zc_st G ad v9) H := by rw [ev9]; exact hP
        have hD : va_D A (zc_st G ad v9) := zc_Ds hD rfl
        obtain rfl := Option.some.inj hF
        exact W.vret hx hb hr (fun t ht hW => ⟨⟨(), rfl, trivial, zc_hp ht hP⟩, hS.F ht⟩) hS.2.2 dX1_noteTicks_61
  · have hF := zc_pos c2 hF
    refine lv_aload_n hx hb dX1_noteTicks_15 rfl (lv_at hl 1 rfl) ?_
    refine lv_iload_n hx hb dX1_noteTicks_16 rfl (lv_at hl 0 rfl) ?_
    refine va_put (D := G.1) (ci := 1) (v := .int r1) (ty := .int) (C := RX1) (T := TX1) (N := 18) hx hb hts iX1_noteTicks_X1 tyX1 tyX1_ok nmX1 hown hK.1 hP hD hS 0 rfl rfl 14 (by decide) (hts (.fieldLink RX1 56 "BoardClock$State" "tickSpan" "I") (List.mem_of_getElem? (i := 3) rfl)) (fun _ h9 => h9) rfl (by decide +kernel) rfl rfl (Nat.le_of_ble_eq_true rfl) dX1_noteTicks_17 (fun H locs hP _ hS => ?_)
    obtain ⟨v10, ev10, hF⟩ := zc_letX hF
    have hP : va_P G.1 vwCl (zc_st G ad v10) H := by rw [ev10]; exact hP
    have hD : va_D A (zc_st G ad v10) := zc_Ds hD rfl
    refine lv_aload_n hx hb dX1_noteTicks_20 rfl (lv_at hl 1 rfl) ?_
    refine lv_aload_n hx hb dX1_noteTicks_21 rfl (lv_at hl 1 rfl) ?_
    refine va_get (D := G.1) (ci := 1) (C := RX1) (T := TX1) (N := 18) hx hb hts iX1_noteTicks_X1 hown hK.1 hP 0 rfl rfl 11 (by decide) (hts (.fieldLink RX1 46 "BoardClock$State" "powered" "Z") (List.mem_of_getElem? (i := 4) rfl)) (fun _ h9 => h9) rfl dX1_noteTicks_22 ?_
    obtain ⟨hz11, hF⟩ := zc_zE hF
    refine va_put (D := G.1) (ci := 1) (v := .int (v10.2.1 11)) (ty := .boolean) (C := RX1) (T := TX1) (N := 18) hx hb hts iX1_noteTicks_X1 tyX1 tyX1_ok nmX1 hown hK.1 hP hD hS 0 rfl rfl 15 (by decide) (hts (.fieldLink RX1 59 "BoardClock$State" "steady" "Z") (List.mem_of_getElem? (i := 5) rfl)) (fun _ h9 => h9) rfl (by decide +kernel) hz11.1 hz11.2 (Nat.le_of_ble_eq_true rfl) dX1_noteTicks_25 (fun H locs hP _ hS => ?_)
    obtain ⟨v12, ev12, hF⟩ := zc_letX hF
    have hP : va_P G.1 vwCl (zc_st G ad v12) H := by rw [ev12]; exact hP
    have hD : va_D A (zc_st G ad v12) := zc_Ds hD rfl
    refine lv_goto (tgt := 51) hx hb dX1_noteTicks_28 (by decide) ?_
    refine lv_aload_n hx hb dX1_noteTicks_51 rfl (lv_at hl 1 rfl) ?_
    refine lv_dup hx hb dX1_noteTicks_52 rfl ?_
    refine va_get (D := G.1) (ci := 1) (C := RX1) (T := TX1) (N := 18) hx hb hts iX1_noteTicks_X1 hown hK.1 hP 0 rfl rfl 13 (by decide) (hts (.fieldLink RX1 53 "BoardClock$State" "ticks" "I") (List.mem_of_getElem? (i := 2) rfl)) (fun _ h9 => h9) rfl dX1_noteTicks_53 ?_
    refine lv_iload_n hx hb dX1_noteTicks_56 rfl (lv_at hl 2 rfl) ?_
    refine lv_iadd hx hb dX1_noteTicks_57 ?_
    refine va_put (D := G.1) (ci := 1) (v := .int ((v12.2.1 13) + a1)) (ty := .int) (C := RX1) (T := TX1) (N := 18) hx hb hts iX1_noteTicks_X1 tyX1 tyX1_ok nmX1 hown hK.1 hP hD hS 0 rfl rfl 13 (by decide) (hts (.fieldLink RX1 53 "BoardClock$State" "ticks" "I") (List.mem_of_getElem? (i := 2) rfl)) (fun _ h9 => h9) rfl (by decide +kernel) rfl rfl (Nat.le_of_ble_eq_true rfl) dX1_noteTicks_58 (fun H locs hP _ hS => ?_)
    obtain ⟨v13, ev13, hF⟩ := zc_letX hF
    have hP : va_P G.1 vwCl (zc_st G ad v13) H := by rw [ev13]; exact hP
    have hD : va_D A (zc_st G ad v13) := zc_Ds hD rfl
    obtain rfl := Option.some.inj hF
    exact W.vret hx hb hr (fun t ht hW => ⟨⟨(), rfl, trivial, zc_hp ht hP⟩, hS.F ht⟩) hS.2.2 dX1_noteTicks_61
def fX1_learnFrom (v : zc_S) (a1 : Int64) : Option (zc_S) := if (v.2.1 13) ≤ 0 then (some v) else (if (v.2.1 15) = 0 then (some v) else (Option.bind (fX2_isSpan (v.2.1 14)) fun (r3 : Int32) => if r3 = 0 then (some v) else (Option.bind (fX1_aim v) fun (r5 : Int64) => zc_nzL ((2 : Int64) * ((v.2.1 13)).toInt64) (zc_let (((r5 - a1) * (16 : Int64)) / ((2 : Int64) * ((v.2.1 13)).toInt64)) fun (x7 : Int64) => zc_in (v.2.1 14) 9 (Option.bind (fX2_heldBetween (((v.2.2.1 ((v.2.1 14)).toNatClampNeg)).toInt64 + x7) (-9999 : Int64) (9999 : Int64)) fun (r9 : Int64) => zc_in (v.2.1 14) 9 (zc_let (zc_sa v ((v.2.1 14)).toNatClampNeg (r9).toInt32) fun (v11 : zc_S) => some v11))))))
theorem iX1_learnFrom_X1 : ∀ w ∈ wsX10, w ∈ wsX1_learnFrom := fun _ h => List.mem_cons_of_mem _ (List.mem_append_right _ h)
set_option maxHeartbeats 4000000 in
set_option maxRecDepth 100000 in
theorem kX1_learnFrom (l : Launch) (G : zc_G) (ad : Nat → Nat) (sz : Nat) {v : zc_S} {a1 : Int64} {r0 : zc_S} (hF : fX1_learnFrom v a1 = some r0) : Met l yX1_learnFrom wsX1_learnFrom ({ frames := 2, cells := 0, slots := 0, locals := 50 }) (zc_Pm G [.ref (ad 0), .long a1] (zc_st G ad v) sz) (zc_Qv G (zc_st G ad r0) (va_A (zc_st G ad v) sz)) 0 0 (va_A (zc_st G ad v) sz) := by
  refine Met.ofW (cc := cX1_learnFrom) (maxL := 5) (ret := none) (by decide) rfl ?_
  intro p e s m args below meth c s₁ B hml hv
  obtain ⟨rfl, hsz, hP, hK, hD0⟩ := hv
  have hx := B.exec
  have hb := B.bytes
  have hr := B.returns
  have hts := atoms_spec (ws := wsX1_learnFrom) B.pre
  have hown : s.vm.findClass RX1 = some m.cls := findClass_of_methodNamed B.named
  have hlocks := B.notSynchronized
  subst hsz
  have hD := hD0.self (sz := s.heap.size)
  generalize hAe : va_A (zc_st G ad v) s.heap.size = A at hD ⊢
  have hA : ∀ q : Nat, s.heap.size ≤ q → A q := fun q h => by rw [← hAe]; exact Or.inr h
  have hS : va_S A s.heap s.heap [] := va_S.rf
  have hl := lv_entry ([.ref (ad 0), .long a1]) (n := 5) (Nat.le_of_ble_eq_true rfl)
  rw [lg_entry_eq]
  generalize (lg_sl ([.ref (ad 0), .long a1]) ++ List.replicate (5 - (lg_sl ([.ref (ad 0), .long a1])).length) Slot.unset).toArray = ls at hl ⊢
  have hl : lv_has ls 5 [(0, .ref (ad 0)), (1, .long a1)] := hl
  refine lv_aload_n hx hb dX1_learnFrom_0 rfl (lv_at hl 0 rfl) ?_
  refine va_get (D := G.1) (ci := 1) (C := RX1) (T := TX1) (N := 18) hx hb hts iX1_learnFrom_X1 hown hK.1 hP 0 rfl rfl 13 (by decide) (hts (.fieldLink RX1 53 "BoardClock$State" "ticks" "I") (List.mem_of_getElem? (i := 1) rfl)) (fun _ h9 => h9) rfl dX1_learnFrom_1 ?_
  refine lv_if_le (tgt := 76) hx hb dX1_learnFrom_4 (by decide) (fun c1 => ?_) (fun c1 => ?_)
  · have hF := zc_pos c1 hF
    obtain rfl := Option.some.inj hF
    exact W.vret hx hb hr (fun t ht hW => ⟨⟨(), rfl, trivial, zc_hp ht hP⟩, hS.F ht⟩) hS.2.2 dX1_learnFrom_76
  · have hF := zc_neg c1 hF
    refine lv_aload_n hx hb dX1_learnFrom_7 rfl (lv_at hl 0 rfl) ?_
    refine va_get (D := G.1) (ci := 1) (C := RX1) (T := TX1) (N := 18) hx hb hts iX1_learnFrom_X1 hown hK.1 hP 0 rfl rfl 15 (by decide) (hts (.fieldLink RX1 59 "BoardClock$State" "steady" "Z") (List.mem_of_getElem? (i := 2) rfl)) (fun _ h9 => h9) rfl dX1_learnFrom_8 ?_
    refine lv_if_eq (tgt := 76) hx hb dX1_learnFrom_11 (by decide) (fun c2 => ?_) (fun c2 => ?_)
    · have hF := zc_pos c2 hF
      obtain rfl := Option.some.inj hF
      exact W.vret hx hb hr (fun t ht hW => ⟨⟨(), rfl, trivial, zc_hp ht hP⟩, hS.F ht⟩) hS.2.2 dX1_learnFrom_76
    · have hF := zc_neg c2 hF
      refine lv_aload_n hx hb dX1_learnFrom_14 rfl (lv_at hl 0 rfl) ?_
      refine va_get (D := G.1) (ci := 1) (C := RX1) (T := TX1) (N := 18) hx hb hts iX1_learnFrom_X1 hown hK.1 hP 0 rfl rfl 14 (by decide) (hts (.fieldLink RX1 56 "BoardClock$State" "tickSpan" "I") (List.mem_of_getElem? (i := 3) rfl)) (fun _ h9 => h9) rfl dX1_learnFrom_15 ?_
      obtain ⟨r3, er3, hF⟩ := zc_bind hF
      refine zc_ci (va_runSN (As := [.int _]) ⟨hx, hb, hml, hown, hts⟩ (kX2_isSpan l G er3) ⟨va_cnB 1 hts gX1_learnFrom_X2_isSpan_n92 rfl rfl rfl hK.2.2.2.1 (hts (.initialized RX2) (List.mem_of_getElem? (i := 10) rfl)) (by decide +kernel) ⟨Nat.le_of_ble_eq_true rfl, Nat.le_of_ble_eq_true rfl⟩, (hts (.static yX2_isSpan) (List.mem_of_getElem? (i := 9) rfl)), trivial⟩ (zc_preS hK (show va_P G.1 vwCl [] _ from fun k q h => by simp at h)) rfl rfl hl.1 rfl (lv_room (Nat.le_of_ble_eq_true rfl)) dX1_learnFrom_18 ⟨Nat.le_of_ble_eq_true rfl, Nat.le_of_ble_eq_true rfl⟩) ?_
      refine lv_if_eq (tgt := 76) hx hb dX1_learnFrom_21 (by decide) (fun c4 => ?_) (fun c4 => ?_)
      · have hF := zc_pos c4 hF
        obtain rfl := Option.some.inj hF
        exact W.vret hx hb hr (fun t ht hW => ⟨⟨(), rfl, trivial, zc_hp ht hP⟩, hS.F ht⟩) hS.2.2 dX1_learnFrom_76
      · have hF := zc_neg c4 hF
        refine lv_aload_n hx hb dX1_learnFrom_24 rfl (lv_at hl 0 rfl) ?_
        obtain ⟨r5, er5, hF⟩ := zc_bind hF
        refine zc_cl (va_runV (As := []) ⟨hx, hb, hml, hown, hts⟩ (kX1_aim l G ad er5) (cwV 0 hts gX1_learnFrom_X1_aim rfl rfl rfl (by decide +kernel) ⟨Nat.le_of_ble_eq_true rfl, Nat.le_of_ble_eq_true rfl⟩) (zc_preV hK hP 0 rfl rfl) rfl rfl hl.1 rfl (lv_room (Nat.le_of_ble_eq_true rfl)) dX1_learnFrom_25 ⟨Nat.le_of_ble_eq_true rfl, Nat.le_of_ble_eq_true rfl⟩) ?_
        refine lv_lload_n hx hb dX1_learnFrom_28 rfl (lv_at hl 1 rfl) ?_
        refine lv_lsub hx hb dX1_learnFrom_29 ?_
        refine lv_ldc2 hx hb hown (hts (.constantLong RX1 106 (16)) (List.mem_of_getElem? (i := 4) rfl)) dX1_learnFrom_30 ?_
        refine lv_lmul hx hb dX1_learnFrom_33 ?_
        refine lv_ldc2 hx hb hown (hts (.constantLong RX1 163 (2)) (List.mem_of_getElem? (i := 5) rfl)) dX1_learnFrom_34 ?_
        refine lv_aload_n hx hb dX1_learnFrom_37 rfl (lv_at hl 0 rfl) ?_
        refine va_get (D := G.1) (ci := 1) (C := RX1) (T := TX1) (N := 18) hx hb hts iX1_learnFrom_X1 hown hK.1 hP 0 rfl rfl 13 (by decide) (hts (.fieldLink RX1 53 "BoardClock$State" "ticks" "I") (List.mem_of_getElem? (i := 1) rfl)) (fun _ h9 => h9) rfl dX1_learnFrom_38 ?_
        refine lv_i2l hx hb dX1_learnFrom_41 rfl ?_
        refine lv_lmul hx hb dX1_learnFrom_42 ?_
        obtain ⟨hnz6, hF⟩ := zc_nzLE hF
        refine lv_ldiv hx hb dX1_learnFrom_43 hnz6 ?_
        refine lv_topl (fun x7 ex7 => ?_)
        have hF := zc_letE ex7 hF
        refine lv_lstore_n (lv' := [(3, .long x7), (0, .ref (ad 0)), (1, .long a1)]) hx hb dX1_learnFrom_44 rfl hl (by decide) rfl (fun ls hl => ?_)
        refine lv_aload_n hx hb dX1_learnFrom_45 rfl (lv_at hl 1 rfl) ?_
        refine va_get (D := G.1) (ci := 1) (C := RX1) (T := TX1) (N := 18) hx hb hts iX1_learnFrom_X1 hown hK.1 hP 0 rfl rfl 16 (by decide) (hts (.fieldLink RX1 62 "BoardClock$State" "learned" "[I") (List.mem_of_getElem? (i := 6) rfl)) (fun _ h9 => h9) rfl dX1_learnFrom_46 ?_
        refine lv_aload_n hx hb dX1_learnFrom_49 rfl (lv_at hl 1 rfl) ?_
        refine va_get (D := G.1) (ci := 1) (C := RX1) (T := TX1) (N := 18) hx hb hts iX1_learnFrom_X1 hown hK.1 hP 0 rfl rfl 14 (by decide) (hts (.fieldLink RX1 56 "BoardClock$State" "tickSpan" "I") (List.mem_of_getElem? (i := 3) rfl)) (fun _ h9 => h9) rfl dX1_learnFrom_50 ?_
        refine lv_aload_n hx hb dX1_learnFrom_53 rfl (lv_at hl 1 rfl) ?_
        refine va_get (D := G.1) (ci := 1) (C := RX1) (T := TX1) (N := 18) hx hb hts iX1_learnFrom_X1 hown hK.1 hP 0 rfl rfl 16 (by decide) (hts (.fieldLink RX1 62 "BoardClock$State" "learned" "[I") (List.mem_of_getElem? (i := 6) rfl)) (fun _ h9 => h9) rfl dX1_learnFrom_54 ?_
        refine lv_aload_n hx hb dX1_learnFrom_57 rfl (lv_at hl 1 rfl) ?_
        refine va_get (D := G.1) (ci := 1) (C := RX1) (T := TX1) (N := 18) hx hb hts iX1_learnFrom_X1 hown hK.1 hP 0 rfl rfl 14 (by decide) (hts (.fieldLink RX1 56 "BoardClock$State" "tickSpan" "I") (List.mem_of_getElem? (i := 3) rfl)) (fun _ h9 => h9) rfl dX1_learnFrom_58 ?_
        obtain ⟨hi8, hF⟩ := zc_inE hF
        refine zc_iald hx hb hK.1 hP 1 0 rfl rfl hi8 rfl dX1_learnFrom_61 ?_
        refine lv_i2l hx hb dX1_learnFrom_62 rfl ?_
        refine lv_lload_n hx hb dX1_learnFrom_63 rfl (lv_at hl 0 rfl) ?_
        refine lv_ladd hx hb dX1_learnFrom_64 ?_
        refine lv_ldc2 hx hb hown (hts (.constantLong RX1 165 (-9999)) (List.mem_of_getElem? (i := 7) rfl)) dX1_learnFrom_65 ?_
        refine lv_ldc2 hx hb hown (hts (.constantLong RX1 167 (9999)) (List.mem_of_getElem? (i := 8) rfl)) dX1_learnFrom_68 ?_
        obtain ⟨r9, er9, hF⟩ := zc_bind hF
        refine zc_cl (va_runSN (As := [.long _, .long _, .long _]) ⟨hx, hb, hml, hown, hts⟩ (kX2_heldBetween l G er9) ⟨va_cnB 3 hts gX1_learnFrom_X2_heldBetween_n111 rfl rfl rfl hK.2.2.2.2.2.2.2.2.1 (hts (.initialized RX2) (List.mem_of_getElem? (i := 10) rfl)) (by decide +kernel) ⟨Nat.le_of_ble_eq_true rfl, Nat.le_of_ble_eq_true rfl⟩, (hts (.static yX2_heldBetween) (List.mem_of_getElem? (i := 19) rfl)), trivial⟩ (zc_preS hK (show va_P G.1 vwCl [] _ from fun k q h => by simp at h)) rfl rfl hl.1 rfl (lv_room (Nat.le_of_ble_eq_true rfl)) dX1_learnFrom_71 ⟨Nat.le_of_ble_eq_true rfl, Nat.le_of_ble_eq_true rfl⟩) ?_
        refine lv_l2i hx hb dX1_learnFrom_74 rfl ?_
        obtain ⟨hi10, hF⟩ := zc_inE hF
        refine zc_iast hx hb hK.1 hP hD hS 1 0 rfl rfl hi10 rfl dX1_learnFrom_75 (fun H locs hP hS => ?_)
        obtain ⟨v11, ev11, hF⟩ := zc_letX hF
        have hP : va_P G.1 vwCl (zc_st G ad v11) H := by rw [ev11]; exact hP
        have hD : va_D A (zc_st G ad v11) := zc_Ds hD rfl
        obtain rfl := Option.some.inj hF
        exact W.vret hx hb hr (fun t ht hW => ⟨⟨(), rfl, trivial, zc_hp ht hP⟩, hS.F ht⟩) hS.2.2 dX1_learnFrom_76
def fX1_aimBetween (v : zc_S) (a1 : Int64) (a2 : Int64) : Option (zc_S) := Option.bind (fJ9_floorDiv_f86c9 (a1 + a2) (32 : Int64)) fun (r1 : Int64) => zc_let (zc_sI v 9 ((if ((r1 * (16 : Int64)) - a1) < (a2 - (r1 * (16 : Int64))) then (a2 - (r1 * (16 : Int64))) else ((r1 * (16 : Int64)) - a1))).toInt32) fun (v2 : zc_S) => zc_let (zc_sL v2 2 (r1 - (v2.1 1))) fun (v3 : zc_S) => some v3
theorem iX1_aimBetween_X1 : ∀ w ∈ wsX10, w ∈ wsX1_aimBetween := fun _ h => List.mem_cons_of_mem _ (List.mem_append_right _ h)
set_option maxHeartbeats 4000000 in
set_option maxRecDepth 100000 in
theorem kX1_aimBetween (l : Launch) (G : zc_G) (ad : Nat → Nat) (sz : Nat) {v : zc_S} {a1 : Int64} {a2 : Int64} {r0 : zc_S} (hF : fX1_aimBetween v a1 a2 = some r0) : Met l yX1_aimBetween wsX1_aimBetween ({ frames := 1, cells := 0, slots := 0, locals := 25 }) (zc_Pm G [.ref (ad 0), .long a1, .long a2] (zc_st G ad v) sz) (zc_Qv G (zc_st G ad r0) (va_A (zc_st G ad v) sz)) 0 0 (va_A (zc_st G ad v) sz) := by
  refine Met.ofW (cc := cX1_aimBetween) (maxL := 7) (ret := none) (by decide) rfl ?_
  intro p e s m args below meth c s₁ B hml hv
  obtain ⟨rfl, hsz, hP, hK, hD0⟩ := hv
  have hx := B.exec
  have hb := B.bytes
  have hr := B.returns
  have hts := atoms_spec (ws := wsX1_aimBetween) B.pre
  have hown : s.vm.findClass RX1 = some m.cls := findClass_of_methodNamed B.named
  have hlocks := B.notSynchronized
  subst hsz
  have hD := hD0.self (sz := s.heap.size)
  generalize hAe : va_A (zc_st G ad v) s.heap.size = A at hD ⊢
  have hA : ∀ q : Nat, s.heap.size ≤ q → A q := fun q h => by rw [← hAe]; exact Or.inr h
  have hS : va_S A s.heap s.heap [] := va_S.rf
  have hl := lv_entry ([.ref (ad 0), .long a1, .long a2]) (n := 7) (Nat.le_of_ble_eq_true rfl)
  rw [lg_entry_eq]
  generalize (lg_sl ([.ref (ad 0), .long a1, .long a2]) ++ List.replicate (7 - (lg_sl ([.ref (ad 0), .long a1, .long a2])).length) Slot.unset).toArray = ls at hl ⊢
  have hl : lv_has ls 7 [(0, .ref (ad 0)), (1, .long a1), (3, .long a2)] := hl
  refine lv_lload_n hx hb dX1_aimBetween_0 rfl (lv_at hl 1 rfl) ?_
  refine lv_lload_n hx hb dX1_aimBetween_1 rfl (lv_at hl 2 rfl) ?_
  refine lv_ladd hx hb dX1_aimBetween_2 ?_
  refine lv_ldc2 hx hb hown (hts (.constantLong RX1 169 (32)) (List.mem_of_getElem? (i := 1) rfl)) dX1_aimBetween_3 ?_
  obtain ⟨r1, er1, hF⟩ := zc_bind hF
  refine zc_cl (va_runS (As := [.long _, .long _]) ⟨hx, hb, hml, hown, hts⟩ (kJ9_floorDiv_f86c9 l G er1) (va_cwS 2 hts gX1_aimBetween_J9_floorDiv_f86c9 rfl rfl rfl (by decide +kernel) ⟨Nat.le_of_ble_eq_true rfl, Nat.le_of_ble_eq_true rfl⟩) (zc_preS hK (show va_P G.1 vwCl [] _ from fun k q h => by simp at h)) rfl rfl hl.1 rfl (lv_room (Nat.le_of_ble_eq_true rfl)) dX1_aimBetween_6 ⟨Nat.le_of_ble_eq_true rfl, Nat.le_of_ble_eq_true rfl⟩) ?_
  refine lv_lstore (lv' := [(5, .long r1), (0, .ref (ad 0)), (1, .long a1), (3, .long a2)]) hx hb dX1_aimBetween_9 hl (by decide) rfl (fun ls hl => ?_)
  refine lv_aload_n hx hb dX1_aimBetween_11 rfl (lv_at hl 1 rfl) ?_
  refine lv_lload_n hx hb dX1_aimBetween_12 rfl (lv_at hl 3 rfl) ?_
  refine lv_lload hx hb dX1_aimBetween_13 (lv_at hl 0 rfl) ?_
  refine lv_ldc2 hx hb hown (hts (.constantLong RX1 106 (16)) (List.mem_of_getElem? (i := 2) rfl)) dX1_aimBetween_15 ?_
  refine lv_lmul hx hb dX1_aimBetween_18 ?_
  refine lv_lsub hx hb dX1_aimBetween_19 ?_
  refine lv_lload hx hb dX1_aimBetween_20 (lv_at hl 0 rfl) ?_
  refine lv_ldc2 hx hb hown (hts (.constantLong RX1 106 (16)) (List.mem_of_getElem? (i := 2) rfl)) dX1_aimBetween_22 ?_
  refine lv_lmul hx hb dX1_aimBetween_25 ?_
  refine lv_lload_n hx hb dX1_aimBetween_26 rfl (lv_at hl 2 rfl) ?_
  refine lv_lsub hx hb dX1_aimBetween_27 ?_
  refine va_mmax_long hx hb (hml.trans hl.1.symm) hown (hts (.methodLink RX1 156 Lib.MathLoose.max_long.x) (List.mem_of_getElem? (i := 3) rfl)) (hts (.static Lib.MathLoose.max_long.x) (List.mem_of_getElem? (i := 4) rfl)) (hts (.initialized "java/lang/Math") (List.mem_of_getElem? (i := 5) rfl)) (hts (.code Lib.MathLoose.max_long.x Lib.MathLoose.max_long.code 4 (some .long)) (List.mem_of_getElem? (i := 6) rfl)) (Nat.le_of_ble_eq_true rfl) (Nat.le_of_ble_eq_true rfl) (Nat.zero_le _) (Nat.zero_le _) dX1_aimBetween_28 ?_
  refine lv_l2i hx hb dX1_aimBetween_31 rfl ?_
  refine va_put (D := G.1) (ci := 1) (v := .int ((if ((r1 * (16 : Int64)) - a1) < (a2 - (r1 * (16 : Int64))) then (a2 - (r1 * (16 : Int64))) else ((r1 * (16 : Int64)) - a1))).toInt32) (ty := .int) (C := RX1) (T := TX1) (N := 18) hx hb hts iX1_aimBetween_X1 tyX1 tyX1_ok nmX1 hown hK.1 hP hD hS 0 rfl rfl 9 (by decide) (hts (.fieldLink RX1 40 "BoardClock$State" "width" "I") (List.mem_of_getElem? (i := 7) rfl)) (fun _ h9 => h9) rfl (by decide +kernel) rfl rfl (Nat.le_of_ble_eq_true rfl) dX1_aimBetween_32 (fun H locs hP _ hS => ?_)
  obtain ⟨v2, ev2, hF⟩ := zc_letX hF
  have hP : va_P G.1 vwCl (zc_st G ad v2) H := by rw [ev2]; exact hP
  have hD : va_D A (zc_st G ad v2) := zc_Ds hD rfl
  refine lv_aload_n hx hb dX1_aimBetween_35 rfl (lv_at hl 1 rfl) ?_
  refine lv_lload hx hb dX1_aimBetween_36 (lv_at hl 0 rfl) ?_
  refine lv_aload_n hx hb dX1_aimBetween_38 rfl (lv_at hl 1 rfl) ?_
  refine va_get (D := G.1) (ci := 1) (C := RX1) (T := TX1) (N := 18) hx hb hts iX1_aimBetween_X1 hown hK.1 hP 0 rfl rfl 1 (by decide) (hts (.fieldLink RX1 15 "BoardClock$State" "boardTime" "J") (List.mem_of_getElem? (i := 8) rfl)) (fun _ h9 => h9) rfl dX1_aimBetween_39 ?_
  refine lv_lsub hx hb dX1_aimBetween_42 ?_
  refine va_put (D := G.1) (ci := 1) (v := .long (r1 - (v2.1 1))) (ty := .long) (C := RX1) (T := TX1) (N := 18) hx hb hts iX1_aimBetween_X1 tyX1 tyX1_ok nmX1 hown hK.1 hP hD hS 0 rfl rfl 2 (by decide) (hts (.fieldLink RX1 18 "BoardClock$State" "ahead" "J") (List.mem_of_getElem? (i := 9) rfl)) (fun _ h9 => h9) rfl (by decide +kernel) rfl rfl (Nat.le_of_ble_eq_true rfl) dX1_aimBetween_43 (fun H locs hP _ hS => ?_)
  obtain ⟨v3, ev3, hF⟩ := zc_letX hF
  have hP : va_P G.1 vwCl (zc_st G ad v3) H := by rw [ev3]; exact hP
  have hD : va_D A (zc_st G ad v3) := zc_Ds hD rfl
  obtain rfl := Option.some.inj hF
  exact W.vret hx hb hr (fun t ht hW => ⟨⟨(), rfl, trivial, zc_hp ht hP⟩, hS.F ht⟩) hS.2.2 dX1_aimBetween_46
def fX1_takeIn (v : zc_S) (a1 : Int32) (a2 : Int32) : Option (Int32 × zc_S) := zc_let ((v.1 0) + a1.toInt64) fun (x1 : Int64) => Option.bind (fX1_learnFrom v x1) fun (r2 : zc_S) => zc_let ((x1 - a2.toInt64) * (16 : Int64)) fun (x3 : Int64) => zc_let ((x1 + a2.toInt64) * (16 : Int64)) fun (x4 : Int64) => Option.bind (fX1_aim r2) fun (r5 : Int64) => zc_let (if ((r5 * (16 : Int64)) - ((r2.2.1 9)).toInt64) < x3 then x3 else ((r5 * (16 : Int64)) - ((r2.2.1 9)).toInt64)) fun (x6 : Int64) => Option.bind (fX1_aim r2) fun (r7 : Int64) => zc_let (if ((r7 * (16 : Int64)) + ((r2.2.1 9)).toInt64) < x4 then ((r7 * (16 : Int64)) + ((r2.2.1 9)).toInt64) else x4) fun (x8 : Int64) => if (lg_cmp x6 x8) ≤ 0 then (Option.bind (fX1_aimBetween r2 x6 x8) fun (r11 : zc_S) => zc_let (zc_sI r11 13 (0 : Int32)) fun (v12 : zc_S) => some ((0 : Int32), v12)) else (zc_let (zc_sI r2 12 ((r2.2.1 12) + (1 : Int32))) fun (v14 : zc_S) => Option.bind (fX1_aimBetween v14 x3 x4) fun (r15 : zc_S) => zc_let (zc_sI r15 13 (0 : Int32)) fun (v16 : zc_S) => some ((1 : Int32), v16))
theorem iX1_takeIn_X1 : ∀ w ∈ wsX10, w ∈ wsX1_takeIn := fun _ h => List.mem_cons_of_mem _ (List.mem_append_right _ h)
set_option maxHeartbeats 4000000 in
set_option maxRecDepth 100000 in
theorem kX1_takeIn (l : Launch) (G : zc_G) (ad : Nat → Nat) (sz : Nat) {v : zc_S} {a1 : Int32} {a2 : Int32} {r0 : Int32 × zc_S} (hF : fX1_takeIn v a1 a2 = some r0) : Met l yX1_takeIn wsX1_takeIn ({ frames := 3, cells := 0, slots := 0, locals := 74 }) (zc_Pm G [.ref (ad 0), .int a1, .int a2] (zc_st G ad v) sz) (zc_Qi G r0.1 (zc_st G ad r0.2) (va_A (zc_st G ad v) sz)) 0 0 (va_A (zc_st G ad v) sz) := by
  refine Met.ofW (cc := cX1_takeIn) (maxL := 14) (ret := (some .boolean)) (by decide) rfl ?_
  intro p e s m args below meth c s₁ B hml hv
  obtain ⟨rfl, hsz, hP, hK, hD0⟩ := hv
  have hx := B.exec
  have hb := B.bytes
  have hr := B.returns
  have hts := atoms_spec (ws := wsX1_takeIn) B.pre
  have hown : s.vm.findClass RX1 = some m.cls := findClass_of_methodNamed B.named
  have hlocks := B.notSynchronized
  subst hsz
  have hD := hD0.self (sz := s.heap.size)
  generalize hAe : va_A (zc_st G ad v) s.heap.size = A at hD ⊢
  have hA : ∀ q : Nat, s.heap.size ≤ q → A q := fun q h => by rw [← hAe]; exact Or.inr h
  have hS : va_S A s.heap s.heap [] := va_S.rf
  have hl := lv_entry ([.ref (ad 0), .int a1, .int a2]) (n := 14) (Nat.le_of_ble_eq_true rfl)
  rw [lg_entry_eq]
  generalize (lg_sl ([.ref (ad 0), .int a1, .int a2]) ++ List.replicate (14 - (lg_sl ([.ref (ad 0), .int a1, .int a2])).length) Slot.unset).toArray = ls at hl ⊢
  have hl : lv_has ls 14 [(0, .ref (ad 0)), (1, .int a1), (2, .int a2)] := hl
  refine lv_aload_n hx hb dX1_takeIn_0 rfl (lv_at hl 0 rfl) ?_
  refine va_get (D := G.1) (ci := 1) (C := RX1) (T := TX1) (N := 18) hx hb hts iX1_takeIn_X1 hown hK.1 hP 0 rfl rfl 0 (by decide) (hts (.fieldLink RX1 9 "BoardClock$State" "trueTime" "J") (List.mem_of_getElem? (i := 1) rfl)) (fun _ h9 => h9) rfl dX1_takeIn_1 ?_
  refine lv_iload_n hx hb dX1_takeIn_4 rfl (lv_at hl 1 rfl) ?_
  refine lv_i2l hx hb dX1_takeIn_5 rfl ?_
  refine lv_ladd hx hb dX1_takeIn_6 ?_
  refine lv_topl (fun x1 ex1 => ?_)
  have hF := zc_letE ex1 hF
  refine lv_lstore_n (lv' := [(3, .long x1), (0, .ref (ad 0)), (1, .int a1), (2, .int a2)]) hx hb dX1_takeIn_7 rfl hl (by decide) rfl (fun ls hl => ?_)
  refine lv_aload_n hx hb dX1_takeIn_8 rfl (lv_at hl 1 rfl) ?_
  refine lv_lload_n hx hb dX1_takeIn_9 rfl (lv_at hl 0 rfl) ?_
  obtain ⟨r2, er2, hF⟩ := zc_bind hF
  refine zc_mv (X := zc_st G ad v) (pl := []) (wc := zc_st G ad v) (w1 := zc_st G ad r2) (wr := []) hP hD hS hA [0, 1, 2, 3, 4, 5, 6] [] rfl (by decide) rfl (by decide) (by decide) rfl (va_runV (As := [.long _]) ⟨hx, hb, hml, hown, hts⟩ (kX1_learnFrom l G ad _ er2) (cwV 1 hts gX1_takeIn_X1_learnFrom rfl rfl rfl (by decide +kernel) ⟨Nat.le_of_ble_eq_true rfl, Nat.le_of_ble_eq_true rfl⟩) (zc_preVm hK hP hD 0 rfl rfl) rfl rfl hl.1 rfl (lv_room (Nat.le_of_ble_eq_true rfl)) dX1_takeIn_10 ⟨Nat.le_of_ble_eq_true rfl, Nat.le_of_ble_eq_true rfl⟩) (fun H locs hP hD hS => ?_)
  have hP : va_P G.1 vwCl (zc_st G ad r2) H := hP
  have hD : va_D A (zc_st G ad r2) := hD
  refine lv_lload_n hx hb dX1_takeIn_13 rfl (lv_at hl 0 rfl) ?_
  refine lv_iload_n hx hb dX1_takeIn_14 rfl (lv_at hl 3 rfl) ?_
  refine lv_i2l hx hb dX1_takeIn_15 rfl ?_
  refine lv_lsub hx hb dX1_takeIn_16 ?_
  refine lv_ldc2 hx hb hown (hts (.constantLong RX1 106 (16)) (List.mem_of_getElem? (i := 2) rfl)) dX1_takeIn_17 ?_
  refine lv_lmul hx hb dX1_takeIn_20 ?_
  refine lv_topl (fun x3 ex3 => ?_)
  have hF := zc_letE ex3 hF
  refine lv_lstore (lv' := [(5, .long x3), (3, .long x1), (0, .ref (ad 0)), (1, .int a1), (2, .int a2)]) hx hb dX1_takeIn_21 hl (by decide) rfl (fun ls hl => ?_)
  refine lv_lload_n hx hb dX1_takeIn_23 rfl (lv_at hl 1 rfl) ?_
  refine lv_iload_n hx hb dX1_takeIn_24 rfl (lv_at hl 4 rfl) ?_
  refine lv_i2l hx hb dX1_takeIn_25 rfl ?_
  refine lv_ladd hx hb dX1_takeIn_26 ?_
  refine lv_ldc2 hx hb hown (hts (.constantLong RX1 106 (16)) (List.mem_of_getElem? (i := 2) rfl)) dX1_takeIn_27 ?_
  refine lv_lmul hx hb dX1_takeIn_30 ?_
  refine lv_topl (fun x4 ex4 => ?_)
  have hF := zc_letE ex4 hF
  refine lv_lstore (lv' := [(7, .long x4), (5, .long x3), (3, .long x1), (0, .ref (ad 0)), (1, .int a1), (2, .int a2)]) hx hb dX1_takeIn_31 hl (by decide) rfl (fun ls hl => ?_)
  refine lv_lload hx hb dX1_takeIn_33 (lv_at hl 1 rfl) ?_
  refine lv_aload_n hx hb dX1_takeIn_35 rfl (lv_at hl 3 rfl) ?_
  obtain ⟨r5, er5, hF⟩ := zc_bind hF
  refine zc_cl (va_runV (As := []) ⟨hx, hb, hml, hown, hts⟩ (kX1_aim l G ad er5) (cwV 0 hts gX1_takeIn_X1_aim rfl rfl rfl (by decide +kernel) ⟨Nat.le_of_ble_eq_true rfl, Nat.le_of_ble_eq_true rfl⟩) (zc_preV hK hP 0 rfl rfl) rfl rfl hl.1 rfl (lv_room (Nat.le_of_ble_eq_true rfl)) dX1_takeIn_36 ⟨Nat.le_of_ble_eq_true rfl, Nat.le_of_ble_eq_true rfl⟩) ?_
  refine lv_ldc2 hx hb hown (hts (.constantLong RX1 106 (16)) (List.mem_of_getElem? (i := 2) rfl)) dX1_takeIn_39 ?_
  refine lv_lmul hx hb dX1_takeIn_42 ?_
  refine lv_aload_n hx hb dX1_takeIn_43 rfl (lv_at hl 3 rfl) ?_
  refine va_get (D := G.1) (ci := 1) (C := RX1) (T := TX1) (N := 18) hx hb hts iX1_takeIn_X1 hown hK.1 hP 0 rfl rfl 9 (by decide) (hts (.fieldLink RX1 40 "BoardClock$State" "width" "I") (List.mem_of_getElem? (i := 3) rfl)) (fun _ h9 => h9) rfl dX1_takeIn_44 ?_
  refine lv_i2l hx hb dX1_takeIn_47 rfl ?_
  refine lv_lsub hx hb dX1_takeIn_48 ?_
  refine va_mmax_long hx hb (hml.trans hl.1.symm) hown (hts (.methodLink RX1 156 Lib.MathLoose.max_long.x) (List.mem_of_getElem? (i := 4) rfl)) (hts (.static Lib.MathLoose.max_long.x) (List.mem_of_getElem? (i := 5) rfl)) (hts (.initialized "java/lang/Math") (List.mem_of_getElem? (i := 6) rfl)) (hts (.code Lib.MathLoose.max_long.x Lib.MathLoose.max_long.code 4 (some .long)) (List.mem_of_getElem? (i := 7) rfl)) (Nat.le_of_ble_eq_true rfl) (Nat.le_of_ble_eq_true rfl) (Nat.zero_le _) (Nat.zero_le _) dX1_takeIn_49 ?_
  refine lv_topl (fun x6 ex6 => ?_)
  have hF := zc_letE ex6 hF
  refine lv_lstore (lv' := [(9, .long x6), (7, .long x4), (5, .long x3), (3, .long x1), (0, .ref (ad 0)), (1, .int a1), (2, .int a2)]) hx hb dX1_takeIn_52 hl (by decide) rfl (fun ls hl => ?_)
  refine lv_lload hx hb dX1_takeIn_54 (lv_at hl 1 rfl) ?_
  refine lv_aload_n hx hb dX1_takeIn_56 rfl (lv_at hl 4 rfl) ?_
  obtain ⟨r7, er7, hF⟩ := zc_bind hF
  refine zc_cl (va_runV (As := []) ⟨hx, hb, hml, hown, hts⟩ (kX1_aim l G ad er7) (cwV 0 hts gX1_takeIn_X1_aim rfl rfl rfl (by decide +kernel) ⟨Nat.le_of_ble_eq_true rfl, Nat.le_of_ble_eq_true rfl⟩) (zc_preV hK hP 0 rfl rfl) rfl rfl hl.1 rfl (lv_room (Nat.le_of_ble_eq_true rfl)) dX1_takeIn_57 ⟨Nat.le_of_ble_eq_true rfl, Nat.le_of_ble_eq_true rfl⟩) ?_
  refine lv_ldc2 hx hb hown (hts (.constantLong RX1 106 (16)) (List.mem_of_getElem? (i := 2) rfl)) dX1_takeIn_60 ?_
  refine lv_lmul hx hb dX1_takeIn_63 ?_
  refine lv_aload_n hx hb dX1_takeIn_64 rfl (lv_at hl 4 rfl) ?_
  refine va_get (D := G.1) (ci := 1) (C := RX1) (T := TX1) (N := 18) hx hb hts iX1_takeIn_X1 hown hK.1 hP 0 rfl rfl 9 (by decide) (hts (.fieldLink RX1 40 "BoardClock$State" "width" "I") (List.mem_of_getElem? (i := 3) rfl)) (fun _ h9 => h9) rfl dX1_takeIn_65 ?_
  refine lv_i2l hx hb dX1_takeIn_68 rfl ?_
  refine lv_ladd hx hb dX1_takeIn_69 ?_
  refine va_mmin_long hx hb (hml.trans hl.1.symm) hown (hts (.methodLink RX1 145 Lib.MathLoose.min_long.x) (List.mem_of_getElem? (i := 8) rfl)) (hts (.static Lib.MathLoose.min_long.x) (List.mem_of_getElem? (i := 9) rfl)) (hts (.initialized "java/lang/Math") (List.mem_of_getElem? (i := 6) rfl)) (hts (.code Lib.MathLoose.min_long.x Lib.MathLoose.min_long.code 4 (some .long)) (List.mem_of_getElem? (i := 10) rfl)) (Nat.le_of_ble_eq_true rfl) (Nat.le_of_ble_eq_true rfl) (Nat.zero_le _) (Nat.zero_le _) dX1_takeIn_70 ?_
  refine lv_topl (fun x8 ex8 => ?_)
  have hF := zc_letE ex8 hF
  refine lv_lstore (lv' := [(11, .long x8), (9, .long x6), (7, .long x4), (5, .long x3), (3, .long x1), (0, .ref (ad 0)), (1, .int a1), (2, .int a2)]) hx hb dX1_takeIn_73 hl (by decide) rfl (fun ls hl => ?_)
  refine lv_lload hx hb dX1_takeIn_75 (lv_at hl 1 rfl) ?_
  refine lv_lload hx hb dX1_takeIn_77 (lv_at hl 0 rfl) ?_
  refine W.lcmp hx hb dX1_takeIn_79 ?_
  refine lv_if_le (tgt := 87) hx hb dX1_takeIn_80 (by decide) (fun c9 => ?_) (fun c9 => ?_)
  · have hF := zc_pos c9 hF
    refine lv_iconst (v := (0 : Int32)) hx hb dX1_takeIn_87 (by decide) ?_
    refine lv_istore (lv' := [(13, .int (0 : Int32)), (11, .long x8), (9, .long x6), (7, .long x4), (5, .long x3), (3, .long x1), (0, .ref (ad 0)), (1, .int a1), (2, .int a2)]) hx hb dX1_takeIn_88 hl (by decide) rfl (fun ls hl => ?_)
    refine lv_iload hx hb dX1_takeIn_90 (lv_at hl 0 rfl) ?_
    refine lv_if_eq (tgt := 116) hx hb dX1_takeIn_92 (by decide) (fun c10 => ?_) (fun c10 => absurd c10 (by decide))
    refine lv_aload_n hx hb dX1_takeIn_116 rfl (lv_at hl 6 rfl) ?_
    refine lv_lload hx hb dX1_takeIn_117 (lv_at hl 2 rfl) ?_
    refine lv_lload hx hb dX1_takeIn_119 (lv_at hl 1 rfl) ?_
    obtain ⟨r11, er11, hF⟩ := zc_bind hF
    refine zc_mv (X := zc_st G ad r2) (pl := []) (wc := zc_st G ad r2) (w1 := zc_st G ad r11) (wr := []) hP hD hS hA [0, 1, 2, 3, 4, 5, 6] [] rfl (by decide) rfl (by decide) (by decide) rfl (va_runV (As := [.long _, .long _]) ⟨hx, hb, hml, hown, hts⟩ (kX1_aimBetween l G ad _ er11) (cwV 2 hts gX1_takeIn_X1_aimBetween rfl rfl rfl (by decide +kernel) ⟨Nat.le_of_ble_eq_true rfl, Nat.le_of_ble_eq_true rfl⟩) (zc_preVm hK hP hD 0 rfl rfl) rfl rfl hl.1 rfl (lv_room (Nat.le_of_ble_eq_true rfl)) dX1_takeIn_121 ⟨Nat.le_of_ble_eq_true rfl, Nat.le_of_ble_eq_true rfl⟩) (fun H locs hP hD hS => ?_)
    have hP : va_P G.1 vwCl (zc_st G ad r11) H := hP
    have hD : va_D A (zc_st G ad r11) := hD
    refine lv_aload_n hx hb dX1_takeIn_124 rfl (lv_at hl 6 rfl) ?_
    refine lv_iconst (v := (0 : Int32)) hx hb dX1_takeIn_125 (by decide) ?_
    refine va_put (D := G.1) (ci := 1) (v := .int (0 : Int32)) (ty := .int) (C := RX1) (T := TX1) (N := 18) hx hb hts iX1_takeIn_X1 tyX1 tyX1_ok nmX1 hown hK.1 hP hD hS 0 rfl rfl 13 (by decide) (hts (.fieldLink RX1 53 "BoardClock$State" "ticks" "I") (List.mem_of_getElem? (i := 12) rfl)) (fun _ h9 => h9) rfl (by decide +kernel) rfl rfl (Nat.le_of_ble_eq_true rfl) dX1_takeIn_126 (fun H locs hP _ hS => ?_)
    obtain ⟨v12, ev12, hF⟩ := zc_letX hF
    have hP : va_P G.1 vwCl (zc_st G ad v12) H := by rw [ev12]; exact hP
    have hD : va_D A (zc_st G ad v12) := zc_Ds hD rfl
    refine lv_iload hx hb dX1_takeIn_129 (lv_at hl 0 rfl) ?_
    obtain rfl := Option.some.inj hF
    exact W.zret hx hb hr (by decide) (fun t ht hW => ⟨⟨_, (), rfl, rfl, zc_hp ht hP⟩, hS.F ht⟩) hS.2.2 dX1_takeIn_131
  · have hF := zc_neg c9 hF
    refine lv_iconst (v := (1 : Int32)) hx hb dX1_takeIn_83 (by decide) ?_
    refine lv_goto (tgt := 88) hx hb dX1_takeIn_84 (by decide) ?_
    refine lv_istore (lv' := [(13, .int (1 : Int32)), (11, .long x8), (9, .long x6), (7, .long x4), (5, .long x3), (3, .long x1), (0, .ref (ad 0)), (1, .int a1), (2, .int a2)]) hx hb dX1_takeIn_88 hl (by decide) rfl (fun ls hl => ?_)
    refine lv_iload hx hb dX1_takeIn_90 (lv_at hl 0 rfl) ?_
    refine lv_if_eq (tgt := 116) hx hb dX1_takeIn_92 (by decide) (fun c13 => absurd c13 (by decide)) (fun c13 => ?_)
    refine lv_aload_n hx hb dX1_takeIn_95 rfl (lv_at hl 6 rfl) ?_
    refine lv_dup hx hb dX1_takeIn_96 rfl ?_
    refine va_get (D := G.1) (ci := 1) (C := RX1) (T := TX1) (N := 18) hx hb hts iX1_takeIn_X1 hown hK.1 hP 0 rfl rfl 12 (by decide) (hts (.fieldLink RX1 50 "BoardClock$State" "broken" "I") (List.mem_of_getElem? (i := 11) rfl)) (fun _ h9 => h9) rfl dX1_takeIn_97 ?_
    refine lv_iconst (v := (1 : Int32)) hx hb dX1_takeIn_100 (by decide) ?_
    refine lv_iadd hx hb dX1_takeIn_101 ?_
    refine va_put (D := G.1) (ci := 1) (v := .int ((r2.2.1 12) + (1 : Int32))) (ty := .int) (C := RX1) (T := TX1) (N := 18) hx hb hts iX1_takeIn_X1 tyX1 tyX1_ok nmX1 hown hK.1 hP hD hS 0 rfl rfl 12 (by decide) (hts (.fieldLink RX1 50 "BoardClock$State" "broken" "I") (List.mem_of_getElem? (i := 11) rfl)) (fun _ h9 => h9) rfl (by decide +kernel) rfl rfl (Nat.le_of_ble_eq_true rfl) dX1_takeIn_102 (fun H locs hP _ hS => ?_)
    obtain ⟨v14, ev14, hF⟩ := zc_letX hF
    have hP : va_P G.1 vwCl (zc_st G ad v14) H := by rw [ev14]; exact hP
    have hD : va_D A (zc_st G ad v14) := zc_Ds hD rfl
    refine lv_aload_n hx hb dX1_takeIn_105 rfl (lv_at hl 6 rfl) ?_
    refine lv_lload hx hb dX1_takeIn_106 (lv_at hl 4 rfl) ?_
    refine lv_lload hx hb dX1_takeIn_108 (lv_at hl 3 rfl) ?_
    obtain ⟨r15, er15, hF⟩ := zc_bind hF
    refine zc_mv (X := zc_st G ad v14) (pl := []) (wc := zc_st G ad v14) (w1 := zc_st G ad r15) (wr := []) hP hD hS hA [0, 1, 2, 3, 4, 5, 6] [] rfl (by decide) rfl (by decide) (by decide) rfl (va_runV (As := [.long _, .long _]) ⟨hx, hb, hml, hown, hts⟩ (kX1_aimBetween l G ad _ er15) (cwV 2 hts gX1_takeIn_X1_aimBetween rfl rfl rfl (by decide +kernel) ⟨Nat.le_of_ble_eq_true rfl, Nat.le_of_ble_eq_true rfl⟩) (zc_preVm hK hP hD 0 rfl rfl) rfl rfl hl.1 rfl (lv_room (Nat.le_of_ble_eq_true rfl)) dX1_takeIn_110 ⟨Nat.le_of_ble_eq_true rfl, Nat.le_of_ble_eq_true rfl⟩) (fun H locs hP hD hS => ?_)
    have hP : va_P G.1 vwCl (zc_st G ad r15) H := hP
    have hD : va_D A (zc_st G ad r15) := hD
    refine lv_goto (tgt := 124) hx hb dX1_takeIn_113 (by decide) ?_
    refine lv_aload_n hx hb dX1_takeIn_124 rfl (lv_at hl 6 rfl) ?_
    refine lv_iconst (v := (0 : Int32)) hx hb dX1_takeIn_125 (by decide) ?_
    refine va_put (D := G.1) (ci := 1) (v := .int (0 : Int32)) (ty := .int) (C := RX1) (T := TX1) (N := 18) hx hb hts iX1_takeIn_X1 tyX1 tyX1_ok nmX1 hown hK.1 hP hD hS 0 rfl rfl 13 (by decide) (hts (.fieldLink RX1 53 "BoardClock$State" "ticks" "I") (List.mem_of_getElem? (i := 12) rfl)) (fun _ h9 => h9) rfl (by decide +kernel) rfl rfl (Nat.le_of_ble_eq_true rfl) dX1_takeIn_126 (fun H locs hP _ hS => ?_)
    obtain ⟨v16, ev16, hF⟩ := zc_letX hF
    have hP : va_P G.1 vwCl (zc_st G ad v16) H := by rw [ev16]; exact hP
    have hD : va_D A (zc_st G ad v16) := zc_Ds hD rfl
    refine lv_iload hx hb dX1_takeIn_129 (lv_at hl 0 rfl) ?_
    obtain rfl := Option.some.inj hF
    exact W.zret hx hb hr (by decide) (fun t ht hW => ⟨⟨_, (), rfl, rfl, zc_hp ht hP⟩, hS.F ht⟩) hS.2.2 dX1_takeIn_131
def fX1_pass (N : Nat) (v : zc_S) (a1 : Int32) : Option (Int32 × zc_S) := Option.bind (fX1_minuteNumber v) fun (r1 : Int64) => Option.bind (fX1_noteTicks v a1) fun (r2 : zc_S) => zc_let (zc_sL r2 0 ((r2.1 0) + (a1.toInt64 * (60000 : Int64)))) fun (v3 : zc_S) => Option.bind (fX1_boardTimeAfter v3 a1) fun (r4 : Int64) => zc_let (zc_sL v3 1 r4) fun (v5 : zc_S) => if (v5.2.1 11) = 0 then (Option.bind (fX1_widthPerTick v5) fun (r7 : Int32) => zc_let (zc_sI v5 9 ((if (999999999 : Int64) < (((v5.2.1 9)).toInt64 + (a1.toInt64 * r7.toInt64)) then (999999999 : Int64) else (((v5.2.1 9)).toInt64 + (a1.toInt64 * r7.toInt64)))).toInt32) fun (v8 : zc_S) => Option.bind (fX1_minuteNumber v8) fun (r9 : Int64) => Option.bind (fX0_ring N v8.2.2.2 r1 r9) fun (r10 : Int32 × zc_Q) => zc_let (zc_sq v8 r10.2) fun (v11 : zc_S) => some (r10.1, v11)) else (Option.bind (fX1_stepsAfter v5 a1) fun (r12 : Int64) => zc_let (zc_sL v5 2 ((v5.1 2) - r12)) fun (v13 : zc_S) => Option.bind (fX1_sixteenthsAfter v13 a1) fun (r14 : Int64) => Option.bind (fJ9_floorMod_f86c9 r14 (16 : Int64)) fun (r15 : Int64) => zc_let (zc_sI v13 7 (r15).toInt32) fun (v16 : zc_S) => Option.bind (fX1_widthPerTick v16) fun (r17 : Int32) => zc_let (zc_sI v16 9 ((if (999999999 : Int64) < (((v16.2.1 9)).toInt64 + (a1.toInt64 * r17.toInt64)) then (999999999 : Int64) else (((v16.2.1 9)).toInt64 + (a1.toInt64 * r17.toInt64)))).toInt32) fun (v18 : zc_S) => Option.bind (fX1_minuteNumber v18) fun (r19 : Int64) => Option.bind (fX0_ring N v18.2.2.2 r1 r19) fun (r20 : Int32 × zc_Q) => zc_let (zc_sq v18 r20.2) fun (v21 : zc_S) => some (r20.1, v21))
theorem iX1_pass_X1 : ∀ w ∈ wsX10, w ∈ wsX1_pass := fun _ h => List.mem_cons_of_mem _ (List.mem_append_left _ (List.mem_append_right _ h))
set_option maxHeartbeats 4000000 in
set_option maxRecDepth 100000 in
theorem kX1_pass (l : Launch) (G : zc_G) (ad : Nat → Nat) (sz : Nat) {N : Nat} {v : zc_S} {a1 : Int32} {r0 : Int32 × zc_S} (hF : fX1_pass N v a1 = some r0) : Met l yX1_pass wsX1_pass ({ frames := 4, cells := 0, slots := 0, locals := 99 }) (zc_Pm G [.ref (ad 0), .int a1] (zc_st G ad v) sz) (zc_Qi G r0.1 (zc_st G ad r0.2) (va_A (zc_st G ad v) sz)) 0 0 (va_A (zc_st G ad v) sz) := by
  refine Met.ofW (cc := cX1_pass) (maxL := 4) (ret := (some .int)) (by decide) rfl ?_
  intro p e s m args below meth c s₁ B hml hv
  obtain ⟨rfl, hsz, hP, hK, hD0⟩ := hv
  have hx := B.exec
  have hb := B.bytes
  have hr := B.returns
  have hts := atoms_spec (ws := wsX1_pass) B.pre
  have hown : s.vm.findClass RX1 = some m.cls := findClass_of_methodNamed B.named
  have hlocks := B.notSynchronized
  subst hsz
  have hD := hD0.self (sz := s.heap.size)
  generalize hAe : va_A (zc_st G ad v) s.heap.size = A at hD ⊢
  have hA : ∀ q : Nat, s.heap.size ≤ q → A q := fun q h => by rw [← hAe]; exact Or.inr h
  have hS : va_S A s.heap s.heap [] := va_S.rf
  have hl := lv_entry ([.ref (ad 0), .int a1]) (n := 4) (Nat.le_of_ble_eq_true rfl)
  rw [lg_entry_eq]
  generalize (lg_sl ([.ref (ad 0), .int a1]) ++ List.replicate (4 - (lg_sl ([.ref (ad 0), .int a1])).length) Slot.unset).toArray = ls at hl ⊢
  have hl : lv_has ls 4 [(0, .ref (ad 0)), (1, .int a1)] := hl
  refine lv_aload_n hx hb dX1_pass_0 rfl (lv_at hl 0 rfl) ?_
  obtain ⟨r1, er1, hF⟩ := zc_bind hF
  refine zc_cl (va_runV (As := []) ⟨hx, hb, hml, hown, hts⟩ (kX1_minuteNumber l G ad er1) (cwV 0 hts gX1_pass_X1_minuteNumber rfl rfl rfl (by decide +kernel) ⟨Nat.le_of_ble_eq_true rfl, Nat.le_of_ble_eq_true rfl⟩) (zc_preV hK hP 0 rfl rfl) rfl rfl hl.1 rfl (lv_room (Nat.le_of_ble_eq_true rfl)) dX1_pass_1 ⟨Nat.le_of_ble_eq_true rfl, Nat.le_of_ble_eq_true rfl⟩) ?_
  refine lv_lstore_n (lv' := [(2, .long r1), (0, .ref (ad 0)), (1, .int a1)]) hx hb dX1_pass_4 rfl hl (by decide) rfl (fun ls hl => ?_)
  refine lv_aload_n hx hb dX1_pass_5 rfl (lv_at hl 1 rfl) ?_
  refine lv_iload_n hx hb dX1_pass_6 rfl (lv_at hl 2 rfl) ?_
  obtain ⟨r2, er2, hF⟩ := zc_bind hF
  refine zc_mv (X := zc_st G ad v) (pl := []) (wc := zc_st G ad v) (w1 := zc_st G ad r2) (wr := []) hP hD hS hA [0, 1, 2, 3, 4, 5, 6] [] rfl (by decide) rfl (by decide) (by decide) rfl (va_runV (As := [.int _]) ⟨hx, hb, hml, hown, hts⟩ (kX1_noteTicks l G ad _ er2) (cwV 1 hts gX1_pass_X1_noteTicks rfl rfl rfl (by decide +kernel) ⟨Nat.le_of_ble_eq_true rfl, Nat.le_of_ble_eq_true rfl⟩) (zc_preVm hK hP hD 0 rfl rfl) rfl rfl hl.1 rfl (lv_room (Nat.le_of_ble_eq_true rfl)) dX1_pass_7 ⟨Nat.le_of_ble_eq_true rfl, Nat.le_of_ble_eq_true rfl⟩) (fun H locs hP hD hS => ?_)
  have hP : va_P G.1 vwCl (zc_st G ad r2) H := hP
  have hD : va_D A (zc_st G ad r2) := hD
  refine lv_aload_n hx hb dX1_pass_10 rfl (lv_at hl 1 rfl) ?_
  refine lv_dup hx hb dX1_pass_11 rfl ?_
  refine va_get (D := G.1) (ci := 1) (C := RX1) (T := TX1) (N := 18) hx hb hts iX1_pass_X1 hown hK.1 hP 0 rfl rfl 0 (by decide) (hts (.fieldLink RX1 9 "BoardClock$State" "trueTime" "J") (List.mem_of_getElem? (i := 1) rfl)) (fun _ h9 => h9) rfl dX1_pass_12 ?_
  refine lv_iload_n hx hb dX1_pass_15 rfl (lv_at hl 2 rfl) ?_
  refine lv_i2l hx hb dX1_pass_16 rfl ?_
  refine lv_ldc2 hx hb hown (hts (.constantLong RX1 83 (60000)) (List.mem_of_getElem? (i := 2) rfl)) dX1_pass_17 ?_
  refine lv_lmul hx hb dX1_pass_20 ?_
  refine lv_ladd hx hb dX1_pass_21 ?_
  refine va_put (D := G.1) (ci := 1) (v := .long ((r2.1 0) + (a1.toInt64 * (60000 : Int64)))) (ty := .long) (C := RX1) (T := TX1) (N := 18) hx hb hts iX1_pass_X1 tyX1 tyX1_ok nmX1 hown hK.1 hP hD hS 0 rfl rfl 0 (by decide) (hts (.fieldLink RX1 9 "BoardClock$State" "trueTime" "J") (List.mem_of_getElem? (i := 1) rfl)) (fun _ h9 => h9) rfl (by decide +kernel) rfl rfl (Nat.le_of_ble_eq_true rfl) dX1_pass_22 (fun H locs hP _ hS => ?_)
  obtain ⟨v3, ev3, hF⟩ := zc_letX hF
  have hP : va_P G.1 vwCl (zc_st G ad v3) H := by rw [ev3]; exact hP
  have hD : va_D A (zc_st G ad v3) := zc_Ds hD rfl
  refine lv_aload_n hx hb dX1_pass_25 rfl (lv_at hl 1 rfl) ?_
  refine lv_aload_n hx hb dX1_pass_26 rfl (lv_at hl 1 rfl) ?_
  refine lv_iload_n hx hb dX1_pass_27 rfl (lv_at hl 2 rfl) ?_
  obtain ⟨r4, er4, hF⟩ := zc_bind hF
  refine zc_cl (va_runV (As := [.int _]) ⟨hx, hb, hml, hown, hts⟩ (kX1_boardTimeAfter l G ad er4) (cwV 1 hts gX1_pass_X1_boardTimeAfter rfl rfl rfl (by decide +kernel) ⟨Nat.le_of_ble_eq_true rfl, Nat.le_of_ble_eq_true rfl⟩) (zc_preV hK hP 0 rfl rfl) rfl rfl hl.1 rfl (lv_room (Nat.le_of_ble_eq_true rfl)) dX1_pass_28 ⟨Nat.le_of_ble_eq_true rfl, Nat.le_of_ble_eq_true rfl⟩) ?_
  refine va_put (D := G.1) (ci := 1) (v := .long r4) (ty := .long) (C := RX1) (T := TX1) (N := 18) hx hb hts iX1_pass_X1 tyX1 tyX1_ok nmX1 hown hK.1 hP hD hS 0 rfl rfl 1 (by decide) (hts (.fieldLink RX1 15 "BoardClock$State" "boardTime" "J") (List.mem_of_getElem? (i := 3) rfl)) (fun _ h9 => h9) rfl (by decide +kernel) rfl rfl (Nat.le_of_ble_eq_true rfl) dX1_pass_31 (fun H locs hP _ hS => ?_)
  obtain ⟨v5, ev5, hF⟩ := zc_letX hF
  have hP : va_P G.1 vwCl (zc_st G ad v5) H := by rw [ev5]; exact hP
  have hD : va_D A (zc_st G ad v5) := zc_Ds hD rfl
  refine lv_aload_n hx hb dX1_pass_34 rfl (lv_at hl 1 rfl) ?_
  refine va_get (D := G.1) (ci := 1) (C := RX1) (T := TX1) (N := 18) hx hb hts iX1_pass_X1 hown hK.1 hP 0 rfl rfl 11 (by decide) (hts (.fieldLink RX1 46 "BoardClock$State" "powered" "Z") (List.mem_of_getElem? (i := 4) rfl)) (fun _ h9 => h9) rfl dX1_pass_35 ?_
  refine lv_if_eq (tgt := 71) hx hb dX1_pass_38 (by decide) (fun c6 => ?_) (fun c6 => ?_)
  · have hF := zc_pos c6 hF
    refine lv_aload_n hx hb dX1_pass_71 rfl (lv_at hl 1 rfl) ?_
    refine lv_aload_n hx hb dX1_pass_72 rfl (lv_at hl 1 rfl) ?_
    refine va_get (D := G.1) (ci := 1) (C := RX1) (T := TX1) (N := 18) hx hb hts iX1_pass_X1 hown hK.1 hP 0 rfl rfl 9 (by decide) (hts (.fieldLink RX1 40 "BoardClock$State" "width" "I") (List.mem_of_getElem? (i := 8) rfl)) (fun _ h9 => h9) rfl dX1_pass_73 ?_
    refine lv_i2l hx hb dX1_pass_76 rfl ?_
    refine lv_iload_n hx hb dX1_pass_77 rfl (lv_at hl 2 rfl) ?_
    refine lv_i2l hx hb dX1_pass_78 rfl ?_
    refine lv_aload_n hx hb dX1_pass_79 rfl (lv_at hl 1 rfl) ?_
    obtain ⟨r7, er7, hF⟩ := zc_bind hF
    refine zc_ci (va_runV (As := []) ⟨hx, hb, hml, hown, hts⟩ (kX1_widthPerTick l G ad er7) (cwV 0 hts gX1_pass_X1_widthPerTick rfl rfl rfl (by decide +kernel) ⟨Nat.le_of_ble_eq_true rfl, Nat.le_of_ble_eq_true rfl⟩) (zc_preV hK hP 0 rfl rfl) rfl rfl hl.1 rfl (lv_room (Nat.le_of_ble_eq_true rfl)) dX1_pass_80 ⟨Nat.le_of_ble_eq_true rfl, Nat.le_of_ble_eq_true rfl⟩) ?_
    refine lv_i2l hx hb dX1_pass_83 rfl ?_
    refine lv_lmul hx hb dX1_pass_84 ?_
    refine lv_ladd hx hb dX1_pass_85 ?_
    refine lv_ldc2 hx hb hown (hts (.constantLong RX1 143 (999999999)) (List.mem_of_getElem? (i := 9) rfl)) dX1_pass_86 ?_
    refine va_mmin_long hx hb (hml.trans hl.1.symm) hown (hts (.methodLink RX1 145 Lib.MathLoose.min_long.x) (List.mem_of_getElem? (i := 10) rfl)) (hts (.static Lib.MathLoose.min_long.x) (List.mem_of_getElem? (i := 11) rfl)) (hts (.initialized "java/lang/Math") (List.mem_of_getElem? (i := 12) rfl)) (hts (.code Lib.MathLoose.min_long.x Lib.MathLoose.min_long.code 4 (some .long)) (List.mem_of_getElem? (i := 13) rfl)) (Nat.le_of_ble_eq_true rfl) (Nat.le_of_ble_eq_true rfl) (Nat.zero_le _) (Nat.zero_le _) dX1_pass_89 ?_
    refine lv_l2i hx hb dX1_pass_92 rfl ?_
    refine va_put (D := G.1) (ci := 1) (v := .int ((if (999999999 : Int64) < (((v5.2.1 9)).toInt64 + (a1.toInt64 * r7.toInt64)) then (999999999 : Int64) else (((v5.2.1 9)).toInt64 + (a1.toInt64 * r7.toInt64)))).toInt32) (ty := .int) (C := RX1) (T := TX1) (N := 18) hx hb hts iX1_pass_X1 tyX1 tyX1_ok nmX1 hown hK.1 hP hD hS 0 rfl rfl 9 (by decide) (hts (.fieldLink RX1 40 "BoardClock$State" "width" "I") (List.mem_of_getElem? (i := 8) rfl)) (fun _ h9 => h9) rfl (by decide +kernel) rfl rfl (Nat.le_of_ble_eq_true rfl) dX1_pass_93 (fun H locs hP _ hS => ?_)
    obtain ⟨v8, ev8, hF⟩ := zc_letX hF
    have hP : va_P G.1 vwCl (zc_st G ad v8) H := by rw [ev8]; exact hP
    have hD : va_D A (zc_st G ad v8) := zc_Ds hD rfl
    refine lv_aload_n hx hb dX1_pass_96 rfl (lv_at hl 1 rfl) ?_
    refine va_get (D := G.1) (ci := 1) (C := RX1) (T := TX1) (N := 18) hx hb hts iX1_pass_X1 hown hK.1 hP 0 rfl rfl 17 (by decide) (hts (.fieldLink RX1 69 "BoardClock$State" "alarms" "LBoardClock$Alarms;") (List.mem_of_getElem? (i := 14) rfl)) (fun _ h9 => h9) rfl dX1_pass_97 ?_
    refine lv_lload_n hx hb dX1_pass_100 rfl (lv_at hl 0 rfl) ?_
    refine lv_aload_n hx hb dX1_pass_101 rfl (lv_at hl 1 rfl) ?_
    obtain ⟨r9, er9, hF⟩ := zc_bind hF
    refine zc_cl (va_runV (As := []) ⟨hx, hb, hml, hown, hts⟩ (kX1_minuteNumber l G ad er9) (cwV 0 hts gX1_pass_X1_minuteNumber rfl rfl rfl (by decide +kernel) ⟨Nat.le_of_ble_eq_true rfl, Nat.le_of_ble_eq_true rfl⟩) (zc_preV hK hP 0 rfl rfl) rfl rfl hl.1 rfl (lv_room (Nat.le_of_ble_eq_true rfl)) dX1_pass_102 ⟨Nat.le_of_ble_eq_true rfl, Nat.le_of_ble_eq_true rfl⟩) ?_
    obtain ⟨r10, er10, hF⟩ := zc_bind hF
    refine zc_mi (X := zc_st G ad v8) (pl := []) (wc := zc_al G ad v8.2.2.2) (w1 := zc_al G ad r10.2) (wr := (zc_st G ad v8).take 2) hP hD hS hA [2, 3, 4, 5, 6] [0, 1] rfl (by decide) rfl (by decide) (by decide) rfl (va_runV (As := [.long _, .long _]) ⟨hx, hb, hml, hown, hts⟩ (kX0_ring l G ad _ er10) (cwV 2 hts gX1_pass_X0_ring rfl rfl rfl (by decide +kernel) ⟨Nat.le_of_ble_eq_true rfl, Nat.le_of_ble_eq_true rfl⟩) (zc_preVm hK (hP.sub (ws' := zc_al G ad v8.2.2.2) [2, 3, 4, 5, 6] rfl) (hD.sub (ws' := zc_al G ad v8.2.2.2) [2, 3, 4, 5, 6] (by decide) rfl) 0 rfl rfl) rfl rfl hl.1 rfl (lv_room (Nat.le_of_ble_eq_true rfl)) dX1_pass_105 ⟨Nat.le_of_ble_eq_true rfl, Nat.le_of_ble_eq_true rfl⟩) (fun H locs hP hD hS => ?_)
    obtain ⟨v11, ev11, hF⟩ := zc_letX hF
    have hP : va_P G.1 vwCl (zc_st G ad v11) H := by rw [ev11]; exact hP
    have hD : va_D A (zc_st G ad v11) := zc_Ds hD rfl
    obtain rfl := Option.some.inj hF
    exact W.iret hx hb hr (fun t ht hW => ⟨⟨_, (), rfl, rfl, zc_hp ht hP⟩, hS.F ht⟩) hS.2.2 dX1_pass_108
  · have hF := zc_neg c6 hF
    refine lv_aload_n hx hb dX1_pass_41 rfl (lv_at hl 1 rfl) ?_
    refine lv_dup hx hb dX1_pass_42 rfl ?_
    refine va_get (D := G.1) (ci := 1) (C := RX1) (T := TX1) (N := 18) hx hb hts iX1_pass_X1 hown hK.1 hP 0 rfl rfl 2 (by decide) (hts (.fieldLink RX1 18 "BoardClock$State" "ahead" "J") (List.mem_of_getElem? (i := 5) rfl)) (fun _ h9 => h9) rfl dX1_pass_43 ?_
    refine lv_aload_n hx hb dX1_pass_46 rfl (lv_at hl 1 rfl) ?_
    refine lv_iload_n hx hb dX1_pass_47 rfl (lv_at hl 2 rfl) ?_
    obtain ⟨r12, er12, hF⟩ := zc_bind hF
    refine zc_cl (va_runV (As := [.int _]) ⟨hx, hb, hml, hown, hts⟩ (kX1_stepsAfter l G ad er12) (cwV 1 hts gX1_pass_X1_stepsAfter rfl rfl rfl (by decide +kernel) ⟨Nat.le_of_ble_eq_true rfl, Nat.le_of_ble_eq_true rfl⟩) (zc_preV hK hP 0 rfl rfl) rfl rfl hl.1 rfl (lv_room (Nat.le_of_ble_eq_true rfl)) dX1_pass_48 ⟨Nat.le_of_ble_eq_true rfl, Nat.le_of_ble_eq_true rfl⟩) ?_
    refine lv_lsub hx hb dX1_pass_51 ?_
    refine va_put (D := G.1) (ci := 1) (v := .long ((v5.1 2) - r12)) (ty := .long) (C := RX1) (T := TX1) (N := 18) hx hb hts iX1_pass_X1 tyX1 tyX1_ok nmX1 hown hK.1 hP hD hS 0 rfl rfl 2 (by decide) (hts (.fieldLink RX1 18 "BoardClock$State" "ahead" "J") (List.mem_of_getElem? (i := 5) rfl)) (fun _ h9 => h9) rfl (by decide +kernel) rfl rfl (Nat.le_of_ble_eq_true rfl) dX1_pass_52 (fun H locs hP _ hS => ?_)
    obtain ⟨v13, ev13, hF⟩ := zc_letX hF
    have hP : va_P G.1 vwCl (zc_st G ad v13) H := by rw [ev13]; exact hP
    have hD : va_D A (zc_st G ad v13) := zc_Ds hD rfl
    refine lv_aload_n hx hb dX1_pass_55 rfl (lv_at hl 1 rfl) ?_
    refine lv_aload_n hx hb dX1_pass_56 rfl (lv_at hl 1 rfl) ?_
    refine lv_iload_n hx hb dX1_pass_57 rfl (lv_at hl 2 rfl) ?_
    obtain ⟨r14, er14, hF⟩ := zc_bind hF
    refine zc_cl (va_runV (As := [.int _]) ⟨hx, hb, hml, hown, hts⟩ (kX1_sixteenthsAfter l G ad er14) (cwV 1 hts gX1_pass_X1_sixteenthsAfter rfl rfl rfl (by decide +kernel) ⟨Nat.le_of_ble_eq_true rfl, Nat.le_of_ble_eq_true rfl⟩) (zc_preV hK hP 0 rfl rfl) rfl rfl hl.1 rfl (lv_room (Nat.le_of_ble_eq_true rfl)) dX1_pass_58 ⟨Nat.le_of_ble_eq_true rfl, Nat.le_of_ble_eq_true rfl⟩) ?_
    refine lv_ldc2 hx hb hown (hts (.constantLong RX1 106 (16)) (List.mem_of_getElem? (i := 6) rfl)) dX1_pass_61 ?_
    obtain ⟨r15, er15, hF⟩ := zc_bind hF
    refine zc_cl (va_runS (As := [.long _, .long _]) ⟨hx, hb, hml, hown, hts⟩ (kJ9_floorMod_f86c9 l G er15) (va_cwS 2 hts gX1_pass_J9_floorMod_f86c9 rfl rfl rfl (by decide +kernel) ⟨Nat.le_of_ble_eq_true rfl, Nat.le_of_ble_eq_true rfl⟩) (zc_preS hK (show va_P G.1 vwCl [] _ from fun k q h => by simp at h)) rfl rfl hl.1 rfl (lv_room (Nat.le_of_ble_eq_true rfl)) dX1_pass_64 ⟨Nat.le_of_ble_eq_true rfl, Nat.le_of_ble_eq_true rfl⟩) ?_
    refine lv_l2i hx hb dX1_pass_67 rfl ?_
    refine va_put (D := G.1) (ci := 1) (v := .int (r15).toInt32) (ty := .int) (C := RX1) (T := TX1) (N := 18) hx hb hts iX1_pass_X1 tyX1 tyX1_ok nmX1 hown hK.1 hP hD hS 0 rfl rfl 7 (by decide) (hts (.fieldLink RX1 34 "BoardClock$State" "rest" "I") (List.mem_of_getElem? (i := 7) rfl)) (fun _ h9 => h9) rfl (by decide +kernel) rfl rfl (Nat.le_of_ble_eq_true rfl) dX1_pass_68 (fun H locs hP _ hS => ?_)
    obtain ⟨v16, ev16, hF⟩ := zc_letX hF
    have hP : va_P G.1 vwCl (zc_st G ad v16) H := by rw [ev16]; exact hP
    have hD : va_D A (zc_st G ad v16) := zc_Ds hD rfl
    refine lv_aload_n hx hb dX1_pass_71 rfl (lv_at hl 1 rfl) ?_
    refine lv_aload_n hx hb dX1_pass_72 rfl (lv_at hl 1 rfl) ?_
    refine va_get (D := G.1) (ci := 1) (C := RX1) (T := TX1) (N := 18) hx hb hts iX1_pass_X1 hown hK.1 hP 0 rfl rfl 9 (by decide) (hts (.fieldLink RX1 40 "BoardClock$State" "width" "I") (List.mem_of_getElem? (i := 8) rfl)) (fun _ h9 => h9) rfl dX1_pass_73 ?_
    refine lv_i2l hx hb dX1_pass_76 rfl ?_
    refine lv_iload_n hx hb dX1_pass_77 rfl (lv_at hl 2 rfl) ?_
    refine lv_i2l hx hb dX1_pass_78 rfl ?_
    refine lv_aload_n hx hb dX1_pass_79 rfl (lv_at hl 1 rfl) ?_
    obtain ⟨r17, er17, hF⟩ := zc_bind hF
    refine zc_ci (va_runV (As := []) ⟨hx, hb, hml, hown, hts⟩ (kX1_widthPerTick l G ad er17) (cwV 0 hts gX1_pass_X1_widthPerTick rfl rfl rfl (by decide +kernel) ⟨Nat.le_of_ble_eq_true rfl, Nat.le_of_ble_eq_true rfl⟩) (zc_preV hK hP 0 rfl rfl) rfl rfl hl.1 rfl (lv_room (Nat.le_of_ble_eq_true rfl)) dX1_pass_80 ⟨Nat.le_of_ble_eq_true rfl, Nat.le_of_ble_eq_true rfl⟩) ?_
    refine lv_i2l hx hb dX1_pass_83 rfl ?_
    refine lv_lmul hx hb dX1_pass_84 ?_
    refine lv_ladd hx hb dX1_pass_85 ?_
    refine lv_ldc2 hx hb hown (hts (.constantLong RX1 143 (999999999)) (List.mem_of_getElem? (i := 9) rfl)) dX1_pass_86 ?_
    refine va_mmin_long hx hb (hml.trans hl.1.symm) hown (hts (.methodLink RX1 145 Lib.MathLoose.min_long.x) (List.mem_of_getElem? (i := 10) rfl)) (hts (.static Lib.MathLoose.min_long.x) (List.mem_of_getElem? (i := 11) rfl)) (hts (.initialized "java/lang/Math") (List.mem_of_getElem? (i := 12) rfl)) (hts (.code Lib.MathLoose.min_long.x Lib.MathLoose.min_long.code 4 (some .long)) (List.mem_of_getElem? (i := 13) rfl)) (Nat.le_of_ble_eq_true rfl) (Nat.le_of_ble_eq_true rfl) (Nat.zero_le _) (Nat.zero_le _) dX1_pass_89 ?_
    refine lv_l2i hx hb dX1_pass_92 rfl ?_
    refine va_put (D := G.1) (ci := 1) (v := .int ((if (999999999 : Int64) < (((v16.2.1 9)).toInt64 + (a1.toInt64 * r17.toInt64)) then (999999999 : Int64) else (((v16.2.1 9)).toInt64 + (a1.toInt64 * r17.toInt64)))).toInt32) (ty := .int) (C := RX1) (T := TX1) (N := 18) hx hb hts iX1_pass_X1 tyX1 tyX1_ok nmX1 hown hK.1 hP hD hS 0 rfl rfl 9 (by decide) (hts (.fieldLink RX1 40 "BoardClock$State" "width" "I") (List.mem_of_getElem? (i := 8) rfl)) (fun _ h9 => h9) rfl (by decide +kernel) rfl rfl (Nat.le_of_ble_eq_true rfl) dX1_pass_93 (fun H locs hP _ hS => ?_)
    obtain ⟨v18, ev18, hF⟩ := zc_letX hF
    have hP : va_P G.1 vwCl (zc_st G ad v18) H := by rw [ev18]; exact hP
    have hD : va_D A (zc_st G ad v18) := zc_Ds hD rfl
    refine lv_aload_n hx hb dX1_pass_96 rfl (lv_at hl 1 rfl) ?_
    refine va_get (D := G.1) (ci := 1) (C := RX1) (T := TX1) (N := 18) hx hb hts iX1_pass_X1 hown hK.1 hP 0 rfl rfl 17 (by decide) (hts (.fieldLink RX1 69 "BoardClock$State" "alarms" "LBoardClock$Alarms;") (List.mem_of_getElem? (i := 14) rfl)) (fun _ h9 => h9) rfl dX1_pass_97 ?_
    refine lv_lload_n hx hb dX1_pass_100 rfl (lv_at hl 0 rfl) ?_
    refine lv_aload_n hx hb dX1_pass_101 rfl (lv_at hl 1 rfl) ?_
    obtain ⟨r19, er19, hF⟩ := zc_bind hF
    refine zc_cl (va_runV (As := []) ⟨hx, hb, hml, hown, hts⟩ (kX1_minuteNumber l G ad er19) (cwV 0 hts gX1_pass_X1_minuteNumber rfl rfl rfl (by decide +kernel) ⟨Nat.le_of_ble_eq_true rfl, Nat.le_of_ble_eq_true rfl⟩) (zc_preV hK hP 0 rfl rfl) rfl rfl hl.1 rfl (lv_room (Nat.le_of_ble_eq_true rfl)) dX1_pass_102 ⟨Nat.le_of_ble_eq_true rfl, Nat.le_of_ble_eq_true rfl⟩) ?_
    obtain ⟨r20, er20, hF⟩ := zc_bind hF
    refine zc_mi (X := zc_st G ad v18) (pl := []) (wc := zc_al G ad v18.2.2.2) (w1 := zc_al G ad r20.2) (wr := (zc_st G ad v18).take 2) hP hD hS hA [2, 3, 4, 5, 6] [0, 1] rfl (by decide) rfl (by decide) (by decide) rfl (va_runV (As := [.long _, .long _]) ⟨hx, hb, hml, hown, hts⟩ (kX0_ring l G ad _ er20) (cwV 2 hts gX1_pass_X0_ring rfl rfl rfl (by decide +kernel) ⟨Nat.le_of_ble_eq_true rfl, Nat.le_of_ble_eq_true rfl⟩) (zc_preVm hK (hP.sub (ws' := zc_al G ad v18.2.2.2) [2, 3, 4, 5, 6] rfl) (hD.sub (ws' := zc_al G ad v18.2.2.2) [2, 3, 4, 5, 6] (by decide) rfl) 0 rfl rfl) rfl rfl hl.1 rfl (lv_room (Nat.le_of_ble_eq_true rfl)) dX1_pass_105 ⟨Nat.le_of_ble_eq_true rfl, Nat.le_of_ble_eq_true rfl⟩) (fun H locs hP hD hS => ?_)
    obtain ⟨v21, ev21, hF⟩ := zc_letX hF
    have hP : va_P G.1 vwCl (zc_st G ad v21) H := by rw [ev21]; exact hP
    have hD : va_D A (zc_st G ad v21) := zc_Ds hD rfl
    obtain rfl := Option.some.inj hF
    exact W.iret hx hb hr (fun t ht hW => ⟨⟨_, (), rfl, rfl, zc_hp ht hP⟩, hS.F ht⟩) hS.2.2 dX1_pass_108
end
section
/-! what a constructor makes -/
theorem zc_RAfc {U : State} {cA : ClassId} {ty : FieldType} (h : va_RA U cA ty) : U.vm.findClass ("[" ++ ty.toString) = some cA := by
  cases ty with
  | object C => obtain ⟨kA, comp, -, -, -, h⟩ := h; exact h
  | _ => exact h
theorem zc_sameT {D : va_G} {cl : List vw_C} {tys tys' : List (ClassId × FieldType)} {U : State} {t : FieldType} {c c' : ClassId} (h : va_K D cl tys U) {i : Nat} (hi : tys[i]? = some (c, t)) (h' : va_K D cl tys' U) {j : Nat} (hj : tys'[j]? = some (c', t)) : c = c' := by
  have h1 := zc_RAfc (h.2 i _ hi).2
  have h2 := zc_RAfc (h'.2 j _ hj).2
  rw [h1] at h2
  exact Option.some.inj h2
def zc_ads (l : List Nat) : Nat → Nat := fun k => l.getD k 0
def zc_q0 : zc_Q := (0, fun _ _ => 0)
def zc_s0 : zc_S := ((fun _ => 0), (fun k => ([0, 0, 0, 25, 25, 3, 0, 0, 20, 0, 160, 1, 0, 0, 0, 0] : List Int32).getD k 0), (fun _ => 0), zc_q0)
def zc_m0f : Nat → Int64 := vp_updL (vp_updL (vp_updL (vp_updL (vp_updL (vp_updL (vp_updL (fun _ => 0) 4 25) 5 25) 6 3) 9 20) 10 160) 11 1) 13 (-1)
def zc_m0 : zc_M := ((fun k => if k = 0 then zc_m0f else fun _ => 0), (fun _ _ => 0), (fun _ => 0), 0)
theorem iX0_init_X0 : ∀ w ∈ wsX00, w ∈ wsX0_init := fun _ h => List.mem_cons_of_mem _ (List.mem_append_right _ h)
set_option maxHeartbeats 4000000 in
set_option maxRecDepth 100000 in
theorem kX0_init (l : Launch) (G : zc_G) (h0 sz : Nat) : Met l yX0_init wsX0_init ({ frames := 1, cells := 4, slots := 24, locals := 20 }) (zc_Pm G [.ref h0] [(h0, .inr (0, [.int 0, .null, .null, .null, .null]))] sz) (va_Qv (fun ad : Nat → Nat => ad 2 = h0) (fun ad t => va_P G.1 vwCl (zc_al G ad zc_q0) t.heap ∧ va_D (va_A [(h0, .inr (0, [.int 0, .null, .null, .null, .null]))] sz) (zc_al G ad zc_q0)) (va_A [(h0, .inr (0, [.int 0, .null, .null, .null, .null]))] sz)) 4 24 (va_A [(h0, .inr (0, [.int 0, .null, .null, .null, .null]))] sz) := by
  refine Met.ofW (cc := cX0_init) (maxL := 1) (ret := none) (by decide) rfl ?_
  intro p e s m args below meth c s₁ B hml hv
  obtain ⟨rfl, hsz, hP, hK, hD0⟩ := hv
  have hx := B.exec
  have hb := B.bytes
  have hr := B.returns
  have hts := atoms_spec (ws := wsX0_init) B.pre
  have hown : s.vm.findClass RX0 = some m.cls := findClass_of_methodNamed B.named
  have hlocks := B.notSynchronized
  have hin : meth.name = "<init>" := (name_of_methodNamed B.named B.method).1
  subst hsz
  have hD := hD0.self (sz := s.heap.size)
  generalize hAe : va_A [(h0, .inr (0, [.int 0, .null, .null, .null, .null]))] s.heap.size = A at hD ⊢
  have hA : ∀ q : Nat, s.heap.size ≤ q → A q := fun q h => by rw [← hAe]; exact Or.inr h
  have hS : va_S A s.heap s.heap [] := va_S.rf
  have hl := lv_entry ([.ref h0]) (n := 1) (Nat.le_of_ble_eq_true rfl)
  rw [lg_entry_eq]
  generalize (lg_sl ([.ref h0]) ++ List.replicate (1 - (lg_sl ([.ref h0])).length) Slot.unset).toArray = ls at hl ⊢
  have hl : lv_has ls 1 [(0, .ref h0)] := hl
  refine lv_aload_n hx hb dX0_init_0 rfl (lv_at hl 0 rfl) ?_
  refine W.objInit hx hb hown (hts (.methodLink RX0 3 objectInit) (List.mem_of_getElem? (i := 1) rfl)) (hts (.instanceMethod objectInit) (List.mem_of_getElem? (i := 2) rfl)) (hts (.code objectInit ⟨#[0xb1]⟩ 1 none) (List.mem_of_getElem? (i := 3) rfl)) rfl (by rw [hml]; exact hl.1) rfl dX0_init_1 (Nat.le_of_ble_eq_true rfl) (Nat.le_of_ble_eq_true rfl) ?_
  refine W.eq (g2 := F0 m 4 ls []) rfl ?_
  refine lv_aload_n hx hb dX0_init_4 rfl (lv_at hl 0 rfl) ?_
  refine lv_iconst (v := (0 : Int32)) hx hb dX0_init_5 (by decide) ?_
  refine va_put (D := G.1) (ci := 0) (v := .int (0 : Int32)) (ty := .int) (C := RX0) (T := TX0) (N := 5) hx hb hts iX0_init_X0 tyX0 tyX0_ok nmX0 hown hK.1 hP hD hS 0 rfl rfl 0 (by decide) (hts (.fieldLink RX0 9 "BoardClock$Alarms" "count" "I") (List.mem_of_getElem? (i := 4) rfl)) (fun _ h9 => h9) rfl (by decide +kernel) rfl rfl (Nat.le_of_ble_eq_true rfl) dX0_init_6 (fun H locs hP hD hS => ?_)
  have hP : va_P G.1 vwCl ([(h0, .inr (0, [.int (0 : Int32), .null, .null, .null, .null]))]) H := hP
  have hD : va_D A ([(h0, .inr (0, [.int (0 : Int32), .null, .null, .null, .null]))]) := hD
  refine lv_aload_n hx hb dX0_init_9 rfl (lv_at hl 0 rfl) ?_
  refine lv_bipush (v := (6 : Int32)) hx hb dX0_init_10 (by decide) ?_
  refine va_newa (atype := .int) (ty := .int) (N' := 6) (a0 := (6, .inl (fun _ => 0))) hx hb (hts (.arrayClass .int) (List.mem_of_getElem? (i := 5) rfl)) rfl hK.1 hP hD hS hA (fun _ => rfl) (by decide) (by decide) (Nat.le_of_ble_eq_true rfl) (Nat.le_of_ble_eq_true rfl) (Nat.le_of_ble_eq_true rfl) dX0_init_12 (fun q12 cA H hK2 hP hD hS => ?_)
  obtain rfl := zc_sameT hK.1 (i := 0) rfl hK2 (j := 4) rfl
  have hP : va_P G.1 vwCl ([(h0, .inr (0, [.int (0 : Int32), .null, .null, .null, .null])), (q12, .inl (G.2 0, 6, .inl (fun _ => 0)))]) H := hP
  have hD : va_D A ([(h0, .inr (0, [.int (0 : Int32), .null, .null, .null, .null])), (q12, .inl (G.2 0, 6, .inl (fun _ => 0)))]) := hD
  refine va_putF (D := G.1) (ci := 0) (v := .ref q12) (ty := .array .int) (C := RX0) (T := TX0) (N := 5) hx hb hts iX0_init_X0 tyX0 tyX0_ok nmX0 hown hK.1 hP hD hS 0 rfl rfl 1 (by decide) (hts (.fieldLink RX0 15 "BoardClock$Alarms" "minutes" "[I") (List.mem_of_getElem? (i := 6) rfl)) (fun _ h9 => h9) rfl hin rfl (by decide +kernel) rfl rfl (Nat.le_of_ble_eq_true rfl) dX0_init_14 (fun H locs hP hD hS => ?_)
  have hP : va_P G.1 vwCl ([(h0, .inr (0, [.int (0 : Int32), .ref q12, .null, .null, .null])), (q12, .inl (G.2 0, 6, .inl (fun _ => 0)))]) H := hP
  have hD : va_D A ([(h0, .inr (0, [.int (0 : Int32), .ref q12, .null, .null, .null])), (q12, .inl (G.2 0, 6, .inl (fun _ => 0)))]) := hD
  refine lv_aload_n hx hb dX0_init_17 rfl (lv_at hl 0 rfl) ?_
  refine lv_bipush (v := (6 : Int32)) hx hb dX0_init_18 (by decide) ?_
  refine va_newa (atype := .int) (ty := .int) (N' := 6) (a0 := (6, .inl (fun _ => 0))) hx hb (hts (.arrayClass .int) (List.mem_of_getElem? (i := 5) rfl)) rfl hK.1 hP hD hS hA (fun _ => rfl) (by decide) (by decide) (Nat.le_of_ble_eq_true rfl) (Nat.le_of_ble_eq_true rfl) (Nat.le_of_ble_eq_true rfl) dX0_init_20 (fun q20 cA H hK2 hP hD hS => ?_)
  obtain rfl := zc_sameT hK.1 (i := 0) rfl hK2 (j := 4) rfl
  have hP : va_P G.1 vwCl ([(h0, .inr (0, [.int (0 : Int32), .ref q12, .null, .null, .null])), (q12, .inl (G.2 0, 6, .inl (fun _ => 0))), (q20, .inl (G.2 0, 6, .inl (fun _ => 0)))]) H := hP
  have hD : va_D A ([(h0, .inr (0, [.int (0 : Int32), .ref q12, .null, .null, .null])), (q12, .inl (G.2 0, 6, .inl (fun _ => 0))), (q20, .inl (G.2 0, 6, .inl (fun _ => 0)))]) := hD
  refine va_putF (D := G.1) (ci := 0) (v := .ref q20) (ty := .array .int) (C := RX0) (T := TX0) (N := 5) hx hb hts iX0_init_X0 tyX0 tyX0_ok nmX0 hown hK.1 hP hD hS 0 rfl rfl 2 (by decide) (hts (.fieldLink RX0 19 "BoardClock$Alarms" "hours" "[I") (List.mem_of_getElem? (i := 7) rfl)) (fun _ h9 => h9) rfl hin rfl (by decide +kernel) rfl rfl (Nat.le_of_ble_eq_true rfl) dX0_init_22 (fun H locs hP hD hS => ?_)
  have hP : va_P G.1 vwCl ([(h0, .inr (0, [.int (0 : Int32), .ref q12, .ref q20, .null, .null])), (q12, .inl (G.2 0, 6, .inl (fun _ => 0))), (q20, .inl (G.2 0, 6, .inl (fun _ => 0)))]) H := hP
  have hD : va_D A ([(h0, .inr (0, [.int (0 : Int32), .ref q12, .ref q20, .null, .null])), (q12, .inl (G.2 0, 6, .inl (fun _ => 0))), (q20, .inl (G.2 0, 6, .inl (fun _ => 0)))]) := hD
  refine lv_aload_n hx hb dX0_init_25 rfl (lv_at hl 0 rfl) ?_
  refine lv_bipush (v := (6 : Int32)) hx hb dX0_init_26 (by decide) ?_
  refine va_newa (atype := .int) (ty := .int) (N' := 6) (a0 := (6, .inl (fun _ => 0))) hx hb (hts (.arrayClass .int) (List.mem_of_getElem? (i := 5) rfl)) rfl hK.1 hP hD hS hA (fun _ => rfl) (by decide) (by decide) (Nat.le_of_ble_eq_true rfl) (Nat.le_of_ble_eq_true rfl) (Nat.le_of_ble_eq_true rfl) dX0_init_28 (fun q28 cA H hK2 hP hD hS => ?_)
  obtain rfl := zc_sameT hK.1 (i := 0) rfl hK2 (j := 4) rfl
  have hP : va_P G.1 vwCl ([(h0, .inr (0, [.int (0 : Int32), .ref q12, .ref q20, .null, .null])), (q12, .inl (G.2 0, 6, .inl (fun _ => 0))), (q20, .inl (G.2 0, 6, .inl (fun _ => 0))), (q28, .inl (G.2 0, 6, .inl (fun _ => 0)))]) H := hP
  have hD : va_D A ([(h0, .inr (0, [.int (0 : Int32), .ref q12, .ref q20, .null, .null])), (q12, .inl (G.2 0, 6, .inl (fun _ => 0))), (q20, .inl (G.2 0, 6, .inl (fun _ => 0))), (q28, .inl (G.2 0, 6, .inl (fun _ => 0)))]) := hD
  refine va_putF (D := G.1) (ci := 0) (v := .ref q28) (ty := .array .int) (C := RX0) (T := TX0) (N := 5) hx hb hts iX0_init_X0 tyX0 tyX0_ok nmX0 hown hK.1 hP hD hS 0 rfl rfl 3 (by decide) (hts (.fieldLink RX0 22 "BoardClock$Alarms" "weekdays" "[I") (List.mem_of_getElem? (i := 8) rfl)) (fun _ h9 => h9) rfl hin rfl (by decide +kernel) rfl rfl (Nat.le_of_ble_eq_true rfl) dX0_init_30 (fun H locs hP hD hS => ?_)
  have hP : va_P G.1 vwCl ([(h0, .inr (0, [.int (0 : Int32), .ref q12, .ref q20, .ref q28, .null])), (q12, .inl (G.2 0, 6, .inl (fun _ => 0))), (q20, .inl (G.2 0, 6, .inl (fun _ => 0))), (q28, .inl (G.2 0, 6, .inl (fun _ => 0)))]) H := hP
  have hD : va_D A ([(h0, .inr (0, [.int (0 : Int32), .ref q12, .ref q20, .ref q28, .null])), (q12, .inl (G.2 0, 6, .inl (fun _ => 0))), (q20, .inl (G.2 0, 6, .inl (fun _ => 0))), (q28, .inl (G.2 0, 6, .inl (fun _ => 0)))]) := hD
  refine lv_aload_n hx hb dX0_init_33 rfl (lv_at hl 0 rfl) ?_
  refine lv_bipush (v := (6 : Int32)) hx hb dX0_init_34 (by decide) ?_
  refine va_newa (atype := .int) (ty := .int) (N' := 6) (a0 := (6, .inl (fun _ => 0))) hx hb (hts (.arrayClass .int) (List.mem_of_getElem? (i := 5) rfl)) rfl hK.1 hP hD hS hA (fun _ => rfl) (by decide) (by decide) (Nat.le_of_ble_eq_true rfl) (Nat.le_of_ble_eq_true rfl) (Nat.le_of_ble_eq_true rfl) dX0_init_36 (fun q36 cA H hK2 hP hD hS => ?_)
  obtain rfl := zc_sameT hK.1 (i := 0) rfl hK2 (j := 4) rfl
  have hP : va_P G.1 vwCl ([(h0, .inr (0, [.int (0 : Int32), .ref q12, .ref q20, .ref q28, .null])), (q12, .inl (G.2 0, 6, .inl (fun _ => 0))), (q20, .inl (G.2 0, 6, .inl (fun _ => 0))), (q28, .inl (G.2 0, 6, .inl (fun _ => 0))), (q36, .inl (G.2 0, 6, .inl (fun _ => 0)))]) H := hP
  have hD : va_D A ([(h0, .inr (0, [.int (0 : Int32), .ref q12, .ref q20, .ref q28, .null])), (q12, .inl (G.2 0, 6, .inl (fun _ => 0))), (q20, .inl (G.2 0, 6, .inl (fun _ => 0))), (q28, .inl (G.2 0, 6, .inl (fun _ => 0))), (q36, .inl (G.2 0, 6, .inl (fun _ => 0)))]) := hD
  refine va_putF (D := G.1) (ci := 0) (v := .ref q36) (ty := .array .int) (C := RX0) (T := TX0) (N := 5) hx hb hts iX0_init_X0 tyX0 tyX0_ok nmX0 hown hK.1 hP hD hS 0 rfl rfl 4 (by decide) (hts (.fieldLink RX0 25 "BoardClock$Alarms" "rung" "[I") (List.mem_of_getElem? (i := 9) rfl)) (fun _ h9 => h9) rfl hin rfl (by decide +kernel) rfl rfl (Nat.le_of_ble_eq_true rfl) dX0_init_38 (fun H locs hP hD hS => ?_)
  have hP : va_P G.1 vwCl ([(h0, .inr (0, [.int (0 : Int32), .ref q12, .ref q20, .ref q28, .ref q36])), (q12, .inl (G.2 0, 6, .inl (fun _ => 0))), (q20, .inl (G.2 0, 6, .inl (fun _ => 0))), (q28, .inl (G.2 0, 6, .inl (fun _ => 0))), (q36, .inl (G.2 0, 6, .inl (fun _ => 0)))]) H := hP
  have hD : va_D A ([(h0, .inr (0, [.int (0 : Int32), .ref q12, .ref q20, .ref q28, .ref q36])), (q12, .inl (G.2 0, 6, .inl (fun _ => 0))), (q20, .inl (G.2 0, 6, .inl (fun _ => 0))), (q28, .inl (G.2 0, 6, .inl (fun _ => 0))), (q36, .inl (G.2 0, 6, .inl (fun _ => 0)))]) := hD
  refine W.widen (k := 4) (n := 24) (by decide) (by decide) ?_
  exact W.vret hx hb hr (fun t ht hW => ⟨⟨zc_ads [0, 0, h0, q12, q20, q28, q36], rfl, rfl, zc_hp ht hP, hD⟩, hS.F ht⟩) hS.2.2 dX0_init_41
theorem iX1_init_X0 : ∀ w ∈ wsX00, w ∈ wsX1_init := fun _ h => List.mem_cons_of_mem _ (List.mem_append_right _ h)
theorem iX1_init_X1 : ∀ w ∈ wsX10, w ∈ wsX1_init := fun _ h => List.mem_cons_of_mem _ (List.mem_append_left _ (List.mem_append_right _ h))
set_option maxHeartbeats 4000000 in
set_option maxRecDepth 100000 in
theorem kX1_init (l : Launch) (G : zc_G) (h0 sz : Nat) : Met l yX1_init wsX1_init ({ frames := 2, cells := 6, slots := 38, locals := 40 }) (zc_Pm G [.ref h0] [(h0, .inr (1, [.long 0, .long 0, .long 0, .int 0, .int 0, .int 0, .int 0, .int 0, .int 0, .int 0, .int 0, .int 0, .int 0, .int 0, .int 0, .int 0, .null, .null]))] sz) (va_Qv (fun ad : Nat → Nat => ad 0 = h0) (fun ad t => va_P G.1 vwCl (zc_st G ad zc_s0) t.heap ∧ va_D (va_A [(h0, .inr (1, [.long 0, .long 0, .long 0, .int 0, .int 0, .int 0, .int 0, .int 0, .int 0, .int 0, .int 0, .int 0, .int 0, .int 0, .int 0, .int 0, .null, .null]))] sz) (zc_st G ad zc_s0)) (va_A [(h0, .inr (1, [.long 0, .long 0, .long 0, .int 0, .int 0, .int 0, .int 0, .int 0, .int 0, .int 0, .int 0, .int 0, .int 0, .int 0, .int 0, .int 0, .null, .null]))] sz)) 6 38 (va_A [(h0, .inr (1, [.long 0, .long 0, .long 0, .int 0, .int 0, .int 0, .int 0, .int 0, .int 0, .int 0, .int 0, .int 0, .int 0, .int 0, .int 0, .int 0, .null, .null]))] sz) := by
  refine Met.ofW (cc := cX1_init) (maxL := 1) (ret := none) (by decide) rfl ?_
  intro p e s m args below meth c s₁ B hml hv
  obtain ⟨rfl, hsz, hP, hK, hD0⟩ := hv
  have hx := B.exec
  have hb := B.bytes
  have hr := B.returns
  have hts := atoms_spec (ws := wsX1_init) B.pre
  have hown : s.vm.findClass RX1 = some m.cls := findClass_of_methodNamed B.named
  have hlocks := B.notSynchronized
  have hin : meth.name = "<init>" := (name_of_methodNamed B.named B.method).1
  subst hsz
  have hD := hD0.self (sz := s.heap.size)
  generalize hAe : va_A [(h0, .inr (1, [.long 0, .long 0, .long 0, .int 0, .int 0, .int 0, .int 0, .int 0, .int 0, .int 0, .int 0, .int 0, .int 0, .int 0, .int 0, .int 0, .null, .null]))] s.heap.size = A at hD ⊢
  have hA : ∀ q : Nat, s.heap.size ≤ q → A q := fun q h => by rw [← hAe]; exact Or.inr h
  have hS : va_S A s.heap s.heap [] := va_S.rf
  have hl := lv_entry ([.ref h0]) (n := 1) (Nat.le_of_ble_eq_true rfl)
  rw [lg_entry_eq]
  generalize (lg_sl ([.ref h0]) ++ List.replicate (1 - (lg_sl ([.ref h0])).length) Slot.unset).toArray = ls at hl ⊢
  have hl : lv_has ls 1 [(0, .ref h0)] := hl
  refine lv_aload_n hx hb dX1_init_0 rfl (lv_at hl 0 rfl) ?_
  refine W.objInit hx hb hown (hts (.methodLink RX1 3 objectInit) (List.mem_of_getElem? (i := 1) rfl)) (hts (.instanceMethod objectInit) (List.mem_of_getElem? (i := 2) rfl)) (hts (.code objectInit ⟨#[0xb1]⟩ 1 none) (List.mem_of_getElem? (i := 3) rfl)) rfl (by rw [hml]; exact hl.1) rfl dX1_init_1 (Nat.le_of_ble_eq_true rfl) (Nat.le_of_ble_eq_true rfl) ?_
  refine W.eq (g2 := F0 m 4 ls []) rfl ?_
  refine lv_aload_n hx hb dX1_init_4 rfl (lv_at hl 0 rfl) ?_
  refine lv_lconst (v := (0 : Int64)) hx hb dX1_init_5 (by decide) ?_
  refine va_put (D := G.1) (ci := 1) (v := .long (0 : Int64)) (ty := .long) (C := RX1) (T := TX1) (N := 18) hx hb hts iX1_init_X1 tyX1 tyX1_ok nmX1 hown hK.1 hP hD hS 0 rfl rfl 0 (by decide) (hts (.fieldLink RX1 9 "BoardClock$State" "trueTime" "J") (List.mem_of_getElem? (i := 4) rfl)) (fun _ h9 => h9) rfl (by decide +kernel) rfl rfl (Nat.le_of_ble_eq_true rfl) dX1_init_6 (fun H locs hP hD hS => ?_)
  have hP : va_P G.1 vwCl ([(h0, .inr (1, [.long (0 : Int64), .long 0, .long 0, .int 0, .int 0, .int 0, .int 0, .int 0, .int 0, .int 0, .int 0, .int 0, .int 0, .int 0, .int 0, .int 0, .null, .null]))]) H := hP
  have hD : va_D A ([(h0, .inr (1, [.long (0 : Int64), .long 0, .long 0, .int 0, .int 0, .int 0, .int 0, .int 0, .int 0, .int 0, .int 0, .int 0, .int 0, .int 0, .int 0, .int 0, .null, .null]))]) := hD
  refine lv_aload_n hx hb dX1_init_9 rfl (lv_at hl 0 rfl) ?_
  refine lv_lconst (v := (0 : Int64)) hx hb dX1_init_10 (by decide) ?_
  refine va_put (D := G.1) (ci := 1) (v := .long (0 : Int64)) (ty := .long) (C := RX1) (T := TX1) (N := 18) hx hb hts iX1_init_X1 tyX1 tyX1_ok nmX1 hown hK.1 hP hD hS 0 rfl rfl 1 (by decide) (hts (.fieldLink RX1 15 "BoardClock$State" "boardTime" "J") (List.mem_of_getElem? (i := 5) rfl)) (fun _ h9 => h9) rfl (by decide +kernel) rfl rfl (Nat.le_of_ble_eq_true rfl) dX1_init_11 (fun H locs hP hD hS => ?_)
  have hP : va_P G.1 vwCl ([(h0, .inr (1, [.long (0 : Int64), .long (0 : Int64), .long 0, .int 0, .int 0, .int 0, .int 0, .int 0, .int 0, .int 0, .int 0, .int 0, .int 0, .int 0, .int 0, .int 0, .null, .null]))]) H := hP
  have hD : va_D A ([(h0, .inr (1, [.long (0 : Int64), .long (0 : Int64), .long 0, .int 0, .int 0, .int 0, .int 0, .int 0, .int 0, .int 0, .int 0, .int 0, .int 0, .int 0, .int 0, .int 0, .null, .null]))]) := hD
  refine lv_aload_n hx hb dX1_init_14 rfl (lv_at hl 0 rfl) ?_
  refine lv_lconst (v := (0 : Int64)) hx hb dX1_init_15 (by decide) ?_
  refine va_put (D := G.1) (ci := 1) (v := .long (0 : Int64)) (ty := .long) (C := RX1) (T := TX1) (N := 18) hx hb hts iX1_init_X1 tyX1 tyX1_ok nmX1 hown hK.1 hP hD hS 0 rfl rfl 2 (by decide) (hts (.fieldLink RX1 18 "BoardClock$State" "ahead" "J") (List.mem_of_getElem? (i := 6) rfl)) (fun _ h9 => h9) rfl (by decide +kernel) rfl rfl (Nat.le_of_ble_eq_true rfl) dX1_init_16 (fun H locs hP hD hS => ?_)
  have hP : va_P G.1 vwCl ([(h0, .inr (1, [.long (0 : Int64), .long (0 : Int64), .long (0 : Int64), .int 0, .int 0, .int 0, .int 0, .int 0, .int 0, .int 0, .int 0, .int 0, .int 0, .int 0, .int 0, .int 0, .null, .null]))]) H := hP
  have hD : va_D A ([(h0, .inr (1, [.long (0 : Int64), .long (0 : Int64), .long (0 : Int64), .int 0, .int 0, .int 0, .int 0, .int 0, .int 0, .int 0, .int 0, .int 0, .int 0, .int 0, .int 0, .int 0, .null, .null]))]) := hD
  refine lv_aload_n hx hb dX1_init_19 rfl (lv_at hl 0 rfl) ?_
  refine lv_bipush (v := (25 : Int32)) hx hb dX1_init_20 (by decide) ?_
  refine va_put (D := G.1) (ci := 1) (v := .int (25 : Int32)) (ty := .int) (C := RX1) (T := TX1) (N := 18) hx hb hts iX1_init_X1 tyX1 tyX1_ok nmX1 hown hK.1 hP hD hS 0 rfl rfl 3 (by decide) (hts (.fieldLink RX1 21 "BoardClock$State" "warmth" "I") (List.mem_of_getElem? (i := 7) rfl)) (fun _ h9 => h9) rfl (by decide +kernel) rfl rfl (Nat.le_of_ble_eq_true rfl) dX1_init_22 (fun H locs hP hD hS => ?_)
  have hP : va_P G.1 vwCl ([(h0, .inr (1, [.long (0 : Int64), .long (0 : Int64), .long (0 : Int64), .int (25 : Int32), .int 0, .int 0, .int 0, .int 0, .int 0, .int 0, .int 0, .int 0, .int 0, .int 0, .int 0, .int 0, .null, .null]))]) H := hP
  have hD : va_D A ([(h0, .inr (1, [.long (0 : Int64), .long (0 : Int64), .long (0 : Int64), .int (25 : Int32), .int 0, .int 0, .int 0, .int 0, .int 0, .int 0, .int 0, .int 0, .int 0, .int 0, .int 0, .int 0, .null, .null]))]) := hD
  refine lv_aload_n hx hb dX1_init_25 rfl (lv_at hl 0 rfl) ?_
  refine lv_bipush (v := (25 : Int32)) hx hb dX1_init_26 (by decide) ?_
  refine va_put (D := G.1) (ci := 1) (v := .int (25 : Int32)) (ty := .int) (C := RX1) (T := TX1) (N := 18) hx hb hts iX1_init_X1 tyX1 tyX1_ok nmX1 hown hK.1 hP hD hS 0 rfl rfl 4 (by decide) (hts (.fieldLink RX1 25 "BoardClock$State" "top" "I") (List.mem_of_getElem? (i := 8) rfl)) (fun _ h9 => h9) rfl (by decide +kernel) rfl rfl (Nat.le_of_ble_eq_true rfl) dX1_init_28 (fun H locs hP hD hS => ?_)
  have hP : va_P G.1 vwCl ([(h0, .inr (1, [.long (0 : Int64), .long (0 : Int64), .long (0 : Int64), .int (25 : Int32), .int (25 : Int32), .int 0, .int 0, .int 0, .int 0, .int 0, .int 0, .int 0, .int 0, .int 0, .int 0, .int 0, .null, .null]))]) H := hP
  have hD : va_D A ([(h0, .inr (1, [.long (0 : Int64), .long (0 : Int64), .long (0 : Int64), .int (25 : Int32), .int (25 : Int32), .int 0, .int 0, .int 0, .int 0, .int 0, .int 0, .int 0, .int 0, .int 0, .int 0, .int 0, .null, .null]))]) := hD
  refine lv_aload_n hx hb dX1_init_31 rfl (lv_at hl 0 rfl) ?_
  refine lv_iconst (v := (3 : Int32)) hx hb dX1_init_32 (by decide) ?_
  refine va_put (D := G.1) (ci := 1) (v := .int (3 : Int32)) (ty := .int) (C := RX1) (T := TX1) (N := 18) hx hb hts iX1_init_X1 tyX1 tyX1_ok nmX1 hown hK.1 hP hD hS 0 rfl rfl 5 (by decide) (hts (.fieldLink RX1 28 "BoardClock$State" "curve" "I") (List.mem_of_getElem? (i := 9) rfl)) (fun _ h9 => h9) rfl (by decide +kernel) rfl rfl (Nat.le_of_ble_eq_true rfl) dX1_init_33 (fun H locs hP hD hS => ?_)
  have hP : va_P G.1 vwCl ([(h0, .inr (1, [.long (0 : Int64), .long (0 : Int64), .long (0 : Int64), .int (25 : Int32), .int (25 : Int32), .int (3 : Int32), .int 0, .int 0, .int 0, .int 0, .int 0, .int 0, .int 0, .int 0, .int 0, .int 0, .null, .null]))]) H := hP
  have hD : va_D A ([(h0, .inr (1, [.long (0 : Int64), .long (0 : Int64), .long (0 : Int64), .int (25 : Int32), .int (25 : Int32), .int (3 : Int32), .int 0, .int 0, .int 0, .int 0, .int 0, .int 0, .int 0, .int 0, .int 0, .int 0, .null, .null]))]) := hD
  refine lv_aload_n hx hb dX1_init_36 rfl (lv_at hl 0 rfl) ?_
  refine lv_iconst (v := (0 : Int32)) hx hb dX1_init_37 (by decide) ?_
  refine va_put (D := G.1) (ci := 1) (v := .int (0 : Int32)) (ty := .int) (C := RX1) (T := TX1) (N := 18) hx hb hts iX1_init_X1 tyX1 tyX1_ok nmX1 hown hK.1 hP hD hS 0 rfl rfl 6 (by decide) (hts (.fieldLink RX1 31 "BoardClock$State" "base" "I") (List.mem_of_getElem? (i := 10) rfl)) (fun _ h9 => h9) rfl (by decide +kernel) rfl rfl (Nat.le_of_ble_eq_true rfl) dX1_init_38 (fun H locs hP hD hS => ?_)
  have hP : va_P G.1 vwCl ([(h0, .inr (1, [.long (0 : Int64), .long (0 : Int64), .long (0 : Int64), .int (25 : Int32), .int (25 : Int32), .int (3 : Int32), .int (0 : Int32), .int 0, .int 0, .int 0, .int 0, .int 0, .int 0, .int 0, .int 0, .int 0, .null, .null]))]) H := hP
  have hD : va_D A ([(h0, .inr (1, [.long (0 : Int64), .long (0 : Int64), .long (0 : Int64), .int (25 : Int32), .int (25 : Int32), .int (3 : Int32), .int (0 : Int32), .int 0, .int 0, .int 0, .int 0, .int 0, .int 0, .int 0, .int 0, .int 0, .null, .null]))]) := hD
  refine lv_aload_n hx hb dX1_init_41 rfl (lv_at hl 0 rfl) ?_
  refine lv_iconst (v := (0 : Int32)) hx hb dX1_init_42 (by decide) ?_
  refine va_put (D := G.1) (ci := 1) (v := .int (0 : Int32)) (ty := .int) (C := RX1) (T := TX1) (N := 18) hx hb hts iX1_init_X1 tyX1 tyX1_ok nmX1 hown hK.1 hP hD hS 0 rfl rfl 7 (by decide) (hts (.fieldLink RX1 34 "BoardClock$State" "rest" "I") (List.mem_of_getElem? (i := 11) rfl)) (fun _ h9 => h9) rfl (by decide +kernel) rfl rfl (Nat.le_of_ble_eq_true rfl) dX1_init_43 (fun H locs hP hD hS => ?_)
  have hP : va_P G.1 vwCl ([(h0, .inr (1, [.long (0 : Int64), .long (0 : Int64), .long (0 : Int64), .int (25 : Int32), .int (25 : Int32), .int (3 : Int32), .int (0 : Int32), .int (0 : Int32), .int 0, .int 0, .int 0, .int 0, .int 0, .int 0, .int 0, .int 0, .null, .null]))]) H := hP
  have hD : va_D A ([(h0, .inr (1, [.long (0 : Int64), .long (0 : Int64), .long (0 : Int64), .int (25 : Int32), .int (25 : Int32), .int (3 : Int32), .int (0 : Int32), .int (0 : Int32), .int 0, .int 0, .int 0, .int 0, .int 0, .int 0, .int 0, .int 0, .null, .null]))]) := hD
  refine lv_aload_n hx hb dX1_init_46 rfl (lv_at hl 0 rfl) ?_
  refine lv_bipush (v := (20 : Int32)) hx hb dX1_init_47 (by decide) ?_
  refine va_put (D := G.1) (ci := 1) (v := .int (20 : Int32)) (ty := .int) (C := RX1) (T := TX1) (N := 18) hx hb hts iX1_init_X1 tyX1 tyX1_ok nmX1 hown hK.1 hP hD hS 0 rfl rfl 8 (by decide) (hts (.fieldLink RX1 37 "BoardClock$State" "step" "I") (List.mem_of_getElem? (i := 12) rfl)) (fun _ h9 => h9) rfl (by decide +kernel) rfl rfl (Nat.le_of_ble_eq_true rfl) dX1_init_49 (fun H locs hP hD hS => ?_)
  have hP : va_P G.1 vwCl ([(h0, .inr (1, [.long (0 : Int64), .long (0 : Int64), .long (0 : Int64), .int (25 : Int32), .int (25 : Int32), .int (3 : Int32), .int (0 : Int32), .int (0 : Int32), .int (20 : Int32), .int 0, .int 0, .int 0, .int 0, .int 0, .int 0, .int 0, .null, .null]))]) H := hP
  have hD : va_D A ([(h0, .inr (1, [.long (0 : Int64), .long (0 : Int64), .long (0 : Int64), .int (25 : Int32), .int (25 : Int32), .int (3 : Int32), .int (0 : Int32), .int (0 : Int32), .int (20 : Int32), .int 0, .int 0, .int 0, .int 0, .int 0, .int 0, .int 0, .null, .null]))]) := hD
  refine lv_aload_n hx hb dX1_init_52 rfl (lv_at hl 0 rfl) ?_
  refine lv_iconst (v := (0 : Int32)) hx hb dX1_init_53 (by decide) ?_
  refine va_put (D := G.1) (ci := 1) (v := .int (0 : Int32)) (ty := .int) (C := RX1) (T := TX1) (N := 18) hx hb hts iX1_init_X1 tyX1 tyX1_ok nmX1 hown hK.1 hP hD hS 0 rfl rfl 9 (by decide) (hts (.fieldLink RX1 40 "BoardClock$State" "width" "I") (List.mem_of_getElem? (i := 13) rfl)) (fun _ h9 => h9) rfl (by decide +kernel) rfl rfl (Nat.le_of_ble_eq_true rfl) dX1_init_54 (fun H locs hP hD hS => ?_)
  have hP : va_P G.1 vwCl ([(h0, .inr (1, [.long (0 : Int64), .long (0 : Int64), .long (0 : Int64), .int (25 : Int32), .int (25 : Int32), .int (3 : Int32), .int (0 : Int32), .int (0 : Int32), .int (20 : Int32), .int (0 : Int32), .int 0, .int 0, .int 0, .int 0, .int 0, .int 0, .null, .null]))]) H := hP
  have hD : va_D A ([(h0, .inr (1, [.long (0 : Int64), .long (0 : Int64), .long (0 : Int64), .int (25 : Int32), .int (25 : Int32), .int (3 : Int32), .int (0 : Int32), .int (0 : Int32), .int (20 : Int32), .int (0 : Int32), .int 0, .int 0, .int 0, .int 0, .int 0, .int 0, .null, .null]))]) := hD
  refine lv_aload_n hx hb dX1_init_57 rfl (lv_at hl 0 rfl) ?_
  refine lv_sipush (v := (160 : Int32)) hx hb dX1_init_58 (by decide) ?_
  refine va_put (D := G.1) (ci := 1) (v := .int (160 : Int32)) (ty := .int) (C := RX1) (T := TX1) (N := 18) hx hb hts iX1_init_X1 tyX1 tyX1_ok nmX1 hown hK.1 hP hD hS 0 rfl rfl 10 (by decide) (hts (.fieldLink RX1 43 "BoardClock$State" "wider" "I") (List.mem_of_getElem? (i := 14) rfl)) (fun _ h9 => h9) rfl (by decide +kernel) rfl rfl (Nat.le_of_ble_eq_true rfl) dX1_init_61 (fun H locs hP hD hS => ?_)
  have hP : va_P G.1 vwCl ([(h0, .inr (1, [.long (0 : Int64), .long (0 : Int64), .long (0 : Int64), .int (25 : Int32), .int (25 : Int32), .int (3 : Int32), .int (0 : Int32), .int (0 : Int32), .int (20 : Int32), .int (0 : Int32), .int (160 : Int32), .int 0, .int 0, .int 0, .int 0, .int 0, .null, .null]))]) H := hP
  have hD : va_D A ([(h0, .inr (1, [.long (0 : Int64), .long (0 : Int64), .long (0 : Int64), .int (25 : Int32), .int (25 : Int32), .int (3 : Int32), .int (0 : Int32), .int (0 : Int32), .int (20 : Int32), .int (0 : Int32), .int (160 : Int32), .int 0, .int 0, .int 0, .int 0, .int 0, .null, .null]))]) := hD
  refine lv_aload_n hx hb dX1_init_64 rfl (lv_at hl 0 rfl) ?_
  refine lv_iconst (v := (1 : Int32)) hx hb dX1_init_65 (by decide) ?_
  refine va_put (D := G.1) (ci := 1) (v := .int (1 : Int32)) (ty := .boolean) (C := RX1) (T := TX1) (N := 18) hx hb hts iX1_init_X1 tyX1 tyX1_ok nmX1 hown hK.1 hP hD hS 0 rfl rfl 11 (by decide) (hts (.fieldLink RX1 46 "BoardClock$State" "powered" "Z") (List.mem_of_getElem? (i := 15) rfl)) (fun _ h9 => h9) rfl (by decide +kernel) (by decide) (by decide) (Nat.le_of_ble_eq_true rfl) dX1_init_66 (fun H locs hP hD hS => ?_)
  have hP : va_P G.1 vwCl ([(h0, .inr (1, [.long (0 : Int64), .long (0 : Int64), .long (0 : Int64), .int (25 : Int32), .int (25 : Int32), .int (3 : Int32), .int (0 : Int32), .int (0 : Int32), .int (20 : Int32), .int (0 : Int32), .int (160 : Int32), .int (1 : Int32), .int 0, .int 0, .int 0, .int 0, .null, .null]))]) H := hP
  have hD : va_D A ([(h0, .inr (1, [.long (0 : Int64), .long (0 : Int64), .long (0 : Int64), .int (25 : Int32), .int (25 : Int32), .int (3 : Int32), .int (0 : Int32), .int (0 : Int32), .int (20 : Int32), .int (0 : Int32), .int (160 : Int32), .int (1 : Int32), .int 0, .int 0, .int 0, .int 0, .null, .null]))]) := hD
  refine lv_aload_n hx hb dX1_init_69 rfl (lv_at hl 0 rfl) ?_
  refine lv_iconst (v := (0 : Int32)) hx hb dX1_init_70 (by decide) ?_
  refine va_put (D := G.1) (ci := 1) (v := .int (0 : Int32)) (ty := .int) (C := RX1) (T := TX1) (N := 18) hx hb hts iX1_init_X1 tyX1 tyX1_ok nmX1 hown hK.1 hP hD hS 0 rfl rfl 12 (by decide) (hts (.fieldLink RX1 50 "BoardClock$State" "broken" "I") (List.mem_of_getElem? (i := 16) rfl)) (fun _ h9 => h9) rfl (by decide +kernel) rfl rfl (Nat.le_of_ble_eq_true rfl) dX1_init_71 (fun H locs hP hD hS => ?_)
  have hP : va_P G.1 vwCl ([(h0, .inr (1, [.long (0 : Int64), .long (0 : Int64), .long (0 : Int64), .int (25 : Int32), .int (25 : Int32), .int (3 : Int32), .int (0 : Int32), .int (0 : Int32), .int (20 : Int32), .int (0 : Int32), .int (160 : Int32), .int (1 : Int32), .int (0 : Int32), .int 0, .int 0, .int 0, .null, .null]))]) H := hP
  have hD : va_D A ([(h0, .inr (1, [.long (0 : Int64), .long (0 : Int64), .long (0 : Int64), .int (25 : Int32), .int (25 : Int32), .int (3 : Int32), .int (0 : Int32), .int (0 : Int32), .int (20 : Int32), .int (0 : Int32), .int (160 : Int32), .int (1 : Int32), .int (0 : Int32), .int 0, .int 0, .int 0, .null, .null]))]) := hD
  refine lv_aload_n hx hb dX1_init_74 rfl (lv_at hl 0 rfl) ?_
  refine lv_iconst (v := (0 : Int32)) hx hb dX1_init_75 (by decide) ?_
  refine va_put (D := G.1) (ci := 1) (v := .int (0 : Int32)) (ty := .int) (C := RX1) (T := TX1) (N := 18) hx hb hts iX1_init_X1 tyX1 tyX1_ok nmX1 hown hK.1 hP hD hS 0 rfl rfl 13 (by decide) (hts (.fieldLink RX1 53 "BoardClock$State" "ticks" "I") (List.mem_of_getElem? (i := 17) rfl)) (fun _ h9 => h9) rfl (by decide +kernel) rfl rfl (Nat.le_of_ble_eq_true rfl) dX1_init_76 (fun H locs hP hD hS => ?_)
  have hP : va_P G.1 vwCl ([(h0, .inr (1, [.long (0 : Int64), .long (0 : Int64), .long (0 : Int64), .int (25 : Int32), .int (25 : Int32), .int (3 : Int32), .int (0 : Int32), .int (0 : Int32), .int (20 : Int32), .int (0 : Int32), .int (160 : Int32), .int (1 : Int32), .int (0 : Int32), .int (0 : Int32), .int 0, .int 0, .null, .null]))]) H := hP
  have hD : va_D A ([(h0, .inr (1, [.long (0 : Int64), .long (0 : Int64), .long (0 : Int64), .int (25 : Int32), .int (25 : Int32), .int (3 : Int32), .int (0 : Int32), .int (0 : Int32), .int (20 : Int32), .int (0 : Int32), .int (160 : Int32), .int (1 : Int32), .int (0 : Int32), .int (0 : Int32), .int 0, .int 0, .null, .null]))]) := hD
  refine lv_aload_n hx hb dX1_init_79 rfl (lv_at hl 0 rfl) ?_
  refine lv_iconst (v := (0 : Int32)) hx hb dX1_init_80 (by decide) ?_
  refine va_put (D := G.1) (ci := 1) (v := .int (0 : Int32)) (ty := .int) (C := RX1) (T := TX1) (N := 18) hx hb hts iX1_init_X1 tyX1 tyX1_ok nmX1 hown hK.1 hP hD hS 0 rfl rfl 14 (by decide) (hts (.fieldLink RX1 56 "BoardClock$State" "tickSpan" "I") (List.mem_of_getElem? (i := 18) rfl)) (fun _ h9 => h9) rfl (by decide +kernel) rfl rfl (Nat.le_of_ble_eq_true rfl) dX1_init_81 (fun H locs hP hD hS => ?_)
  have hP : va_P G.1 vwCl ([(h0, .inr (1, [.long (0 : Int64), .long (0 : Int64), .long (0 : Int64), .int (25 : Int32), .int (25 : Int32), .int (3 : Int32), .int (0 : Int32), .int (0 : Int32), .int (20 : Int32), .int (0 : Int32), .int (160 : Int32), .int (1 : Int32), .int (0 : Int32), .int (0 : Int32), .int (0 : Int32), .int 0, .null, .null]))]) H := hP
  have hD : va_D A ([(h0, .inr (1, [.long (0 : Int64), .long (0 : Int64), .long (0 : Int64), .int (25 : Int32), .int (25 : Int32), .int (3 : Int32), .int (0 : Int32), .int (0 : Int32), .int (20 : Int32), .int (0 : Int32), .int (160 : Int32), .int (1 : Int32), .int (0 : Int32), .int (0 : Int32), .int (0 : Int32), .int 0, .null, .null]))]) := hD
  refine lv_aload_n hx hb dX1_init_84 rfl (lv_at hl 0 rfl) ?_
  refine lv_iconst (v := (0 : Int32)) hx hb dX1_init_85 (by decide) ?_
  refine va_put (D := G.1) (ci := 1) (v := .int (0 : Int32)) (ty := .boolean) (C := RX1) (T := TX1) (N := 18) hx hb hts iX1_init_X1 tyX1 tyX1_ok nmX1 hown hK.1 hP hD hS 0 rfl rfl 15 (by decide) (hts (.fieldLink RX1 59 "BoardClock$State" "steady" "Z") (List.mem_of_getElem? (i := 19) rfl)) (fun _ h9 => h9) rfl (by decide +kernel) (by decide) (by decide) (Nat.le_of_ble_eq_true rfl) dX1_init_86 (fun H locs hP hD hS => ?_)
  have hP : va_P G.1 vwCl ([(h0, .inr (1, [.long (0 : Int64), .long (0 : Int64), .long (0 : Int64), .int (25 : Int32), .int (25 : Int32), .int (3 : Int32), .int (0 : Int32), .int (0 : Int32), .int (20 : Int32), .int (0 : Int32), .int (160 : Int32), .int (1 : Int32), .int (0 : Int32), .int (0 : Int32), .int (0 : Int32), .int (0 : Int32), .null, .null]))]) H := hP
  have hD : va_D A ([(h0, .inr (1, [.long (0 : Int64), .long (0 : Int64), .long (0 : Int64), .int (25 : Int32), .int (25 : Int32), .int (3 : Int32), .int (0 : Int32), .int (0 : Int32), .int (20 : Int32), .int (0 : Int32), .int (160 : Int32), .int (1 : Int32), .int (0 : Int32), .int (0 : Int32), .int (0 : Int32), .int (0 : Int32), .null, .null]))]) := hD
  refine lv_aload_n hx hb dX1_init_89 rfl (lv_at hl 0 rfl) ?_
  refine lv_bipush (v := (9 : Int32)) hx hb dX1_init_90 (by decide) ?_
  refine va_newa (atype := .int) (ty := .int) (N' := 9) (a0 := (9, .inl (fun _ => 0))) hx hb (hts (.arrayClass .int) (List.mem_of_getElem? (i := 20) rfl)) rfl hK.1 hP hD hS hA (fun _ => rfl) (by decide) (by decide) (Nat.le_of_ble_eq_true rfl) (Nat.le_of_ble_eq_true rfl) (Nat.le_of_ble_eq_true rfl) dX1_init_92 (fun q92 cA H hK2 hP hD hS => ?_)
  obtain rfl := zc_sameT hK.1 (i := 0) rfl hK2 (j := 4) rfl
  have hP : va_P G.1 vwCl ([(h0, .inr (1, [.long (0 : Int64), .long (0 : Int64), .long (0 : Int64), .int (25 : Int32), .int (25 : Int32), .int (3 : Int32), .int (0 : Int32), .int (0 : Int32), .int (20 : Int32), .int (0 : Int32), .int (160 : Int32), .int (1 : Int32), .int (0 : Int32), .int (0 : Int32), .int (0 : Int32), .int (0 : Int32), .null, .null])), (q92, .inl (G.2 0, 9, .inl (fun _ => 0)))]) H := hP
  have hD : va_D A ([(h0, .inr (1, [.long (0 : Int64), .long (0 : Int64), .long (0 : Int64), .int (25 : Int32), .int (25 : Int32), .int (3 : Int32), .int (0 : Int32), .int (0 : Int32), .int (20 : Int32), .int (0 : Int32), .int (160 : Int32), .int (1 : Int32), .int (0 : Int32), .int (0 : Int32), .int (0 : Int32), .int (0 : Int32), .null, .null])), (q92, .inl (G.2 0, 9, .inl (fun _ => 0)))]) := hD
  refine va_putF (D := G.1) (ci := 1) (v := .ref q92) (ty := .array .int) (C := RX1) (T := TX1) (N := 18) hx hb hts iX1_init_X1 tyX1 tyX1_ok nmX1 hown hK.1 hP hD hS 0 rfl rfl 16 (by decide) (hts (.fieldLink RX1 62 "BoardClock$State" "learned" "[I") (List.mem_of_getElem? (i := 21) rfl)) (fun _ h9 => h9) rfl hin rfl (by decide +kernel) rfl rfl (Nat.le_of_ble_eq_true rfl) dX1_init_94 (fun H locs hP hD hS => ?_)
  have hP : va_P G.1 vwCl ([(h0, .inr (1, [.long (0 : Int64), .long (0 : Int64), .long (0 : Int64), .int (25 : Int32), .int (25 : Int32), .int (3 : Int32), .int (0 : Int32), .int (0 : Int32), .int (20 : Int32), .int (0 : Int32), .int (160 : Int32), .int (1 : Int32), .int (0 : Int32), .int (0 : Int32), .int (0 : Int32), .int (0 : Int32), .ref q92, .null])), (q92, .inl (G.2 0, 9, .inl (fun _ => 0)))]) H := hP
  have hD : va_D A ([(h0, .inr (1, [.long (0 : Int64), .long (0 : Int64), .long (0 : Int64), .int (25 : Int32), .int (25 : Int32), .int (3 : Int32), .int (0 : Int32), .int (0 : Int32), .int (20 : Int32), .int (0 : Int32), .int (160 : Int32), .int (1 : Int32), .int (0 : Int32), .int (0 : Int32), .int (0 : Int32), .int (0 : Int32), .ref q92, .null])), (q92, .inl (G.2 0, 9, .inl (fun _ => 0)))]) := hD
  refine lv_aload_n hx hb dX1_init_97 rfl (lv_at hl 0 rfl) ?_
  refine va_new (ci := 0) (fs := [.int 0, .null, .null, .null, .null]) (C := RX0) (T := TX0) (N := 5) hx hb hts iX1_init_X0 tyX0 tyX0_ok hown (hts (.classLink RX1 66 RX0) (List.mem_of_getElem? (i := 22) rfl)) (hts (.instantiable RX0 5) (List.mem_of_getElem? (i := 23) rfl)) (hts (.initialized RX0) (List.mem_of_getElem? (i := 24) rfl)) hK.1 hP hD hS hA rfl (fun j hj => by rcases (show j = 0 ∨ j = 1 ∨ j = 2 ∨ j = 3 ∨ j = 4 by omega) with rfl | rfl | rfl | rfl | rfl <;> rfl) (Nat.le_of_ble_eq_true rfl) (Nat.le_of_ble_eq_true rfl) dX1_init_98 (fun q98 H hP hD hS => ?_)
  have hP : va_P G.1 vwCl ([(h0, .inr (1, [.long (0 : Int64), .long (0 : Int64), .long (0 : Int64), .int (25 : Int32), .int (25 : Int32), .int (3 : Int32), .int (0 : Int32), .int (0 : Int32), .int (20 : Int32), .int (0 : Int32), .int (160 : Int32), .int (1 : Int32), .int (0 : Int32), .int (0 : Int32), .int (0 : Int32), .int (0 : Int32), .ref q92, .null])), (q92, .inl (G.2 0, 9, .inl (fun _ => 0))), (q98, .inr (0, [.int 0, .null, .null, .null, .null]))]) H := hP
  have hD : va_D A ([(h0, .inr (1, [.long (0 : Int64), .long (0 : Int64), .long (0 : Int64), .int (25 : Int32), .int (25 : Int32), .int (3 : Int32), .int (0 : Int32), .int (0 : Int32), .int (20 : Int32), .int (0 : Int32), .int (160 : Int32), .int (1 : Int32), .int (0 : Int32), .int (0 : Int32), .int (0 : Int32), .int (0 : Int32), .ref q92, .null])), (q92, .inl (G.2 0, 9, .inl (fun _ => 0))), (q98, .inr (0, [.int 0, .null, .null, .null, .null]))]) := hD
  refine lv_dup hx hb dX1_init_101 rfl ?_
  have hPc := hP.sub (ws' := [(q98, .inr (0, [.int 0, .null, .null, .null, .null]))]) [2] rfl
  have hDc := hD.sub (ws' := [(q98, .inr (0, [.int 0, .null, .null, .null, .null]))]) [2] (by decide) rfl
  have hFc := va_free (wc := [(q98, .inr (0, [.int 0, .null, .null, .null, .null]))]) hD hS hA [2] rfl
  refine va_callv (va_runIN (As := []) (rest := [.ref q98, .ref h0]) ⟨hx, hb, hml, hown, hts⟩ (kX0_init l G q98 H.size) ⟨va_cnB 0 hts gX1_init_X0_init_n68 rfl rfl rfl hK.2.2.1 (hts (.initialized RX0) (List.mem_of_getElem? (i := 24) rfl)) (by decide +kernel) ⟨Nat.le_of_ble_eq_true rfl, Nat.le_of_ble_eq_true rfl⟩, rfl, (hts (.instanceMethod yX0_init) (List.mem_of_getElem? (i := 26) rfl))⟩ (zc_preSm hK hPc hDc) rfl rfl hl.1 rfl (lv_room (Nat.le_of_ble_eq_true rfl)) dX1_init_102 ⟨Nat.le_of_ble_eq_true rfl, Nat.le_of_ble_eq_true rfl⟩) hS (fun q _ h => hFc q h) hFc (fun ad t H1 locs ht hvm hw hB hz1 hk1 hS => ?_)
  obtain ⟨hP1, hD1⟩ := hB
  rw [ht] at hP1
  have hw : ad 2 = q98 := hw
  obtain ⟨hP, hD⟩ := va_join (wr := [(h0, .inr (1, [.long (0 : Int64), .long (0 : Int64), .long (0 : Int64), .int (25 : Int32), .int (25 : Int32), .int (3 : Int32), .int (0 : Int32), .int (0 : Int32), .int (20 : Int32), .int (0 : Int32), .int (160 : Int32), .int (1 : Int32), .int (0 : Int32), .int (0 : Int32), .int (0 : Int32), .int (0 : Int32), .ref q92, .null])), (q92, .inl (G.2 0, 9, .inl (fun _ => 0)))]) (w1 := zc_al G ad zc_q0) hP hD [2] [0, 1] rfl rfl (by decide) (by decide) hk1 hFc hP1 hD1
  generalize H1 = H at hP hS ⊢
  rw [← hw]
  have hP : va_P G.1 vwCl ([(h0, .inr (1, [.long (0 : Int64), .long (0 : Int64), .long (0 : Int64), .int (25 : Int32), .int (25 : Int32), .int (3 : Int32), .int (0 : Int32), .int (0 : Int32), .int (20 : Int32), .int (0 : Int32), .int (160 : Int32), .int (1 : Int32), .int (0 : Int32), .int (0 : Int32), .int (0 : Int32), .int (0 : Int32), .ref q92, .null])), (q92, .inl (G.2 0, 9, .inl (fun _ => 0)))] ++ zc_al G ad zc_q0) H := hP
  have hD : va_D A ([(h0, .inr (1, [.long (0 : Int64), .long (0 : Int64), .long (0 : Int64), .int (25 : Int32), .int (25 : Int32), .int (3 : Int32), .int (0 : Int32), .int (0 : Int32), .int (20 : Int32), .int (0 : Int32), .int (160 : Int32), .int (1 : Int32), .int (0 : Int32), .int (0 : Int32), .int (0 : Int32), .int (0 : Int32), .ref q92, .null])), (q92, .inl (G.2 0, 9, .inl (fun _ => 0)))] ++ zc_al G ad zc_q0) := hD
  refine va_putF (D := G.1) (ci := 1) (v := .ref (ad 2)) (ty := .object "BoardClock$Alarms") (C := RX1) (T := TX1) (N := 18) hx hb hts iX1_init_X1 tyX1 tyX1_ok nmX1 hown hK.1 hP hD hS 0 rfl rfl 17 (by decide) (hts (.fieldLink RX1 69 "BoardClock$State" "alarms" "LBoardClock$Alarms;") (List.mem_of_getElem? (i := 25) rfl)) (fun _ h9 => h9) rfl hin rfl (by decide +kernel) rfl rfl (Nat.le_of_ble_eq_true rfl) dX1_init_105 (fun H locs hP hD hS => ?_)
  have hP : va_P G.1 vwCl ([(h0, .inr (1, [.long (0 : Int64), .long (0 : Int64), .long (0 : Int64), .int (25 : Int32), .int (25 : Int32), .int (3 : Int32), .int (0 : Int32), .int (0 : Int32), .int (20 : Int32), .int (0 : Int32), .int (160 : Int32), .int (1 : Int32), .int (0 : Int32), .int (0 : Int32), .int (0 : Int32), .int (0 : Int32), .ref q92, .ref (ad 2)])), (q92, .inl (G.2 0, 9, .inl (fun _ => 0)))] ++ zc_al G ad zc_q0) H := hP
  have hD : va_D A ([(h0, .inr (1, [.long (0 : Int64), .long (0 : Int64), .long (0 : Int64), .int (25 : Int32), .int (25 : Int32), .int (3 : Int32), .int (0 : Int32), .int (0 : Int32), .int (20 : Int32), .int (0 : Int32), .int (160 : Int32), .int (1 : Int32), .int (0 : Int32), .int (0 : Int32), .int (0 : Int32), .int (0 : Int32), .ref q92, .ref (ad 2)])), (q92, .inl (G.2 0, 9, .inl (fun _ => 0)))] ++ zc_al G ad zc_q0) := hD
  refine W.widen (k := 6) (n := 38) (by decide) (by decide) ?_
  exact W.vret hx hb hr (fun t ht hW => ⟨⟨zc_ads [h0, q92, ad 2, ad 3, ad 4, ad 5, ad 6], rfl, rfl, zc_hp ht hP, hD⟩, hS.F ht⟩) hS.2.2 dX1_init_108
theorem iX3_init_X3 : ∀ w ∈ wsX30, w ∈ wsX3_init := fun _ h => List.mem_cons_of_mem _ (List.mem_append_right _ h)
set_option maxHeartbeats 4000000 in
set_option maxRecDepth 100000 in
theorem kX3_init (l : Launch) (G : zc_G) (h0 sz : Nat) : Met l yX3_init wsX3_init ({ frames := 1, cells := 5, slots := 1151, locals := 20 }) (zc_Pm G [.ref h0] [(h0, .inr (3, [.null, .null, .int 0, .null, .null, .null, .int 0, .long 0]))] sz) (va_Qv (fun ad : Nat → Nat => ad 0 = h0) (fun ad t => va_P G.1 vwCl (zc_mo G ad zc_m0) t.heap ∧ va_D (va_A [(h0, .inr (3, [.null, .null, .int 0, .null, .null, .null, .int 0, .long 0]))] sz) (zc_mo G ad zc_m0)) (va_A [(h0, .inr (3, [.null, .null, .int 0, .null, .null, .null, .int 0, .long 0]))] sz)) 5 1151 (va_A [(h0, .inr (3, [.null, .null, .int 0, .null, .null, .null, .int 0, .long 0]))] sz) := by
  refine Met.ofW (cc := cX3_init) (maxL := 1) (ret := none) (by decide) rfl ?_
  intro p e s m args below meth c s₁ B hml hv
  obtain ⟨rfl, hsz, hP, hK, hD0⟩ := hv
  have hx := B.exec
  have hb := B.bytes
  have hr := B.returns
  have hts := atoms_spec (ws := wsX3_init) B.pre
  have hown : s.vm.findClass RX3 = some m.cls := findClass_of_methodNamed B.named
  have hlocks := B.notSynchronized
  have hin : meth.name = "<init>" := (name_of_methodNamed B.named B.method).1
  subst hsz
  have hD := hD0.self (sz := s.heap.size)
  generalize hAe : va_A [(h0, .inr (3, [.null, .null, .int 0, .null, .null, .null, .int 0, .long 0]))] s.heap.size = A at hD ⊢
  have hA : ∀ q : Nat, s.heap.size ≤ q → A q := fun q h => by rw [← hAe]; exact Or.inr h
  have hS : va_S A s.heap s.heap [] := va_S.rf
  have hl := lv_entry ([.ref h0]) (n := 1) (Nat.le_of_ble_eq_true rfl)
  rw [lg_entry_eq]
  generalize (lg_sl ([.ref h0]) ++ List.replicate (1 - (lg_sl ([.ref h0])).length) Slot.unset).toArray = ls at hl ⊢
  have hl : lv_has ls 1 [(0, .ref h0)] := hl
  refine lv_aload_n hx hb dX3_init_0 rfl (lv_at hl 0 rfl) ?_
  refine W.objInit hx hb hown (hts (.methodLink RX3 1 objectInit) (List.mem_of_getElem? (i := 1) rfl)) (hts (.instanceMethod objectInit) (List.mem_of_getElem? (i := 2) rfl)) (hts (.code objectInit ⟨#[0xb1]⟩ 1 none) (List.mem_of_getElem? (i := 3) rfl)) rfl (by rw [hml]; exact hl.1) rfl dX3_init_1 (Nat.le_of_ble_eq_true rfl) (Nat.le_of_ble_eq_true rfl) ?_
  refine W.eq (g2 := F0 m 4 ls []) rfl ?_
  refine lv_aload_n hx hb dX3_init_4 rfl (lv_at hl 0 rfl) ?_
  refine lv_bipush (v := (49 : Int32)) hx hb dX3_init_5 (by decide) ?_
  refine va_newa (atype := .long) (ty := .long) (N' := 49) (a0 := (49, .inr (.inl (fun _ => 0)))) hx hb (hts (.arrayClass .long) (List.mem_of_getElem? (i := 4) rfl)) rfl hK.1 hP hD hS hA (fun _ => rfl) (by decide) (by decide) (Nat.le_of_ble_eq_true rfl) (Nat.le_of_ble_eq_true rfl) (Nat.le_of_ble_eq_true rfl) dX3_init_7 (fun q7 cA H hK2 hP hD hS => ?_)
  obtain rfl := zc_sameT hK.1 (i := 1) rfl hK2 (j := 4) rfl
  have hP : va_P G.1 vwCl ([(h0, .inr (3, [.null, .null, .int 0, .null, .null, .null, .int 0, .long 0])), (q7, .inl (G.2 1, 49, .inr (.inl (fun _ => 0))))]) H := hP
  have hD : va_D A ([(h0, .inr (3, [.null, .null, .int 0, .null, .null, .null, .int 0, .long 0])), (q7, .inl (G.2 1, 49, .inr (.inl (fun _ => 0))))]) := hD
  refine va_putF (D := G.1) (ci := 3) (v := .ref q7) (ty := .array .long) (C := RX3) (T := TX3) (N := 8) hx hb hts iX3_init_X3 tyX3 tyX3_ok nmX3 hown hK.1 hP hD hS 0 rfl rfl 0 (by decide) (hts (.fieldLink RX3 7 "BoardClockModel" "st" "[J") (List.mem_of_getElem? (i := 5) rfl)) (fun _ h9 => h9) rfl hin rfl (by decide +kernel) rfl rfl (Nat.le_of_ble_eq_true rfl) dX3_init_9 (fun H locs hP hD hS => ?_)
  have hP : va_P G.1 vwCl ([(h0, .inr (3, [.ref q7, .null, .int 0, .null, .null, .null, .int 0, .long 0])), (q7, .inl (G.2 1, 49, .inr (.inl (fun _ => 0))))]) H := hP
  have hD : va_D A ([(h0, .inr (3, [.ref q7, .null, .int 0, .null, .null, .null, .int 0, .long 0])), (q7, .inl (G.2 1, 49, .inr (.inl (fun _ => 0))))]) := hD
  refine lv_aload_n hx hb dX3_init_12 rfl (lv_at hl 0 rfl) ?_
  refine lv_sipush (v := (980 : Int32)) hx hb dX3_init_13 (by decide) ?_
  refine va_newa (atype := .long) (ty := .long) (N' := 980) (a0 := (980, .inr (.inl (fun _ => 0)))) hx hb (hts (.arrayClass .long) (List.mem_of_getElem? (i := 4) rfl)) rfl hK.1 hP hD hS hA (fun _ => rfl) (by decide) (by decide) (Nat.le_of_ble_eq_true rfl) (Nat.le_of_ble_eq_true rfl) (Nat.le_of_ble_eq_true rfl) dX3_init_16 (fun q16 cA H hK2 hP hD hS => ?_)
  obtain rfl := zc_sameT hK.1 (i := 1) rfl hK2 (j := 4) rfl
  have hP : va_P G.1 vwCl ([(h0, .inr (3, [.ref q7, .null, .int 0, .null, .null, .null, .int 0, .long 0])), (q7, .inl (G.2 1, 49, .inr (.inl (fun _ => 0)))), (q16, .inl (G.2 1, 980, .inr (.inl (fun _ => 0))))]) H := hP
  have hD : va_D A ([(h0, .inr (3, [.ref q7, .null, .int 0, .null, .null, .null, .int 0, .long 0])), (q7, .inl (G.2 1, 49, .inr (.inl (fun _ => 0)))), (q16, .inl (G.2 1, 980, .inr (.inl (fun _ => 0))))]) := hD
  refine va_putF (D := G.1) (ci := 3) (v := .ref q16) (ty := .array .long) (C := RX3) (T := TX3) (N := 8) hx hb hts iX3_init_X3 tyX3 tyX3_ok nmX3 hown hK.1 hP hD hS 0 rfl rfl 1 (by decide) (hts (.fieldLink RX3 13 "BoardClockModel" "past" "[J") (List.mem_of_getElem? (i := 6) rfl)) (fun _ h9 => h9) rfl hin rfl (by decide +kernel) rfl rfl (Nat.le_of_ble_eq_true rfl) dX3_init_18 (fun H locs hP hD hS => ?_)
  have hP : va_P G.1 vwCl ([(h0, .inr (3, [.ref q7, .ref q16, .int 0, .null, .null, .null, .int 0, .long 0])), (q7, .inl (G.2 1, 49, .inr (.inl (fun _ => 0)))), (q16, .inl (G.2 1, 980, .inr (.inl (fun _ => 0))))]) H := hP
  have hD : va_D A ([(h0, .inr (3, [.ref q7, .ref q16, .int 0, .null, .null, .null, .int 0, .long 0])), (q7, .inl (G.2 1, 49, .inr (.inl (fun _ => 0)))), (q16, .inl (G.2 1, 980, .inr (.inl (fun _ => 0))))]) := hD
  refine lv_aload_n hx hb dX3_init_21 rfl (lv_at hl 0 rfl) ?_
  refine lv_bipush (v := (100 : Int32)) hx hb dX3_init_22 (by decide) ?_
  refine va_newa (atype := .long) (ty := .long) (N' := 100) (a0 := (100, .inr (.inl (fun _ => 0)))) hx hb (hts (.arrayClass .long) (List.mem_of_getElem? (i := 4) rfl)) rfl hK.1 hP hD hS hA (fun _ => rfl) (by decide) (by decide) (Nat.le_of_ble_eq_true rfl) (Nat.le_of_ble_eq_true rfl) (Nat.le_of_ble_eq_true rfl) dX3_init_24 (fun q24 cA H hK2 hP hD hS => ?_)
  obtain rfl := zc_sameT hK.1 (i := 1) rfl hK2 (j := 4) rfl
  have hP : va_P G.1 vwCl ([(h0, .inr (3, [.ref q7, .ref q16, .int 0, .null, .null, .null, .int 0, .long 0])), (q7, .inl (G.2 1, 49, .inr (.inl (fun _ => 0)))), (q16, .inl (G.2 1, 980, .inr (.inl (fun _ => 0)))), (q24, .inl (G.2 1, 100, .inr (.inl (fun _ => 0))))]) H := hP
  have hD : va_D A ([(h0, .inr (3, [.ref q7, .ref q16, .int 0, .null, .null, .null, .int 0, .long 0])), (q7, .inl (G.2 1, 49, .inr (.inl (fun _ => 0)))), (q16, .inl (G.2 1, 980, .inr (.inl (fun _ => 0)))), (q24, .inl (G.2 1, 100, .inr (.inl (fun _ => 0))))]) := hD
  refine va_putF (D := G.1) (ci := 3) (v := .ref q24) (ty := .array .long) (C := RX3) (T := TX3) (N := 8) hx hb hts iX3_init_X3 tyX3 tyX3_ok nmX3 hown hK.1 hP hD hS 0 rfl rfl 3 (by decide) (hts (.fieldLink RX3 16 "BoardClockModel" "images" "[J") (List.mem_of_getElem? (i := 7) rfl)) (fun _ h9 => h9) rfl hin rfl (by decide +kernel) rfl rfl (Nat.le_of_ble_eq_true rfl) dX3_init_26 (fun H locs hP hD hS => ?_)
  have hP : va_P G.1 vwCl ([(h0, .inr (3, [.ref q7, .ref q16, .int 0, .ref q24, .null, .null, .int 0, .long 0])), (q7, .inl (G.2 1, 49, .inr (.inl (fun _ => 0)))), (q16, .inl (G.2 1, 980, .inr (.inl (fun _ => 0)))), (q24, .inl (G.2 1, 100, .inr (.inl (fun _ => 0))))]) H := hP
  have hD : va_D A ([(h0, .inr (3, [.ref q7, .ref q16, .int 0, .ref q24, .null, .null, .int 0, .long 0])), (q7, .inl (G.2 1, 49, .inr (.inl (fun _ => 0)))), (q16, .inl (G.2 1, 980, .inr (.inl (fun _ => 0)))), (q24, .inl (G.2 1, 100, .inr (.inl (fun _ => 0))))]) := hD
  refine lv_aload_n hx hb dX3_init_29 rfl (lv_at hl 0 rfl) ?_
  refine lv_iconst (v := (2 : Int32)) hx hb dX3_init_30 (by decide) ?_
  refine va_newa (atype := .boolean) (ty := .boolean) (N' := 2) (a0 := (2, .inl (fun _ => 0))) hx hb (hts (.arrayClass .boolean) (List.mem_of_getElem? (i := 8) rfl)) rfl hK.1 hP hD hS hA (fun _ => rfl) (by decide) (by decide) (Nat.le_of_ble_eq_true rfl) (Nat.le_of_ble_eq_true rfl) (Nat.le_of_ble_eq_true rfl) dX3_init_31 (fun q31 cA H hK2 hP hD hS => ?_)
  obtain rfl := zc_sameT hK.1 (i := 2) rfl hK2 (j := 4) rfl
  have hP : va_P G.1 vwCl ([(h0, .inr (3, [.ref q7, .ref q16, .int 0, .ref q24, .null, .null, .int 0, .long 0])), (q7, .inl (G.2 1, 49, .inr (.inl (fun _ => 0)))), (q16, .inl (G.2 1, 980, .inr (.inl (fun _ => 0)))), (q24, .inl (G.2 1, 100, .inr (.inl (fun _ => 0)))), (q31, .inl (G.2 2, 2, .inl (fun _ => 0)))]) H := hP
  have hD : va_D A ([(h0, .inr (3, [.ref q7, .ref q16, .int 0, .ref q24, .null, .null, .int 0, .long 0])), (q7, .inl (G.2 1, 49, .inr (.inl (fun _ => 0)))), (q16, .inl (G.2 1, 980, .inr (.inl (fun _ => 0)))), (q24, .inl (G.2 1, 100, .inr (.inl (fun _ => 0)))), (q31, .inl (G.2 2, 2, .inl (fun _ => 0)))]) := hD
  refine va_putF (D := G.1) (ci := 3) (v := .ref q31) (ty := .array .boolean) (C := RX3) (T := TX3) (N := 8) hx hb hts iX3_init_X3 tyX3 tyX3_ok nmX3 hown hK.1 hP hD hS 0 rfl rfl 4 (by decide) (hts (.fieldLink RX3 19 "BoardClockModel" "isKept" "[Z") (List.mem_of_getElem? (i := 9) rfl)) (fun _ h9 => h9) rfl hin rfl (by decide +kernel) rfl rfl (Nat.le_of_ble_eq_true rfl) dX3_init_33 (fun H locs hP hD hS => ?_)
  have hP : va_P G.1 vwCl ([(h0, .inr (3, [.ref q7, .ref q16, .int 0, .ref q24, .ref q31, .null, .int 0, .long 0])), (q7, .inl (G.2 1, 49, .inr (.inl (fun _ => 0)))), (q16, .inl (G.2 1, 980, .inr (.inl (fun _ => 0)))), (q24, .inl (G.2 1, 100, .inr (.inl (fun _ => 0)))), (q31, .inl (G.2 2, 2, .inl (fun _ => 0)))]) H := hP
  have hD : va_D A ([(h0, .inr (3, [.ref q7, .ref q16, .int 0, .ref q24, .ref q31, .null, .int 0, .long 0])), (q7, .inl (G.2 1, 49, .inr (.inl (fun _ => 0)))), (q16, .inl (G.2 1, 980, .inr (.inl (fun _ => 0)))), (q24, .inl (G.2 1, 100, .inr (.inl (fun _ => 0)))), (q31, .inl (G.2 2, 2, .inl (fun _ => 0)))]) := hD
  refine lv_aload_n hx hb dX3_init_36 rfl (lv_at hl 0 rfl) ?_
  refine lv_bipush (v := (20 : Int32)) hx hb dX3_init_37 (by decide) ?_
  refine va_newa (atype := .int) (ty := .int) (N' := 20) (a0 := (20, .inl (fun _ => 0))) hx hb (hts (.arrayClass .int) (List.mem_of_getElem? (i := 10) rfl)) rfl hK.1 hP hD hS hA (fun _ => rfl) (by decide) (by decide) (Nat.le_of_ble_eq_true rfl) (Nat.le_of_ble_eq_true rfl) (Nat.le_of_ble_eq_true rfl) dX3_init_39 (fun q39 cA H hK2 hP hD hS => ?_)
  obtain rfl := zc_sameT hK.1 (i := 0) rfl hK2 (j := 4) rfl
  have hP : va_P G.1 vwCl ([(h0, .inr (3, [.ref q7, .ref q16, .int 0, .ref q24, .ref q31, .null, .int 0, .long 0])), (q7, .inl (G.2 1, 49, .inr (.inl (fun _ => 0)))), (q16, .inl (G.2 1, 980, .inr (.inl (fun _ => 0)))), (q24, .inl (G.2 1, 100, .inr (.inl (fun _ => 0)))), (q31, .inl (G.2 2, 2, .inl (fun _ => 0))), (q39, .inl (G.2 0, 20, .inl (fun _ => 0)))]) H := hP
  have hD : va_D A ([(h0, .inr (3, [.ref q7, .ref q16, .int 0, .ref q24, .ref q31, .null, .int 0, .long 0])), (q7, .inl (G.2 1, 49, .inr (.inl (fun _ => 0)))), (q16, .inl (G.2 1, 980, .inr (.inl (fun _ => 0)))), (q24, .inl (G.2 1, 100, .inr (.inl (fun _ => 0)))), (q31, .inl (G.2 2, 2, .inl (fun _ => 0))), (q39, .inl (G.2 0, 20, .inl (fun _ => 0)))]) := hD
  refine va_putF (D := G.1) (ci := 3) (v := .ref q39) (ty := .array .int) (C := RX3) (T := TX3) (N := 8) hx hb hts iX3_init_X3 tyX3 tyX3_ok nmX3 hown hK.1 hP hD hS 0 rfl rfl 5 (by decide) (hts (.fieldLink RX3 23 "BoardClockModel" "book" "[I") (List.mem_of_getElem? (i := 11) rfl)) (fun _ h9 => h9) rfl hin rfl (by decide +kernel) rfl rfl (Nat.le_of_ble_eq_true rfl) dX3_init_41 (fun H locs hP hD hS => ?_)
  have hP : va_P G.1 vwCl ([(h0, .inr (3, [.ref q7, .ref q16, .int 0, .ref q24, .ref q31, .ref q39, .int 0, .long 0])), (q7, .inl (G.2 1, 49, .inr (.inl (fun _ => 0)))), (q16, .inl (G.2 1, 980, .inr (.inl (fun _ => 0)))), (q24, .inl (G.2 1, 100, .inr (.inl (fun _ => 0)))), (q31, .inl (G.2 2, 2, .inl (fun _ => 0))), (q39, .inl (G.2 0, 20, .inl (fun _ => 0)))]) H := hP
  have hD : va_D A ([(h0, .inr (3, [.ref q7, .ref q16, .int 0, .ref q24, .ref q31, .ref q39, .int 0, .long 0])), (q7, .inl (G.2 1, 49, .inr (.inl (fun _ => 0)))), (q16, .inl (G.2 1, 980, .inr (.inl (fun _ => 0)))), (q24, .inl (G.2 1, 100, .inr (.inl (fun _ => 0)))), (q31, .inl (G.2 2, 2, .inl (fun _ => 0))), (q39, .inl (G.2 0, 20, .inl (fun _ => 0)))]) := hD
  refine lv_aload_n hx hb dX3_init_44 rfl (lv_at hl 0 rfl) ?_
  refine va_get (D := G.1) (ci := 3) (C := RX3) (T := TX3) (N := 8) hx hb hts iX3_init_X3 hown hK.1 hP 0 rfl rfl 0 (by decide) (hts (.fieldLink RX3 7 "BoardClockModel" "st" "[J") (List.mem_of_getElem? (i := 5) rfl)) (fun _ h9 => h9) rfl dX3_init_45 ?_
  refine lv_iconst (v := (4 : Int32)) hx hb dX3_init_48 (by decide) ?_
  refine lv_ldc2 hx hb hown (hts (.constantLong RX3 27 (25)) (List.mem_of_getElem? (i := 12) rfl)) dX3_init_49 ?_
  refine zc_last (j := 4) hx hb hK.1 hP hD hS 1 1 rfl rfl (zc_vin (by decide)) (by decide) dX3_init_52 (fun H locs hP hS => ?_)
  have hP : va_P G.1 vwCl ([(h0, .inr (3, [.ref q7, .ref q16, .int 0, .ref q24, .ref q31, .ref q39, .int 0, .long 0])), (q7, .inl (G.2 1, 49, .inr (.inl (vp_updL (fun _ => 0) 4 (25 : Int64))))), (q16, .inl (G.2 1, 980, .inr (.inl (fun _ => 0)))), (q24, .inl (G.2 1, 100, .inr (.inl (fun _ => 0)))), (q31, .inl (G.2 2, 2, .inl (fun _ => 0))), (q39, .inl (G.2 0, 20, .inl (fun _ => 0)))]) H := hP
  have hD : va_D A ([(h0, .inr (3, [.ref q7, .ref q16, .int 0, .ref q24, .ref q31, .ref q39, .int 0, .long 0])), (q7, .inl (G.2 1, 49, .inr (.inl (vp_updL (fun _ => 0) 4 (25 : Int64))))), (q16, .inl (G.2 1, 980, .inr (.inl (fun _ => 0)))), (q24, .inl (G.2 1, 100, .inr (.inl (fun _ => 0)))), (q31, .inl (G.2 2, 2, .inl (fun _ => 0))), (q39, .inl (G.2 0, 20, .inl (fun _ => 0)))]) := zc_Ds hD rfl
  refine lv_aload_n hx hb dX3_init_53 rfl (lv_at hl 0 rfl) ?_
  refine va_get (D := G.1) (ci := 3) (C := RX3) (T := TX3) (N := 8) hx hb hts iX3_init_X3 hown hK.1 hP 0 rfl rfl 0 (by decide) (hts (.fieldLink RX3 7 "BoardClockModel" "st" "[J") (List.mem_of_getElem? (i := 5) rfl)) (fun _ h9 => h9) rfl dX3_init_54 ?_
  refine lv_iconst (v := (5 : Int32)) hx hb dX3_init_57 (by decide) ?_
  refine lv_ldc2 hx hb hown (hts (.constantLong RX3 27 (25)) (List.mem_of_getElem? (i := 12) rfl)) dX3_init_58 ?_
  refine zc_last (j := 5) hx hb hK.1 hP hD hS 1 1 rfl rfl (zc_vin (by decide)) (by decide) dX3_init_61 (fun H locs hP hS => ?_)
  have hP : va_P G.1 vwCl ([(h0, .inr (3, [.ref q7, .ref q16, .int 0, .ref q24, .ref q31, .ref q39, .int 0, .long 0])), (q7, .inl (G.2 1, 49, .inr (.inl (vp_updL (vp_updL (fun _ => 0) 4 (25 : Int64)) 5 (25 : Int64))))), (q16, .inl (G.2 1, 980, .inr (.inl (fun _ => 0)))), (q24, .inl (G.2 1, 100, .inr (.inl (fun _ => 0)))), (q31, .inl (G.2 2, 2, .inl (fun _ => 0))), (q39, .inl (G.2 0, 20, .inl (fun _ => 0)))]) H := hP
  have hD : va_D A ([(h0, .inr (3, [.ref q7, .ref q16, .int 0, .ref q24, .ref q31, .ref q39, .int 0, .long 0])), (q7, .inl (G.2 1, 49, .inr (.inl (vp_updL (vp_updL (fun _ => 0) 4 (25 : Int64)) 5 (25 : Int64))))), (q16, .inl (G.2 1, 980, .inr (.inl (fun _ => 0)))), (q24, .inl (G.2 1, 100, .inr (.inl (fun _ => 0)))), (q31, .inl (G.2 2, 2, .inl (fun _ => 0))), (q39, .inl (G.2 0, 20, .inl (fun _ => 0)))]) := zc_Ds hD rfl
  refine lv_aload_n hx hb dX3_init_62 rfl (lv_at hl 0 rfl) ?_
  refine va_get (D := G.1) (ci := 3) (C := RX3) (T := TX3) (N := 8) hx hb hts iX3_init_X3 hown hK.1 hP 0 rfl rfl 0 (by decide) (hts (.fieldLink RX3 7 "BoardClockModel" "st" "[J") (List.mem_of_getElem? (i := 5) rfl)) (fun _ h9 => h9) rfl dX3_init_63 ?_
  refine lv_bipush (v := (6 : Int32)) hx hb dX3_init_66 (by decide) ?_
  refine lv_ldc2 hx hb hown (hts (.constantLong RX3 29 (3)) (List.mem_of_getElem? (i := 13) rfl)) dX3_init_68 ?_
  refine zc_last (j := 6) hx hb hK.1 hP hD hS 1 1 rfl rfl (zc_vin (by decide)) (by decide) dX3_init_71 (fun H locs hP hS => ?_)
  have hP : va_P G.1 vwCl ([(h0, .inr (3, [.ref q7, .ref q16, .int 0, .ref q24, .ref q31, .ref q39, .int 0, .long 0])), (q7, .inl (G.2 1, 49, .inr (.inl (vp_updL (vp_updL (vp_updL (fun _ => 0) 4 (25 : Int64)) 5 (25 : Int64)) 6 (3 : Int64))))), (q16, .inl (G.2 1, 980, .inr (.inl (fun _ => 0)))), (q24, .inl (G.2 1, 100, .inr (.inl (fun _ => 0)))), (q31, .inl (G.2 2, 2, .inl (fun _ => 0))), (q39, .inl (G.2 0, 20, .inl (fun _ => 0)))]) H := hP
  have hD : va_D A ([(h0, .inr (3, [.ref q7, .ref q16, .int 0, .ref q24, .ref q31, .ref q39, .int 0, .long 0])), (q7, .inl (G.2 1, 49, .inr (.inl (vp_updL (vp_updL (vp_updL (fun _ => 0) 4 (25 : Int64)) 5 (25 : Int64)) 6 (3 : Int64))))), (q16, .inl (G.2 1, 980, .inr (.inl (fun _ => 0)))), (q24, .inl (G.2 1, 100, .inr (.inl (fun _ => 0)))), (q31, .inl (G.2 2, 2, .inl (fun _ => 0))), (q39, .inl (G.2 0, 20, .inl (fun _ => 0)))]) := zc_Ds hD rfl
  refine lv_aload_n hx hb dX3_init_72 rfl (lv_at hl 0 rfl) ?_
  refine va_get (D := G.1) (ci := 3) (C := RX3) (T := TX3) (N := 8) hx hb hts iX3_init_X3 hown hK.1 hP 0 rfl rfl 0 (by decide) (hts (.fieldLink RX3 7 "BoardClockModel" "st" "[J") (List.mem_of_getElem? (i := 5) rfl)) (fun _ h9 => h9) rfl dX3_init_73 ?_
  refine lv_bipush (v := (9 : Int32)) hx hb dX3_init_76 (by decide) ?_
  refine lv_ldc2 hx hb hown (hts (.constantLong RX3 31 (20)) (List.mem_of_getElem? (i := 14) rfl)) dX3_init_78 ?_
  refine zc_last (j := 9) hx hb hK.1 hP hD hS 1 1 rfl rfl (zc_vin (by decide)) (by decide) dX3_init_81 (fun H locs hP hS => ?_)
  have hP : va_P G.1 vwCl ([(h0, .inr (3, [.ref q7, .ref q16, .int 0, .ref q24, .ref q31, .ref q39, .int 0, .long 0])), (q7, .inl (G.2 1, 49, .inr (.inl (vp_updL (vp_updL (vp_updL (vp_updL (fun _ => 0) 4 (25 : Int64)) 5 (25 : Int64)) 6 (3 : Int64)) 9 (20 : Int64))))), (q16, .inl (G.2 1, 980, .inr (.inl (fun _ => 0)))), (q24, .inl (G.2 1, 100, .inr (.inl (fun _ => 0)))), (q31, .inl (G.2 2, 2, .inl (fun _ => 0))), (q39, .inl (G.2 0, 20, .inl (fun _ => 0)))]) H := hP
  have hD : va_D A ([(h0, .inr (3, [.ref q7, .ref q16, .int 0, .ref q24, .ref q31, .ref q39, .int 0, .long 0])), (q7, .inl (G.2 1, 49, .inr (.inl (vp_updL (vp_updL (vp_updL (vp_updL (fun _ => 0) 4 (25 : Int64)) 5 (25 : Int64)) 6 (3 : Int64)) 9 (20 : Int64))))), (q16, .inl (G.2 1, 980, .inr (.inl (fun _ => 0)))), (q24, .inl (G.2 1, 100, .inr (.inl (fun _ => 0)))), (q31, .inl (G.2 2, 2, .inl (fun _ => 0))), (q39, .inl (G.2 0, 20, .inl (fun _ => 0)))]) := zc_Ds hD rfl
  refine lv_aload_n hx hb dX3_init_82 rfl (lv_at hl 0 rfl) ?_
  refine va_get (D := G.1) (ci := 3) (C := RX3) (T := TX3) (N := 8) hx hb hts iX3_init_X3 hown hK.1 hP 0 rfl rfl 0 (by decide) (hts (.fieldLink RX3 7 "BoardClockModel" "st" "[J") (List.mem_of_getElem? (i := 5) rfl)) (fun _ h9 => h9) rfl dX3_init_83 ?_
  refine lv_bipush (v := (10 : Int32)) hx hb dX3_init_86 (by decide) ?_
  refine lv_ldc2 hx hb hown (hts (.constantLong RX3 33 (160)) (List.mem_of_getElem? (i := 15) rfl)) dX3_init_88 ?_
  refine zc_last (j := 10) hx hb hK.1 hP hD hS 1 1 rfl rfl (zc_vin (by decide)) (by decide) dX3_init_91 (fun H locs hP hS => ?_)
  have hP : va_P G.1 vwCl ([(h0, .inr (3, [.ref q7, .ref q16, .int 0, .ref q24, .ref q31, .ref q39, .int 0, .long 0])), (q7, .inl (G.2 1, 49, .inr (.inl (vp_updL (vp_updL (vp_updL (vp_updL (vp_updL (fun _ => 0) 4 (25 : Int64)) 5 (25 : Int64)) 6 (3 : Int64)) 9 (20 : Int64)) 10 (160 : Int64))))), (q16, .inl (G.2 1, 980, .inr (.inl (fun _ => 0)))), (q24, .inl (G.2 1, 100, .inr (.inl (fun _ => 0)))), (q31, .inl (G.2 2, 2, .inl (fun _ => 0))), (q39, .inl (G.2 0, 20, .inl (fun _ => 0)))]) H := hP
  have hD : va_D A ([(h0, .inr (3, [.ref q7, .ref q16, .int 0, .ref q24, .ref q31, .ref q39, .int 0, .long 0])), (q7, .inl (G.2 1, 49, .inr (.inl (vp_updL (vp_updL (vp_updL (vp_updL (vp_updL (fun _ => 0) 4 (25 : Int64)) 5 (25 : Int64)) 6 (3 : Int64)) 9 (20 : Int64)) 10 (160 : Int64))))), (q16, .inl (G.2 1, 980, .inr (.inl (fun _ => 0)))), (q24, .inl (G.2 1, 100, .inr (.inl (fun _ => 0)))), (q31, .inl (G.2 2, 2, .inl (fun _ => 0))), (q39, .inl (G.2 0, 20, .inl (fun _ => 0)))]) := zc_Ds hD rfl
  refine lv_aload_n hx hb dX3_init_92 rfl (lv_at hl 0 rfl) ?_
  refine va_get (D := G.1) (ci := 3) (C := RX3) (T := TX3) (N := 8) hx hb hts iX3_init_X3 hown hK.1 hP 0 rfl rfl 0 (by decide) (hts (.fieldLink RX3 7 "BoardClockModel" "st" "[J") (List.mem_of_getElem? (i := 5) rfl)) (fun _ h9 => h9) rfl dX3_init_93 ?_
  refine lv_bipush (v := (11 : Int32)) hx hb dX3_init_96 (by decide) ?_
  refine lv_lconst (v := (1 : Int64)) hx hb dX3_init_98 (by decide) ?_
  refine zc_last (j := 11) hx hb hK.1 hP hD hS 1 1 rfl rfl (zc_vin (by decide)) (by decide) dX3_init_99 (fun H locs hP hS => ?_)
  have hP : va_P G.1 vwCl ([(h0, .inr (3, [.ref q7, .ref q16, .int 0, .ref q24, .ref q31, .ref q39, .int 0, .long 0])), (q7, .inl (G.2 1, 49, .inr (.inl (vp_updL (vp_updL (vp_updL (vp_updL (vp_updL (vp_updL (fun _ => 0) 4 (25 : Int64)) 5 (25 : Int64)) 6 (3 : Int64)) 9 (20 : Int64)) 10 (160 : Int64)) 11 (1 : Int64))))), (q16, .inl (G.2 1, 980, .inr (.inl (fun _ => 0)))), (q24, .inl (G.2 1, 100, .inr (.inl (fun _ => 0)))), (q31, .inl (G.2 2, 2, .inl (fun _ => 0))), (q39, .inl (G.2 0, 20, .inl (fun _ => 0)))]) H := hP
  have hD : va_D A ([(h0, .inr (3, [.ref q7, .ref q16, .int 0, .ref q24, .ref q31, .ref q39, .int 0, .long 0])), (q7, .inl (G.2 1, 49, .inr (.inl (vp_updL (vp_updL (vp_updL (vp_updL (vp_updL (vp_updL (fun _ => 0) 4 (25 : Int64)) 5 (25 : Int64)) 6 (3 : Int64)) 9 (20 : Int64)) 10 (160 : Int64)) 11 (1 : Int64))))), (q16, .inl (G.2 1, 980, .inr (.inl (fun _ => 0)))), (q24, .inl (G.2 1, 100, .inr (.inl (fun _ => 0)))), (q31, .inl (G.2 2, 2, .inl (fun _ => 0))), (q39, .inl (G.2 0, 20, .inl (fun _ => 0)))]) := zc_Ds hD rfl
  refine lv_aload_n hx hb dX3_init_100 rfl (lv_at hl 0 rfl) ?_
  refine va_get (D := G.1) (ci := 3) (C := RX3) (T := TX3) (N := 8) hx hb hts iX3_init_X3 hown hK.1 hP 0 rfl rfl 0 (by decide) (hts (.fieldLink RX3 7 "BoardClockModel" "st" "[J") (List.mem_of_getElem? (i := 5) rfl)) (fun _ h9 => h9) rfl dX3_init_101 ?_
  refine lv_bipush (v := (13 : Int32)) hx hb dX3_init_104 (by decide) ?_
  refine lv_ldc2 hx hb hown (hts (.constantLong RX3 35 (-1)) (List.mem_of_getElem? (i := 16) rfl)) dX3_init_106 ?_
  refine zc_last (j := 13) hx hb hK.1 hP hD hS 1 1 rfl rfl (zc_vin (by decide)) (by decide) dX3_init_109 (fun H locs hP hS => ?_)
  have hP : va_P G.1 vwCl ([(h0, .inr (3, [.ref q7, .ref q16, .int 0, .ref q24, .ref q31, .ref q39, .int 0, .long 0])), (q7, .inl (G.2 1, 49, .inr (.inl (vp_updL (vp_updL (vp_updL (vp_updL (vp_updL (vp_updL (vp_updL (fun _ => 0) 4 (25 : Int64)) 5 (25 : Int64)) 6 (3 : Int64)) 9 (20 : Int64)) 10 (160 : Int64)) 11 (1 : Int64)) 13 (-1 : Int64))))), (q16, .inl (G.2 1, 980, .inr (.inl (fun _ => 0)))), (q24, .inl (G.2 1, 100, .inr (.inl (fun _ => 0)))), (q31, .inl (G.2 2, 2, .inl (fun _ => 0))), (q39, .inl (G.2 0, 20, .inl (fun _ => 0)))]) H := hP
  have hD : va_D A ([(h0, .inr (3, [.ref q7, .ref q16, .int 0, .ref q24, .ref q31, .ref q39, .int 0, .long 0])), (q7, .inl (G.2 1, 49, .inr (.inl (vp_updL (vp_updL (vp_updL (vp_updL (vp_updL (vp_updL (vp_updL (fun _ => 0) 4 (25 : Int64)) 5 (25 : Int64)) 6 (3 : Int64)) 9 (20 : Int64)) 10 (160 : Int64)) 11 (1 : Int64)) 13 (-1 : Int64))))), (q16, .inl (G.2 1, 980, .inr (.inl (fun _ => 0)))), (q24, .inl (G.2 1, 100, .inr (.inl (fun _ => 0)))), (q31, .inl (G.2 2, 2, .inl (fun _ => 0))), (q39, .inl (G.2 0, 20, .inl (fun _ => 0)))]) := zc_Ds hD rfl
  refine W.widen (k := 5) (n := 1151) (by decide) (by decide) ?_
  exact W.vret hx hb hr (fun t ht hW => ⟨⟨zc_ads [h0, q7, q16, q24, q31, q39], rfl, rfl, zc_hp ht hP, hD⟩, hS.F ht⟩) hS.2.2 dX3_init_110
end
