section
-- ===== PART A: goes FIRST, ahead of the names: the tables' words, and 'selects' of the private methods out of them =====
/-- a private method of a class that the tables say can be made, by its rows of tables_1 -/
def lw_okq (q : MethodName × Nat) : Prop := (q.1.cls ≠ "java/lang/invoke/MethodHandle" ∧ q.1.cls ≠ "java/lang/invoke/VarHandle") ∧ Cond.instantiable q.1.cls q.2 ∈ tables_1 ∧ Cond.privateMethod q.1 ∈ tables_1 ∧ Cond.instanceMethod q.1 ∈ tables_1
theorem lw_p0 : lw_okq (⟨"RungPlay$Play", "restart", "()V"⟩, 10) := ⟨⟨by decide +kernel, by decide +kernel⟩, List.mem_of_getElem? (i := 115) (by decide +kernel), List.mem_of_getElem? (i := 137) (by decide +kernel), List.mem_of_getElem? (i := 138) (by decide +kernel)⟩
theorem lw_p1 : lw_okq (⟨"RungPlay", "isScore", "(II)Z"⟩, 5) := ⟨⟨by decide +kernel, by decide +kernel⟩, List.mem_of_getElem? (i := 11) (by decide +kernel), List.mem_of_getElem? (i := 235) (by decide +kernel), List.mem_of_getElem? (i := 236) (by decide +kernel)⟩
theorem lw_p2 : lw_okq (⟨"RungPlay$GameOdds", "reckonScore", "(IIII)V"⟩, 5) := ⟨⟨by decide +kernel, by decide +kernel⟩, List.mem_of_getElem? (i := 56) (by decide +kernel), List.mem_of_getElem? (i := 252) (by decide +kernel), List.mem_of_getElem? (i := 253) (by decide +kernel)⟩
theorem lw_p3 : lw_okq (⟨"RungPlay$Grid", "holds", "(II)Z"⟩, 2) := ⟨⟨by decide +kernel, by decide +kernel⟩, List.mem_of_getElem? (i := 62) (by decide +kernel), List.mem_of_getElem? (i := 270) (by decide +kernel), List.mem_of_getElem? (i := 271) (by decide +kernel)⟩
theorem lw_p4 : lw_okq (⟨"RungPlay$Play", "pointsOfA", "()I"⟩, 10) := ⟨⟨by decide +kernel, by decide +kernel⟩, List.mem_of_getElem? (i := 115) (by decide +kernel), List.mem_of_getElem? (i := 375) (by decide +kernel), List.mem_of_getElem? (i := 376) (by decide +kernel)⟩
theorem lw_p5 : lw_okq (⟨"RungPlay$Play", "endGame", "(I)V"⟩, 10) := ⟨⟨by decide +kernel, by decide +kernel⟩, List.mem_of_getElem? (i := 115) (by decide +kernel), List.mem_of_getElem? (i := 381) (by decide +kernel), List.mem_of_getElem? (i := 382) (by decide +kernel)⟩
theorem lw_p6 : lw_okq (⟨"RungPlay$Play", "endSet", "(I)V"⟩, 10) := ⟨⟨by decide +kernel, by decide +kernel⟩, List.mem_of_getElem? (i := 115) (by decide +kernel), List.mem_of_getElem? (i := 386) (by decide +kernel), List.mem_of_getElem? (i := 387) (by decide +kernel)⟩
theorem lw_p7 : lw_okq (⟨"RungPlayModel", "replays", "()V"⟩, 11) := ⟨⟨by decide +kernel, by decide +kernel⟩, List.mem_of_getElem? (i := 424) (by decide +kernel), List.mem_of_getElem? (i := 430) (by decide +kernel), List.mem_of_getElem? (i := 431) (by decide +kernel)⟩
theorem lw_p8 : lw_okq (⟨"RungPlayModel", "beginsGame", "()V"⟩, 11) := ⟨⟨by decide +kernel, by decide +kernel⟩, List.mem_of_getElem? (i := 424) (by decide +kernel), List.mem_of_getElem? (i := 434) (by decide +kernel), List.mem_of_getElem? (i := 435) (by decide +kernel)⟩
theorem lw_p9 : lw_okq (⟨"RungPlayModel", "wonOf", "(III)I"⟩, 11) := ⟨⟨by decide +kernel, by decide +kernel⟩, List.mem_of_getElem? (i := 424) (by decide +kernel), List.mem_of_getElem? (i := 438) (by decide +kernel), List.mem_of_getElem? (i := 439) (by decide +kernel)⟩
theorem lw_p10 : lw_okq (⟨"RungPlayModel", "winsGame", "(I)V"⟩, 11) := ⟨⟨by decide +kernel, by decide +kernel⟩, List.mem_of_getElem? (i := 424) (by decide +kernel), List.mem_of_getElem? (i := 442) (by decide +kernel), List.mem_of_getElem? (i := 443) (by decide +kernel)⟩
theorem lw_p11 : lw_okq (⟨"RungPlayModel", "most", "(I)I"⟩, 11) := ⟨⟨by decide +kernel, by decide +kernel⟩, List.mem_of_getElem? (i := 424) (by decide +kernel), List.mem_of_getElem? (i := 488) (by decide +kernel), List.mem_of_getElem? (i := 489) (by decide +kernel)⟩
theorem lw_p12 : lw_okq (⟨"RungPlayModel", "isAsked", "(IIII)Z"⟩, 11) := ⟨⟨by decide +kernel, by decide +kernel⟩, List.mem_of_getElem? (i := 424) (by decide +kernel), List.mem_of_getElem? (i := 502) (by decide +kernel), List.mem_of_getElem? (i := 503) (by decide +kernel)⟩
theorem lw_p13 : lw_okq (⟨"RungPlayModel", "works", "(I)V"⟩, 11) := ⟨⟨by decide +kernel, by decide +kernel⟩, List.mem_of_getElem? (i := 424) (by decide +kernel), List.mem_of_getElem? (i := 507) (by decide +kernel), List.mem_of_getElem? (i := 508) (by decide +kernel)⟩
theorem lw_p14 : lw_okq (⟨"RungPlayModel", "part", "(JI)J"⟩, 11) := ⟨⟨by decide +kernel, by decide +kernel⟩, List.mem_of_getElem? (i := 424) (by decide +kernel), List.mem_of_getElem? (i := 516) (by decide +kernel), List.mem_of_getElem? (i := 517) (by decide +kernel)⟩
theorem lw_p15 : lw_okq (⟨"RungPlayModel", "gameOf", "(I)J"⟩, 11) := ⟨⟨by decide +kernel, by decide +kernel⟩, List.mem_of_getElem? (i := 424) (by decide +kernel), List.mem_of_getElem? (i := 540) (by decide +kernel), List.mem_of_getElem? (i := 541) (by decide +kernel)⟩
def lw_privs_1 : List (MethodName × Nat) := [(⟨"RungPlay$Play", "restart", "()V"⟩, 10), (⟨"RungPlay", "isScore", "(II)Z"⟩, 5), (⟨"RungPlay$GameOdds", "reckonScore", "(IIII)V"⟩, 5), (⟨"RungPlay$Grid", "holds", "(II)Z"⟩, 2), (⟨"RungPlay$Play", "pointsOfA", "()I"⟩, 10), (⟨"RungPlay$Play", "endGame", "(I)V"⟩, 10), (⟨"RungPlay$Play", "endSet", "(I)V"⟩, 10), (⟨"RungPlayModel", "replays", "()V"⟩, 11), (⟨"RungPlayModel", "beginsGame", "()V"⟩, 11), (⟨"RungPlayModel", "wonOf", "(III)I"⟩, 11), (⟨"RungPlayModel", "winsGame", "(I)V"⟩, 11), (⟨"RungPlayModel", "most", "(I)I"⟩, 11), (⟨"RungPlayModel", "isAsked", "(IIII)Z"⟩, 11), (⟨"RungPlayModel", "works", "(I)V"⟩, 11), (⟨"RungPlayModel", "part", "(JI)J"⟩, 11), (⟨"RungPlayModel", "gameOf", "(I)J"⟩, 11)]
theorem lw_r1 : ∀ q ∈ lw_privs_1, lw_okq q := List.forall_mem_cons.mpr ⟨lw_p0, List.forall_mem_cons.mpr ⟨lw_p1, List.forall_mem_cons.mpr ⟨lw_p2, List.forall_mem_cons.mpr ⟨lw_p3, List.forall_mem_cons.mpr ⟨lw_p4, List.forall_mem_cons.mpr ⟨lw_p5, List.forall_mem_cons.mpr ⟨lw_p6, List.forall_mem_cons.mpr ⟨lw_p7, List.forall_mem_cons.mpr ⟨lw_p8, List.forall_mem_cons.mpr ⟨lw_p9, List.forall_mem_cons.mpr ⟨lw_p10, List.forall_mem_cons.mpr ⟨lw_p11, List.forall_mem_cons.mpr ⟨lw_p12, List.forall_mem_cons.mpr ⟨lw_p13, List.forall_mem_cons.mpr ⟨lw_p14, List.forall_mem_cons.mpr ⟨lw_p15, fun _ h => absurd h List.not_mem_nil⟩⟩⟩⟩⟩⟩⟩⟩⟩⟩⟩⟩⟩⟩⟩⟩
theorem lw_p16 : lw_okq (⟨"RungPlayModel", "worksSets", "()V"⟩, 11) := ⟨⟨by decide +kernel, by decide +kernel⟩, List.mem_of_getElem? (i := 424) (by decide +kernel), List.mem_of_getElem? (i := 549) (by decide +kernel), List.mem_of_getElem? (i := 550) (by decide +kernel)⟩
def lw_privs_2 : List (MethodName × Nat) := [(⟨"RungPlayModel", "worksSets", "()V"⟩, 11)]
theorem lw_r2 : ∀ q ∈ lw_privs_2, lw_okq q := List.forall_mem_cons.mpr ⟨lw_p16, fun _ h => absurd h List.not_mem_nil⟩
def lw_privs : List (MethodName × Nat) := lw_privs_1 ++ (lw_privs_2)
def lw_tbl : List Cond := k2_sels lw_privs ++ tables_1
theorem lw_privs_ok : ∀ q ∈ lw_privs, lw_okq q := by
  show ∀ q ∈ lw_privs_1 ++ (lw_privs_2), lw_okq q
  exact List.forall_mem_append.mpr ⟨lw_r1, lw_r2⟩
-- ===== end of PART A; then your names; then what follows =====
end
section
/-! ===== BEGIN words of one list among another's, by their places ===== -/
theorem goodIn_r {big : List Cond} (ws : List Cond) (ps : List Nat) (hp : ws = ps.filterMap (fun i => big[i]?)) (h : ws.all goodWord = true) : GoodIn big ws := by
  intro w hw
  have h1 := List.all_eq_true.mp h w hw
  rw [hp] at hw
  obtain ⟨i, -, hi⟩ := List.mem_filterMap.mp hw
  have hm : w ∈ big := by first | exact List.mem_of_getElem? hi | exact List.getElem?_mem hi
  exact ⟨hm, good_of_word h1⟩
theorem goodIn_app {big a b : List Cond} (ha : GoodIn big a) (hb : GoodIn big b) : GoodIn big (a ++ b) := fun w h => (List.mem_append.mp h).elim (ha w) (hb w)
theorem goodIn_ca {big a b : List Cond} {c : Cond} (ha : GoodIn big (c :: a)) (hb : GoodIn big b) : GoodIn big (c :: (a ++ b)) := fun w h => (List.mem_cons.mp h).elim (fun e => ha w (List.mem_cons.mpr (Or.inl e))) (fun h => (List.mem_append.mp h).elim (fun h => ha w (List.mem_cons.mpr (Or.inr h))) (hb w))
theorem goodIn_sub {big ws : List Cond} (hm : ∀ w ∈ ws, w ∈ big) (h : ws.all goodWord = true) : GoodIn big ws := fun w hw => ⟨hm w hw, good_of_word (List.all_eq_true.mp h w hw)⟩
/-! ===== END ===== -/

/-! ===== BEGIN printed: names, fields, word lists, decode rows ===== -/
def RX0 : String := "RungPlay$GameOdds"
def TX0 : u_T := fun k => match k with
  | 0 => ("RungPlay$GameOdds", "rules", "LRungPlay$Rules;", true)
  | 1 => ("RungPlay$GameOdds", "chances", "LRungPlay$Grid;", true)
  | 2 => ("RungPlay$GameOdds", "lengths", "LRungPlay$Grid;", true)
  | 3 => ("RungPlay$GameOdds", "to", "I", false)
  | _ => ("RungPlay$GameOdds", "unit", "J", false)
def tyX0 : Nat → FieldType := fun k => match k with
  | 0 => .object "RungPlay$Rules"
  | 1 => .object "RungPlay$Grid"
  | 2 => .object "RungPlay$Grid"
  | 3 => .int
  | _ => .long
abbrev wsX00 : List Cond := u_ws RX0 TX0 5
theorem nmX0 : ∀ a, a < 5 → ∀ b, b < 5 → a ≠ b → (TX0 a).2.1 ≠ (TX0 b).2.1 := by decide +kernel
theorem tyX0_ok : ∀ k, k < 5 → parseFieldDescriptor (TX0 k).2.2.1 = some (tyX0 k) := by decide +kernel
abbrev cX0_init : ByteArray := prog_2_method_1_code
def yX0_init : MethodName := ⟨RX0, "<init>", "(LRungPlay$Rules;)V"⟩
abbrev cX0_bottom : ByteArray := prog_2_method_2_code
def yX0_bottom : MethodName := ⟨RX0, "bottom", "(II)J"⟩
abbrev cX0_reckon : ByteArray := prog_2_method_3_code
def yX0_reckon : MethodName := ⟨RX0, "reckon", "(I)V"⟩
abbrev cX0_reckonScore : ByteArray := prog_2_method_4_code
def yX0_reckonScore : MethodName := ⟨RX0, "reckonScore", "(IIII)V"⟩
abbrev cX0_inMillionths : ByteArray := prog_2_method_5_code
def yX0_inMillionths : MethodName := ⟨RX0, "inMillionths", "(I)J"⟩
abbrev cX0_weightAt : ByteArray := prog_2_method_6_code
def yX0_weightAt : MethodName := ⟨RX0, "weightAt", "(II)J"⟩
abbrev cX0_heaviestScore : ByteArray := prog_2_method_7_code
def yX0_heaviestScore : MethodName := ⟨RX0, "heaviestScore", "(I)I"⟩
abbrev cX0_tens : ByteArray := prog_2_method_8_code
def yX0_tens : MethodName := ⟨RX0, "tens", "(I)J"⟩
def RX1 : String := "RungPlay$Grid"
def TX1 : u_T := fun k => match k with
  | 0 => ("RungPlay$Grid", "side", "I", true)
  | _ => ("RungPlay$Grid", "cells", "[J", true)
def tyX1 : Nat → FieldType := fun k => match k with
  | 0 => .int
  | _ => .array .long
abbrev wsX10 : List Cond := u_ws RX1 TX1 2
theorem nmX1 : ∀ a, a < 2 → ∀ b, b < 2 → a ≠ b → (TX1 a).2.1 ≠ (TX1 b).2.1 := by decide +kernel
theorem tyX1_ok : ∀ k, k < 2 → parseFieldDescriptor (TX1 k).2.2.1 = some (tyX1 k) := by decide +kernel
abbrev cX1_init : ByteArray := prog_3_method_1_code
def yX1_init : MethodName := ⟨RX1, "<init>", "(I)V"⟩
abbrev cX1_at : ByteArray := prog_3_method_2_code
def yX1_at : MethodName := ⟨RX1, "at", "(II)J"⟩
abbrev cX1_put : ByteArray := prog_3_method_3_code
def yX1_put : MethodName := ⟨RX1, "put", "(IIJ)V"⟩
abbrev cX1_holds : ByteArray := prog_3_method_4_code
def yX1_holds : MethodName := ⟨RX1, "holds", "(II)Z"⟩
def RX2 : String := "RungPlay$Ladder"
def TX2 : u_T := fun k => match k with
  | 0 => ("RungPlay$Ladder", "rules", "LRungPlay$Rules;", true)
  | 1 => ("RungPlay$Ladder", "byGames", "LRungPlay$Grid;", true)
  | _ => ("RungPlay$Ladder", "bySets", "LRungPlay$Grid;", true)
def tyX2 : Nat → FieldType := fun k => match k with
  | 0 => .object "RungPlay$Rules"
  | 1 => .object "RungPlay$Grid"
  | _ => .object "RungPlay$Grid"
abbrev wsX20 : List Cond := u_ws RX2 TX2 3
theorem nmX2 : ∀ a, a < 3 → ∀ b, b < 3 → a ≠ b → (TX2 a).2.1 ≠ (TX2 b).2.1 := by decide +kernel
theorem tyX2_ok : ∀ k, k < 3 → parseFieldDescriptor (TX2 k).2.2.1 = some (tyX2 k) := by decide +kernel
abbrev cX2_init : ByteArray := prog_4_method_1_code
def yX2_init : MethodName := ⟨RX2, "<init>", "(LRungPlay$Rules;)V"⟩
abbrev cX2_ofSet : ByteArray := prog_4_method_2_code
def yX2_ofSet : MethodName := ⟨RX2, "ofSet", "(IIIJJ)J"⟩
abbrev cX2_ofMatch : ByteArray := prog_4_method_3_code
def yX2_ofMatch : MethodName := ⟨RX2, "ofMatch", "(IIIJJ)J"⟩
abbrev cX2_ofScore : ByteArray := prog_4_method_4_code
def yX2_ofScore : MethodName := ⟨RX2, "ofScore", "(LRungPlay$Grid;IIIJ)J"⟩
def RX3 : String := "RungPlay$Pair"
def TX3 : u_T := fun k => match k with
  | 0 => ("RungPlay$Pair", "ofA", "I", false)
  | _ => ("RungPlay$Pair", "ofB", "I", false)
def tyX3 : Nat → FieldType := fun k => match k with
  | 0 => .int
  | _ => .int
abbrev wsX30 : List Cond := u_ws RX3 TX3 2
theorem nmX3 : ∀ a, a < 2 → ∀ b, b < 2 → a ≠ b → (TX3 a).2.1 ≠ (TX3 b).2.1 := by decide +kernel
theorem tyX3_ok : ∀ k, k < 2 → parseFieldDescriptor (TX3 k).2.2.1 = some (tyX3 k) := by decide +kernel
abbrev cX3_init : ByteArray := prog_5_method_1_code
def yX3_init : MethodName := ⟨RX3, "<init>", "()V"⟩
abbrev cX3_clear : ByteArray := prog_5_method_2_code
def yX3_clear : MethodName := ⟨RX3, "clear", "()V"⟩
abbrev cX3_oneMore : ByteArray := prog_5_method_3_code
def yX3_oneMore : MethodName := ⟨RX3, "oneMore", "(I)V"⟩
def RX4 : String := "RungPlay$Play"
def TX4 : u_T := fun k => match k with
  | 0 => ("RungPlay$Play", "rules", "LRungPlay$Rules;", true)
  | 1 => ("RungPlay$Play", "wonByA", "[Z", true)
  | 2 => ("RungPlay$Play", "points", "LRungPlay$Pair;", true)
  | 3 => ("RungPlay$Play", "games", "LRungPlay$Pair;", true)
  | 4 => ("RungPlay$Play", "sets", "LRungPlay$Pair;", true)
  | 5 => ("RungPlay$Play", "onServeOfA", "LRungPlay$Pair;", true)
  | 6 => ("RungPlay$Play", "onServeOfB", "LRungPlay$Pair;", true)
  | 7 => ("RungPlay$Play", "servedFirst", "I", false)
  | 8 => ("RungPlay$Play", "serves", "I", false)
  | _ => ("RungPlay$Play", "played", "I", false)
def tyX4 : Nat → FieldType := fun k => match k with
  | 0 => .object "RungPlay$Rules"
  | 1 => .array .boolean
  | 2 => .object "RungPlay$Pair"
  | 3 => .object "RungPlay$Pair"
  | 4 => .object "RungPlay$Pair"
  | 5 => .object "RungPlay$Pair"
  | 6 => .object "RungPlay$Pair"
  | 7 => .int
  | 8 => .int
  | _ => .int
abbrev wsX40 : List Cond := u_ws RX4 TX4 10
theorem nmX4 : ∀ a, a < 10 → ∀ b, b < 10 → a ≠ b → (TX4 a).2.1 ≠ (TX4 b).2.1 := by decide +kernel
theorem tyX4_ok : ∀ k, k < 10 → parseFieldDescriptor (TX4 k).2.2.1 = some (tyX4 k) := by decide +kernel
abbrev cX4_init : ByteArray := prog_6_method_1_code
def yX4_init : MethodName := ⟨RX4, "<init>", "(LRungPlay$Rules;)V"⟩
abbrev cX4_restart : ByteArray := prog_6_method_2_code
def yX4_restart : MethodName := ⟨RX4, "restart", "()V"⟩
abbrev cX4_tell : ByteArray := prog_6_method_3_code
def yX4_tell : MethodName := ⟨RX4, "tell", "(I)V"⟩
abbrev cX4_pointsOfA : ByteArray := prog_6_method_4_code
def yX4_pointsOfA : MethodName := ⟨RX4, "pointsOfA", "()I"⟩
abbrev cX4_endGame : ByteArray := prog_6_method_5_code
def yX4_endGame : MethodName := ⟨RX4, "endGame", "(I)V"⟩
abbrev cX4_endSet : ByteArray := prog_6_method_6_code
def yX4_endSet : MethodName := ⟨RX4, "endSet", "(I)V"⟩
abbrev cX4_takeBack : ByteArray := prog_6_method_7_code
def yX4_takeBack : MethodName := ⟨RX4, "takeBack", "(I)I"⟩
abbrev cX4_matchWinner : ByteArray := prog_6_method_8_code
def yX4_matchWinner : MethodName := ⟨RX4, "matchWinner", "()I"⟩
abbrev cX4_told : ByteArray := prog_6_method_9_code
def yX4_told : MethodName := ⟨RX4, "told", "(I)I"⟩
def RX5 : String := "RungPlay$Rules"
def TX5 : u_T := fun k => match k with
  | 0 => ("RungPlay$Rules", "tenthsOnServeOfA", "I", false)
  | 1 => ("RungPlay$Rules", "tenthsOnServeOfB", "I", false)
  | 2 => ("RungPlay$Rules", "toPoints", "I", false)
  | 3 => ("RungPlay$Rules", "toGames", "I", false)
  | 4 => ("RungPlay$Rules", "toSets", "I", false)
  | 5 => ("RungPlay$Rules", "headStart", "I", false)
  | _ => ("RungPlay$Rules", "kind", "I", false)
def tyX5 : Nat → FieldType := fun k => match k with
  | 0 => .int
  | 1 => .int
  | 2 => .int
  | 3 => .int
  | 4 => .int
  | 5 => .int
  | _ => .int
abbrev wsX50 : List Cond := u_ws RX5 TX5 7
theorem nmX5 : ∀ a, a < 7 → ∀ b, b < 7 → a ≠ b → (TX5 a).2.1 ≠ (TX5 b).2.1 := by decide +kernel
theorem tyX5_ok : ∀ k, k < 7 → parseFieldDescriptor (TX5 k).2.2.1 = some (tyX5 k) := by decide +kernel
abbrev cX5_init : ByteArray := prog_7_method_1_code
def yX5_init : MethodName := ⟨RX5, "<init>", "()V"⟩
abbrev cX5_allows : ByteArray := prog_7_method_2_code
def yX5_allows : MethodName := ⟨RX5, "allows", "(II)Z"⟩
abbrev cX5_told : ByteArray := prog_7_method_3_code
def yX5_told : MethodName := ⟨RX5, "told", "(I)I"⟩
abbrev cX5_tell : ByteArray := prog_7_method_4_code
def yX5_tell : MethodName := ⟨RX5, "tell", "(II)V"⟩
abbrev cX5_tenthsOfA : ByteArray := prog_7_method_5_code
def yX5_tenthsOfA : MethodName := ⟨RX5, "tenthsOfA", "(I)I"⟩
abbrev cX5_headStartOfA : ByteArray := prog_7_method_6_code
def yX5_headStartOfA : MethodName := ⟨RX5, "headStartOfA", "(I)I"⟩
abbrev cX5_gameWinner : ByteArray := prog_7_method_7_code
def yX5_gameWinner : MethodName := ⟨RX5, "gameWinner", "(III)I"⟩
abbrev cX5_setWinner : ByteArray := prog_7_method_8_code
def yX5_setWinner : MethodName := ⟨RX5, "setWinner", "(II)I"⟩
abbrev cX5_matchWinner : ByteArray := prog_7_method_9_code
def yX5_matchWinner : MethodName := ⟨RX5, "matchWinner", "(II)I"⟩
abbrev cX5_leader : ByteArray := prog_7_method_10_code
def yX5_leader : MethodName := ⟨RX5, "leader", "(II)I"⟩
def RX6 : String := "RungPlay"
def TX6 : u_T := fun k => match k with
  | 0 => ("RungPlay", "rules", "LRungPlay$Rules;", true)
  | 1 => ("RungPlay", "odds", "LRungPlay$GameOdds;", true)
  | 2 => ("RungPlay", "ladder", "LRungPlay$Ladder;", true)
  | 3 => ("RungPlay", "play", "LRungPlay$Play;", true)
  | _ => ("RungPlay", "traced", "J", false)
def tyX6 : Nat → FieldType := fun k => match k with
  | 0 => .object "RungPlay$Rules"
  | 1 => .object "RungPlay$GameOdds"
  | 2 => .object "RungPlay$Ladder"
  | 3 => .object "RungPlay$Play"
  | _ => .long
abbrev wsX60 : List Cond := u_ws RX6 TX6 5
theorem nmX6 : ∀ a, a < 5 → ∀ b, b < 5 → a ≠ b → (TX6 a).2.1 ≠ (TX6 b).2.1 := by decide +kernel
theorem tyX6_ok : ∀ k, k < 5 → parseFieldDescriptor (TX6 k).2.2.1 = some (tyX6 k) := by decide +kernel
abbrev cX6_init : ByteArray := prog_1_method_1_code
def yX6_init : MethodName := ⟨RX6, "<init>", "()V"⟩
abbrev cX6_set : ByteArray := prog_1_method_2_code
def yX6_set : MethodName := ⟨RX6, "set", "(II)I"⟩
abbrev cX6_won : ByteArray := prog_1_method_3_code
def yX6_won : MethodName := ⟨RX6, "won", "(III)I"⟩
abbrev cX6_chance : ByteArray := prog_1_method_4_code
def yX6_chance : MethodName := ⟨RX6, "chance", "(IIII)J"⟩
abbrev cX6_lasts : ByteArray := prog_1_method_5_code
def yX6_lasts : MethodName := ⟨RX6, "lasts", "(IIII)J"⟩
abbrev cX6_weight : ByteArray := prog_1_method_6_code
def yX6_weight : MethodName := ⟨RX6, "weight", "(IIII)J"⟩
abbrev cX6_heaviest : ByteArray := prog_1_method_7_code
def yX6_heaviest : MethodName := ⟨RX6, "heaviest", "(II)I"⟩
abbrev cX6_game : ByteArray := prog_1_method_8_code
def yX6_game : MethodName := ⟨RX6, "game", "(I)I"⟩
abbrev cX6_round : ByteArray := prog_1_method_9_code
def yX6_round : MethodName := ⟨RX6, "round", "(III)I"⟩
abbrev cX6_match : ByteArray := prog_1_method_10_code
def yX6_match : MethodName := ⟨RX6, "match", "(III)I"⟩
abbrev cX6_point : ByteArray := prog_1_method_11_code
def yX6_point : MethodName := ⟨RX6, "point", "(I)I"⟩
abbrev cX6_back : ByteArray := prog_1_method_12_code
def yX6_back : MethodName := ⟨RX6, "back", "(I)I"⟩
abbrev cX6_score : ByteArray := prog_1_method_13_code
def yX6_score : MethodName := ⟨RX6, "score", "(I)I"⟩
abbrev cX6_likeliest : ByteArray := prog_1_method_14_code
def yX6_likeliest : MethodName := ⟨RX6, "likeliest", "(II)I"⟩
abbrev cX6_count : ByteArray := prog_1_method_15_code
def yX6_count : MethodName := ⟨RX6, "count", "(I)I"⟩
abbrev cX6_trace : ByteArray := prog_1_method_16_code
def yX6_trace : MethodName := ⟨RX6, "trace", "()J"⟩
abbrev cX6_within : ByteArray := prog_1_method_17_code
def yX6_within : MethodName := ⟨RX6, "within", "(III)Z"⟩
abbrev cX6_isEither : ByteArray := prog_1_method_18_code
def yX6_isEither : MethodName := ⟨RX6, "isEither", "(I)Z"⟩
abbrev cX6_isScore : ByteArray := prog_1_method_19_code
def yX6_isScore : MethodName := ⟨RX6, "isScore", "(II)Z"⟩
abbrev cX6_asked : ByteArray := prog_1_method_20_code
def yX6_asked : MethodName := ⟨RX6, "asked", "(I)I"⟩
abbrev cX6_likelihood : ByteArray := prog_1_method_21_code
def yX6_likelihood : MethodName := ⟨RX6, "likelihood", "(III)J"⟩
abbrev cX6_inLeastForm : ByteArray := prog_1_method_22_code
def yX6_inLeastForm : MethodName := ⟨RX6, "inLeastForm", "(JJI)J"⟩
abbrev cX6_greatestDivisor : ByteArray := prog_1_method_23_code
def yX6_greatestDivisor : MethodName := ⟨RX6, "greatestDivisor", "(JJ)J"⟩
def RX7 : String := "RungPlayModel"
def TX7 : u_T := fun k => match k with
  | 0 => ("RungPlayModel", "thrown", "I", false)
  | 1 => ("RungPlayModel", "trace", "J", false)
  | 2 => ("RungPlayModel", "rules", "[I", true)
  | 3 => ("RungPlayModel", "played", "I", false)
  | 4 => ("RungPlayModel", "points", "[I", true)
  | 5 => ("RungPlayModel", "chances", "[J", true)
  | 6 => ("RungPlayModel", "lasting", "[J", true)
  | 7 => ("RungPlayModel", "below", "J", false)
  | 8 => ("RungPlayModel", "sets", "[J", true)
  | 9 => ("RungPlayModel", "told", "[I", true)
  | _ => ("RungPlayModel", "firstServer", "I", false)
def tyX7 : Nat → FieldType := fun k => match k with
  | 0 => .int
  | 1 => .long
  | 2 => .array .int
  | 3 => .int
  | 4 => .array .int
  | 5 => .array .long
  | 6 => .array .long
  | 7 => .long
  | 8 => .array .long
  | 9 => .array .int
  | _ => .int
abbrev wsX70 : List Cond := u_ws RX7 TX7 11
theorem nmX7 : ∀ a, a < 11 → ∀ b, b < 11 → a ≠ b → (TX7 a).2.1 ≠ (TX7 b).2.1 := by decide +kernel
theorem tyX7_ok : ∀ k, k < 11 → parseFieldDescriptor (TX7 k).2.2.1 = some (tyX7 k) := by decide +kernel
abbrev cX7_init : ByteArray := prog_9_method_1_code
def yX7_init : MethodName := ⟨RX7, "<init>", "()V"⟩
abbrev cX7_in : ByteArray := prog_9_method_3_code
def yX7_in : MethodName := ⟨RX7, "in", "(III)Z"⟩
abbrev cX7_most : ByteArray := prog_9_method_4_code
def yX7_most : MethodName := ⟨RX7, "most", "(I)I"⟩
abbrev cX7_set : ByteArray := prog_9_method_5_code
def yX7_set : MethodName := ⟨RX7, "set", "(II)I"⟩
abbrev cX7_wonOf : ByteArray := prog_9_method_6_code
def yX7_wonOf : MethodName := ⟨RX7, "wonOf", "(III)I"⟩
abbrev cX7_won : ByteArray := prog_9_method_7_code
def yX7_won : MethodName := ⟨RX7, "won", "(III)I"⟩
abbrev cX7_works : ByteArray := prog_9_method_8_code
def yX7_works : MethodName := ⟨RX7, "works", "(I)V"⟩
abbrev cX7_common : ByteArray := prog_9_method_9_code
def yX7_common : MethodName := ⟨RX7, "common", "(JJ)J"⟩
abbrev cX7_part : ByteArray := prog_9_method_10_code
def yX7_part : MethodName := ⟨RX7, "part", "(JI)J"⟩
abbrev cX7_isAsked : ByteArray := prog_9_method_11_code
def yX7_isAsked : MethodName := ⟨RX7, "isAsked", "(IIII)Z"⟩
abbrev cX7_chance : ByteArray := prog_9_method_12_code
def yX7_chance : MethodName := ⟨RX7, "chance", "(IIII)J"⟩
abbrev cX7_lasts : ByteArray := prog_9_method_13_code
def yX7_lasts : MethodName := ⟨RX7, "lasts", "(IIII)J"⟩
abbrev cX7_weight : ByteArray := prog_9_method_14_code
def yX7_weight : MethodName := ⟨RX7, "weight", "(IIII)J"⟩
abbrev cX7_heaviest : ByteArray := prog_9_method_15_code
def yX7_heaviest : MethodName := ⟨RX7, "heaviest", "(II)I"⟩
abbrev cX7_gameOf : ByteArray := prog_9_method_16_code
def yX7_gameOf : MethodName := ⟨RX7, "gameOf", "(I)J"⟩
abbrev cX7_game : ByteArray := prog_9_method_17_code
def yX7_game : MethodName := ⟨RX7, "game", "(I)I"⟩
abbrev cX7_worksSets : ByteArray := prog_9_method_18_code
def yX7_worksSets : MethodName := ⟨RX7, "worksSets", "()V"⟩
abbrev cX7_round : ByteArray := prog_9_method_19_code
def yX7_round : MethodName := ⟨RX7, "round", "(III)I"⟩
abbrev cX7_match : ByteArray := prog_9_method_20_code
def yX7_match : MethodName := ⟨RX7, "match", "(III)I"⟩
abbrev cX7_beginsGame : ByteArray := prog_9_method_21_code
def yX7_beginsGame : MethodName := ⟨RX7, "beginsGame", "()V"⟩
abbrev cX7_winsGame : ByteArray := prog_9_method_22_code
def yX7_winsGame : MethodName := ⟨RX7, "winsGame", "(I)V"⟩
abbrev cX7_replays : ByteArray := prog_9_method_23_code
def yX7_replays : MethodName := ⟨RX7, "replays", "()V"⟩
abbrev cX7_point : ByteArray := prog_9_method_24_code
def yX7_point : MethodName := ⟨RX7, "point", "(I)I"⟩
abbrev cX7_back : ByteArray := prog_9_method_25_code
def yX7_back : MethodName := ⟨RX7, "back", "(I)I"⟩
abbrev cX7_score : ByteArray := prog_9_method_26_code
def yX7_score : MethodName := ⟨RX7, "score", "(I)I"⟩
abbrev cX7_likeliest : ByteArray := prog_9_method_27_code
def yX7_likeliest : MethodName := ⟨RX7, "likeliest", "(II)I"⟩
abbrev cX7_count : ByteArray := prog_9_method_28_code
def yX7_count : MethodName := ⟨RX7, "count", "(I)I"⟩
abbrev cX7_trace : ByteArray := prog_9_method_29_code
def yX7_trace : MethodName := ⟨RX7, "trace", "()J"⟩
def RJ9 : String := "java/lang/Math"
def TJ9 : u_T := fun k => match k with
  | _ => ("", "", "", false)
def tyJ9 : Nat → FieldType := fun k => match k with
  | _ => .int
abbrev wsJ90 : List Cond := u_ws RJ9 TJ9 0
theorem nmJ9 : ∀ a, a < 0 → ∀ b, b < 0 → a ≠ b → (TJ9 a).2.1 ≠ (TJ9 b).2.1 := by decide +kernel
theorem tyJ9_ok : ∀ k, k < 0 → parseFieldDescriptor (TJ9 k).2.2.1 = some (tyJ9 k) := by decide +kernel
abbrev cJ9_abs_0f7a4 : ByteArray := prog_10_method_59_code
def yJ9_abs_0f7a4 : MethodName := ⟨RJ9, "abs", "(I)I"⟩
abbrev cJ9_max_7cf53 : ByteArray := prog_10_method_65_code
def yJ9_max_7cf53 : MethodName := ⟨RJ9, "max", "(II)I"⟩
abbrev cJ9_min_7cf53 : ByteArray := prog_10_method_69_code
def yJ9_min_7cf53 : MethodName := ⟨RJ9, "min", "(II)I"⟩
def RL : String := "RungPlayLaw"
abbrev cL_law : ByteArray := code
def yL_law : MethodName := ⟨RL, "law", "([I)Z"⟩
def wsX1_init : List Cond := .code yX1_init cX1_init 2 none :: ([.methodLink RX1 1 objectInit, .instanceMethod objectInit, .code objectInit ⟨#[0xb1]⟩ 1 none, .methodLink RX1 7 Lib.Math.max.name, .static Lib.Math.max.name, .initialized "java/lang/Math", .code Lib.Math.max.name Lib.Math.max.code 2 (some .int), .fieldLink RX1 13 "RungPlay$Grid" "side" "I", .arrayClass .long, .fieldLink RX1 19 "RungPlay$Grid" "cells" "[J"] ++ wsX10)
def wsX0_init : List Cond := .code yX0_init cX0_init 2 none :: ([.methodLink RX0 3 objectInit, .instanceMethod objectInit, .code objectInit ⟨#[0xb1]⟩ 1 none, .classLink RX0 9 RX1, .instantiable RX1 2, .initialized RX1, .fieldLink RX0 14 "RungPlay$GameOdds" "chances" "LRungPlay$Grid;", .fieldLink RX0 20 "RungPlay$GameOdds" "lengths" "LRungPlay$Grid;", .fieldLink RX0 23 "RungPlay$GameOdds" "rules" "LRungPlay$Rules;", .fieldLink RX0 27 "RungPlay$Rules" "toPoints" "I", .fieldLink RX0 33 "RungPlay$GameOdds" "to" "I", .fieldLink RX0 36 "RungPlay$GameOdds" "unit" "J", .methodLink RX0 11 yX1_init, .instanceMethod yX1_init, .code yX1_init cX1_init 2 none, .methodLink RX1 1 objectInit, .methodLink RX1 7 Lib.Math.max.name, .static Lib.Math.max.name, .initialized "java/lang/Math", .code Lib.Math.max.name Lib.Math.max.code 2 (some .int), .fieldLink RX1 13 "RungPlay$Grid" "side" "I", .arrayClass .long, .fieldLink RX1 19 "RungPlay$Grid" "cells" "[J"] ++ wsX10 ++ wsX00 ++ wsX50)
def wsX0_tens : List Cond := .code yX0_tens cX0_tens 1 (some .long) :: ([])
def wsX0_bottom : List Cond := .code yX0_bottom cX0_bottom 3 (some .long) :: ([.fieldLink RX0 36 "RungPlay$GameOdds" "unit" "J", .fieldLink RX0 33 "RungPlay$GameOdds" "to" "I", .methodLink RX0 40 yX0_tens, .static yX0_tens, .initialized RX0, .code yX0_tens cX0_tens 1 (some .long)] ++ wsX00)
def wsX5_tenthsOfA : List Cond := .code yX5_tenthsOfA cX5_tenthsOfA 2 (some .int) :: ([.fieldLink RX5 9 "RungPlay$Rules" "tenthsOnServeOfA" "I", .fieldLink RX5 15 "RungPlay$Rules" "tenthsOnServeOfB" "I"] ++ wsX50)
def wsX5_leader : List Cond := .code yX5_leader cX5_leader 2 (some .int) :: ([])
def wsX5_gameWinner : List Cond := .code yX5_gameWinner cX5_gameWinner 7 (some .int) :: ([.methodLink RX5 37 Lib.Math.max.name, .static Lib.Math.max.name, .initialized "java/lang/Math", .code Lib.Math.max.name Lib.Math.max.code 2 (some .int), .methodLink RX5 43 Lib.Math.min.name, .static Lib.Math.min.name, .code Lib.Math.min.name Lib.Math.min.code 2 (some .int), .fieldLink RX5 18 "RungPlay$Rules" "toPoints" "I", .methodLink RX5 46 yX5_leader, .static yX5_leader, .initialized RX5, .code yX5_leader cX5_leader 2 (some .int)] ++ wsX50)
def wsX1_holds : List Cond := .code yX1_holds cX1_holds 3 (some .boolean) :: ([.fieldLink RX1 13 "RungPlay$Grid" "side" "I"] ++ wsX10)
def wsX1_put : List Cond := .code yX1_put cX1_put 5 none :: ([.fieldLink RX1 19 "RungPlay$Grid" "cells" "[J", .fieldLink RX1 13 "RungPlay$Grid" "side" "I", .methodLink RX1 23 yX1_holds, .instanceMethod yX1_holds, .selects RX1 yX1_holds yX1_holds, .initialized RX1, .code yX1_holds cX1_holds 3 (some .boolean)] ++ wsX10)
def wsX1_at : List Cond := .code yX1_at cX1_at 3 (some .long) :: ([.fieldLink RX1 19 "RungPlay$Grid" "cells" "[J", .fieldLink RX1 13 "RungPlay$Grid" "side" "I", .methodLink RX1 23 yX1_holds, .instanceMethod yX1_holds, .selects RX1 yX1_holds yX1_holds, .initialized RX1, .code yX1_holds cX1_holds 3 (some .boolean)] ++ wsX10)
def wsX0_reckonScore_r1 : List Cond := [Cond.fieldLink RX0 23 "RungPlay$GameOdds" "rules" "LRungPlay$Rules;", Cond.fieldLink RX0 48 "RungPlay$Rules" "kind" "I", Cond.fieldLink RX0 14 "RungPlay$GameOdds" "chances" "LRungPlay$Grid;", Cond.fieldLink RX0 20 "RungPlay$GameOdds" "lengths" "LRungPlay$Grid;", Cond.fieldLink RX0 33 "RungPlay$GameOdds" "to" "I", Cond.constantLong RX0 73 (200), Cond.methodLink RX0 61 yX5_gameWinner, Cond.instanceMethod yX5_gameWinner, Cond.selects RX5 yX5_gameWinner yX5_gameWinner, Cond.initialized RX5, Cond.code yX5_gameWinner cX5_gameWinner 7 (some .int), Cond.methodLink RX5 37 Lib.Math.max.name, Cond.static Lib.Math.max.name, Cond.initialized "java/lang/Math", Cond.code Lib.Math.max.name Lib.Math.max.code 2 (some .int), Cond.methodLink RX5 43 Lib.Math.min.name, Cond.static Lib.Math.min.name, Cond.code Lib.Math.min.name Lib.Math.min.code 2 (some .int), Cond.fieldLink RX5 18 "RungPlay$Rules" "toPoints" "I", Cond.methodLink RX5 46 yX5_leader, Cond.static yX5_leader, Cond.code yX5_leader cX5_leader 2 (some .int), Cond.methodLink RX0 65 yX0_bottom, Cond.instanceMethod yX0_bottom]
def wsX0_reckonScore_r2 : List Cond := [Cond.selects RX0 yX0_bottom yX0_bottom, Cond.initialized RX0, Cond.code yX0_bottom cX0_bottom 3 (some .long), Cond.fieldLink RX0 36 "RungPlay$GameOdds" "unit" "J", Cond.methodLink RX0 40 yX0_tens, Cond.static yX0_tens, Cond.code yX0_tens cX0_tens 1 (some .long), Cond.methodLink RX0 69 yX1_put, Cond.instanceMethod yX1_put, Cond.selects RX1 yX1_put yX1_put, Cond.initialized RX1, Cond.code yX1_put cX1_put 5 none, Cond.fieldLink RX1 19 "RungPlay$Grid" "cells" "[J", Cond.fieldLink RX1 13 "RungPlay$Grid" "side" "I", Cond.methodLink RX1 23 yX1_holds, Cond.instanceMethod yX1_holds, Cond.selects RX1 yX1_holds yX1_holds, Cond.code yX1_holds cX1_holds 3 (some .boolean), Cond.methodLink RX0 75 yX1_at, Cond.instanceMethod yX1_at, Cond.selects RX1 yX1_at yX1_at, Cond.code yX1_at cX1_at 3 (some .long)]
def wsX0_reckonScore : List Cond := .code yX0_reckonScore cX0_reckonScore 6 none :: ((wsX0_reckonScore_r1 ++ wsX0_reckonScore_r2) ++ wsX00 ++ wsX50 ++ wsX10)
def wsX0_reckon_r1 : List Cond := [Cond.fieldLink RX0 23 "RungPlay$GameOdds" "rules" "LRungPlay$Rules;", Cond.fieldLink RX0 27 "RungPlay$Rules" "toPoints" "I", Cond.fieldLink RX0 33 "RungPlay$GameOdds" "to" "I", Cond.fieldLink RX0 48 "RungPlay$Rules" "kind" "I", Cond.fieldLink RX0 36 "RungPlay$GameOdds" "unit" "J", Cond.methodLink RX0 51 Lib.Math.min.name, Cond.static Lib.Math.min.name, Cond.initialized "java/lang/Math", Cond.code Lib.Math.min.name Lib.Math.min.code 2 (some .int), Cond.methodLink RX0 44 yX5_tenthsOfA, Cond.instanceMethod yX5_tenthsOfA, Cond.selects RX5 yX5_tenthsOfA yX5_tenthsOfA, Cond.initialized RX5, Cond.code yX5_tenthsOfA cX5_tenthsOfA 2 (some .int), Cond.fieldLink RX5 9 "RungPlay$Rules" "tenthsOnServeOfA" "I", Cond.fieldLink RX5 15 "RungPlay$Rules" "tenthsOnServeOfB" "I", Cond.methodLink RX0 57 yX0_reckonScore, Cond.instanceMethod yX0_reckonScore, Cond.selects RX0 yX0_reckonScore yX0_reckonScore, Cond.initialized RX0, Cond.code yX0_reckonScore cX0_reckonScore 6 none, Cond.fieldLink RX0 14 "RungPlay$GameOdds" "chances" "LRungPlay$Grid;", Cond.fieldLink RX0 20 "RungPlay$GameOdds" "lengths" "LRungPlay$Grid;", Cond.constantLong RX0 73 (200)]
def wsX0_reckon_r2 : List Cond := [Cond.methodLink RX0 61 yX5_gameWinner, Cond.instanceMethod yX5_gameWinner, Cond.selects RX5 yX5_gameWinner yX5_gameWinner, Cond.code yX5_gameWinner cX5_gameWinner 7 (some .int), Cond.methodLink RX5 37 Lib.Math.max.name, Cond.static Lib.Math.max.name, Cond.code Lib.Math.max.name Lib.Math.max.code 2 (some .int), Cond.methodLink RX5 43 Lib.Math.min.name, Cond.fieldLink RX5 18 "RungPlay$Rules" "toPoints" "I", Cond.methodLink RX5 46 yX5_leader, Cond.static yX5_leader, Cond.code yX5_leader cX5_leader 2 (some .int), Cond.methodLink RX0 65 yX0_bottom, Cond.instanceMethod yX0_bottom, Cond.selects RX0 yX0_bottom yX0_bottom, Cond.code yX0_bottom cX0_bottom 3 (some .long), Cond.methodLink RX0 40 yX0_tens, Cond.static yX0_tens, Cond.code yX0_tens cX0_tens 1 (some .long), Cond.methodLink RX0 69 yX1_put, Cond.instanceMethod yX1_put, Cond.selects RX1 yX1_put yX1_put, Cond.initialized RX1, Cond.code yX1_put cX1_put 5 none]
def wsX0_reckon_r3 : List Cond := [Cond.fieldLink RX1 19 "RungPlay$Grid" "cells" "[J", Cond.fieldLink RX1 13 "RungPlay$Grid" "side" "I", Cond.methodLink RX1 23 yX1_holds, Cond.instanceMethod yX1_holds, Cond.selects RX1 yX1_holds yX1_holds, Cond.code yX1_holds cX1_holds 3 (some .boolean), Cond.methodLink RX0 75 yX1_at, Cond.instanceMethod yX1_at, Cond.selects RX1 yX1_at yX1_at, Cond.code yX1_at cX1_at 3 (some .long)]
def wsX0_reckon : List Cond := .code yX0_reckon cX0_reckon 6 none :: ((wsX0_reckon_r1 ++ (wsX0_reckon_r2 ++ wsX0_reckon_r3)) ++ wsX00 ++ wsX50 ++ wsX10)
def wsX5_headStartOfA : List Cond := .code yX5_headStartOfA cX5_headStartOfA 2 (some .int) :: ([.fieldLink RX5 27 "RungPlay$Rules" "headStart" "I"] ++ wsX50)
def wsX0_inMillionths_r1 : List Cond := [Cond.fieldLink RX0 23 "RungPlay$GameOdds" "rules" "LRungPlay$Rules;", Cond.fieldLink RX0 14 "RungPlay$GameOdds" "chances" "LRungPlay$Grid;", Cond.constantLong RX0 84 (1000000), Cond.methodLink RX0 78 yX0_reckon, Cond.instanceMethod yX0_reckon, Cond.selects RX0 yX0_reckon yX0_reckon, Cond.initialized RX0, Cond.code yX0_reckon cX0_reckon 6 none, Cond.fieldLink RX0 27 "RungPlay$Rules" "toPoints" "I", Cond.fieldLink RX0 33 "RungPlay$GameOdds" "to" "I", Cond.fieldLink RX0 48 "RungPlay$Rules" "kind" "I", Cond.fieldLink RX0 36 "RungPlay$GameOdds" "unit" "J", Cond.methodLink RX0 51 Lib.Math.min.name, Cond.static Lib.Math.min.name, Cond.initialized "java/lang/Math", Cond.code Lib.Math.min.name Lib.Math.min.code 2 (some .int), Cond.methodLink RX0 44 yX5_tenthsOfA, Cond.instanceMethod yX5_tenthsOfA, Cond.selects RX5 yX5_tenthsOfA yX5_tenthsOfA, Cond.initialized RX5, Cond.code yX5_tenthsOfA cX5_tenthsOfA 2 (some .int), Cond.fieldLink RX5 9 "RungPlay$Rules" "tenthsOnServeOfA" "I", Cond.fieldLink RX5 15 "RungPlay$Rules" "tenthsOnServeOfB" "I", Cond.methodLink RX0 57 yX0_reckonScore]
def wsX0_inMillionths_r2 : List Cond := [Cond.instanceMethod yX0_reckonScore, Cond.selects RX0 yX0_reckonScore yX0_reckonScore, Cond.code yX0_reckonScore cX0_reckonScore 6 none, Cond.fieldLink RX0 20 "RungPlay$GameOdds" "lengths" "LRungPlay$Grid;", Cond.constantLong RX0 73 (200), Cond.methodLink RX0 61 yX5_gameWinner, Cond.instanceMethod yX5_gameWinner, Cond.selects RX5 yX5_gameWinner yX5_gameWinner, Cond.code yX5_gameWinner cX5_gameWinner 7 (some .int), Cond.methodLink RX5 37 Lib.Math.max.name, Cond.static Lib.Math.max.name, Cond.code Lib.Math.max.name Lib.Math.max.code 2 (some .int), Cond.methodLink RX5 43 Lib.Math.min.name, Cond.fieldLink RX5 18 "RungPlay$Rules" "toPoints" "I", Cond.methodLink RX5 46 yX5_leader, Cond.static yX5_leader, Cond.code yX5_leader cX5_leader 2 (some .int), Cond.methodLink RX0 65 yX0_bottom, Cond.instanceMethod yX0_bottom, Cond.selects RX0 yX0_bottom yX0_bottom, Cond.code yX0_bottom cX0_bottom 3 (some .long), Cond.methodLink RX0 40 yX0_tens, Cond.static yX0_tens, Cond.code yX0_tens cX0_tens 1 (some .long)]
def wsX0_inMillionths_r3 : List Cond := [Cond.methodLink RX0 69 yX1_put, Cond.instanceMethod yX1_put, Cond.selects RX1 yX1_put yX1_put, Cond.initialized RX1, Cond.code yX1_put cX1_put 5 none, Cond.fieldLink RX1 19 "RungPlay$Grid" "cells" "[J", Cond.fieldLink RX1 13 "RungPlay$Grid" "side" "I", Cond.methodLink RX1 23 yX1_holds, Cond.instanceMethod yX1_holds, Cond.selects RX1 yX1_holds yX1_holds, Cond.code yX1_holds cX1_holds 3 (some .boolean), Cond.methodLink RX0 75 yX1_at, Cond.instanceMethod yX1_at, Cond.selects RX1 yX1_at yX1_at, Cond.code yX1_at cX1_at 3 (some .long), Cond.methodLink RX0 81 yX5_headStartOfA, Cond.instanceMethod yX5_headStartOfA, Cond.selects RX5 yX5_headStartOfA yX5_headStartOfA, Cond.code yX5_headStartOfA cX5_headStartOfA 2 (some .int), Cond.fieldLink RX5 27 "RungPlay$Rules" "headStart" "I"]
def wsX0_inMillionths : List Cond := .code yX0_inMillionths cX0_inMillionths 5 (some .long) :: ((wsX0_inMillionths_r1 ++ (wsX0_inMillionths_r2 ++ wsX0_inMillionths_r3)) ++ wsX00 ++ wsX50 ++ wsX10)
def wsX0_weightAt : List Cond := .code yX0_weightAt cX0_weightAt 3 (some .long) :: ([.fieldLink RX0 14 "RungPlay$GameOdds" "chances" "LRungPlay$Grid;", .methodLink RX0 75 yX1_at, .instanceMethod yX1_at, .selects RX1 yX1_at yX1_at, .initialized RX1, .code yX1_at cX1_at 3 (some .long), .fieldLink RX1 19 "RungPlay$Grid" "cells" "[J", .fieldLink RX1 13 "RungPlay$Grid" "side" "I", .methodLink RX1 23 yX1_holds, .instanceMethod yX1_holds, .selects RX1 yX1_holds yX1_holds, .code yX1_holds cX1_holds 3 (some .boolean)] ++ wsX00 ++ wsX10)
def wsX0_heaviestScore_r1 : List Cond := [Cond.constantLong RX0 86 (-1), Cond.fieldLink RX0 33 "RungPlay$GameOdds" "to" "I", Cond.fieldLink RX0 23 "RungPlay$GameOdds" "rules" "LRungPlay$Rules;", Cond.fieldLink RX0 48 "RungPlay$Rules" "kind" "I", Cond.methodLink RX0 88 yX0_weightAt, Cond.instanceMethod yX0_weightAt, Cond.selects RX0 yX0_weightAt yX0_weightAt, Cond.initialized RX0, Cond.code yX0_weightAt cX0_weightAt 3 (some .long), Cond.fieldLink RX0 14 "RungPlay$GameOdds" "chances" "LRungPlay$Grid;", Cond.methodLink RX0 75 yX1_at, Cond.instanceMethod yX1_at, Cond.selects RX1 yX1_at yX1_at, Cond.initialized RX1, Cond.code yX1_at cX1_at 3 (some .long), Cond.fieldLink RX1 19 "RungPlay$Grid" "cells" "[J", Cond.fieldLink RX1 13 "RungPlay$Grid" "side" "I", Cond.methodLink RX1 23 yX1_holds, Cond.instanceMethod yX1_holds, Cond.selects RX1 yX1_holds yX1_holds, Cond.code yX1_holds cX1_holds 3 (some .boolean), Cond.methodLink RX0 40 yX0_tens, Cond.static yX0_tens, Cond.code yX0_tens cX0_tens 1 (some .long)]
def wsX0_heaviestScore_r2 : List Cond := [Cond.methodLink RX0 61 yX5_gameWinner, Cond.instanceMethod yX5_gameWinner, Cond.selects RX5 yX5_gameWinner yX5_gameWinner, Cond.initialized RX5, Cond.code yX5_gameWinner cX5_gameWinner 7 (some .int), Cond.methodLink RX5 37 Lib.Math.max.name, Cond.static Lib.Math.max.name, Cond.initialized "java/lang/Math", Cond.code Lib.Math.max.name Lib.Math.max.code 2 (some .int), Cond.methodLink RX5 43 Lib.Math.min.name, Cond.static Lib.Math.min.name, Cond.code Lib.Math.min.name Lib.Math.min.code 2 (some .int), Cond.fieldLink RX5 18 "RungPlay$Rules" "toPoints" "I", Cond.methodLink RX5 46 yX5_leader, Cond.static yX5_leader, Cond.code yX5_leader cX5_leader 2 (some .int)]
def wsX0_heaviestScore : List Cond := .code yX0_heaviestScore cX0_heaviestScore 10 (some .int) :: ((wsX0_heaviestScore_r1 ++ wsX0_heaviestScore_r2) ++ wsX00 ++ wsX50 ++ wsX10)
def wsX2_init : List Cond := .code yX2_init cX2_init 2 none :: ([.methodLink RX2 3 objectInit, .instanceMethod objectInit, .code objectInit ⟨#[0xb1]⟩ 1 none, .classLink RX2 9 RX1, .instantiable RX1 2, .initialized RX1, .fieldLink RX2 14 "RungPlay$Ladder" "byGames" "LRungPlay$Grid;", .fieldLink RX2 20 "RungPlay$Ladder" "bySets" "LRungPlay$Grid;", .fieldLink RX2 23 "RungPlay$Ladder" "rules" "LRungPlay$Rules;", .methodLink RX2 11 yX1_init, .instanceMethod yX1_init, .code yX1_init cX1_init 2 none, .methodLink RX1 1 objectInit, .methodLink RX1 7 Lib.Math.max.name, .static Lib.Math.max.name, .initialized "java/lang/Math", .code Lib.Math.max.name Lib.Math.max.code 2 (some .int), .fieldLink RX1 13 "RungPlay$Grid" "side" "I", .arrayClass .long, .fieldLink RX1 19 "RungPlay$Grid" "cells" "[J"] ++ wsX10 ++ wsX20)
def wsX5_setWinner : List Cond := .code yX5_setWinner cX5_setWinner 5 (some .int) :: ([.methodLink RX5 37 Lib.Math.max.name, .static Lib.Math.max.name, .initialized "java/lang/Math", .code Lib.Math.max.name Lib.Math.max.code 2 (some .int), .fieldLink RX5 21 "RungPlay$Rules" "toGames" "I", .methodLink RX5 49 Lib.Math.abs.name, .static Lib.Math.abs.name, .code Lib.Math.abs.name Lib.Math.abs.code 1 (some .int), .methodLink RX5 46 yX5_leader, .static yX5_leader, .initialized RX5, .code yX5_leader cX5_leader 2 (some .int)] ++ wsX50)
def wsX2_ofScore : List Cond := .code yX2_ofScore cX2_ofScore 6 (some .long) :: ([.constantLong RX2 61 (1000000), .methodLink RX2 47 yX1_at, .instanceMethod yX1_at, .selects RX1 yX1_at yX1_at, .initialized RX1, .code yX1_at cX1_at 3 (some .long), .fieldLink RX1 19 "RungPlay$Grid" "cells" "[J", .fieldLink RX1 13 "RungPlay$Grid" "side" "I", .methodLink RX1 23 yX1_holds, .instanceMethod yX1_holds, .selects RX1 yX1_holds yX1_holds, .code yX1_holds cX1_holds 3 (some .boolean)] ++ wsX10)
def wsX2_ofSet_r1 : List Cond := [Cond.fieldLink RX2 23 "RungPlay$Ladder" "rules" "LRungPlay$Rules;", Cond.fieldLink RX2 27 "RungPlay$Rules" "toGames" "I", Cond.constantLong RX2 33 (2), Cond.fieldLink RX2 14 "RungPlay$Ladder" "byGames" "LRungPlay$Grid;", Cond.methodLink RX2 35 yX5_setWinner, Cond.instanceMethod yX5_setWinner, Cond.selects RX5 yX5_setWinner yX5_setWinner, Cond.initialized RX5, Cond.code yX5_setWinner cX5_setWinner 5 (some .int), Cond.methodLink RX5 37 Lib.Math.max.name, Cond.static Lib.Math.max.name, Cond.initialized "java/lang/Math", Cond.code Lib.Math.max.name Lib.Math.max.code 2 (some .int), Cond.fieldLink RX5 21 "RungPlay$Rules" "toGames" "I", Cond.methodLink RX5 49 Lib.Math.abs.name, Cond.static Lib.Math.abs.name, Cond.code Lib.Math.abs.name Lib.Math.abs.code 1 (some .int), Cond.methodLink RX5 46 yX5_leader, Cond.static yX5_leader, Cond.code yX5_leader cX5_leader 2 (some .int), Cond.methodLink RX2 39 yX2_ofScore, Cond.static yX2_ofScore, Cond.initialized RX2, Cond.code yX2_ofScore cX2_ofScore 6 (some .long)]
def wsX2_ofSet_r2 : List Cond := [Cond.constantLong RX2 61 (1000000), Cond.methodLink RX2 47 yX1_at, Cond.instanceMethod yX1_at, Cond.selects RX1 yX1_at yX1_at, Cond.initialized RX1, Cond.code yX1_at cX1_at 3 (some .long), Cond.fieldLink RX1 19 "RungPlay$Grid" "cells" "[J", Cond.fieldLink RX1 13 "RungPlay$Grid" "side" "I", Cond.methodLink RX1 23 yX1_holds, Cond.instanceMethod yX1_holds, Cond.selects RX1 yX1_holds yX1_holds, Cond.code yX1_holds cX1_holds 3 (some .boolean), Cond.methodLink RX2 43 yX1_put, Cond.instanceMethod yX1_put, Cond.selects RX1 yX1_put yX1_put, Cond.code yX1_put cX1_put 5 none]
def wsX2_ofSet : List Cond := .code yX2_ofSet cX2_ofSet 14 (some .long) :: ((wsX2_ofSet_r1 ++ wsX2_ofSet_r2) ++ wsX20 ++ wsX50 ++ wsX10)
def wsX5_matchWinner : List Cond := .code yX5_matchWinner cX5_matchWinner 3 (some .int) :: ([.fieldLink RX5 24 "RungPlay$Rules" "toSets" "I", .methodLink RX5 46 yX5_leader, .static yX5_leader, .initialized RX5, .code yX5_leader cX5_leader 2 (some .int)] ++ wsX50)
def wsX2_ofMatch_r1 : List Cond := [Cond.fieldLink RX2 23 "RungPlay$Ladder" "rules" "LRungPlay$Rules;", Cond.fieldLink RX2 55 "RungPlay$Rules" "toSets" "I", Cond.fieldLink RX2 20 "RungPlay$Ladder" "bySets" "LRungPlay$Grid;", Cond.methodLink RX2 51 yX2_ofSet, Cond.instanceMethod yX2_ofSet, Cond.selects RX2 yX2_ofSet yX2_ofSet, Cond.initialized RX2, Cond.code yX2_ofSet cX2_ofSet 14 (some .long), Cond.fieldLink RX2 27 "RungPlay$Rules" "toGames" "I", Cond.constantLong RX2 33 (2), Cond.fieldLink RX2 14 "RungPlay$Ladder" "byGames" "LRungPlay$Grid;", Cond.methodLink RX2 35 yX5_setWinner, Cond.instanceMethod yX5_setWinner, Cond.selects RX5 yX5_setWinner yX5_setWinner, Cond.initialized RX5, Cond.code yX5_setWinner cX5_setWinner 5 (some .int), Cond.methodLink RX5 37 Lib.Math.max.name, Cond.static Lib.Math.max.name, Cond.initialized "java/lang/Math", Cond.code Lib.Math.max.name Lib.Math.max.code 2 (some .int), Cond.fieldLink RX5 21 "RungPlay$Rules" "toGames" "I", Cond.methodLink RX5 49 Lib.Math.abs.name, Cond.static Lib.Math.abs.name, Cond.code Lib.Math.abs.name Lib.Math.abs.code 1 (some .int)]
def wsX2_ofMatch_r2 : List Cond := [Cond.methodLink RX5 46 yX5_leader, Cond.static yX5_leader, Cond.code yX5_leader cX5_leader 2 (some .int), Cond.methodLink RX2 39 yX2_ofScore, Cond.static yX2_ofScore, Cond.code yX2_ofScore cX2_ofScore 6 (some .long), Cond.constantLong RX2 61 (1000000), Cond.methodLink RX2 47 yX1_at, Cond.instanceMethod yX1_at, Cond.selects RX1 yX1_at yX1_at, Cond.initialized RX1, Cond.code yX1_at cX1_at 3 (some .long), Cond.fieldLink RX1 19 "RungPlay$Grid" "cells" "[J", Cond.fieldLink RX1 13 "RungPlay$Grid" "side" "I", Cond.methodLink RX1 23 yX1_holds, Cond.instanceMethod yX1_holds, Cond.selects RX1 yX1_holds yX1_holds, Cond.code yX1_holds cX1_holds 3 (some .boolean), Cond.methodLink RX2 43 yX1_put, Cond.instanceMethod yX1_put, Cond.selects RX1 yX1_put yX1_put, Cond.code yX1_put cX1_put 5 none, Cond.methodLink RX2 58 yX5_matchWinner, Cond.instanceMethod yX5_matchWinner]
def wsX2_ofMatch_r3 : List Cond := [Cond.selects RX5 yX5_matchWinner yX5_matchWinner, Cond.code yX5_matchWinner cX5_matchWinner 3 (some .int), Cond.fieldLink RX5 24 "RungPlay$Rules" "toSets" "I"]
def wsX2_ofMatch : List Cond := .code yX2_ofMatch cX2_ofMatch 17 (some .long) :: ((wsX2_ofMatch_r1 ++ (wsX2_ofMatch_r2 ++ wsX2_ofMatch_r3)) ++ wsX20 ++ wsX50 ++ wsX10)
def wsX3_init : List Cond := .code yX3_init cX3_init 1 none :: ([.methodLink RX3 3 objectInit, .instanceMethod objectInit, .code objectInit ⟨#[0xb1]⟩ 1 none])
def wsX3_clear : List Cond := .code yX3_clear cX3_clear 1 none :: ([.fieldLink RX3 9 "RungPlay$Pair" "ofA" "I", .fieldLink RX3 15 "RungPlay$Pair" "ofB" "I"] ++ wsX30)
def wsX3_oneMore : List Cond := .code yX3_oneMore cX3_oneMore 2 none :: ([.fieldLink RX3 9 "RungPlay$Pair" "ofA" "I", .fieldLink RX3 15 "RungPlay$Pair" "ofB" "I"] ++ wsX30)
def wsX4_restart : List Cond := .code yX4_restart cX4_restart 1 none :: ([.fieldLink RX4 18 "RungPlay$Play" "points" "LRungPlay$Pair;", .fieldLink RX4 22 "RungPlay$Play" "games" "LRungPlay$Pair;", .fieldLink RX4 25 "RungPlay$Play" "sets" "LRungPlay$Pair;", .fieldLink RX4 28 "RungPlay$Play" "onServeOfA" "LRungPlay$Pair;", .fieldLink RX4 31 "RungPlay$Play" "onServeOfB" "LRungPlay$Pair;", .fieldLink RX4 44 "RungPlay$Play" "servedFirst" "I", .fieldLink RX4 48 "RungPlay$Play" "serves" "I", .fieldLink RX4 51 "RungPlay$Play" "played" "I", .methodLink RX4 41 yX3_clear, .instanceMethod yX3_clear, .selects RX3 yX3_clear yX3_clear, .initialized RX3, .code yX3_clear cX3_clear 1 none, .fieldLink RX3 9 "RungPlay$Pair" "ofA" "I", .fieldLink RX3 15 "RungPlay$Pair" "ofB" "I"] ++ wsX40 ++ wsX30)
def wsX4_init_r1 : List Cond := [Cond.methodLink RX4 3 objectInit, Cond.instanceMethod objectInit, Cond.code objectInit ⟨#[0xb1]⟩ 1 none, Cond.arrayClass .boolean, Cond.fieldLink RX4 9 "RungPlay$Play" "wonByA" "[Z", Cond.classLink RX4 15 RX3, Cond.instantiable RX3 2, Cond.initialized RX3, Cond.fieldLink RX4 18 "RungPlay$Play" "points" "LRungPlay$Pair;", Cond.fieldLink RX4 22 "RungPlay$Play" "games" "LRungPlay$Pair;", Cond.fieldLink RX4 25 "RungPlay$Play" "sets" "LRungPlay$Pair;", Cond.fieldLink RX4 28 "RungPlay$Play" "onServeOfA" "LRungPlay$Pair;", Cond.fieldLink RX4 31 "RungPlay$Play" "onServeOfB" "LRungPlay$Pair;", Cond.fieldLink RX4 34 "RungPlay$Play" "rules" "LRungPlay$Rules;", Cond.instanceMethod yX3_init, Cond.code yX3_init cX3_init 1 none, Cond.methodLink RX3 3 objectInit, Cond.methodLink RX4 38 yX4_restart, Cond.instanceMethod yX4_restart, Cond.selects RX4 yX4_restart yX4_restart, Cond.initialized RX4, Cond.code yX4_restart cX4_restart 1 none, Cond.fieldLink RX4 44 "RungPlay$Play" "servedFirst" "I", Cond.fieldLink RX4 48 "RungPlay$Play" "serves" "I"]
def wsX4_init_r2 : List Cond := [Cond.fieldLink RX4 51 "RungPlay$Play" "played" "I", Cond.methodLink RX4 41 yX3_clear, Cond.instanceMethod yX3_clear, Cond.selects RX3 yX3_clear yX3_clear, Cond.code yX3_clear cX3_clear 1 none, Cond.fieldLink RX3 9 "RungPlay$Pair" "ofA" "I", Cond.fieldLink RX3 15 "RungPlay$Pair" "ofB" "I"]
def wsX4_init : List Cond := .code yX4_init cX4_init 2 none :: ((wsX4_init_r1 ++ wsX4_init_r2) ++ wsX40 ++ wsX30)
def wsX4_pointsOfA : List Cond := .code yX4_pointsOfA cX4_pointsOfA 1 (some .int) :: ([.fieldLink RX4 18 "RungPlay$Play" "points" "LRungPlay$Pair;", .fieldLink RX4 77 "RungPlay$Pair" "ofA" "I", .fieldLink RX4 34 "RungPlay$Play" "rules" "LRungPlay$Rules;", .fieldLink RX4 48 "RungPlay$Play" "serves" "I", .methodLink RX4 80 yX5_headStartOfA, .instanceMethod yX5_headStartOfA, .selects RX5 yX5_headStartOfA yX5_headStartOfA, .initialized RX5, .code yX5_headStartOfA cX5_headStartOfA 2 (some .int), .fieldLink RX5 27 "RungPlay$Rules" "headStart" "I"] ++ wsX40 ++ wsX30 ++ wsX50)
def wsX4_endSet : List Cond := .code yX4_endSet cX4_endSet 2 none :: ([.fieldLink RX4 22 "RungPlay$Play" "games" "LRungPlay$Pair;", .fieldLink RX4 25 "RungPlay$Play" "sets" "LRungPlay$Pair;", .fieldLink RX4 44 "RungPlay$Play" "servedFirst" "I", .fieldLink RX4 48 "RungPlay$Play" "serves" "I", .methodLink RX4 41 yX3_clear, .instanceMethod yX3_clear, .selects RX3 yX3_clear yX3_clear, .initialized RX3, .code yX3_clear cX3_clear 1 none, .fieldLink RX3 9 "RungPlay$Pair" "ofA" "I", .fieldLink RX3 15 "RungPlay$Pair" "ofB" "I", .methodLink RX4 54 yX3_oneMore, .instanceMethod yX3_oneMore, .selects RX3 yX3_oneMore yX3_oneMore, .code yX3_oneMore cX3_oneMore 2 none] ++ wsX40 ++ wsX30)
def wsX4_endGame_r1 : List Cond := [Cond.fieldLink RX4 18 "RungPlay$Play" "points" "LRungPlay$Pair;", Cond.fieldLink RX4 22 "RungPlay$Play" "games" "LRungPlay$Pair;", Cond.fieldLink RX4 48 "RungPlay$Play" "serves" "I", Cond.fieldLink RX4 34 "RungPlay$Play" "rules" "LRungPlay$Rules;", Cond.fieldLink RX4 77 "RungPlay$Pair" "ofA" "I", Cond.fieldLink RX4 67 "RungPlay$Pair" "ofB" "I", Cond.methodLink RX4 41 yX3_clear, Cond.instanceMethod yX3_clear, Cond.selects RX3 yX3_clear yX3_clear, Cond.initialized RX3, Cond.code yX3_clear cX3_clear 1 none, Cond.fieldLink RX3 9 "RungPlay$Pair" "ofA" "I", Cond.fieldLink RX3 15 "RungPlay$Pair" "ofB" "I", Cond.methodLink RX4 54 yX3_oneMore, Cond.instanceMethod yX3_oneMore, Cond.selects RX3 yX3_oneMore yX3_oneMore, Cond.code yX3_oneMore cX3_oneMore 2 none, Cond.methodLink RX4 84 yX5_setWinner, Cond.instanceMethod yX5_setWinner, Cond.selects RX5 yX5_setWinner yX5_setWinner, Cond.initialized RX5, Cond.code yX5_setWinner cX5_setWinner 5 (some .int), Cond.methodLink RX5 37 Lib.Math.max.name, Cond.static Lib.Math.max.name]
def wsX4_endGame_r2 : List Cond := [Cond.initialized "java/lang/Math", Cond.code Lib.Math.max.name Lib.Math.max.code 2 (some .int), Cond.fieldLink RX5 21 "RungPlay$Rules" "toGames" "I", Cond.methodLink RX5 49 Lib.Math.abs.name, Cond.static Lib.Math.abs.name, Cond.code Lib.Math.abs.name Lib.Math.abs.code 1 (some .int), Cond.methodLink RX5 46 yX5_leader, Cond.static yX5_leader, Cond.code yX5_leader cX5_leader 2 (some .int), Cond.methodLink RX4 88 yX4_endSet, Cond.instanceMethod yX4_endSet, Cond.selects RX4 yX4_endSet yX4_endSet, Cond.initialized RX4, Cond.code yX4_endSet cX4_endSet 2 none, Cond.fieldLink RX4 25 "RungPlay$Play" "sets" "LRungPlay$Pair;", Cond.fieldLink RX4 44 "RungPlay$Play" "servedFirst" "I"]
def wsX4_endGame : List Cond := .code yX4_endGame cX4_endGame 3 none :: ((wsX4_endGame_r1 ++ wsX4_endGame_r2) ++ wsX40 ++ wsX30 ++ wsX50)
def wsX4_tell_r1 : List Cond := [Cond.fieldLink RX4 51 "RungPlay$Play" "played" "I", Cond.fieldLink RX4 9 "RungPlay$Play" "wonByA" "[Z", Cond.fieldLink RX4 48 "RungPlay$Play" "serves" "I", Cond.fieldLink RX4 28 "RungPlay$Play" "onServeOfA" "LRungPlay$Pair;", Cond.fieldLink RX4 31 "RungPlay$Play" "onServeOfB" "LRungPlay$Pair;", Cond.fieldLink RX4 18 "RungPlay$Play" "points" "LRungPlay$Pair;", Cond.fieldLink RX4 34 "RungPlay$Play" "rules" "LRungPlay$Rules;", Cond.fieldLink RX4 58 "RungPlay$Rules" "kind" "I", Cond.fieldLink RX4 67 "RungPlay$Pair" "ofB" "I", Cond.methodLink RX4 54 yX3_oneMore, Cond.instanceMethod yX3_oneMore, Cond.selects RX3 yX3_oneMore yX3_oneMore, Cond.initialized RX3, Cond.code yX3_oneMore cX3_oneMore 2 none, Cond.fieldLink RX3 9 "RungPlay$Pair" "ofA" "I", Cond.fieldLink RX3 15 "RungPlay$Pair" "ofB" "I", Cond.methodLink RX4 63 yX4_pointsOfA, Cond.instanceMethod yX4_pointsOfA, Cond.selects RX4 yX4_pointsOfA yX4_pointsOfA, Cond.initialized RX4, Cond.code yX4_pointsOfA cX4_pointsOfA 1 (some .int), Cond.fieldLink RX4 77 "RungPlay$Pair" "ofA" "I", Cond.methodLink RX4 80 yX5_headStartOfA, Cond.instanceMethod yX5_headStartOfA]
def wsX4_tell_r2 : List Cond := [Cond.selects RX5 yX5_headStartOfA yX5_headStartOfA, Cond.initialized RX5, Cond.code yX5_headStartOfA cX5_headStartOfA 2 (some .int), Cond.fieldLink RX5 27 "RungPlay$Rules" "headStart" "I", Cond.methodLink RX4 70 yX5_gameWinner, Cond.instanceMethod yX5_gameWinner, Cond.selects RX5 yX5_gameWinner yX5_gameWinner, Cond.code yX5_gameWinner cX5_gameWinner 7 (some .int), Cond.methodLink RX5 37 Lib.Math.max.name, Cond.static Lib.Math.max.name, Cond.initialized "java/lang/Math", Cond.code Lib.Math.max.name Lib.Math.max.code 2 (some .int), Cond.methodLink RX5 43 Lib.Math.min.name, Cond.static Lib.Math.min.name, Cond.code Lib.Math.min.name Lib.Math.min.code 2 (some .int), Cond.fieldLink RX5 18 "RungPlay$Rules" "toPoints" "I", Cond.methodLink RX5 46 yX5_leader, Cond.static yX5_leader, Cond.code yX5_leader cX5_leader 2 (some .int), Cond.methodLink RX4 74 yX4_endGame, Cond.instanceMethod yX4_endGame, Cond.selects RX4 yX4_endGame yX4_endGame, Cond.code yX4_endGame cX4_endGame 3 none, Cond.fieldLink RX4 22 "RungPlay$Play" "games" "LRungPlay$Pair;"]
def wsX4_tell_r3 : List Cond := [Cond.methodLink RX4 41 yX3_clear, Cond.instanceMethod yX3_clear, Cond.selects RX3 yX3_clear yX3_clear, Cond.code yX3_clear cX3_clear 1 none, Cond.methodLink RX4 84 yX5_setWinner, Cond.instanceMethod yX5_setWinner, Cond.selects RX5 yX5_setWinner yX5_setWinner, Cond.code yX5_setWinner cX5_setWinner 5 (some .int), Cond.fieldLink RX5 21 "RungPlay$Rules" "toGames" "I", Cond.methodLink RX5 49 Lib.Math.abs.name, Cond.static Lib.Math.abs.name, Cond.code Lib.Math.abs.name Lib.Math.abs.code 1 (some .int), Cond.methodLink RX4 88 yX4_endSet, Cond.instanceMethod yX4_endSet, Cond.selects RX4 yX4_endSet yX4_endSet, Cond.code yX4_endSet cX4_endSet 2 none, Cond.fieldLink RX4 25 "RungPlay$Play" "sets" "LRungPlay$Pair;", Cond.fieldLink RX4 44 "RungPlay$Play" "servedFirst" "I"]
def wsX4_tell : List Cond := .code yX4_tell cX4_tell 3 none :: ((wsX4_tell_r1 ++ (wsX4_tell_r2 ++ wsX4_tell_r3)) ++ wsX40 ++ wsX50 ++ wsX30)
def wsX4_takeBack_r1 : List Cond := [Cond.fieldLink RX4 51 "RungPlay$Play" "played" "I", Cond.methodLink RX4 91 Lib.Math.max.name, Cond.static Lib.Math.max.name, Cond.initialized "java/lang/Math", Cond.code Lib.Math.max.name Lib.Math.max.code 2 (some .int), Cond.fieldLink RX4 9 "RungPlay$Play" "wonByA" "[Z", Cond.methodLink RX4 38 yX4_restart, Cond.instanceMethod yX4_restart, Cond.selects RX4 yX4_restart yX4_restart, Cond.initialized RX4, Cond.code yX4_restart cX4_restart 1 none, Cond.fieldLink RX4 18 "RungPlay$Play" "points" "LRungPlay$Pair;", Cond.fieldLink RX4 22 "RungPlay$Play" "games" "LRungPlay$Pair;", Cond.fieldLink RX4 25 "RungPlay$Play" "sets" "LRungPlay$Pair;", Cond.fieldLink RX4 28 "RungPlay$Play" "onServeOfA" "LRungPlay$Pair;", Cond.fieldLink RX4 31 "RungPlay$Play" "onServeOfB" "LRungPlay$Pair;", Cond.fieldLink RX4 44 "RungPlay$Play" "servedFirst" "I", Cond.fieldLink RX4 48 "RungPlay$Play" "serves" "I", Cond.methodLink RX4 41 yX3_clear, Cond.instanceMethod yX3_clear, Cond.selects RX3 yX3_clear yX3_clear, Cond.initialized RX3, Cond.code yX3_clear cX3_clear 1 none, Cond.fieldLink RX3 9 "RungPlay$Pair" "ofA" "I"]
def wsX4_takeBack_r2 : List Cond := [Cond.fieldLink RX3 15 "RungPlay$Pair" "ofB" "I", Cond.methodLink RX4 96 yX4_tell, Cond.instanceMethod yX4_tell, Cond.selects RX4 yX4_tell yX4_tell, Cond.code yX4_tell cX4_tell 3 none, Cond.fieldLink RX4 34 "RungPlay$Play" "rules" "LRungPlay$Rules;", Cond.fieldLink RX4 58 "RungPlay$Rules" "kind" "I", Cond.fieldLink RX4 67 "RungPlay$Pair" "ofB" "I", Cond.methodLink RX4 54 yX3_oneMore, Cond.instanceMethod yX3_oneMore, Cond.selects RX3 yX3_oneMore yX3_oneMore, Cond.code yX3_oneMore cX3_oneMore 2 none, Cond.methodLink RX4 63 yX4_pointsOfA, Cond.instanceMethod yX4_pointsOfA, Cond.selects RX4 yX4_pointsOfA yX4_pointsOfA, Cond.code yX4_pointsOfA cX4_pointsOfA 1 (some .int), Cond.fieldLink RX4 77 "RungPlay$Pair" "ofA" "I", Cond.methodLink RX4 80 yX5_headStartOfA, Cond.instanceMethod yX5_headStartOfA, Cond.selects RX5 yX5_headStartOfA yX5_headStartOfA, Cond.initialized RX5, Cond.code yX5_headStartOfA cX5_headStartOfA 2 (some .int), Cond.fieldLink RX5 27 "RungPlay$Rules" "headStart" "I", Cond.methodLink RX4 70 yX5_gameWinner]
def wsX4_takeBack_r3 : List Cond := [Cond.instanceMethod yX5_gameWinner, Cond.selects RX5 yX5_gameWinner yX5_gameWinner, Cond.code yX5_gameWinner cX5_gameWinner 7 (some .int), Cond.methodLink RX5 37 Lib.Math.max.name, Cond.methodLink RX5 43 Lib.Math.min.name, Cond.static Lib.Math.min.name, Cond.code Lib.Math.min.name Lib.Math.min.code 2 (some .int), Cond.fieldLink RX5 18 "RungPlay$Rules" "toPoints" "I", Cond.methodLink RX5 46 yX5_leader, Cond.static yX5_leader, Cond.code yX5_leader cX5_leader 2 (some .int), Cond.methodLink RX4 74 yX4_endGame, Cond.instanceMethod yX4_endGame, Cond.selects RX4 yX4_endGame yX4_endGame, Cond.code yX4_endGame cX4_endGame 3 none, Cond.methodLink RX4 84 yX5_setWinner, Cond.instanceMethod yX5_setWinner, Cond.selects RX5 yX5_setWinner yX5_setWinner, Cond.code yX5_setWinner cX5_setWinner 5 (some .int), Cond.fieldLink RX5 21 "RungPlay$Rules" "toGames" "I", Cond.methodLink RX5 49 Lib.Math.abs.name, Cond.static Lib.Math.abs.name, Cond.code Lib.Math.abs.name Lib.Math.abs.code 1 (some .int), Cond.methodLink RX4 88 yX4_endSet]
def wsX4_takeBack_r4 : List Cond := [Cond.instanceMethod yX4_endSet, Cond.selects RX4 yX4_endSet yX4_endSet, Cond.code yX4_endSet cX4_endSet 2 none]
def wsX4_takeBack : List Cond := .code yX4_takeBack cX4_takeBack 5 (some .int) :: ((wsX4_takeBack_r1 ++ (wsX4_takeBack_r2 ++ (wsX4_takeBack_r3 ++ wsX4_takeBack_r4))) ++ wsX40 ++ wsX30 ++ wsX50)
def wsX4_matchWinner : List Cond := .code yX4_matchWinner cX4_matchWinner 2 (some .int) :: ([.fieldLink RX4 34 "RungPlay$Play" "rules" "LRungPlay$Rules;", .fieldLink RX4 25 "RungPlay$Play" "sets" "LRungPlay$Pair;", .fieldLink RX4 77 "RungPlay$Pair" "ofA" "I", .fieldLink RX4 67 "RungPlay$Pair" "ofB" "I", .methodLink RX4 99 yX5_matchWinner, .instanceMethod yX5_matchWinner, .selects RX5 yX5_matchWinner yX5_matchWinner, .initialized RX5, .code yX5_matchWinner cX5_matchWinner 3 (some .int), .fieldLink RX5 24 "RungPlay$Rules" "toSets" "I", .methodLink RX5 46 yX5_leader, .static yX5_leader, .code yX5_leader cX5_leader 2 (some .int)] ++ wsX40 ++ wsX30 ++ wsX50)
def wsX4_told_r1 : List Cond := [Cond.fieldLink RX4 18 "RungPlay$Play" "points" "LRungPlay$Pair;", Cond.fieldLink RX4 67 "RungPlay$Pair" "ofB" "I", Cond.fieldLink RX4 22 "RungPlay$Play" "games" "LRungPlay$Pair;", Cond.fieldLink RX4 77 "RungPlay$Pair" "ofA" "I", Cond.fieldLink RX4 25 "RungPlay$Play" "sets" "LRungPlay$Pair;", Cond.fieldLink RX4 48 "RungPlay$Play" "serves" "I", Cond.fieldLink RX4 51 "RungPlay$Play" "played" "I", Cond.fieldLink RX4 28 "RungPlay$Play" "onServeOfA" "LRungPlay$Pair;", Cond.fieldLink RX4 31 "RungPlay$Play" "onServeOfB" "LRungPlay$Pair;", Cond.methodLink RX4 63 yX4_pointsOfA, Cond.instanceMethod yX4_pointsOfA, Cond.selects RX4 yX4_pointsOfA yX4_pointsOfA, Cond.initialized RX4, Cond.code yX4_pointsOfA cX4_pointsOfA 1 (some .int), Cond.fieldLink RX4 34 "RungPlay$Play" "rules" "LRungPlay$Rules;", Cond.methodLink RX4 80 yX5_headStartOfA, Cond.instanceMethod yX5_headStartOfA, Cond.selects RX5 yX5_headStartOfA yX5_headStartOfA, Cond.initialized RX5, Cond.code yX5_headStartOfA cX5_headStartOfA 2 (some .int), Cond.fieldLink RX5 27 "RungPlay$Rules" "headStart" "I", Cond.methodLink RX4 102 yX4_matchWinner, Cond.instanceMethod yX4_matchWinner, Cond.selects RX4 yX4_matchWinner yX4_matchWinner]
def wsX4_told_r2 : List Cond := [Cond.code yX4_matchWinner cX4_matchWinner 2 (some .int), Cond.methodLink RX4 99 yX5_matchWinner, Cond.instanceMethod yX5_matchWinner, Cond.selects RX5 yX5_matchWinner yX5_matchWinner, Cond.code yX5_matchWinner cX5_matchWinner 3 (some .int), Cond.fieldLink RX5 24 "RungPlay$Rules" "toSets" "I", Cond.methodLink RX5 46 yX5_leader, Cond.static yX5_leader, Cond.code yX5_leader cX5_leader 2 (some .int)]
def wsX4_told : List Cond := .code yX4_told cX4_told 2 (some .int) :: ((wsX4_told_r1 ++ wsX4_told_r2) ++ wsX40 ++ wsX30 ++ wsX50)
def wsX5_init : List Cond := .code yX5_init cX5_init 1 none :: ([.methodLink RX5 3 objectInit, .instanceMethod objectInit, .code objectInit ⟨#[0xb1]⟩ 1 none, .fieldLink RX5 9 "RungPlay$Rules" "tenthsOnServeOfA" "I", .fieldLink RX5 15 "RungPlay$Rules" "tenthsOnServeOfB" "I", .fieldLink RX5 18 "RungPlay$Rules" "toPoints" "I", .fieldLink RX5 21 "RungPlay$Rules" "toGames" "I", .fieldLink RX5 24 "RungPlay$Rules" "toSets" "I", .fieldLink RX5 27 "RungPlay$Rules" "headStart" "I", .fieldLink RX5 30 "RungPlay$Rules" "kind" "I"] ++ wsX50)
def wsX6_within : List Cond := .code yX6_within cX6_within 3 (some .boolean) :: ([])
def wsX5_allows : List Cond := .code yX5_allows cX5_allows 3 (some .boolean) :: ([.fieldLink RX5 18 "RungPlay$Rules" "toPoints" "I", .methodLink RX5 37 Lib.Math.max.name, .static Lib.Math.max.name, .initialized "java/lang/Math", .code Lib.Math.max.name Lib.Math.max.code 2 (some .int), .static yX6_within, .initialized RX6, .code yX6_within cX6_within 3 (some .boolean)] ++ wsX50)
def wsX5_told : List Cond := .code yX5_told cX5_told 2 (some .int) :: ([.fieldLink RX5 9 "RungPlay$Rules" "tenthsOnServeOfA" "I", .fieldLink RX5 15 "RungPlay$Rules" "tenthsOnServeOfB" "I", .fieldLink RX5 18 "RungPlay$Rules" "toPoints" "I", .fieldLink RX5 21 "RungPlay$Rules" "toGames" "I", .fieldLink RX5 24 "RungPlay$Rules" "toSets" "I", .fieldLink RX5 27 "RungPlay$Rules" "headStart" "I", .fieldLink RX5 30 "RungPlay$Rules" "kind" "I"] ++ wsX50)
def wsX5_tell : List Cond := .code yX5_tell cX5_tell 3 none :: ([.fieldLink RX5 9 "RungPlay$Rules" "tenthsOnServeOfA" "I", .fieldLink RX5 15 "RungPlay$Rules" "tenthsOnServeOfB" "I", .fieldLink RX5 18 "RungPlay$Rules" "toPoints" "I", .fieldLink RX5 27 "RungPlay$Rules" "headStart" "I", .fieldLink RX5 21 "RungPlay$Rules" "toGames" "I", .fieldLink RX5 24 "RungPlay$Rules" "toSets" "I", .fieldLink RX5 30 "RungPlay$Rules" "kind" "I"] ++ wsX50)
def wsX6_init_r1 : List Cond := [Cond.methodLink RX6 1 objectInit, Cond.instanceMethod objectInit, Cond.code objectInit ⟨#[0xb1]⟩ 1 none, Cond.classLink RX6 7 RX5, Cond.instantiable RX5 7, Cond.initialized RX5, Cond.fieldLink RX6 10 "RungPlay" "rules" "LRungPlay$Rules;", Cond.classLink RX6 16 RX0, Cond.instantiable RX0 5, Cond.initialized RX0, Cond.fieldLink RX6 21 "RungPlay" "odds" "LRungPlay$GameOdds;", Cond.classLink RX6 25 RX2, Cond.instantiable RX2 3, Cond.initialized RX2, Cond.fieldLink RX6 28 "RungPlay" "ladder" "LRungPlay$Ladder;", Cond.classLink RX6 32 RX4, Cond.instantiable RX4 10, Cond.initialized RX4, Cond.fieldLink RX6 35 "RungPlay" "play" "LRungPlay$Play;", Cond.fieldLink RX6 39 "RungPlay" "traced" "J", Cond.instanceMethod yX5_init, Cond.code yX5_init cX5_init 1 none, Cond.methodLink RX5 3 objectInit, Cond.fieldLink RX5 9 "RungPlay$Rules" "tenthsOnServeOfA" "I"]
def wsX6_init_r2 : List Cond := [Cond.fieldLink RX5 15 "RungPlay$Rules" "tenthsOnServeOfB" "I", Cond.fieldLink RX5 18 "RungPlay$Rules" "toPoints" "I", Cond.fieldLink RX5 21 "RungPlay$Rules" "toGames" "I", Cond.fieldLink RX5 24 "RungPlay$Rules" "toSets" "I", Cond.fieldLink RX5 27 "RungPlay$Rules" "headStart" "I", Cond.fieldLink RX5 30 "RungPlay$Rules" "kind" "I", Cond.methodLink RX6 18 yX0_init, Cond.instanceMethod yX0_init, Cond.code yX0_init cX0_init 2 none, Cond.methodLink RX0 3 objectInit, Cond.classLink RX0 9 RX1, Cond.instantiable RX1 2, Cond.initialized RX1, Cond.fieldLink RX0 14 "RungPlay$GameOdds" "chances" "LRungPlay$Grid;", Cond.fieldLink RX0 20 "RungPlay$GameOdds" "lengths" "LRungPlay$Grid;", Cond.fieldLink RX0 23 "RungPlay$GameOdds" "rules" "LRungPlay$Rules;", Cond.fieldLink RX0 27 "RungPlay$Rules" "toPoints" "I", Cond.fieldLink RX0 33 "RungPlay$GameOdds" "to" "I", Cond.fieldLink RX0 36 "RungPlay$GameOdds" "unit" "J", Cond.methodLink RX0 11 yX1_init, Cond.instanceMethod yX1_init, Cond.code yX1_init cX1_init 2 none, Cond.methodLink RX1 1 objectInit, Cond.methodLink RX1 7 Lib.Math.max.name]
def wsX6_init_r3 : List Cond := [Cond.static Lib.Math.max.name, Cond.initialized "java/lang/Math", Cond.code Lib.Math.max.name Lib.Math.max.code 2 (some .int), Cond.fieldLink RX1 13 "RungPlay$Grid" "side" "I", Cond.arrayClass .long, Cond.fieldLink RX1 19 "RungPlay$Grid" "cells" "[J", Cond.methodLink RX6 27 yX2_init, Cond.instanceMethod yX2_init, Cond.code yX2_init cX2_init 2 none, Cond.methodLink RX2 3 objectInit, Cond.classLink RX2 9 RX1, Cond.fieldLink RX2 14 "RungPlay$Ladder" "byGames" "LRungPlay$Grid;", Cond.fieldLink RX2 20 "RungPlay$Ladder" "bySets" "LRungPlay$Grid;", Cond.fieldLink RX2 23 "RungPlay$Ladder" "rules" "LRungPlay$Rules;", Cond.methodLink RX2 11 yX1_init, Cond.methodLink RX6 34 yX4_init, Cond.instanceMethod yX4_init, Cond.code yX4_init cX4_init 2 none, Cond.methodLink RX4 3 objectInit, Cond.arrayClass .boolean, Cond.fieldLink RX4 9 "RungPlay$Play" "wonByA" "[Z", Cond.classLink RX4 15 RX3, Cond.instantiable RX3 2, Cond.initialized RX3]
def wsX6_init_r4 : List Cond := [Cond.fieldLink RX4 18 "RungPlay$Play" "points" "LRungPlay$Pair;", Cond.fieldLink RX4 22 "RungPlay$Play" "games" "LRungPlay$Pair;", Cond.fieldLink RX4 25 "RungPlay$Play" "sets" "LRungPlay$Pair;", Cond.fieldLink RX4 28 "RungPlay$Play" "onServeOfA" "LRungPlay$Pair;", Cond.fieldLink RX4 31 "RungPlay$Play" "onServeOfB" "LRungPlay$Pair;", Cond.fieldLink RX4 34 "RungPlay$Play" "rules" "LRungPlay$Rules;", Cond.instanceMethod yX3_init, Cond.code yX3_init cX3_init 1 none, Cond.methodLink RX3 3 objectInit, Cond.methodLink RX4 38 yX4_restart, Cond.instanceMethod yX4_restart, Cond.selects RX4 yX4_restart yX4_restart, Cond.code yX4_restart cX4_restart 1 none, Cond.fieldLink RX4 44 "RungPlay$Play" "servedFirst" "I", Cond.fieldLink RX4 48 "RungPlay$Play" "serves" "I", Cond.fieldLink RX4 51 "RungPlay$Play" "played" "I", Cond.methodLink RX4 41 yX3_clear, Cond.instanceMethod yX3_clear, Cond.selects RX3 yX3_clear yX3_clear, Cond.code yX3_clear cX3_clear 1 none, Cond.fieldLink RX3 9 "RungPlay$Pair" "ofA" "I", Cond.fieldLink RX3 15 "RungPlay$Pair" "ofB" "I"]
def wsX6_init : List Cond := .code yX6_init cX6_init 1 none :: ((wsX6_init_r1 ++ (wsX6_init_r2 ++ (wsX6_init_r3 ++ wsX6_init_r4))) ++ wsX50 ++ wsX60 ++ wsX00 ++ wsX20 ++ wsX40 ++ wsX10 ++ wsX30)
def wsX6_set_r1 : List Cond := [Cond.fieldLink RX6 10 "RungPlay" "rules" "LRungPlay$Rules;", Cond.fieldLink RX6 35 "RungPlay" "play" "LRungPlay$Play;", Cond.fieldLink RX6 47 "RungPlay$Play" "played" "I", Cond.methodLink RX6 43 yX5_allows, Cond.instanceMethod yX5_allows, Cond.selects RX5 yX5_allows yX5_allows, Cond.initialized RX5, Cond.code yX5_allows cX5_allows 3 (some .boolean), Cond.fieldLink RX5 18 "RungPlay$Rules" "toPoints" "I", Cond.methodLink RX5 37 Lib.Math.max.name, Cond.static Lib.Math.max.name, Cond.initialized "java/lang/Math", Cond.code Lib.Math.max.name Lib.Math.max.code 2 (some .int), Cond.static yX6_within, Cond.initialized RX6, Cond.code yX6_within cX6_within 3 (some .boolean), Cond.methodLink RX6 51 yX5_told, Cond.instanceMethod yX5_told, Cond.selects RX5 yX5_told yX5_told, Cond.code yX5_told cX5_told 2 (some .int), Cond.fieldLink RX5 9 "RungPlay$Rules" "tenthsOnServeOfA" "I", Cond.fieldLink RX5 15 "RungPlay$Rules" "tenthsOnServeOfB" "I", Cond.fieldLink RX5 21 "RungPlay$Rules" "toGames" "I", Cond.fieldLink RX5 24 "RungPlay$Rules" "toSets" "I"]
def wsX6_set_r2 : List Cond := [Cond.fieldLink RX5 27 "RungPlay$Rules" "headStart" "I", Cond.fieldLink RX5 30 "RungPlay$Rules" "kind" "I", Cond.methodLink RX6 55 yX5_tell, Cond.instanceMethod yX5_tell, Cond.selects RX5 yX5_tell yX5_tell, Cond.code yX5_tell cX5_tell 3 none]
def wsX6_set : List Cond := .code yX6_set cX6_set 5 (some .int) :: ((wsX6_set_r1 ++ wsX6_set_r2) ++ wsX60 ++ wsX40 ++ wsX50)
def wsX6_asked : List Cond := .code yX6_asked cX6_asked 1 (some .int) :: ([])
def wsX6_won_r1 : List Cond := [Cond.fieldLink RX6 39 "RungPlay" "traced" "J", Cond.fieldLink RX6 10 "RungPlay" "rules" "LRungPlay$Rules;", Cond.methodLink RX6 59 yX6_within, Cond.static yX6_within, Cond.initialized RX6, Cond.code yX6_within cX6_within 3 (some .boolean), Cond.methodLink RX6 63 yX6_asked, Cond.static yX6_asked, Cond.code yX6_asked cX6_asked 1 (some .int), Cond.methodLink RX6 66 yX5_gameWinner, Cond.instanceMethod yX5_gameWinner, Cond.selects RX5 yX5_gameWinner yX5_gameWinner, Cond.initialized RX5, Cond.code yX5_gameWinner cX5_gameWinner 7 (some .int), Cond.methodLink RX5 37 Lib.Math.max.name, Cond.static Lib.Math.max.name, Cond.initialized "java/lang/Math", Cond.code Lib.Math.max.name Lib.Math.max.code 2 (some .int), Cond.methodLink RX5 43 Lib.Math.min.name, Cond.static Lib.Math.min.name, Cond.code Lib.Math.min.name Lib.Math.min.code 2 (some .int), Cond.fieldLink RX5 18 "RungPlay$Rules" "toPoints" "I", Cond.methodLink RX5 46 yX5_leader, Cond.static yX5_leader]
def wsX6_won_r2 : List Cond := [Cond.code yX5_leader cX5_leader 2 (some .int)]
def wsX6_won : List Cond := .code yX6_won cX6_won 4 (some .int) :: ((wsX6_won_r1 ++ wsX6_won_r2) ++ wsX60 ++ wsX50)
def wsX6_isScore : List Cond := .code yX6_isScore cX6_isScore 4 (some .boolean) :: ([.fieldLink RX6 10 "RungPlay" "rules" "LRungPlay$Rules;", .fieldLink RX6 106 "RungPlay$Rules" "toPoints" "I", .fieldLink RX6 103 "RungPlay$Rules" "kind" "I", .methodLink RX6 59 yX6_within, .static yX6_within, .initialized RX6, .code yX6_within cX6_within 3 (some .boolean)] ++ wsX60 ++ wsX50)
def wsX6_isEither : List Cond := .code yX6_isEither cX6_isEither 1 (some .boolean) :: ([])
def wsX6_greatestDivisor : List Cond := .code yX6_greatestDivisor cX6_greatestDivisor 11 (some .long) :: ([])
def wsX6_inLeastForm : List Cond := .code yX6_inLeastForm cX6_inLeastForm 9 (some .long) :: ([.methodLink RX6 146 yX6_greatestDivisor, .static yX6_greatestDivisor, .initialized RX6, .code yX6_greatestDivisor cX6_greatestDivisor 11 (some .long)])
def wsX6_chance_r1 : List Cond := [Cond.constantLong RX6 77 (-1000000000000000000), Cond.fieldLink RX6 21 "RungPlay" "odds" "LRungPlay$GameOdds;", Cond.fieldLink RX6 83 "RungPlay$GameOdds" "chances" "LRungPlay$Grid;", Cond.methodLink RX6 70 yX6_isScore, Cond.instanceMethod yX6_isScore, Cond.selects RX6 yX6_isScore yX6_isScore, Cond.initialized RX6, Cond.code yX6_isScore cX6_isScore 4 (some .boolean), Cond.fieldLink RX6 10 "RungPlay" "rules" "LRungPlay$Rules;", Cond.fieldLink RX6 106 "RungPlay$Rules" "toPoints" "I", Cond.fieldLink RX6 103 "RungPlay$Rules" "kind" "I", Cond.methodLink RX6 59 yX6_within, Cond.static yX6_within, Cond.code yX6_within cX6_within 3 (some .boolean), Cond.methodLink RX6 73 yX6_isEither, Cond.static yX6_isEither, Cond.code yX6_isEither cX6_isEither 1 (some .boolean), Cond.methodLink RX6 79 yX0_reckon, Cond.instanceMethod yX0_reckon, Cond.selects RX0 yX0_reckon yX0_reckon, Cond.initialized RX0, Cond.code yX0_reckon cX0_reckon 6 none, Cond.fieldLink RX0 23 "RungPlay$GameOdds" "rules" "LRungPlay$Rules;", Cond.fieldLink RX0 27 "RungPlay$Rules" "toPoints" "I"]
def wsX6_chance_r2 : List Cond := [Cond.fieldLink RX0 33 "RungPlay$GameOdds" "to" "I", Cond.fieldLink RX0 48 "RungPlay$Rules" "kind" "I", Cond.fieldLink RX0 36 "RungPlay$GameOdds" "unit" "J", Cond.methodLink RX0 51 Lib.Math.min.name, Cond.static Lib.Math.min.name, Cond.initialized "java/lang/Math", Cond.code Lib.Math.min.name Lib.Math.min.code 2 (some .int), Cond.methodLink RX0 44 yX5_tenthsOfA, Cond.instanceMethod yX5_tenthsOfA, Cond.selects RX5 yX5_tenthsOfA yX5_tenthsOfA, Cond.initialized RX5, Cond.code yX5_tenthsOfA cX5_tenthsOfA 2 (some .int), Cond.fieldLink RX5 9 "RungPlay$Rules" "tenthsOnServeOfA" "I", Cond.fieldLink RX5 15 "RungPlay$Rules" "tenthsOnServeOfB" "I", Cond.methodLink RX0 57 yX0_reckonScore, Cond.instanceMethod yX0_reckonScore, Cond.selects RX0 yX0_reckonScore yX0_reckonScore, Cond.code yX0_reckonScore cX0_reckonScore 6 none, Cond.fieldLink RX0 14 "RungPlay$GameOdds" "chances" "LRungPlay$Grid;", Cond.fieldLink RX0 20 "RungPlay$GameOdds" "lengths" "LRungPlay$Grid;", Cond.constantLong RX0 73 (200), Cond.methodLink RX0 61 yX5_gameWinner, Cond.instanceMethod yX5_gameWinner, Cond.selects RX5 yX5_gameWinner yX5_gameWinner]
def wsX6_chance_r3 : List Cond := [Cond.code yX5_gameWinner cX5_gameWinner 7 (some .int), Cond.methodLink RX5 37 Lib.Math.max.name, Cond.static Lib.Math.max.name, Cond.code Lib.Math.max.name Lib.Math.max.code 2 (some .int), Cond.methodLink RX5 43 Lib.Math.min.name, Cond.fieldLink RX5 18 "RungPlay$Rules" "toPoints" "I", Cond.methodLink RX5 46 yX5_leader, Cond.static yX5_leader, Cond.code yX5_leader cX5_leader 2 (some .int), Cond.methodLink RX0 65 yX0_bottom, Cond.instanceMethod yX0_bottom, Cond.selects RX0 yX0_bottom yX0_bottom, Cond.code yX0_bottom cX0_bottom 3 (some .long), Cond.methodLink RX0 40 yX0_tens, Cond.static yX0_tens, Cond.code yX0_tens cX0_tens 1 (some .long), Cond.methodLink RX0 69 yX1_put, Cond.instanceMethod yX1_put, Cond.selects RX1 yX1_put yX1_put, Cond.initialized RX1, Cond.code yX1_put cX1_put 5 none, Cond.fieldLink RX1 19 "RungPlay$Grid" "cells" "[J", Cond.fieldLink RX1 13 "RungPlay$Grid" "side" "I", Cond.methodLink RX1 23 yX1_holds]
def wsX6_chance_r4 : List Cond := [Cond.instanceMethod yX1_holds, Cond.selects RX1 yX1_holds yX1_holds, Cond.code yX1_holds cX1_holds 3 (some .boolean), Cond.methodLink RX0 75 yX1_at, Cond.instanceMethod yX1_at, Cond.selects RX1 yX1_at yX1_at, Cond.code yX1_at cX1_at 3 (some .long), Cond.methodLink RX6 87 yX1_at, Cond.methodLink RX6 93 yX0_bottom, Cond.methodLink RX6 96 yX6_inLeastForm, Cond.static yX6_inLeastForm, Cond.code yX6_inLeastForm cX6_inLeastForm 9 (some .long), Cond.methodLink RX6 146 yX6_greatestDivisor, Cond.static yX6_greatestDivisor, Cond.code yX6_greatestDivisor cX6_greatestDivisor 11 (some .long)]
def wsX6_chance : List Cond := .code yX6_chance cX6_chance 5 (some .long) :: ((wsX6_chance_r1 ++ (wsX6_chance_r2 ++ (wsX6_chance_r3 ++ wsX6_chance_r4))) ++ wsX60 ++ wsX00 ++ wsX50 ++ wsX10)
def wsX6_lasts_r1 : List Cond := [Cond.constantLong RX6 77 (-1000000000000000000), Cond.fieldLink RX6 21 "RungPlay" "odds" "LRungPlay$GameOdds;", Cond.fieldLink RX6 100 "RungPlay$GameOdds" "lengths" "LRungPlay$Grid;", Cond.methodLink RX6 70 yX6_isScore, Cond.instanceMethod yX6_isScore, Cond.selects RX6 yX6_isScore yX6_isScore, Cond.initialized RX6, Cond.code yX6_isScore cX6_isScore 4 (some .boolean), Cond.fieldLink RX6 10 "RungPlay" "rules" "LRungPlay$Rules;", Cond.fieldLink RX6 106 "RungPlay$Rules" "toPoints" "I", Cond.fieldLink RX6 103 "RungPlay$Rules" "kind" "I", Cond.methodLink RX6 59 yX6_within, Cond.static yX6_within, Cond.code yX6_within cX6_within 3 (some .boolean), Cond.methodLink RX6 73 yX6_isEither, Cond.static yX6_isEither, Cond.code yX6_isEither cX6_isEither 1 (some .boolean), Cond.methodLink RX6 79 yX0_reckon, Cond.instanceMethod yX0_reckon, Cond.selects RX0 yX0_reckon yX0_reckon, Cond.initialized RX0, Cond.code yX0_reckon cX0_reckon 6 none, Cond.fieldLink RX0 23 "RungPlay$GameOdds" "rules" "LRungPlay$Rules;", Cond.fieldLink RX0 27 "RungPlay$Rules" "toPoints" "I"]
def wsX6_lasts_r2 : List Cond := [Cond.fieldLink RX0 33 "RungPlay$GameOdds" "to" "I", Cond.fieldLink RX0 48 "RungPlay$Rules" "kind" "I", Cond.fieldLink RX0 36 "RungPlay$GameOdds" "unit" "J", Cond.methodLink RX0 51 Lib.Math.min.name, Cond.static Lib.Math.min.name, Cond.initialized "java/lang/Math", Cond.code Lib.Math.min.name Lib.Math.min.code 2 (some .int), Cond.methodLink RX0 44 yX5_tenthsOfA, Cond.instanceMethod yX5_tenthsOfA, Cond.selects RX5 yX5_tenthsOfA yX5_tenthsOfA, Cond.initialized RX5, Cond.code yX5_tenthsOfA cX5_tenthsOfA 2 (some .int), Cond.fieldLink RX5 9 "RungPlay$Rules" "tenthsOnServeOfA" "I", Cond.fieldLink RX5 15 "RungPlay$Rules" "tenthsOnServeOfB" "I", Cond.methodLink RX0 57 yX0_reckonScore, Cond.instanceMethod yX0_reckonScore, Cond.selects RX0 yX0_reckonScore yX0_reckonScore, Cond.code yX0_reckonScore cX0_reckonScore 6 none, Cond.fieldLink RX0 14 "RungPlay$GameOdds" "chances" "LRungPlay$Grid;", Cond.fieldLink RX0 20 "RungPlay$GameOdds" "lengths" "LRungPlay$Grid;", Cond.constantLong RX0 73 (200), Cond.methodLink RX0 61 yX5_gameWinner, Cond.instanceMethod yX5_gameWinner, Cond.selects RX5 yX5_gameWinner yX5_gameWinner]
def wsX6_lasts_r3 : List Cond := [Cond.code yX5_gameWinner cX5_gameWinner 7 (some .int), Cond.methodLink RX5 37 Lib.Math.max.name, Cond.static Lib.Math.max.name, Cond.code Lib.Math.max.name Lib.Math.max.code 2 (some .int), Cond.methodLink RX5 43 Lib.Math.min.name, Cond.fieldLink RX5 18 "RungPlay$Rules" "toPoints" "I", Cond.methodLink RX5 46 yX5_leader, Cond.static yX5_leader, Cond.code yX5_leader cX5_leader 2 (some .int), Cond.methodLink RX0 65 yX0_bottom, Cond.instanceMethod yX0_bottom, Cond.selects RX0 yX0_bottom yX0_bottom, Cond.code yX0_bottom cX0_bottom 3 (some .long), Cond.methodLink RX0 40 yX0_tens, Cond.static yX0_tens, Cond.code yX0_tens cX0_tens 1 (some .long), Cond.methodLink RX0 69 yX1_put, Cond.instanceMethod yX1_put, Cond.selects RX1 yX1_put yX1_put, Cond.initialized RX1, Cond.code yX1_put cX1_put 5 none, Cond.fieldLink RX1 19 "RungPlay$Grid" "cells" "[J", Cond.fieldLink RX1 13 "RungPlay$Grid" "side" "I", Cond.methodLink RX1 23 yX1_holds]
def wsX6_lasts_r4 : List Cond := [Cond.instanceMethod yX1_holds, Cond.selects RX1 yX1_holds yX1_holds, Cond.code yX1_holds cX1_holds 3 (some .boolean), Cond.methodLink RX0 75 yX1_at, Cond.instanceMethod yX1_at, Cond.selects RX1 yX1_at yX1_at, Cond.code yX1_at cX1_at 3 (some .long), Cond.methodLink RX6 87 yX1_at, Cond.methodLink RX6 93 yX0_bottom, Cond.methodLink RX6 96 yX6_inLeastForm, Cond.static yX6_inLeastForm, Cond.code yX6_inLeastForm cX6_inLeastForm 9 (some .long), Cond.methodLink RX6 146 yX6_greatestDivisor, Cond.static yX6_greatestDivisor, Cond.code yX6_greatestDivisor cX6_greatestDivisor 11 (some .long)]
def wsX6_lasts : List Cond := .code yX6_lasts cX6_lasts 5 (some .long) :: ((wsX6_lasts_r1 ++ (wsX6_lasts_r2 ++ (wsX6_lasts_r3 ++ wsX6_lasts_r4))) ++ wsX60 ++ wsX00 ++ wsX50 ++ wsX10)
def wsX6_weight_r1 : List Cond := [Cond.constantLong RX6 77 (-1000000000000000000), Cond.fieldLink RX6 10 "RungPlay" "rules" "LRungPlay$Rules;", Cond.fieldLink RX6 103 "RungPlay$Rules" "kind" "I", Cond.fieldLink RX6 21 "RungPlay" "odds" "LRungPlay$GameOdds;", Cond.fieldLink RX6 106 "RungPlay$Rules" "toPoints" "I", Cond.methodLink RX6 70 yX6_isScore, Cond.instanceMethod yX6_isScore, Cond.selects RX6 yX6_isScore yX6_isScore, Cond.initialized RX6, Cond.code yX6_isScore cX6_isScore 4 (some .boolean), Cond.methodLink RX6 59 yX6_within, Cond.static yX6_within, Cond.code yX6_within cX6_within 3 (some .boolean), Cond.methodLink RX6 73 yX6_isEither, Cond.static yX6_isEither, Cond.code yX6_isEither cX6_isEither 1 (some .boolean), Cond.methodLink RX6 66 yX5_gameWinner, Cond.instanceMethod yX5_gameWinner, Cond.selects RX5 yX5_gameWinner yX5_gameWinner, Cond.initialized RX5, Cond.code yX5_gameWinner cX5_gameWinner 7 (some .int), Cond.methodLink RX5 37 Lib.Math.max.name, Cond.static Lib.Math.max.name, Cond.initialized "java/lang/Math"]
def wsX6_weight_r2 : List Cond := [Cond.code Lib.Math.max.name Lib.Math.max.code 2 (some .int), Cond.methodLink RX5 43 Lib.Math.min.name, Cond.static Lib.Math.min.name, Cond.code Lib.Math.min.name Lib.Math.min.code 2 (some .int), Cond.fieldLink RX5 18 "RungPlay$Rules" "toPoints" "I", Cond.methodLink RX5 46 yX5_leader, Cond.static yX5_leader, Cond.code yX5_leader cX5_leader 2 (some .int), Cond.methodLink RX6 79 yX0_reckon, Cond.instanceMethod yX0_reckon, Cond.selects RX0 yX0_reckon yX0_reckon, Cond.initialized RX0, Cond.code yX0_reckon cX0_reckon 6 none, Cond.fieldLink RX0 23 "RungPlay$GameOdds" "rules" "LRungPlay$Rules;", Cond.fieldLink RX0 27 "RungPlay$Rules" "toPoints" "I", Cond.fieldLink RX0 33 "RungPlay$GameOdds" "to" "I", Cond.fieldLink RX0 48 "RungPlay$Rules" "kind" "I", Cond.fieldLink RX0 36 "RungPlay$GameOdds" "unit" "J", Cond.methodLink RX0 51 Lib.Math.min.name, Cond.methodLink RX0 44 yX5_tenthsOfA, Cond.instanceMethod yX5_tenthsOfA, Cond.selects RX5 yX5_tenthsOfA yX5_tenthsOfA, Cond.code yX5_tenthsOfA cX5_tenthsOfA 2 (some .int), Cond.fieldLink RX5 9 "RungPlay$Rules" "tenthsOnServeOfA" "I"]
def wsX6_weight_r3 : List Cond := [Cond.fieldLink RX5 15 "RungPlay$Rules" "tenthsOnServeOfB" "I", Cond.methodLink RX0 57 yX0_reckonScore, Cond.instanceMethod yX0_reckonScore, Cond.selects RX0 yX0_reckonScore yX0_reckonScore, Cond.code yX0_reckonScore cX0_reckonScore 6 none, Cond.fieldLink RX0 14 "RungPlay$GameOdds" "chances" "LRungPlay$Grid;", Cond.fieldLink RX0 20 "RungPlay$GameOdds" "lengths" "LRungPlay$Grid;", Cond.constantLong RX0 73 (200), Cond.methodLink RX0 61 yX5_gameWinner, Cond.methodLink RX0 65 yX0_bottom, Cond.instanceMethod yX0_bottom, Cond.selects RX0 yX0_bottom yX0_bottom, Cond.code yX0_bottom cX0_bottom 3 (some .long), Cond.methodLink RX0 40 yX0_tens, Cond.static yX0_tens, Cond.code yX0_tens cX0_tens 1 (some .long), Cond.methodLink RX0 69 yX1_put, Cond.instanceMethod yX1_put, Cond.selects RX1 yX1_put yX1_put, Cond.initialized RX1, Cond.code yX1_put cX1_put 5 none, Cond.fieldLink RX1 19 "RungPlay$Grid" "cells" "[J", Cond.fieldLink RX1 13 "RungPlay$Grid" "side" "I", Cond.methodLink RX1 23 yX1_holds]
def wsX6_weight_r4 : List Cond := [Cond.instanceMethod yX1_holds, Cond.selects RX1 yX1_holds yX1_holds, Cond.code yX1_holds cX1_holds 3 (some .boolean), Cond.methodLink RX0 75 yX1_at, Cond.instanceMethod yX1_at, Cond.selects RX1 yX1_at yX1_at, Cond.code yX1_at cX1_at 3 (some .long), Cond.methodLink RX6 109 yX0_weightAt, Cond.instanceMethod yX0_weightAt, Cond.selects RX0 yX0_weightAt yX0_weightAt, Cond.code yX0_weightAt cX0_weightAt 3 (some .long), Cond.methodLink RX6 93 yX0_bottom, Cond.methodLink RX6 96 yX6_inLeastForm, Cond.static yX6_inLeastForm, Cond.code yX6_inLeastForm cX6_inLeastForm 9 (some .long), Cond.methodLink RX6 146 yX6_greatestDivisor, Cond.static yX6_greatestDivisor, Cond.code yX6_greatestDivisor cX6_greatestDivisor 11 (some .long)]
def wsX6_weight : List Cond := .code yX6_weight cX6_weight 6 (some .long) :: ((wsX6_weight_r1 ++ (wsX6_weight_r2 ++ (wsX6_weight_r3 ++ wsX6_weight_r4))) ++ wsX60 ++ wsX50 ++ wsX00 ++ wsX10)
def wsX6_heaviest_r1 : List Cond := [Cond.fieldLink RX6 21 "RungPlay" "odds" "LRungPlay$GameOdds;", Cond.methodLink RX6 73 yX6_isEither, Cond.static yX6_isEither, Cond.initialized RX6, Cond.code yX6_isEither cX6_isEither 1 (some .boolean), Cond.methodLink RX6 79 yX0_reckon, Cond.instanceMethod yX0_reckon, Cond.selects RX0 yX0_reckon yX0_reckon, Cond.initialized RX0, Cond.code yX0_reckon cX0_reckon 6 none, Cond.fieldLink RX0 23 "RungPlay$GameOdds" "rules" "LRungPlay$Rules;", Cond.fieldLink RX0 27 "RungPlay$Rules" "toPoints" "I", Cond.fieldLink RX0 33 "RungPlay$GameOdds" "to" "I", Cond.fieldLink RX0 48 "RungPlay$Rules" "kind" "I", Cond.fieldLink RX0 36 "RungPlay$GameOdds" "unit" "J", Cond.methodLink RX0 51 Lib.Math.min.name, Cond.static Lib.Math.min.name, Cond.initialized "java/lang/Math", Cond.code Lib.Math.min.name Lib.Math.min.code 2 (some .int), Cond.methodLink RX0 44 yX5_tenthsOfA, Cond.instanceMethod yX5_tenthsOfA, Cond.selects RX5 yX5_tenthsOfA yX5_tenthsOfA, Cond.initialized RX5, Cond.code yX5_tenthsOfA cX5_tenthsOfA 2 (some .int)]
def wsX6_heaviest_r2 : List Cond := [Cond.fieldLink RX5 9 "RungPlay$Rules" "tenthsOnServeOfA" "I", Cond.fieldLink RX5 15 "RungPlay$Rules" "tenthsOnServeOfB" "I", Cond.methodLink RX0 57 yX0_reckonScore, Cond.instanceMethod yX0_reckonScore, Cond.selects RX0 yX0_reckonScore yX0_reckonScore, Cond.code yX0_reckonScore cX0_reckonScore 6 none, Cond.fieldLink RX0 14 "RungPlay$GameOdds" "chances" "LRungPlay$Grid;", Cond.fieldLink RX0 20 "RungPlay$GameOdds" "lengths" "LRungPlay$Grid;", Cond.constantLong RX0 73 (200), Cond.methodLink RX0 61 yX5_gameWinner, Cond.instanceMethod yX5_gameWinner, Cond.selects RX5 yX5_gameWinner yX5_gameWinner, Cond.code yX5_gameWinner cX5_gameWinner 7 (some .int), Cond.methodLink RX5 37 Lib.Math.max.name, Cond.static Lib.Math.max.name, Cond.code Lib.Math.max.name Lib.Math.max.code 2 (some .int), Cond.methodLink RX5 43 Lib.Math.min.name, Cond.fieldLink RX5 18 "RungPlay$Rules" "toPoints" "I", Cond.methodLink RX5 46 yX5_leader, Cond.static yX5_leader, Cond.code yX5_leader cX5_leader 2 (some .int), Cond.methodLink RX0 65 yX0_bottom, Cond.instanceMethod yX0_bottom, Cond.selects RX0 yX0_bottom yX0_bottom]
def wsX6_heaviest_r3 : List Cond := [Cond.code yX0_bottom cX0_bottom 3 (some .long), Cond.methodLink RX0 40 yX0_tens, Cond.static yX0_tens, Cond.code yX0_tens cX0_tens 1 (some .long), Cond.methodLink RX0 69 yX1_put, Cond.instanceMethod yX1_put, Cond.selects RX1 yX1_put yX1_put, Cond.initialized RX1, Cond.code yX1_put cX1_put 5 none, Cond.fieldLink RX1 19 "RungPlay$Grid" "cells" "[J", Cond.fieldLink RX1 13 "RungPlay$Grid" "side" "I", Cond.methodLink RX1 23 yX1_holds, Cond.instanceMethod yX1_holds, Cond.selects RX1 yX1_holds yX1_holds, Cond.code yX1_holds cX1_holds 3 (some .boolean), Cond.methodLink RX0 75 yX1_at, Cond.instanceMethod yX1_at, Cond.selects RX1 yX1_at yX1_at, Cond.code yX1_at cX1_at 3 (some .long), Cond.methodLink RX6 112 yX0_heaviestScore, Cond.instanceMethod yX0_heaviestScore, Cond.selects RX0 yX0_heaviestScore yX0_heaviestScore, Cond.code yX0_heaviestScore cX0_heaviestScore 10 (some .int), Cond.constantLong RX0 86 (-1)]
def wsX6_heaviest_r4 : List Cond := [Cond.methodLink RX0 88 yX0_weightAt, Cond.instanceMethod yX0_weightAt, Cond.selects RX0 yX0_weightAt yX0_weightAt, Cond.code yX0_weightAt cX0_weightAt 3 (some .long)]
def wsX6_heaviest : List Cond := .code yX6_heaviest cX6_heaviest 3 (some .int) :: ((wsX6_heaviest_r1 ++ (wsX6_heaviest_r2 ++ (wsX6_heaviest_r3 ++ wsX6_heaviest_r4))) ++ wsX60 ++ wsX00 ++ wsX50 ++ wsX10)
def wsX6_game_r1 : List Cond := [Cond.fieldLink RX6 21 "RungPlay" "odds" "LRungPlay$GameOdds;", Cond.methodLink RX6 73 yX6_isEither, Cond.static yX6_isEither, Cond.initialized RX6, Cond.code yX6_isEither cX6_isEither 1 (some .boolean), Cond.methodLink RX6 115 yX0_inMillionths, Cond.instanceMethod yX0_inMillionths, Cond.selects RX0 yX0_inMillionths yX0_inMillionths, Cond.initialized RX0, Cond.code yX0_inMillionths cX0_inMillionths 5 (some .long), Cond.fieldLink RX0 23 "RungPlay$GameOdds" "rules" "LRungPlay$Rules;", Cond.fieldLink RX0 14 "RungPlay$GameOdds" "chances" "LRungPlay$Grid;", Cond.constantLong RX0 84 (1000000), Cond.methodLink RX0 78 yX0_reckon, Cond.instanceMethod yX0_reckon, Cond.selects RX0 yX0_reckon yX0_reckon, Cond.code yX0_reckon cX0_reckon 6 none, Cond.fieldLink RX0 27 "RungPlay$Rules" "toPoints" "I", Cond.fieldLink RX0 33 "RungPlay$GameOdds" "to" "I", Cond.fieldLink RX0 48 "RungPlay$Rules" "kind" "I", Cond.fieldLink RX0 36 "RungPlay$GameOdds" "unit" "J", Cond.methodLink RX0 51 Lib.Math.min.name, Cond.static Lib.Math.min.name, Cond.initialized "java/lang/Math"]
def wsX6_game_r2 : List Cond := [Cond.code Lib.Math.min.name Lib.Math.min.code 2 (some .int), Cond.methodLink RX0 44 yX5_tenthsOfA, Cond.instanceMethod yX5_tenthsOfA, Cond.selects RX5 yX5_tenthsOfA yX5_tenthsOfA, Cond.initialized RX5, Cond.code yX5_tenthsOfA cX5_tenthsOfA 2 (some .int), Cond.fieldLink RX5 9 "RungPlay$Rules" "tenthsOnServeOfA" "I", Cond.fieldLink RX5 15 "RungPlay$Rules" "tenthsOnServeOfB" "I", Cond.methodLink RX0 57 yX0_reckonScore, Cond.instanceMethod yX0_reckonScore, Cond.selects RX0 yX0_reckonScore yX0_reckonScore, Cond.code yX0_reckonScore cX0_reckonScore 6 none, Cond.fieldLink RX0 20 "RungPlay$GameOdds" "lengths" "LRungPlay$Grid;", Cond.constantLong RX0 73 (200), Cond.methodLink RX0 61 yX5_gameWinner, Cond.instanceMethod yX5_gameWinner, Cond.selects RX5 yX5_gameWinner yX5_gameWinner, Cond.code yX5_gameWinner cX5_gameWinner 7 (some .int), Cond.methodLink RX5 37 Lib.Math.max.name, Cond.static Lib.Math.max.name, Cond.code Lib.Math.max.name Lib.Math.max.code 2 (some .int), Cond.methodLink RX5 43 Lib.Math.min.name, Cond.fieldLink RX5 18 "RungPlay$Rules" "toPoints" "I", Cond.methodLink RX5 46 yX5_leader]
def wsX6_game_r3 : List Cond := [Cond.static yX5_leader, Cond.code yX5_leader cX5_leader 2 (some .int), Cond.methodLink RX0 65 yX0_bottom, Cond.instanceMethod yX0_bottom, Cond.selects RX0 yX0_bottom yX0_bottom, Cond.code yX0_bottom cX0_bottom 3 (some .long), Cond.methodLink RX0 40 yX0_tens, Cond.static yX0_tens, Cond.code yX0_tens cX0_tens 1 (some .long), Cond.methodLink RX0 69 yX1_put, Cond.instanceMethod yX1_put, Cond.selects RX1 yX1_put yX1_put, Cond.initialized RX1, Cond.code yX1_put cX1_put 5 none, Cond.fieldLink RX1 19 "RungPlay$Grid" "cells" "[J", Cond.fieldLink RX1 13 "RungPlay$Grid" "side" "I", Cond.methodLink RX1 23 yX1_holds, Cond.instanceMethod yX1_holds, Cond.selects RX1 yX1_holds yX1_holds, Cond.code yX1_holds cX1_holds 3 (some .boolean), Cond.methodLink RX0 75 yX1_at, Cond.instanceMethod yX1_at, Cond.selects RX1 yX1_at yX1_at, Cond.code yX1_at cX1_at 3 (some .long)]
def wsX6_game_r4 : List Cond := [Cond.methodLink RX0 81 yX5_headStartOfA, Cond.instanceMethod yX5_headStartOfA, Cond.selects RX5 yX5_headStartOfA yX5_headStartOfA, Cond.code yX5_headStartOfA cX5_headStartOfA 2 (some .int), Cond.fieldLink RX5 27 "RungPlay$Rules" "headStart" "I"]
def wsX6_game : List Cond := .code yX6_game cX6_game 2 (some .int) :: ((wsX6_game_r1 ++ (wsX6_game_r2 ++ (wsX6_game_r3 ++ wsX6_game_r4))) ++ wsX60 ++ wsX00 ++ wsX50 ++ wsX10)
def wsX6_round_r1 : List Cond := [Cond.fieldLink RX6 10 "RungPlay" "rules" "LRungPlay$Rules;", Cond.fieldLink RX6 119 "RungPlay$Rules" "toGames" "I", Cond.fieldLink RX6 28 "RungPlay" "ladder" "LRungPlay$Ladder;", Cond.fieldLink RX6 21 "RungPlay" "odds" "LRungPlay$GameOdds;", Cond.methodLink RX6 59 yX6_within, Cond.static yX6_within, Cond.initialized RX6, Cond.code yX6_within cX6_within 3 (some .boolean), Cond.methodLink RX6 73 yX6_isEither, Cond.static yX6_isEither, Cond.code yX6_isEither cX6_isEither 1 (some .boolean), Cond.methodLink RX6 115 yX0_inMillionths, Cond.instanceMethod yX0_inMillionths, Cond.selects RX0 yX0_inMillionths yX0_inMillionths, Cond.initialized RX0, Cond.code yX0_inMillionths cX0_inMillionths 5 (some .long), Cond.fieldLink RX0 23 "RungPlay$GameOdds" "rules" "LRungPlay$Rules;", Cond.fieldLink RX0 14 "RungPlay$GameOdds" "chances" "LRungPlay$Grid;", Cond.constantLong RX0 84 (1000000), Cond.methodLink RX0 78 yX0_reckon, Cond.instanceMethod yX0_reckon, Cond.selects RX0 yX0_reckon yX0_reckon, Cond.code yX0_reckon cX0_reckon 6 none, Cond.fieldLink RX0 27 "RungPlay$Rules" "toPoints" "I"]
def wsX6_round_r2 : List Cond := [Cond.fieldLink RX0 33 "RungPlay$GameOdds" "to" "I", Cond.fieldLink RX0 48 "RungPlay$Rules" "kind" "I", Cond.fieldLink RX0 36 "RungPlay$GameOdds" "unit" "J", Cond.methodLink RX0 51 Lib.Math.min.name, Cond.static Lib.Math.min.name, Cond.initialized "java/lang/Math", Cond.code Lib.Math.min.name Lib.Math.min.code 2 (some .int), Cond.methodLink RX0 44 yX5_tenthsOfA, Cond.instanceMethod yX5_tenthsOfA, Cond.selects RX5 yX5_tenthsOfA yX5_tenthsOfA, Cond.initialized RX5, Cond.code yX5_tenthsOfA cX5_tenthsOfA 2 (some .int), Cond.fieldLink RX5 9 "RungPlay$Rules" "tenthsOnServeOfA" "I", Cond.fieldLink RX5 15 "RungPlay$Rules" "tenthsOnServeOfB" "I", Cond.methodLink RX0 57 yX0_reckonScore, Cond.instanceMethod yX0_reckonScore, Cond.selects RX0 yX0_reckonScore yX0_reckonScore, Cond.code yX0_reckonScore cX0_reckonScore 6 none, Cond.fieldLink RX0 20 "RungPlay$GameOdds" "lengths" "LRungPlay$Grid;", Cond.constantLong RX0 73 (200), Cond.methodLink RX0 61 yX5_gameWinner, Cond.instanceMethod yX5_gameWinner, Cond.selects RX5 yX5_gameWinner yX5_gameWinner, Cond.code yX5_gameWinner cX5_gameWinner 7 (some .int)]
def wsX6_round_r3 : List Cond := [Cond.methodLink RX5 37 Lib.Math.max.name, Cond.static Lib.Math.max.name, Cond.code Lib.Math.max.name Lib.Math.max.code 2 (some .int), Cond.methodLink RX5 43 Lib.Math.min.name, Cond.fieldLink RX5 18 "RungPlay$Rules" "toPoints" "I", Cond.methodLink RX5 46 yX5_leader, Cond.static yX5_leader, Cond.code yX5_leader cX5_leader 2 (some .int), Cond.methodLink RX0 65 yX0_bottom, Cond.instanceMethod yX0_bottom, Cond.selects RX0 yX0_bottom yX0_bottom, Cond.code yX0_bottom cX0_bottom 3 (some .long), Cond.methodLink RX0 40 yX0_tens, Cond.static yX0_tens, Cond.code yX0_tens cX0_tens 1 (some .long), Cond.methodLink RX0 69 yX1_put, Cond.instanceMethod yX1_put, Cond.selects RX1 yX1_put yX1_put, Cond.initialized RX1, Cond.code yX1_put cX1_put 5 none, Cond.fieldLink RX1 19 "RungPlay$Grid" "cells" "[J", Cond.fieldLink RX1 13 "RungPlay$Grid" "side" "I", Cond.methodLink RX1 23 yX1_holds, Cond.instanceMethod yX1_holds]
def wsX6_round_r4 : List Cond := [Cond.selects RX1 yX1_holds yX1_holds, Cond.code yX1_holds cX1_holds 3 (some .boolean), Cond.methodLink RX0 75 yX1_at, Cond.instanceMethod yX1_at, Cond.selects RX1 yX1_at yX1_at, Cond.code yX1_at cX1_at 3 (some .long), Cond.methodLink RX0 81 yX5_headStartOfA, Cond.instanceMethod yX5_headStartOfA, Cond.selects RX5 yX5_headStartOfA yX5_headStartOfA, Cond.code yX5_headStartOfA cX5_headStartOfA 2 (some .int), Cond.fieldLink RX5 27 "RungPlay$Rules" "headStart" "I", Cond.methodLink RX6 122 yX2_ofSet, Cond.instanceMethod yX2_ofSet, Cond.selects RX2 yX2_ofSet yX2_ofSet, Cond.initialized RX2, Cond.code yX2_ofSet cX2_ofSet 14 (some .long), Cond.fieldLink RX2 23 "RungPlay$Ladder" "rules" "LRungPlay$Rules;", Cond.fieldLink RX2 27 "RungPlay$Rules" "toGames" "I", Cond.constantLong RX2 33 (2), Cond.fieldLink RX2 14 "RungPlay$Ladder" "byGames" "LRungPlay$Grid;", Cond.methodLink RX2 35 yX5_setWinner, Cond.instanceMethod yX5_setWinner, Cond.selects RX5 yX5_setWinner yX5_setWinner, Cond.code yX5_setWinner cX5_setWinner 5 (some .int)]
def wsX6_round_r5 : List Cond := [Cond.fieldLink RX5 21 "RungPlay$Rules" "toGames" "I", Cond.methodLink RX5 49 Lib.Math.abs.name, Cond.static Lib.Math.abs.name, Cond.code Lib.Math.abs.name Lib.Math.abs.code 1 (some .int), Cond.methodLink RX2 39 yX2_ofScore, Cond.static yX2_ofScore, Cond.code yX2_ofScore cX2_ofScore 6 (some .long), Cond.constantLong RX2 61 (1000000), Cond.methodLink RX2 47 yX1_at, Cond.methodLink RX2 43 yX1_put]
def wsX6_round : List Cond := .code yX6_round cX6_round 4 (some .int) :: ((wsX6_round_r1 ++ (wsX6_round_r2 ++ (wsX6_round_r3 ++ (wsX6_round_r4 ++ wsX6_round_r5)))) ++ wsX60 ++ wsX50 ++ wsX00 ++ wsX10 ++ wsX20)
def wsX6_match_r1 : List Cond := [Cond.fieldLink RX6 10 "RungPlay" "rules" "LRungPlay$Rules;", Cond.fieldLink RX6 126 "RungPlay$Rules" "toSets" "I", Cond.fieldLink RX6 28 "RungPlay" "ladder" "LRungPlay$Ladder;", Cond.fieldLink RX6 21 "RungPlay" "odds" "LRungPlay$GameOdds;", Cond.methodLink RX6 59 yX6_within, Cond.static yX6_within, Cond.initialized RX6, Cond.code yX6_within cX6_within 3 (some .boolean), Cond.methodLink RX6 73 yX6_isEither, Cond.static yX6_isEither, Cond.code yX6_isEither cX6_isEither 1 (some .boolean), Cond.methodLink RX6 115 yX0_inMillionths, Cond.instanceMethod yX0_inMillionths, Cond.selects RX0 yX0_inMillionths yX0_inMillionths, Cond.initialized RX0, Cond.code yX0_inMillionths cX0_inMillionths 5 (some .long), Cond.fieldLink RX0 23 "RungPlay$GameOdds" "rules" "LRungPlay$Rules;", Cond.fieldLink RX0 14 "RungPlay$GameOdds" "chances" "LRungPlay$Grid;", Cond.constantLong RX0 84 (1000000), Cond.methodLink RX0 78 yX0_reckon, Cond.instanceMethod yX0_reckon, Cond.selects RX0 yX0_reckon yX0_reckon, Cond.code yX0_reckon cX0_reckon 6 none, Cond.fieldLink RX0 27 "RungPlay$Rules" "toPoints" "I"]
def wsX6_match_r2 : List Cond := [Cond.fieldLink RX0 33 "RungPlay$GameOdds" "to" "I", Cond.fieldLink RX0 48 "RungPlay$Rules" "kind" "I", Cond.fieldLink RX0 36 "RungPlay$GameOdds" "unit" "J", Cond.methodLink RX0 51 Lib.Math.min.name, Cond.static Lib.Math.min.name, Cond.initialized "java/lang/Math", Cond.code Lib.Math.min.name Lib.Math.min.code 2 (some .int), Cond.methodLink RX0 44 yX5_tenthsOfA, Cond.instanceMethod yX5_tenthsOfA, Cond.selects RX5 yX5_tenthsOfA yX5_tenthsOfA, Cond.initialized RX5, Cond.code yX5_tenthsOfA cX5_tenthsOfA 2 (some .int), Cond.fieldLink RX5 9 "RungPlay$Rules" "tenthsOnServeOfA" "I", Cond.fieldLink RX5 15 "RungPlay$Rules" "tenthsOnServeOfB" "I", Cond.methodLink RX0 57 yX0_reckonScore, Cond.instanceMethod yX0_reckonScore, Cond.selects RX0 yX0_reckonScore yX0_reckonScore, Cond.code yX0_reckonScore cX0_reckonScore 6 none, Cond.fieldLink RX0 20 "RungPlay$GameOdds" "lengths" "LRungPlay$Grid;", Cond.constantLong RX0 73 (200), Cond.methodLink RX0 61 yX5_gameWinner, Cond.instanceMethod yX5_gameWinner, Cond.selects RX5 yX5_gameWinner yX5_gameWinner, Cond.code yX5_gameWinner cX5_gameWinner 7 (some .int)]
def wsX6_match_r3 : List Cond := [Cond.methodLink RX5 37 Lib.Math.max.name, Cond.static Lib.Math.max.name, Cond.code Lib.Math.max.name Lib.Math.max.code 2 (some .int), Cond.methodLink RX5 43 Lib.Math.min.name, Cond.fieldLink RX5 18 "RungPlay$Rules" "toPoints" "I", Cond.methodLink RX5 46 yX5_leader, Cond.static yX5_leader, Cond.code yX5_leader cX5_leader 2 (some .int), Cond.methodLink RX0 65 yX0_bottom, Cond.instanceMethod yX0_bottom, Cond.selects RX0 yX0_bottom yX0_bottom, Cond.code yX0_bottom cX0_bottom 3 (some .long), Cond.methodLink RX0 40 yX0_tens, Cond.static yX0_tens, Cond.code yX0_tens cX0_tens 1 (some .long), Cond.methodLink RX0 69 yX1_put, Cond.instanceMethod yX1_put, Cond.selects RX1 yX1_put yX1_put, Cond.initialized RX1, Cond.code yX1_put cX1_put 5 none, Cond.fieldLink RX1 19 "RungPlay$Grid" "cells" "[J", Cond.fieldLink RX1 13 "RungPlay$Grid" "side" "I", Cond.methodLink RX1 23 yX1_holds, Cond.instanceMethod yX1_holds]
def wsX6_match_r4 : List Cond := [Cond.selects RX1 yX1_holds yX1_holds, Cond.code yX1_holds cX1_holds 3 (some .boolean), Cond.methodLink RX0 75 yX1_at, Cond.instanceMethod yX1_at, Cond.selects RX1 yX1_at yX1_at, Cond.code yX1_at cX1_at 3 (some .long), Cond.methodLink RX0 81 yX5_headStartOfA, Cond.instanceMethod yX5_headStartOfA, Cond.selects RX5 yX5_headStartOfA yX5_headStartOfA, Cond.code yX5_headStartOfA cX5_headStartOfA 2 (some .int), Cond.fieldLink RX5 27 "RungPlay$Rules" "headStart" "I", Cond.methodLink RX6 129 yX2_ofMatch, Cond.instanceMethod yX2_ofMatch, Cond.selects RX2 yX2_ofMatch yX2_ofMatch, Cond.initialized RX2, Cond.code yX2_ofMatch cX2_ofMatch 17 (some .long), Cond.fieldLink RX2 23 "RungPlay$Ladder" "rules" "LRungPlay$Rules;", Cond.fieldLink RX2 55 "RungPlay$Rules" "toSets" "I", Cond.fieldLink RX2 20 "RungPlay$Ladder" "bySets" "LRungPlay$Grid;", Cond.methodLink RX2 51 yX2_ofSet, Cond.instanceMethod yX2_ofSet, Cond.selects RX2 yX2_ofSet yX2_ofSet, Cond.code yX2_ofSet cX2_ofSet 14 (some .long), Cond.fieldLink RX2 27 "RungPlay$Rules" "toGames" "I"]
def wsX6_match_r5 : List Cond := [Cond.constantLong RX2 33 (2), Cond.fieldLink RX2 14 "RungPlay$Ladder" "byGames" "LRungPlay$Grid;", Cond.methodLink RX2 35 yX5_setWinner, Cond.instanceMethod yX5_setWinner, Cond.selects RX5 yX5_setWinner yX5_setWinner, Cond.code yX5_setWinner cX5_setWinner 5 (some .int), Cond.fieldLink RX5 21 "RungPlay$Rules" "toGames" "I", Cond.methodLink RX5 49 Lib.Math.abs.name, Cond.static Lib.Math.abs.name, Cond.code Lib.Math.abs.name Lib.Math.abs.code 1 (some .int), Cond.methodLink RX2 39 yX2_ofScore, Cond.static yX2_ofScore, Cond.code yX2_ofScore cX2_ofScore 6 (some .long), Cond.constantLong RX2 61 (1000000), Cond.methodLink RX2 47 yX1_at, Cond.methodLink RX2 43 yX1_put, Cond.methodLink RX2 58 yX5_matchWinner, Cond.instanceMethod yX5_matchWinner, Cond.selects RX5 yX5_matchWinner yX5_matchWinner, Cond.code yX5_matchWinner cX5_matchWinner 3 (some .int), Cond.fieldLink RX5 24 "RungPlay$Rules" "toSets" "I"]
def wsX6_match : List Cond := .code yX6_match cX6_match 4 (some .int) :: ((wsX6_match_r1 ++ (wsX6_match_r2 ++ (wsX6_match_r3 ++ (wsX6_match_r4 ++ wsX6_match_r5)))) ++ wsX60 ++ wsX50 ++ wsX00 ++ wsX10 ++ wsX20)
def wsX6_point_r1 : List Cond := [Cond.fieldLink RX6 35 "RungPlay" "play" "LRungPlay$Play;", Cond.fieldLink RX6 47 "RungPlay$Play" "played" "I", Cond.methodLink RX6 73 yX6_isEither, Cond.static yX6_isEither, Cond.initialized RX6, Cond.code yX6_isEither cX6_isEither 1 (some .boolean), Cond.methodLink RX6 132 yX4_matchWinner, Cond.instanceMethod yX4_matchWinner, Cond.selects RX4 yX4_matchWinner yX4_matchWinner, Cond.initialized RX4, Cond.code yX4_matchWinner cX4_matchWinner 2 (some .int), Cond.fieldLink RX4 34 "RungPlay$Play" "rules" "LRungPlay$Rules;", Cond.fieldLink RX4 25 "RungPlay$Play" "sets" "LRungPlay$Pair;", Cond.fieldLink RX4 77 "RungPlay$Pair" "ofA" "I", Cond.fieldLink RX4 67 "RungPlay$Pair" "ofB" "I", Cond.methodLink RX4 99 yX5_matchWinner, Cond.instanceMethod yX5_matchWinner, Cond.selects RX5 yX5_matchWinner yX5_matchWinner, Cond.initialized RX5, Cond.code yX5_matchWinner cX5_matchWinner 3 (some .int), Cond.fieldLink RX5 24 "RungPlay$Rules" "toSets" "I", Cond.methodLink RX5 46 yX5_leader, Cond.static yX5_leader, Cond.code yX5_leader cX5_leader 2 (some .int)]
def wsX6_point_r2 : List Cond := [Cond.methodLink RX6 136 yX4_tell, Cond.instanceMethod yX4_tell, Cond.selects RX4 yX4_tell yX4_tell, Cond.code yX4_tell cX4_tell 3 none, Cond.fieldLink RX4 51 "RungPlay$Play" "played" "I", Cond.fieldLink RX4 9 "RungPlay$Play" "wonByA" "[Z", Cond.fieldLink RX4 48 "RungPlay$Play" "serves" "I", Cond.fieldLink RX4 28 "RungPlay$Play" "onServeOfA" "LRungPlay$Pair;", Cond.fieldLink RX4 31 "RungPlay$Play" "onServeOfB" "LRungPlay$Pair;", Cond.fieldLink RX4 18 "RungPlay$Play" "points" "LRungPlay$Pair;", Cond.fieldLink RX4 58 "RungPlay$Rules" "kind" "I", Cond.methodLink RX4 54 yX3_oneMore, Cond.instanceMethod yX3_oneMore, Cond.selects RX3 yX3_oneMore yX3_oneMore, Cond.initialized RX3, Cond.code yX3_oneMore cX3_oneMore 2 none, Cond.fieldLink RX3 9 "RungPlay$Pair" "ofA" "I", Cond.fieldLink RX3 15 "RungPlay$Pair" "ofB" "I", Cond.methodLink RX4 63 yX4_pointsOfA, Cond.instanceMethod yX4_pointsOfA, Cond.selects RX4 yX4_pointsOfA yX4_pointsOfA, Cond.code yX4_pointsOfA cX4_pointsOfA 1 (some .int), Cond.methodLink RX4 80 yX5_headStartOfA, Cond.instanceMethod yX5_headStartOfA]
def wsX6_point_r3 : List Cond := [Cond.selects RX5 yX5_headStartOfA yX5_headStartOfA, Cond.code yX5_headStartOfA cX5_headStartOfA 2 (some .int), Cond.fieldLink RX5 27 "RungPlay$Rules" "headStart" "I", Cond.methodLink RX4 70 yX5_gameWinner, Cond.instanceMethod yX5_gameWinner, Cond.selects RX5 yX5_gameWinner yX5_gameWinner, Cond.code yX5_gameWinner cX5_gameWinner 7 (some .int), Cond.methodLink RX5 37 Lib.Math.max.name, Cond.static Lib.Math.max.name, Cond.initialized "java/lang/Math", Cond.code Lib.Math.max.name Lib.Math.max.code 2 (some .int), Cond.methodLink RX5 43 Lib.Math.min.name, Cond.static Lib.Math.min.name, Cond.code Lib.Math.min.name Lib.Math.min.code 2 (some .int), Cond.fieldLink RX5 18 "RungPlay$Rules" "toPoints" "I", Cond.methodLink RX4 74 yX4_endGame, Cond.instanceMethod yX4_endGame, Cond.selects RX4 yX4_endGame yX4_endGame, Cond.code yX4_endGame cX4_endGame 3 none, Cond.fieldLink RX4 22 "RungPlay$Play" "games" "LRungPlay$Pair;", Cond.methodLink RX4 41 yX3_clear, Cond.instanceMethod yX3_clear, Cond.selects RX3 yX3_clear yX3_clear, Cond.code yX3_clear cX3_clear 1 none]
def wsX6_point_r4 : List Cond := [Cond.methodLink RX4 84 yX5_setWinner, Cond.instanceMethod yX5_setWinner, Cond.selects RX5 yX5_setWinner yX5_setWinner, Cond.code yX5_setWinner cX5_setWinner 5 (some .int), Cond.fieldLink RX5 21 "RungPlay$Rules" "toGames" "I", Cond.methodLink RX5 49 Lib.Math.abs.name, Cond.static Lib.Math.abs.name, Cond.code Lib.Math.abs.name Lib.Math.abs.code 1 (some .int), Cond.methodLink RX4 88 yX4_endSet, Cond.instanceMethod yX4_endSet, Cond.selects RX4 yX4_endSet yX4_endSet, Cond.code yX4_endSet cX4_endSet 2 none, Cond.fieldLink RX4 44 "RungPlay$Play" "servedFirst" "I"]
def wsX6_point : List Cond := .code yX6_point cX6_point 2 (some .int) :: ((wsX6_point_r1 ++ (wsX6_point_r2 ++ (wsX6_point_r3 ++ wsX6_point_r4))) ++ wsX60 ++ wsX40 ++ wsX30 ++ wsX50)
def wsX6_back_r1 : List Cond := [Cond.fieldLink RX6 35 "RungPlay" "play" "LRungPlay$Play;", Cond.methodLink RX6 59 yX6_within, Cond.static yX6_within, Cond.initialized RX6, Cond.code yX6_within cX6_within 3 (some .boolean), Cond.methodLink RX6 138 yX4_takeBack, Cond.instanceMethod yX4_takeBack, Cond.selects RX4 yX4_takeBack yX4_takeBack, Cond.initialized RX4, Cond.code yX4_takeBack cX4_takeBack 5 (some .int), Cond.fieldLink RX4 51 "RungPlay$Play" "played" "I", Cond.methodLink RX4 91 Lib.Math.max.name, Cond.static Lib.Math.max.name, Cond.initialized "java/lang/Math", Cond.code Lib.Math.max.name Lib.Math.max.code 2 (some .int), Cond.fieldLink RX4 9 "RungPlay$Play" "wonByA" "[Z", Cond.methodLink RX4 38 yX4_restart, Cond.instanceMethod yX4_restart, Cond.selects RX4 yX4_restart yX4_restart, Cond.code yX4_restart cX4_restart 1 none, Cond.fieldLink RX4 18 "RungPlay$Play" "points" "LRungPlay$Pair;", Cond.fieldLink RX4 22 "RungPlay$Play" "games" "LRungPlay$Pair;", Cond.fieldLink RX4 25 "RungPlay$Play" "sets" "LRungPlay$Pair;", Cond.fieldLink RX4 28 "RungPlay$Play" "onServeOfA" "LRungPlay$Pair;"]
def wsX6_back_r2 : List Cond := [Cond.fieldLink RX4 31 "RungPlay$Play" "onServeOfB" "LRungPlay$Pair;", Cond.fieldLink RX4 44 "RungPlay$Play" "servedFirst" "I", Cond.fieldLink RX4 48 "RungPlay$Play" "serves" "I", Cond.methodLink RX4 41 yX3_clear, Cond.instanceMethod yX3_clear, Cond.selects RX3 yX3_clear yX3_clear, Cond.initialized RX3, Cond.code yX3_clear cX3_clear 1 none, Cond.fieldLink RX3 9 "RungPlay$Pair" "ofA" "I", Cond.fieldLink RX3 15 "RungPlay$Pair" "ofB" "I", Cond.methodLink RX4 96 yX4_tell, Cond.instanceMethod yX4_tell, Cond.selects RX4 yX4_tell yX4_tell, Cond.code yX4_tell cX4_tell 3 none, Cond.fieldLink RX4 34 "RungPlay$Play" "rules" "LRungPlay$Rules;", Cond.fieldLink RX4 58 "RungPlay$Rules" "kind" "I", Cond.fieldLink RX4 67 "RungPlay$Pair" "ofB" "I", Cond.methodLink RX4 54 yX3_oneMore, Cond.instanceMethod yX3_oneMore, Cond.selects RX3 yX3_oneMore yX3_oneMore, Cond.code yX3_oneMore cX3_oneMore 2 none, Cond.methodLink RX4 63 yX4_pointsOfA, Cond.instanceMethod yX4_pointsOfA, Cond.selects RX4 yX4_pointsOfA yX4_pointsOfA]
def wsX6_back_r3 : List Cond := [Cond.code yX4_pointsOfA cX4_pointsOfA 1 (some .int), Cond.fieldLink RX4 77 "RungPlay$Pair" "ofA" "I", Cond.methodLink RX4 80 yX5_headStartOfA, Cond.instanceMethod yX5_headStartOfA, Cond.selects RX5 yX5_headStartOfA yX5_headStartOfA, Cond.initialized RX5, Cond.code yX5_headStartOfA cX5_headStartOfA 2 (some .int), Cond.fieldLink RX5 27 "RungPlay$Rules" "headStart" "I", Cond.methodLink RX4 70 yX5_gameWinner, Cond.instanceMethod yX5_gameWinner, Cond.selects RX5 yX5_gameWinner yX5_gameWinner, Cond.code yX5_gameWinner cX5_gameWinner 7 (some .int), Cond.methodLink RX5 37 Lib.Math.max.name, Cond.methodLink RX5 43 Lib.Math.min.name, Cond.static Lib.Math.min.name, Cond.code Lib.Math.min.name Lib.Math.min.code 2 (some .int), Cond.fieldLink RX5 18 "RungPlay$Rules" "toPoints" "I", Cond.methodLink RX5 46 yX5_leader, Cond.static yX5_leader, Cond.code yX5_leader cX5_leader 2 (some .int), Cond.methodLink RX4 74 yX4_endGame, Cond.instanceMethod yX4_endGame, Cond.selects RX4 yX4_endGame yX4_endGame, Cond.code yX4_endGame cX4_endGame 3 none]
def wsX6_back_r4 : List Cond := [Cond.methodLink RX4 84 yX5_setWinner, Cond.instanceMethod yX5_setWinner, Cond.selects RX5 yX5_setWinner yX5_setWinner, Cond.code yX5_setWinner cX5_setWinner 5 (some .int), Cond.fieldLink RX5 21 "RungPlay$Rules" "toGames" "I", Cond.methodLink RX5 49 Lib.Math.abs.name, Cond.static Lib.Math.abs.name, Cond.code Lib.Math.abs.name Lib.Math.abs.code 1 (some .int), Cond.methodLink RX4 88 yX4_endSet, Cond.instanceMethod yX4_endSet, Cond.selects RX4 yX4_endSet yX4_endSet, Cond.code yX4_endSet cX4_endSet 2 none]
def wsX6_back : List Cond := .code yX6_back cX6_back 2 (some .int) :: ((wsX6_back_r1 ++ (wsX6_back_r2 ++ (wsX6_back_r3 ++ wsX6_back_r4))) ++ wsX60 ++ wsX40 ++ wsX30 ++ wsX50)
def wsX6_score_r1 : List Cond := [Cond.fieldLink RX6 35 "RungPlay" "play" "LRungPlay$Play;", Cond.methodLink RX6 59 yX6_within, Cond.static yX6_within, Cond.initialized RX6, Cond.code yX6_within cX6_within 3 (some .boolean), Cond.methodLink RX6 141 yX4_told, Cond.instanceMethod yX4_told, Cond.selects RX4 yX4_told yX4_told, Cond.initialized RX4, Cond.code yX4_told cX4_told 2 (some .int), Cond.fieldLink RX4 18 "RungPlay$Play" "points" "LRungPlay$Pair;", Cond.fieldLink RX4 67 "RungPlay$Pair" "ofB" "I", Cond.fieldLink RX4 22 "RungPlay$Play" "games" "LRungPlay$Pair;", Cond.fieldLink RX4 77 "RungPlay$Pair" "ofA" "I", Cond.fieldLink RX4 25 "RungPlay$Play" "sets" "LRungPlay$Pair;", Cond.fieldLink RX4 48 "RungPlay$Play" "serves" "I", Cond.fieldLink RX4 51 "RungPlay$Play" "played" "I", Cond.fieldLink RX4 28 "RungPlay$Play" "onServeOfA" "LRungPlay$Pair;", Cond.fieldLink RX4 31 "RungPlay$Play" "onServeOfB" "LRungPlay$Pair;", Cond.methodLink RX4 63 yX4_pointsOfA, Cond.instanceMethod yX4_pointsOfA, Cond.selects RX4 yX4_pointsOfA yX4_pointsOfA, Cond.code yX4_pointsOfA cX4_pointsOfA 1 (some .int), Cond.fieldLink RX4 34 "RungPlay$Play" "rules" "LRungPlay$Rules;"]
def wsX6_score_r2 : List Cond := [Cond.methodLink RX4 80 yX5_headStartOfA, Cond.instanceMethod yX5_headStartOfA, Cond.selects RX5 yX5_headStartOfA yX5_headStartOfA, Cond.initialized RX5, Cond.code yX5_headStartOfA cX5_headStartOfA 2 (some .int), Cond.fieldLink RX5 27 "RungPlay$Rules" "headStart" "I", Cond.methodLink RX4 102 yX4_matchWinner, Cond.instanceMethod yX4_matchWinner, Cond.selects RX4 yX4_matchWinner yX4_matchWinner, Cond.code yX4_matchWinner cX4_matchWinner 2 (some .int), Cond.methodLink RX4 99 yX5_matchWinner, Cond.instanceMethod yX5_matchWinner, Cond.selects RX5 yX5_matchWinner yX5_matchWinner, Cond.code yX5_matchWinner cX5_matchWinner 3 (some .int), Cond.fieldLink RX5 24 "RungPlay$Rules" "toSets" "I", Cond.methodLink RX5 46 yX5_leader, Cond.static yX5_leader, Cond.code yX5_leader cX5_leader 2 (some .int)]
def wsX6_score : List Cond := .code yX6_score cX6_score 2 (some .int) :: ((wsX6_score_r1 ++ wsX6_score_r2) ++ wsX60 ++ wsX40 ++ wsX30 ++ wsX50)
def wsX6_likelihood : List Cond := .code yX6_likelihood cX6_likelihood 6 (some .long) :: ([])
def wsX6_likeliest : List Cond := .code yX6_likeliest cX6_likeliest 5 (some .int) :: ([.methodLink RX6 59 yX6_within, .static yX6_within, .initialized RX6, .code yX6_within cX6_within 3 (some .boolean), .methodLink RX6 142 yX6_likelihood, .static yX6_likelihood, .code yX6_likelihood cX6_likelihood 6 (some .long)])
def wsX6_count : List Cond := .code yX6_count cX6_count 2 (some .int) :: ([.fieldLink RX6 10 "RungPlay" "rules" "LRungPlay$Rules;", .methodLink RX6 51 yX5_told, .instanceMethod yX5_told, .selects RX5 yX5_told yX5_told, .initialized RX5, .code yX5_told cX5_told 2 (some .int), .fieldLink RX5 9 "RungPlay$Rules" "tenthsOnServeOfA" "I", .fieldLink RX5 15 "RungPlay$Rules" "tenthsOnServeOfB" "I", .fieldLink RX5 18 "RungPlay$Rules" "toPoints" "I", .fieldLink RX5 21 "RungPlay$Rules" "toGames" "I", .fieldLink RX5 24 "RungPlay$Rules" "toSets" "I", .fieldLink RX5 27 "RungPlay$Rules" "headStart" "I", .fieldLink RX5 30 "RungPlay$Rules" "kind" "I"] ++ wsX60 ++ wsX50)
def wsX6_trace : List Cond := .code yX6_trace cX6_trace 1 (some .long) :: ([.fieldLink RX6 39 "RungPlay" "traced" "J"] ++ wsX60)
def wsX7_beginsGame : List Cond := .code yX7_beginsGame cX7_beginsGame 1 none :: ([.fieldLink RX7 26 "RungPlayModel" "told" "[I", .fieldLink RX7 7 "RungPlayModel" "rules" "[I"] ++ wsX70)
def wsX7_wonOf : List Cond := .code yX7_wonOf cX7_wonOf 5 (some .int) :: ([.fieldLink RX7 7 "RungPlayModel" "rules" "[I"] ++ wsX70)
def wsX7_winsGame : List Cond := .code yX7_winsGame cX7_winsGame 5 none :: ([.fieldLink RX7 7 "RungPlayModel" "rules" "[I", .fieldLink RX7 26 "RungPlayModel" "told" "[I", .fieldLink RX7 103 "RungPlayModel" "firstServer" "I", .methodLink RX7 106 yX7_beginsGame, .instanceMethod yX7_beginsGame, .selects RX7 yX7_beginsGame yX7_beginsGame, .initialized RX7, .code yX7_beginsGame cX7_beginsGame 1 none] ++ wsX70)
def wsX7_replays : List Cond := .code yX7_replays cX7_replays 4 none :: ([.fieldLink RX7 26 "RungPlayModel" "told" "[I", .fieldLink RX7 103 "RungPlayModel" "firstServer" "I", .fieldLink RX7 44 "RungPlayModel" "played" "I", .fieldLink RX7 13 "RungPlayModel" "points" "[I", .fieldLink RX7 7 "RungPlayModel" "rules" "[I", .methodLink RX7 106 yX7_beginsGame, .instanceMethod yX7_beginsGame, .selects RX7 yX7_beginsGame yX7_beginsGame, .initialized RX7, .code yX7_beginsGame cX7_beginsGame 1 none, .methodLink RX7 55 yX7_wonOf, .instanceMethod yX7_wonOf, .selects RX7 yX7_wonOf yX7_wonOf, .code yX7_wonOf cX7_wonOf 5 (some .int), .methodLink RX7 109 yX7_winsGame, .instanceMethod yX7_winsGame, .selects RX7 yX7_winsGame yX7_winsGame, .code yX7_winsGame cX7_winsGame 5 none] ++ wsX70)
def wsX7_init_r1 : List Cond := [Cond.methodLink RX7 1 objectInit, Cond.instanceMethod objectInit, Cond.code objectInit ⟨#[0xb1]⟩ 1 none, Cond.arrayClass .int, Cond.fieldLink RX7 7 "RungPlayModel" "rules" "[I", Cond.fieldLink RX7 13 "RungPlayModel" "points" "[I", Cond.arrayClass .long, Cond.fieldLink RX7 16 "RungPlayModel" "chances" "[J", Cond.fieldLink RX7 20 "RungPlayModel" "lasting" "[J", Cond.fieldLink RX7 23 "RungPlayModel" "sets" "[J", Cond.fieldLink RX7 26 "RungPlayModel" "told" "[I", Cond.methodLink RX7 29 yX7_replays, Cond.instanceMethod yX7_replays, Cond.selects RX7 yX7_replays yX7_replays, Cond.initialized RX7, Cond.code yX7_replays cX7_replays 4 none, Cond.fieldLink RX7 103 "RungPlayModel" "firstServer" "I", Cond.fieldLink RX7 44 "RungPlayModel" "played" "I", Cond.methodLink RX7 106 yX7_beginsGame, Cond.instanceMethod yX7_beginsGame, Cond.selects RX7 yX7_beginsGame yX7_beginsGame, Cond.code yX7_beginsGame cX7_beginsGame 1 none, Cond.methodLink RX7 55 yX7_wonOf, Cond.instanceMethod yX7_wonOf]
def wsX7_init_r2 : List Cond := [Cond.selects RX7 yX7_wonOf yX7_wonOf, Cond.code yX7_wonOf cX7_wonOf 5 (some .int), Cond.methodLink RX7 109 yX7_winsGame, Cond.instanceMethod yX7_winsGame, Cond.selects RX7 yX7_winsGame yX7_winsGame, Cond.code yX7_winsGame cX7_winsGame 5 none]
def wsX7_init : List Cond := .code yX7_init cX7_init 1 none :: ((wsX7_init_r1 ++ wsX7_init_r2) ++ wsX70)
def wsX7_in : List Cond := .code yX7_in cX7_in 3 (some .boolean) :: ([])
def wsX7_most : List Cond := .code yX7_most cX7_most 2 (some .int) :: ([.fieldLink RX7 7 "RungPlayModel" "rules" "[I"] ++ wsX70)
def wsX7_set_r1 : List Cond := [Cond.fieldLink RX7 32 "RungPlayModel" "thrown" "I", Cond.fieldLink RX7 44 "RungPlayModel" "played" "I", Cond.fieldLink RX7 7 "RungPlayModel" "rules" "[I", Cond.methodLink RX7 36 yX7_in, Cond.static yX7_in, Cond.initialized RX7, Cond.code yX7_in cX7_in 3 (some .boolean), Cond.methodLink RX7 40 yX7_most, Cond.instanceMethod yX7_most, Cond.selects RX7 yX7_most yX7_most, Cond.code yX7_most cX7_most 2 (some .int), Cond.methodLink RX7 29 yX7_replays, Cond.instanceMethod yX7_replays, Cond.selects RX7 yX7_replays yX7_replays, Cond.code yX7_replays cX7_replays 4 none, Cond.fieldLink RX7 26 "RungPlayModel" "told" "[I", Cond.fieldLink RX7 103 "RungPlayModel" "firstServer" "I", Cond.fieldLink RX7 13 "RungPlayModel" "points" "[I", Cond.methodLink RX7 106 yX7_beginsGame, Cond.instanceMethod yX7_beginsGame, Cond.selects RX7 yX7_beginsGame yX7_beginsGame, Cond.code yX7_beginsGame cX7_beginsGame 1 none, Cond.methodLink RX7 55 yX7_wonOf, Cond.instanceMethod yX7_wonOf]
def wsX7_set_r2 : List Cond := [Cond.selects RX7 yX7_wonOf yX7_wonOf, Cond.code yX7_wonOf cX7_wonOf 5 (some .int), Cond.methodLink RX7 109 yX7_winsGame, Cond.instanceMethod yX7_winsGame, Cond.selects RX7 yX7_winsGame yX7_winsGame, Cond.code yX7_winsGame cX7_winsGame 5 none]
def wsX7_set : List Cond := .code yX7_set cX7_set 4 (some .int) :: ((wsX7_set_r1 ++ wsX7_set_r2) ++ wsX70)
def wsX7_won : List Cond := .code yX7_won cX7_won 4 (some .int) :: ([.fieldLink RX7 32 "RungPlayModel" "thrown" "I", .fieldLink RX7 47 "RungPlayModel" "trace" "J", .constantLong RX7 51 (11), .constantLong RX7 53 (111), .methodLink RX7 36 yX7_in, .static yX7_in, .initialized RX7, .code yX7_in cX7_in 3 (some .boolean), .methodLink RX7 55 yX7_wonOf, .instanceMethod yX7_wonOf, .selects RX7 yX7_wonOf yX7_wonOf, .code yX7_wonOf cX7_wonOf 5 (some .int), .fieldLink RX7 7 "RungPlayModel" "rules" "[I"] ++ wsX70)
def wsX7_works : List Cond := .code yX7_works cX7_works 12 none :: ([.fieldLink RX7 7 "RungPlayModel" "rules" "[I", .constantLong RX7 59 (1000000000), .fieldLink RX7 61 "RungPlayModel" "below" "J", .fieldLink RX7 16 "RungPlayModel" "chances" "[J", .fieldLink RX7 20 "RungPlayModel" "lasting" "[J", .constantLong RX7 64 (100000000), .constantLong RX7 66 (200000000000), .constantLong RX7 68 (10), .constantLong RX7 70 (200), .methodLink RX7 36 yX7_in, .static yX7_in, .initialized RX7, .code yX7_in cX7_in 3 (some .boolean), .methodLink RX7 55 yX7_wonOf, .instanceMethod yX7_wonOf, .selects RX7 yX7_wonOf yX7_wonOf, .code yX7_wonOf cX7_wonOf 5 (some .int)] ++ wsX70)
def wsX7_common : List Cond := .code yX7_common cX7_common 10 (some .long) :: ([])
def wsX7_part : List Cond := .code yX7_part cX7_part 6 (some .long) :: ([.fieldLink RX7 61 "RungPlayModel" "below" "J", .methodLink RX7 72 yX7_common, .static yX7_common, .initialized RX7, .code yX7_common cX7_common 10 (some .long)] ++ wsX70)
def wsX7_isAsked : List Cond := .code yX7_isAsked cX7_isAsked 6 (some .boolean) :: ([.fieldLink RX7 7 "RungPlayModel" "rules" "[I", .methodLink RX7 36 yX7_in, .static yX7_in, .initialized RX7, .code yX7_in cX7_in 3 (some .boolean)] ++ wsX70)
def wsX7_chance_r1 : List Cond := [Cond.fieldLink RX7 32 "RungPlayModel" "thrown" "I", Cond.constantLong RX7 80 (-1000000000000000000), Cond.fieldLink RX7 16 "RungPlayModel" "chances" "[J", Cond.methodLink RX7 76 yX7_isAsked, Cond.instanceMethod yX7_isAsked, Cond.selects RX7 yX7_isAsked yX7_isAsked, Cond.initialized RX7, Cond.code yX7_isAsked cX7_isAsked 6 (some .boolean), Cond.fieldLink RX7 7 "RungPlayModel" "rules" "[I", Cond.methodLink RX7 36 yX7_in, Cond.static yX7_in, Cond.code yX7_in cX7_in 3 (some .boolean), Cond.methodLink RX7 82 yX7_works, Cond.instanceMethod yX7_works, Cond.selects RX7 yX7_works yX7_works, Cond.code yX7_works cX7_works 12 none, Cond.constantLong RX7 59 (1000000000), Cond.fieldLink RX7 61 "RungPlayModel" "below" "J", Cond.fieldLink RX7 20 "RungPlayModel" "lasting" "[J", Cond.constantLong RX7 64 (100000000), Cond.constantLong RX7 66 (200000000000), Cond.constantLong RX7 68 (10), Cond.constantLong RX7 70 (200), Cond.methodLink RX7 55 yX7_wonOf]
def wsX7_chance_r2 : List Cond := [Cond.instanceMethod yX7_wonOf, Cond.selects RX7 yX7_wonOf yX7_wonOf, Cond.code yX7_wonOf cX7_wonOf 5 (some .int), Cond.methodLink RX7 86 yX7_part, Cond.instanceMethod yX7_part, Cond.selects RX7 yX7_part yX7_part, Cond.code yX7_part cX7_part 6 (some .long), Cond.methodLink RX7 72 yX7_common, Cond.static yX7_common, Cond.code yX7_common cX7_common 10 (some .long)]
def wsX7_chance : List Cond := .code yX7_chance cX7_chance 5 (some .long) :: ((wsX7_chance_r1 ++ wsX7_chance_r2) ++ wsX70)
def wsX7_lasts_r1 : List Cond := [Cond.fieldLink RX7 32 "RungPlayModel" "thrown" "I", Cond.constantLong RX7 80 (-1000000000000000000), Cond.fieldLink RX7 20 "RungPlayModel" "lasting" "[J", Cond.methodLink RX7 76 yX7_isAsked, Cond.instanceMethod yX7_isAsked, Cond.selects RX7 yX7_isAsked yX7_isAsked, Cond.initialized RX7, Cond.code yX7_isAsked cX7_isAsked 6 (some .boolean), Cond.fieldLink RX7 7 "RungPlayModel" "rules" "[I", Cond.methodLink RX7 36 yX7_in, Cond.static yX7_in, Cond.code yX7_in cX7_in 3 (some .boolean), Cond.methodLink RX7 82 yX7_works, Cond.instanceMethod yX7_works, Cond.selects RX7 yX7_works yX7_works, Cond.code yX7_works cX7_works 12 none, Cond.constantLong RX7 59 (1000000000), Cond.fieldLink RX7 61 "RungPlayModel" "below" "J", Cond.fieldLink RX7 16 "RungPlayModel" "chances" "[J", Cond.constantLong RX7 64 (100000000), Cond.constantLong RX7 66 (200000000000), Cond.constantLong RX7 68 (10), Cond.constantLong RX7 70 (200), Cond.methodLink RX7 55 yX7_wonOf]
def wsX7_lasts_r2 : List Cond := [Cond.instanceMethod yX7_wonOf, Cond.selects RX7 yX7_wonOf yX7_wonOf, Cond.code yX7_wonOf cX7_wonOf 5 (some .int), Cond.methodLink RX7 86 yX7_part, Cond.instanceMethod yX7_part, Cond.selects RX7 yX7_part yX7_part, Cond.code yX7_part cX7_part 6 (some .long), Cond.methodLink RX7 72 yX7_common, Cond.static yX7_common, Cond.code yX7_common cX7_common 10 (some .long)]
def wsX7_lasts : List Cond := .code yX7_lasts cX7_lasts 5 (some .long) :: ((wsX7_lasts_r1 ++ wsX7_lasts_r2) ++ wsX70)
def wsX7_weight_r1 : List Cond := [Cond.fieldLink RX7 32 "RungPlayModel" "thrown" "I", Cond.fieldLink RX7 7 "RungPlayModel" "rules" "[I", Cond.constantLong RX7 80 (-1000000000000000000), Cond.fieldLink RX7 16 "RungPlayModel" "chances" "[J", Cond.methodLink RX7 76 yX7_isAsked, Cond.instanceMethod yX7_isAsked, Cond.selects RX7 yX7_isAsked yX7_isAsked, Cond.initialized RX7, Cond.code yX7_isAsked cX7_isAsked 6 (some .boolean), Cond.methodLink RX7 36 yX7_in, Cond.static yX7_in, Cond.code yX7_in cX7_in 3 (some .boolean), Cond.methodLink RX7 55 yX7_wonOf, Cond.instanceMethod yX7_wonOf, Cond.selects RX7 yX7_wonOf yX7_wonOf, Cond.code yX7_wonOf cX7_wonOf 5 (some .int), Cond.methodLink RX7 82 yX7_works, Cond.instanceMethod yX7_works, Cond.selects RX7 yX7_works yX7_works, Cond.code yX7_works cX7_works 12 none, Cond.constantLong RX7 59 (1000000000), Cond.fieldLink RX7 61 "RungPlayModel" "below" "J", Cond.fieldLink RX7 20 "RungPlayModel" "lasting" "[J", Cond.constantLong RX7 64 (100000000)]
def wsX7_weight_r2 : List Cond := [Cond.constantLong RX7 66 (200000000000), Cond.constantLong RX7 68 (10), Cond.constantLong RX7 70 (200), Cond.methodLink RX7 86 yX7_part, Cond.instanceMethod yX7_part, Cond.selects RX7 yX7_part yX7_part, Cond.code yX7_part cX7_part 6 (some .long), Cond.methodLink RX7 72 yX7_common, Cond.static yX7_common, Cond.code yX7_common cX7_common 10 (some .long)]
def wsX7_weight : List Cond := .code yX7_weight cX7_weight 5 (some .long) :: ((wsX7_weight_r1 ++ wsX7_weight_r2) ++ wsX70)
def wsX7_heaviest : List Cond := .code yX7_heaviest cX7_heaviest 10 (some .int) :: ([.fieldLink RX7 32 "RungPlayModel" "thrown" "I", .constantLong RX7 90 (-1), .fieldLink RX7 7 "RungPlayModel" "rules" "[I", .fieldLink RX7 16 "RungPlayModel" "chances" "[J", .methodLink RX7 36 yX7_in, .static yX7_in, .initialized RX7, .code yX7_in cX7_in 3 (some .boolean), .methodLink RX7 82 yX7_works, .instanceMethod yX7_works, .selects RX7 yX7_works yX7_works, .code yX7_works cX7_works 12 none, .constantLong RX7 59 (1000000000), .fieldLink RX7 61 "RungPlayModel" "below" "J", .fieldLink RX7 20 "RungPlayModel" "lasting" "[J", .constantLong RX7 64 (100000000), .constantLong RX7 66 (200000000000), .constantLong RX7 68 (10), .constantLong RX7 70 (200), .methodLink RX7 55 yX7_wonOf, .instanceMethod yX7_wonOf, .selects RX7 yX7_wonOf yX7_wonOf, .code yX7_wonOf cX7_wonOf 5 (some .int)] ++ wsX70)
def wsX7_gameOf : List Cond := .code yX7_gameOf cX7_gameOf 2 (some .long) :: ([.fieldLink RX7 16 "RungPlayModel" "chances" "[J", .fieldLink RX7 7 "RungPlayModel" "rules" "[I", .constantLong RX7 92 (1000000), .fieldLink RX7 61 "RungPlayModel" "below" "J", .methodLink RX7 82 yX7_works, .instanceMethod yX7_works, .selects RX7 yX7_works yX7_works, .initialized RX7, .code yX7_works cX7_works 12 none, .constantLong RX7 59 (1000000000), .fieldLink RX7 20 "RungPlayModel" "lasting" "[J", .constantLong RX7 64 (100000000), .constantLong RX7 66 (200000000000), .constantLong RX7 68 (10), .constantLong RX7 70 (200), .methodLink RX7 36 yX7_in, .static yX7_in, .code yX7_in cX7_in 3 (some .boolean), .methodLink RX7 55 yX7_wonOf, .instanceMethod yX7_wonOf, .selects RX7 yX7_wonOf yX7_wonOf, .code yX7_wonOf cX7_wonOf 5 (some .int)] ++ wsX70)
def wsX7_game_r1 : List Cond := [Cond.fieldLink RX7 32 "RungPlayModel" "thrown" "I", Cond.methodLink RX7 36 yX7_in, Cond.static yX7_in, Cond.initialized RX7, Cond.code yX7_in cX7_in 3 (some .boolean), Cond.methodLink RX7 94 yX7_gameOf, Cond.instanceMethod yX7_gameOf, Cond.selects RX7 yX7_gameOf yX7_gameOf, Cond.code yX7_gameOf cX7_gameOf 2 (some .long), Cond.fieldLink RX7 16 "RungPlayModel" "chances" "[J", Cond.fieldLink RX7 7 "RungPlayModel" "rules" "[I", Cond.constantLong RX7 92 (1000000), Cond.fieldLink RX7 61 "RungPlayModel" "below" "J", Cond.methodLink RX7 82 yX7_works, Cond.instanceMethod yX7_works, Cond.selects RX7 yX7_works yX7_works, Cond.code yX7_works cX7_works 12 none, Cond.constantLong RX7 59 (1000000000), Cond.fieldLink RX7 20 "RungPlayModel" "lasting" "[J", Cond.constantLong RX7 64 (100000000), Cond.constantLong RX7 66 (200000000000), Cond.constantLong RX7 68 (10), Cond.constantLong RX7 70 (200), Cond.methodLink RX7 55 yX7_wonOf]
def wsX7_game_r2 : List Cond := [Cond.instanceMethod yX7_wonOf, Cond.selects RX7 yX7_wonOf yX7_wonOf, Cond.code yX7_wonOf cX7_wonOf 5 (some .int)]
def wsX7_game : List Cond := .code yX7_game cX7_game 2 (some .int) :: ((wsX7_game_r1 ++ wsX7_game_r2) ++ wsX70)
def wsX7_worksSets_r1 : List Cond := [Cond.fieldLink RX7 7 "RungPlayModel" "rules" "[I", Cond.fieldLink RX7 23 "RungPlayModel" "sets" "[J", Cond.constantLong RX7 92 (1000000), Cond.constantLong RX7 98 (2), Cond.methodLink RX7 94 yX7_gameOf, Cond.instanceMethod yX7_gameOf, Cond.selects RX7 yX7_gameOf yX7_gameOf, Cond.initialized RX7, Cond.code yX7_gameOf cX7_gameOf 2 (some .long), Cond.fieldLink RX7 16 "RungPlayModel" "chances" "[J", Cond.fieldLink RX7 61 "RungPlayModel" "below" "J", Cond.methodLink RX7 82 yX7_works, Cond.instanceMethod yX7_works, Cond.selects RX7 yX7_works yX7_works, Cond.code yX7_works cX7_works 12 none, Cond.constantLong RX7 59 (1000000000), Cond.fieldLink RX7 20 "RungPlayModel" "lasting" "[J", Cond.constantLong RX7 64 (100000000), Cond.constantLong RX7 66 (200000000000), Cond.constantLong RX7 68 (10), Cond.constantLong RX7 70 (200), Cond.methodLink RX7 36 yX7_in, Cond.static yX7_in, Cond.code yX7_in cX7_in 3 (some .boolean)]
def wsX7_worksSets_r2 : List Cond := [Cond.methodLink RX7 55 yX7_wonOf, Cond.instanceMethod yX7_wonOf, Cond.selects RX7 yX7_wonOf yX7_wonOf, Cond.code yX7_wonOf cX7_wonOf 5 (some .int)]
def wsX7_worksSets : List Cond := .code yX7_worksSets cX7_worksSets 18 none :: ((wsX7_worksSets_r1 ++ wsX7_worksSets_r2) ++ wsX70)
def wsX7_round_r1 : List Cond := [Cond.fieldLink RX7 32 "RungPlayModel" "thrown" "I", Cond.fieldLink RX7 7 "RungPlayModel" "rules" "[I", Cond.fieldLink RX7 23 "RungPlayModel" "sets" "[J", Cond.methodLink RX7 36 yX7_in, Cond.static yX7_in, Cond.initialized RX7, Cond.code yX7_in cX7_in 3 (some .boolean), Cond.methodLink RX7 100 yX7_worksSets, Cond.instanceMethod yX7_worksSets, Cond.selects RX7 yX7_worksSets yX7_worksSets, Cond.code yX7_worksSets cX7_worksSets 18 none, Cond.constantLong RX7 92 (1000000), Cond.constantLong RX7 98 (2), Cond.methodLink RX7 94 yX7_gameOf, Cond.instanceMethod yX7_gameOf, Cond.selects RX7 yX7_gameOf yX7_gameOf, Cond.code yX7_gameOf cX7_gameOf 2 (some .long), Cond.fieldLink RX7 16 "RungPlayModel" "chances" "[J", Cond.fieldLink RX7 61 "RungPlayModel" "below" "J", Cond.methodLink RX7 82 yX7_works, Cond.instanceMethod yX7_works, Cond.selects RX7 yX7_works yX7_works, Cond.code yX7_works cX7_works 12 none, Cond.constantLong RX7 59 (1000000000)]
def wsX7_round_r2 : List Cond := [Cond.fieldLink RX7 20 "RungPlayModel" "lasting" "[J", Cond.constantLong RX7 64 (100000000), Cond.constantLong RX7 66 (200000000000), Cond.constantLong RX7 68 (10), Cond.constantLong RX7 70 (200), Cond.methodLink RX7 55 yX7_wonOf, Cond.instanceMethod yX7_wonOf, Cond.selects RX7 yX7_wonOf yX7_wonOf, Cond.code yX7_wonOf cX7_wonOf 5 (some .int)]
def wsX7_round : List Cond := .code yX7_round cX7_round 4 (some .int) :: ((wsX7_round_r1 ++ wsX7_round_r2) ++ wsX70)
def wsX7_match_r1 : List Cond := [Cond.fieldLink RX7 32 "RungPlayModel" "thrown" "I", Cond.fieldLink RX7 7 "RungPlayModel" "rules" "[I", Cond.fieldLink RX7 23 "RungPlayModel" "sets" "[J", Cond.constantLong RX7 92 (1000000), Cond.methodLink RX7 36 yX7_in, Cond.static yX7_in, Cond.initialized RX7, Cond.code yX7_in cX7_in 3 (some .boolean), Cond.methodLink RX7 100 yX7_worksSets, Cond.instanceMethod yX7_worksSets, Cond.selects RX7 yX7_worksSets yX7_worksSets, Cond.code yX7_worksSets cX7_worksSets 18 none, Cond.constantLong RX7 98 (2), Cond.methodLink RX7 94 yX7_gameOf, Cond.instanceMethod yX7_gameOf, Cond.selects RX7 yX7_gameOf yX7_gameOf, Cond.code yX7_gameOf cX7_gameOf 2 (some .long), Cond.fieldLink RX7 16 "RungPlayModel" "chances" "[J", Cond.fieldLink RX7 61 "RungPlayModel" "below" "J", Cond.methodLink RX7 82 yX7_works, Cond.instanceMethod yX7_works, Cond.selects RX7 yX7_works yX7_works, Cond.code yX7_works cX7_works 12 none, Cond.constantLong RX7 59 (1000000000)]
def wsX7_match_r2 : List Cond := [Cond.fieldLink RX7 20 "RungPlayModel" "lasting" "[J", Cond.constantLong RX7 64 (100000000), Cond.constantLong RX7 66 (200000000000), Cond.constantLong RX7 68 (10), Cond.constantLong RX7 70 (200), Cond.methodLink RX7 55 yX7_wonOf, Cond.instanceMethod yX7_wonOf, Cond.selects RX7 yX7_wonOf yX7_wonOf, Cond.code yX7_wonOf cX7_wonOf 5 (some .int)]
def wsX7_match : List Cond := .code yX7_match cX7_match 16 (some .int) :: ((wsX7_match_r1 ++ wsX7_match_r2) ++ wsX70)
def wsX7_point_r1 : List Cond := [Cond.fieldLink RX7 32 "RungPlayModel" "thrown" "I", Cond.fieldLink RX7 26 "RungPlayModel" "told" "[I", Cond.fieldLink RX7 44 "RungPlayModel" "played" "I", Cond.fieldLink RX7 13 "RungPlayModel" "points" "[I", Cond.methodLink RX7 36 yX7_in, Cond.static yX7_in, Cond.initialized RX7, Cond.code yX7_in cX7_in 3 (some .boolean), Cond.methodLink RX7 29 yX7_replays, Cond.instanceMethod yX7_replays, Cond.selects RX7 yX7_replays yX7_replays, Cond.code yX7_replays cX7_replays 4 none, Cond.fieldLink RX7 103 "RungPlayModel" "firstServer" "I", Cond.fieldLink RX7 7 "RungPlayModel" "rules" "[I", Cond.methodLink RX7 106 yX7_beginsGame, Cond.instanceMethod yX7_beginsGame, Cond.selects RX7 yX7_beginsGame yX7_beginsGame, Cond.code yX7_beginsGame cX7_beginsGame 1 none, Cond.methodLink RX7 55 yX7_wonOf, Cond.instanceMethod yX7_wonOf, Cond.selects RX7 yX7_wonOf yX7_wonOf, Cond.code yX7_wonOf cX7_wonOf 5 (some .int), Cond.methodLink RX7 109 yX7_winsGame, Cond.instanceMethod yX7_winsGame]
def wsX7_point_r2 : List Cond := [Cond.selects RX7 yX7_winsGame yX7_winsGame, Cond.code yX7_winsGame cX7_winsGame 5 none]
def wsX7_point : List Cond := .code yX7_point cX7_point 2 (some .int) :: ((wsX7_point_r1 ++ wsX7_point_r2) ++ wsX70)
def wsX7_back_r1 : List Cond := [Cond.fieldLink RX7 32 "RungPlayModel" "thrown" "I", Cond.fieldLink RX7 44 "RungPlayModel" "played" "I", Cond.methodLink RX7 36 yX7_in, Cond.static yX7_in, Cond.initialized RX7, Cond.code yX7_in cX7_in 3 (some .boolean), Cond.methodLink RX7 29 yX7_replays, Cond.instanceMethod yX7_replays, Cond.selects RX7 yX7_replays yX7_replays, Cond.code yX7_replays cX7_replays 4 none, Cond.fieldLink RX7 26 "RungPlayModel" "told" "[I", Cond.fieldLink RX7 103 "RungPlayModel" "firstServer" "I", Cond.fieldLink RX7 13 "RungPlayModel" "points" "[I", Cond.fieldLink RX7 7 "RungPlayModel" "rules" "[I", Cond.methodLink RX7 106 yX7_beginsGame, Cond.instanceMethod yX7_beginsGame, Cond.selects RX7 yX7_beginsGame yX7_beginsGame, Cond.code yX7_beginsGame cX7_beginsGame 1 none, Cond.methodLink RX7 55 yX7_wonOf, Cond.instanceMethod yX7_wonOf, Cond.selects RX7 yX7_wonOf yX7_wonOf, Cond.code yX7_wonOf cX7_wonOf 5 (some .int), Cond.methodLink RX7 109 yX7_winsGame, Cond.instanceMethod yX7_winsGame]
def wsX7_back_r2 : List Cond := [Cond.selects RX7 yX7_winsGame yX7_winsGame, Cond.code yX7_winsGame cX7_winsGame 5 none]
def wsX7_back : List Cond := .code yX7_back cX7_back 3 (some .int) :: ((wsX7_back_r1 ++ wsX7_back_r2) ++ wsX70)
def wsX7_score : List Cond := .code yX7_score cX7_score 2 (some .int) :: ([.fieldLink RX7 32 "RungPlayModel" "thrown" "I", .fieldLink RX7 26 "RungPlayModel" "told" "[I", .methodLink RX7 36 yX7_in, .static yX7_in, .initialized RX7, .code yX7_in cX7_in 3 (some .boolean)] ++ wsX70)
def wsX7_likeliest : List Cond := .code yX7_likeliest cX7_likeliest 10 (some .int) :: ([.fieldLink RX7 32 "RungPlayModel" "thrown" "I", .methodLink RX7 36 yX7_in, .static yX7_in, .initialized RX7, .code yX7_in cX7_in 3 (some .boolean)] ++ wsX70)
def wsX7_count : List Cond := .code yX7_count cX7_count 2 (some .int) :: ([.fieldLink RX7 32 "RungPlayModel" "thrown" "I", .fieldLink RX7 7 "RungPlayModel" "rules" "[I", .methodLink RX7 36 yX7_in, .static yX7_in, .initialized RX7, .code yX7_in cX7_in 3 (some .boolean)] ++ wsX70)
def wsX7_trace : List Cond := .code yX7_trace cX7_trace 1 (some .long) :: ([.fieldLink RX7 32 "RungPlayModel" "thrown" "I", .fieldLink RX7 47 "RungPlayModel" "trace" "J"] ++ wsX70)
def wsJ9_abs_0f7a4 : List Cond := .code yJ9_abs_0f7a4 cJ9_abs_0f7a4 1 (some .int) :: ([])
def wsJ9_max_7cf53 : List Cond := .code yJ9_max_7cf53 cJ9_max_7cf53 2 (some .int) :: ([])
def wsJ9_min_7cf53 : List Cond := .code yJ9_min_7cf53 cJ9_min_7cf53 2 (some .int) :: ([])
def wsL_law_r1 : List Cond := [Cond.classLink RL 7 RX6, Cond.instantiable RX6 5, Cond.initialized RX6, Cond.classLink RL 10 RX7, Cond.instantiable RX7 11, Cond.initialized RX7, Cond.methodLink RL 9 yX6_init, Cond.instanceMethod yX6_init, Cond.code yX6_init cX6_init 1 none, Cond.methodLink RX6 1 objectInit, Cond.instanceMethod objectInit, Cond.code objectInit ⟨#[0xb1]⟩ 1 none, Cond.classLink RX6 7 RX5, Cond.instantiable RX5 7, Cond.initialized RX5, Cond.fieldLink RX6 10 "RungPlay" "rules" "LRungPlay$Rules;", Cond.classLink RX6 16 RX0, Cond.instantiable RX0 5, Cond.initialized RX0, Cond.fieldLink RX6 21 "RungPlay" "odds" "LRungPlay$GameOdds;", Cond.classLink RX6 25 RX2, Cond.instantiable RX2 3, Cond.initialized RX2, Cond.fieldLink RX6 28 "RungPlay" "ladder" "LRungPlay$Ladder;"]
def wsL_law_r2 : List Cond := [Cond.classLink RX6 32 RX4, Cond.instantiable RX4 10, Cond.initialized RX4, Cond.fieldLink RX6 35 "RungPlay" "play" "LRungPlay$Play;", Cond.fieldLink RX6 39 "RungPlay" "traced" "J", Cond.instanceMethod yX5_init, Cond.code yX5_init cX5_init 1 none, Cond.methodLink RX5 3 objectInit, Cond.fieldLink RX5 9 "RungPlay$Rules" "tenthsOnServeOfA" "I", Cond.fieldLink RX5 15 "RungPlay$Rules" "tenthsOnServeOfB" "I", Cond.fieldLink RX5 18 "RungPlay$Rules" "toPoints" "I", Cond.fieldLink RX5 21 "RungPlay$Rules" "toGames" "I", Cond.fieldLink RX5 24 "RungPlay$Rules" "toSets" "I", Cond.fieldLink RX5 27 "RungPlay$Rules" "headStart" "I", Cond.fieldLink RX5 30 "RungPlay$Rules" "kind" "I", Cond.methodLink RX6 18 yX0_init, Cond.instanceMethod yX0_init, Cond.code yX0_init cX0_init 2 none, Cond.methodLink RX0 3 objectInit, Cond.classLink RX0 9 RX1, Cond.instantiable RX1 2, Cond.initialized RX1, Cond.fieldLink RX0 14 "RungPlay$GameOdds" "chances" "LRungPlay$Grid;", Cond.fieldLink RX0 20 "RungPlay$GameOdds" "lengths" "LRungPlay$Grid;"]
def wsL_law_r3 : List Cond := [Cond.fieldLink RX0 23 "RungPlay$GameOdds" "rules" "LRungPlay$Rules;", Cond.fieldLink RX0 27 "RungPlay$Rules" "toPoints" "I", Cond.fieldLink RX0 33 "RungPlay$GameOdds" "to" "I", Cond.fieldLink RX0 36 "RungPlay$GameOdds" "unit" "J", Cond.methodLink RX0 11 yX1_init, Cond.instanceMethod yX1_init, Cond.code yX1_init cX1_init 2 none, Cond.methodLink RX1 1 objectInit, Cond.methodLink RX1 7 Lib.Math.max.name, Cond.static Lib.Math.max.name, Cond.initialized "java/lang/Math", Cond.code Lib.Math.max.name Lib.Math.max.code 2 (some .int), Cond.fieldLink RX1 13 "RungPlay$Grid" "side" "I", Cond.arrayClass .long, Cond.fieldLink RX1 19 "RungPlay$Grid" "cells" "[J", Cond.methodLink RX6 27 yX2_init, Cond.instanceMethod yX2_init, Cond.code yX2_init cX2_init 2 none, Cond.methodLink RX2 3 objectInit, Cond.classLink RX2 9 RX1, Cond.fieldLink RX2 14 "RungPlay$Ladder" "byGames" "LRungPlay$Grid;", Cond.fieldLink RX2 20 "RungPlay$Ladder" "bySets" "LRungPlay$Grid;", Cond.fieldLink RX2 23 "RungPlay$Ladder" "rules" "LRungPlay$Rules;", Cond.methodLink RX2 11 yX1_init]
def wsL_law_r4 : List Cond := [Cond.methodLink RX6 34 yX4_init, Cond.instanceMethod yX4_init, Cond.code yX4_init cX4_init 2 none, Cond.methodLink RX4 3 objectInit, Cond.arrayClass .boolean, Cond.fieldLink RX4 9 "RungPlay$Play" "wonByA" "[Z", Cond.classLink RX4 15 RX3, Cond.instantiable RX3 2, Cond.initialized RX3, Cond.fieldLink RX4 18 "RungPlay$Play" "points" "LRungPlay$Pair;", Cond.fieldLink RX4 22 "RungPlay$Play" "games" "LRungPlay$Pair;", Cond.fieldLink RX4 25 "RungPlay$Play" "sets" "LRungPlay$Pair;", Cond.fieldLink RX4 28 "RungPlay$Play" "onServeOfA" "LRungPlay$Pair;", Cond.fieldLink RX4 31 "RungPlay$Play" "onServeOfB" "LRungPlay$Pair;", Cond.fieldLink RX4 34 "RungPlay$Play" "rules" "LRungPlay$Rules;", Cond.instanceMethod yX3_init, Cond.code yX3_init cX3_init 1 none, Cond.methodLink RX3 3 objectInit, Cond.methodLink RX4 38 yX4_restart, Cond.instanceMethod yX4_restart, Cond.selects RX4 yX4_restart yX4_restart, Cond.code yX4_restart cX4_restart 1 none, Cond.fieldLink RX4 44 "RungPlay$Play" "servedFirst" "I", Cond.fieldLink RX4 48 "RungPlay$Play" "serves" "I"]
def wsL_law_r5 : List Cond := [Cond.fieldLink RX4 51 "RungPlay$Play" "played" "I", Cond.methodLink RX4 41 yX3_clear, Cond.instanceMethod yX3_clear, Cond.selects RX3 yX3_clear yX3_clear, Cond.code yX3_clear cX3_clear 1 none, Cond.fieldLink RX3 9 "RungPlay$Pair" "ofA" "I", Cond.fieldLink RX3 15 "RungPlay$Pair" "ofB" "I", Cond.methodLink RL 12 yX7_init, Cond.instanceMethod yX7_init, Cond.code yX7_init cX7_init 1 none, Cond.methodLink RX7 1 objectInit, Cond.arrayClass .int, Cond.fieldLink RX7 7 "RungPlayModel" "rules" "[I", Cond.fieldLink RX7 13 "RungPlayModel" "points" "[I", Cond.fieldLink RX7 16 "RungPlayModel" "chances" "[J", Cond.fieldLink RX7 20 "RungPlayModel" "lasting" "[J", Cond.fieldLink RX7 23 "RungPlayModel" "sets" "[J", Cond.fieldLink RX7 26 "RungPlayModel" "told" "[I", Cond.methodLink RX7 29 yX7_replays, Cond.instanceMethod yX7_replays, Cond.selects RX7 yX7_replays yX7_replays, Cond.code yX7_replays cX7_replays 4 none, Cond.fieldLink RX7 103 "RungPlayModel" "firstServer" "I", Cond.fieldLink RX7 44 "RungPlayModel" "played" "I"]
def wsL_law_r6 : List Cond := [Cond.methodLink RX7 106 yX7_beginsGame, Cond.instanceMethod yX7_beginsGame, Cond.selects RX7 yX7_beginsGame yX7_beginsGame, Cond.code yX7_beginsGame cX7_beginsGame 1 none, Cond.methodLink RX7 55 yX7_wonOf, Cond.instanceMethod yX7_wonOf, Cond.selects RX7 yX7_wonOf yX7_wonOf, Cond.code yX7_wonOf cX7_wonOf 5 (some .int), Cond.methodLink RX7 109 yX7_winsGame, Cond.instanceMethod yX7_winsGame, Cond.selects RX7 yX7_winsGame yX7_winsGame, Cond.code yX7_winsGame cX7_winsGame 5 none, Cond.methodLink RL 13 yX6_set, Cond.instanceMethod yX6_set, Cond.selects RX6 yX6_set yX6_set, Cond.code yX6_set cX6_set 5 (some .int), Cond.fieldLink RX6 47 "RungPlay$Play" "played" "I", Cond.methodLink RX6 43 yX5_allows, Cond.instanceMethod yX5_allows, Cond.selects RX5 yX5_allows yX5_allows, Cond.code yX5_allows cX5_allows 3 (some .boolean), Cond.methodLink RX5 37 Lib.Math.max.name, Cond.static yX6_within, Cond.code yX6_within cX6_within 3 (some .boolean)]
def wsL_law_r7 : List Cond := [Cond.methodLink RX6 51 yX5_told, Cond.instanceMethod yX5_told, Cond.selects RX5 yX5_told yX5_told, Cond.code yX5_told cX5_told 2 (some .int), Cond.methodLink RX6 55 yX5_tell, Cond.instanceMethod yX5_tell, Cond.selects RX5 yX5_tell yX5_tell, Cond.code yX5_tell cX5_tell 3 none, Cond.methodLink RL 17 yX7_set, Cond.instanceMethod yX7_set, Cond.selects RX7 yX7_set yX7_set, Cond.code yX7_set cX7_set 4 (some .int), Cond.fieldLink RX7 32 "RungPlayModel" "thrown" "I", Cond.methodLink RX7 36 yX7_in, Cond.static yX7_in, Cond.code yX7_in cX7_in 3 (some .boolean), Cond.methodLink RX7 40 yX7_most, Cond.instanceMethod yX7_most, Cond.selects RX7 yX7_most yX7_most, Cond.code yX7_most cX7_most 2 (some .int), Cond.methodLink RL 18 yX6_won, Cond.instanceMethod yX6_won, Cond.selects RX6 yX6_won yX6_won, Cond.code yX6_won cX6_won 4 (some .int)]
def wsL_law_r8 : List Cond := [Cond.methodLink RX6 59 yX6_within, Cond.methodLink RX6 63 yX6_asked, Cond.static yX6_asked, Cond.code yX6_asked cX6_asked 1 (some .int), Cond.methodLink RX6 66 yX5_gameWinner, Cond.instanceMethod yX5_gameWinner, Cond.selects RX5 yX5_gameWinner yX5_gameWinner, Cond.code yX5_gameWinner cX5_gameWinner 7 (some .int), Cond.methodLink RX5 43 Lib.Math.min.name, Cond.static Lib.Math.min.name, Cond.code Lib.Math.min.name Lib.Math.min.code 2 (some .int), Cond.methodLink RX5 46 yX5_leader, Cond.static yX5_leader, Cond.code yX5_leader cX5_leader 2 (some .int), Cond.methodLink RL 22 yX7_won, Cond.instanceMethod yX7_won, Cond.selects RX7 yX7_won yX7_won, Cond.code yX7_won cX7_won 4 (some .int), Cond.fieldLink RX7 47 "RungPlayModel" "trace" "J", Cond.constantLong RX7 51 (11), Cond.constantLong RX7 53 (111), Cond.methodLink RL 23 yX6_chance, Cond.instanceMethod yX6_chance, Cond.selects RX6 yX6_chance yX6_chance]
def wsL_law_r9 : List Cond := [Cond.code yX6_chance cX6_chance 5 (some .long), Cond.constantLong RX6 77 (-1000000000000000000), Cond.fieldLink RX6 83 "RungPlay$GameOdds" "chances" "LRungPlay$Grid;", Cond.methodLink RX6 70 yX6_isScore, Cond.instanceMethod yX6_isScore, Cond.selects RX6 yX6_isScore yX6_isScore, Cond.code yX6_isScore cX6_isScore 4 (some .boolean), Cond.fieldLink RX6 106 "RungPlay$Rules" "toPoints" "I", Cond.fieldLink RX6 103 "RungPlay$Rules" "kind" "I", Cond.methodLink RX6 73 yX6_isEither, Cond.static yX6_isEither, Cond.code yX6_isEither cX6_isEither 1 (some .boolean), Cond.methodLink RX6 79 yX0_reckon, Cond.instanceMethod yX0_reckon, Cond.selects RX0 yX0_reckon yX0_reckon, Cond.code yX0_reckon cX0_reckon 6 none, Cond.fieldLink RX0 48 "RungPlay$Rules" "kind" "I", Cond.methodLink RX0 51 Lib.Math.min.name, Cond.methodLink RX0 44 yX5_tenthsOfA, Cond.instanceMethod yX5_tenthsOfA, Cond.selects RX5 yX5_tenthsOfA yX5_tenthsOfA, Cond.code yX5_tenthsOfA cX5_tenthsOfA 2 (some .int), Cond.methodLink RX0 57 yX0_reckonScore, Cond.instanceMethod yX0_reckonScore]
def wsL_law_r10 : List Cond := [Cond.selects RX0 yX0_reckonScore yX0_reckonScore, Cond.code yX0_reckonScore cX0_reckonScore 6 none, Cond.constantLong RX0 73 (200), Cond.methodLink RX0 61 yX5_gameWinner, Cond.methodLink RX0 65 yX0_bottom, Cond.instanceMethod yX0_bottom, Cond.selects RX0 yX0_bottom yX0_bottom, Cond.code yX0_bottom cX0_bottom 3 (some .long), Cond.methodLink RX0 40 yX0_tens, Cond.static yX0_tens, Cond.code yX0_tens cX0_tens 1 (some .long), Cond.methodLink RX0 69 yX1_put, Cond.instanceMethod yX1_put, Cond.selects RX1 yX1_put yX1_put, Cond.code yX1_put cX1_put 5 none, Cond.methodLink RX1 23 yX1_holds, Cond.instanceMethod yX1_holds, Cond.selects RX1 yX1_holds yX1_holds, Cond.code yX1_holds cX1_holds 3 (some .boolean), Cond.methodLink RX0 75 yX1_at, Cond.instanceMethod yX1_at, Cond.selects RX1 yX1_at yX1_at, Cond.code yX1_at cX1_at 3 (some .long), Cond.methodLink RX6 87 yX1_at]
def wsL_law_r11 : List Cond := [Cond.methodLink RX6 93 yX0_bottom, Cond.methodLink RX6 96 yX6_inLeastForm, Cond.static yX6_inLeastForm, Cond.code yX6_inLeastForm cX6_inLeastForm 9 (some .long), Cond.methodLink RX6 146 yX6_greatestDivisor, Cond.static yX6_greatestDivisor, Cond.code yX6_greatestDivisor cX6_greatestDivisor 11 (some .long), Cond.methodLink RL 27 yX7_chance, Cond.instanceMethod yX7_chance, Cond.selects RX7 yX7_chance yX7_chance, Cond.code yX7_chance cX7_chance 5 (some .long), Cond.constantLong RX7 80 (-1000000000000000000), Cond.methodLink RX7 76 yX7_isAsked, Cond.instanceMethod yX7_isAsked, Cond.selects RX7 yX7_isAsked yX7_isAsked, Cond.code yX7_isAsked cX7_isAsked 6 (some .boolean), Cond.methodLink RX7 82 yX7_works, Cond.instanceMethod yX7_works, Cond.selects RX7 yX7_works yX7_works, Cond.code yX7_works cX7_works 12 none, Cond.constantLong RX7 59 (1000000000), Cond.fieldLink RX7 61 "RungPlayModel" "below" "J", Cond.constantLong RX7 64 (100000000), Cond.constantLong RX7 66 (200000000000)]
def wsL_law_r12 : List Cond := [Cond.constantLong RX7 68 (10), Cond.constantLong RX7 70 (200), Cond.methodLink RX7 86 yX7_part, Cond.instanceMethod yX7_part, Cond.selects RX7 yX7_part yX7_part, Cond.code yX7_part cX7_part 6 (some .long), Cond.methodLink RX7 72 yX7_common, Cond.static yX7_common, Cond.code yX7_common cX7_common 10 (some .long), Cond.methodLink RL 28 yX6_lasts, Cond.instanceMethod yX6_lasts, Cond.selects RX6 yX6_lasts yX6_lasts, Cond.code yX6_lasts cX6_lasts 5 (some .long), Cond.fieldLink RX6 100 "RungPlay$GameOdds" "lengths" "LRungPlay$Grid;", Cond.methodLink RL 31 yX7_lasts, Cond.instanceMethod yX7_lasts, Cond.selects RX7 yX7_lasts yX7_lasts, Cond.code yX7_lasts cX7_lasts 5 (some .long), Cond.methodLink RL 32 yX6_weight, Cond.instanceMethod yX6_weight, Cond.selects RX6 yX6_weight yX6_weight, Cond.code yX6_weight cX6_weight 6 (some .long), Cond.methodLink RX6 109 yX0_weightAt, Cond.instanceMethod yX0_weightAt]
def wsL_law_r13 : List Cond := [Cond.selects RX0 yX0_weightAt yX0_weightAt, Cond.code yX0_weightAt cX0_weightAt 3 (some .long), Cond.methodLink RL 35 yX7_weight, Cond.instanceMethod yX7_weight, Cond.selects RX7 yX7_weight yX7_weight, Cond.code yX7_weight cX7_weight 5 (some .long), Cond.methodLink RL 36 yX6_heaviest, Cond.instanceMethod yX6_heaviest, Cond.selects RX6 yX6_heaviest yX6_heaviest, Cond.code yX6_heaviest cX6_heaviest 3 (some .int), Cond.methodLink RX6 112 yX0_heaviestScore, Cond.instanceMethod yX0_heaviestScore, Cond.selects RX0 yX0_heaviestScore yX0_heaviestScore, Cond.code yX0_heaviestScore cX0_heaviestScore 10 (some .int), Cond.constantLong RX0 86 (-1), Cond.methodLink RX0 88 yX0_weightAt, Cond.methodLink RL 39 yX7_heaviest, Cond.instanceMethod yX7_heaviest, Cond.selects RX7 yX7_heaviest yX7_heaviest, Cond.code yX7_heaviest cX7_heaviest 10 (some .int), Cond.constantLong RX7 90 (-1), Cond.methodLink RL 40 yX6_game, Cond.instanceMethod yX6_game, Cond.selects RX6 yX6_game yX6_game]
def wsL_law_r14 : List Cond := [Cond.code yX6_game cX6_game 2 (some .int), Cond.methodLink RX6 115 yX0_inMillionths, Cond.instanceMethod yX0_inMillionths, Cond.selects RX0 yX0_inMillionths yX0_inMillionths, Cond.code yX0_inMillionths cX0_inMillionths 5 (some .long), Cond.constantLong RX0 84 (1000000), Cond.methodLink RX0 78 yX0_reckon, Cond.methodLink RX0 81 yX5_headStartOfA, Cond.instanceMethod yX5_headStartOfA, Cond.selects RX5 yX5_headStartOfA yX5_headStartOfA, Cond.code yX5_headStartOfA cX5_headStartOfA 2 (some .int), Cond.methodLink RL 44 yX7_game, Cond.instanceMethod yX7_game, Cond.selects RX7 yX7_game yX7_game, Cond.code yX7_game cX7_game 2 (some .int), Cond.methodLink RX7 94 yX7_gameOf, Cond.instanceMethod yX7_gameOf, Cond.selects RX7 yX7_gameOf yX7_gameOf, Cond.code yX7_gameOf cX7_gameOf 2 (some .long), Cond.constantLong RX7 92 (1000000), Cond.methodLink RL 45 yX6_round, Cond.instanceMethod yX6_round, Cond.selects RX6 yX6_round yX6_round, Cond.code yX6_round cX6_round 4 (some .int)]
def wsL_law_r15 : List Cond := [Cond.fieldLink RX6 119 "RungPlay$Rules" "toGames" "I", Cond.methodLink RX6 122 yX2_ofSet, Cond.instanceMethod yX2_ofSet, Cond.selects RX2 yX2_ofSet yX2_ofSet, Cond.code yX2_ofSet cX2_ofSet 14 (some .long), Cond.fieldLink RX2 27 "RungPlay$Rules" "toGames" "I", Cond.constantLong RX2 33 (2), Cond.methodLink RX2 35 yX5_setWinner, Cond.instanceMethod yX5_setWinner, Cond.selects RX5 yX5_setWinner yX5_setWinner, Cond.code yX5_setWinner cX5_setWinner 5 (some .int), Cond.methodLink RX5 49 Lib.Math.abs.name, Cond.static Lib.Math.abs.name, Cond.code Lib.Math.abs.name Lib.Math.abs.code 1 (some .int), Cond.methodLink RX2 39 yX2_ofScore, Cond.static yX2_ofScore, Cond.code yX2_ofScore cX2_ofScore 6 (some .long), Cond.constantLong RX2 61 (1000000), Cond.methodLink RX2 47 yX1_at, Cond.methodLink RX2 43 yX1_put, Cond.methodLink RL 48 yX7_round, Cond.instanceMethod yX7_round, Cond.selects RX7 yX7_round yX7_round, Cond.code yX7_round cX7_round 4 (some .int)]
def wsL_law_r16 : List Cond := [Cond.methodLink RX7 100 yX7_worksSets, Cond.instanceMethod yX7_worksSets, Cond.selects RX7 yX7_worksSets yX7_worksSets, Cond.code yX7_worksSets cX7_worksSets 18 none, Cond.constantLong RX7 98 (2), Cond.methodLink RL 49 yX6_match, Cond.instanceMethod yX6_match, Cond.selects RX6 yX6_match yX6_match, Cond.code yX6_match cX6_match 4 (some .int), Cond.fieldLink RX6 126 "RungPlay$Rules" "toSets" "I", Cond.methodLink RX6 129 yX2_ofMatch, Cond.instanceMethod yX2_ofMatch, Cond.selects RX2 yX2_ofMatch yX2_ofMatch, Cond.code yX2_ofMatch cX2_ofMatch 17 (some .long), Cond.fieldLink RX2 55 "RungPlay$Rules" "toSets" "I", Cond.methodLink RX2 51 yX2_ofSet, Cond.methodLink RX2 58 yX5_matchWinner, Cond.instanceMethod yX5_matchWinner, Cond.selects RX5 yX5_matchWinner yX5_matchWinner, Cond.code yX5_matchWinner cX5_matchWinner 3 (some .int), Cond.methodLink RL 52 yX7_match, Cond.instanceMethod yX7_match, Cond.selects RX7 yX7_match yX7_match, Cond.code yX7_match cX7_match 16 (some .int)]
def wsL_law_r17 : List Cond := [Cond.methodLink RL 53 yX6_point, Cond.instanceMethod yX6_point, Cond.selects RX6 yX6_point yX6_point, Cond.code yX6_point cX6_point 2 (some .int), Cond.methodLink RX6 132 yX4_matchWinner, Cond.instanceMethod yX4_matchWinner, Cond.selects RX4 yX4_matchWinner yX4_matchWinner, Cond.code yX4_matchWinner cX4_matchWinner 2 (some .int), Cond.fieldLink RX4 77 "RungPlay$Pair" "ofA" "I", Cond.fieldLink RX4 67 "RungPlay$Pair" "ofB" "I", Cond.methodLink RX4 99 yX5_matchWinner, Cond.methodLink RX6 136 yX4_tell, Cond.instanceMethod yX4_tell, Cond.selects RX4 yX4_tell yX4_tell, Cond.code yX4_tell cX4_tell 3 none, Cond.fieldLink RX4 58 "RungPlay$Rules" "kind" "I", Cond.methodLink RX4 54 yX3_oneMore, Cond.instanceMethod yX3_oneMore, Cond.selects RX3 yX3_oneMore yX3_oneMore, Cond.code yX3_oneMore cX3_oneMore 2 none, Cond.methodLink RX4 63 yX4_pointsOfA, Cond.instanceMethod yX4_pointsOfA, Cond.selects RX4 yX4_pointsOfA yX4_pointsOfA, Cond.code yX4_pointsOfA cX4_pointsOfA 1 (some .int)]
def wsL_law_r18 : List Cond := [Cond.methodLink RX4 80 yX5_headStartOfA, Cond.methodLink RX4 70 yX5_gameWinner, Cond.methodLink RX4 74 yX4_endGame, Cond.instanceMethod yX4_endGame, Cond.selects RX4 yX4_endGame yX4_endGame, Cond.code yX4_endGame cX4_endGame 3 none, Cond.methodLink RX4 84 yX5_setWinner, Cond.methodLink RX4 88 yX4_endSet, Cond.instanceMethod yX4_endSet, Cond.selects RX4 yX4_endSet yX4_endSet, Cond.code yX4_endSet cX4_endSet 2 none, Cond.methodLink RL 56 yX7_point, Cond.instanceMethod yX7_point, Cond.selects RX7 yX7_point yX7_point, Cond.code yX7_point cX7_point 2 (some .int), Cond.methodLink RL 57 yX6_back, Cond.instanceMethod yX6_back, Cond.selects RX6 yX6_back yX6_back, Cond.code yX6_back cX6_back 2 (some .int), Cond.methodLink RX6 138 yX4_takeBack, Cond.instanceMethod yX4_takeBack, Cond.selects RX4 yX4_takeBack yX4_takeBack, Cond.code yX4_takeBack cX4_takeBack 5 (some .int), Cond.methodLink RX4 91 Lib.Math.max.name]
def wsL_law_r19 : List Cond := [Cond.methodLink RX4 96 yX4_tell, Cond.methodLink RL 60 yX7_back, Cond.instanceMethod yX7_back, Cond.selects RX7 yX7_back yX7_back, Cond.code yX7_back cX7_back 3 (some .int), Cond.methodLink RL 61 yX6_score, Cond.instanceMethod yX6_score, Cond.selects RX6 yX6_score yX6_score, Cond.code yX6_score cX6_score 2 (some .int), Cond.methodLink RX6 141 yX4_told, Cond.instanceMethod yX4_told, Cond.selects RX4 yX4_told yX4_told, Cond.code yX4_told cX4_told 2 (some .int), Cond.methodLink RX4 102 yX4_matchWinner, Cond.methodLink RL 64 yX7_score, Cond.instanceMethod yX7_score, Cond.selects RX7 yX7_score yX7_score, Cond.code yX7_score cX7_score 2 (some .int), Cond.methodLink RL 65 yX6_likeliest, Cond.instanceMethod yX6_likeliest, Cond.selects RX6 yX6_likeliest yX6_likeliest, Cond.code yX6_likeliest cX6_likeliest 5 (some .int), Cond.methodLink RX6 142 yX6_likelihood, Cond.static yX6_likelihood]
def wsL_law_r20 : List Cond := [Cond.code yX6_likelihood cX6_likelihood 6 (some .long), Cond.methodLink RL 68 yX7_likeliest, Cond.instanceMethod yX7_likeliest, Cond.selects RX7 yX7_likeliest yX7_likeliest, Cond.code yX7_likeliest cX7_likeliest 10 (some .int), Cond.methodLink RL 69 yX6_count, Cond.instanceMethod yX6_count, Cond.selects RX6 yX6_count yX6_count, Cond.code yX6_count cX6_count 2 (some .int), Cond.methodLink RL 72 yX7_count, Cond.instanceMethod yX7_count, Cond.selects RX7 yX7_count yX7_count, Cond.code yX7_count cX7_count 2 (some .int), Cond.methodLink RL 73 yX6_trace, Cond.instanceMethod yX6_trace, Cond.selects RX6 yX6_trace yX6_trace, Cond.code yX6_trace cX6_trace 1 (some .long), Cond.methodLink RL 77 yX7_trace, Cond.instanceMethod yX7_trace, Cond.selects RX7 yX7_trace yX7_trace, Cond.code yX7_trace cX7_trace 1 (some .long)]
def wsL_law : List Cond := (wsL_law_r1 ++ (wsL_law_r2 ++ (wsL_law_r3 ++ (wsL_law_r4 ++ (wsL_law_r5 ++ (wsL_law_r6 ++ (wsL_law_r7 ++ (wsL_law_r8 ++ (wsL_law_r9 ++ (wsL_law_r10 ++ (wsL_law_r11 ++ (wsL_law_r12 ++ (wsL_law_r13 ++ (wsL_law_r14 ++ (wsL_law_r15 ++ (wsL_law_r16 ++ (wsL_law_r17 ++ (wsL_law_r18 ++ (wsL_law_r19 ++ wsL_law_r20))))))))))))))))))) ++ wsX60 ++ wsX70 ++ wsX50 ++ wsX00 ++ wsX20 ++ wsX40 ++ wsX10 ++ wsX30 ++ ([] : List Cond)
abbrev vwCl : List vw_C := [(RX0, TX0, 5), (RX1, TX1, 2), (RX2, TX2, 3), (RX3, TX3, 2), (RX4, TX4, 10), (RX5, TX5, 7), (RX6, TX6, 5), (RX7, TX7, 11)]
end
section
/-! General rows of mine: the context of a body, contracts of one shape, calls with their frame, returns, fields. -/
def q_ten (j : Nat) : Int64 := match j with
  | 0 => 1
  | 1 => 10
  | 2 => 100
  | 3 => 1000
  | 4 => 10000
  | 5 => 100000
  | 6 => 1000000
  | 7 => 10000000
  | 8 => 100000000
  | 9 => 1000000000
  | _ => 10000000000
/-- what every body may use beside its world: the static row of tens, and the four nest links -/
def q_X (A : Nat → Prop) (U : State) (H : Heap) : Prop :=
  (∃ t : Nat, va_Z RX6 "TENS" "[J" (.ref t) A U H ∧ va_T .long t 11 (fun j => .long (q_ten j)) A U H) ∧
  va_Nw (.fieldLinkNest RX0 91 RX6 "TENS" "[J" RX6) U ∧ va_Nw (.methodLinkNest RX5 33 yX6_within RX6) U ∧
  va_Nw (.methodLinkNest RX6 9 yX5_init RX6) U ∧ va_Nw (.methodLinkNest RX4 17 yX3_init RX6) U
theorem q_X.go {A B : Nat → Prop} {s U : State} {H : Heap} {locs : List Loc} (h : q_X A s s.heap) (hS : va_S A s.heap H locs) (hAB : ∀ q, B q → A q) (hW : s.WarmedH U.vm) : q_X B U H := by
  obtain ⟨⟨t, hZ, hT⟩, h1, h2, h3, h4⟩ := h
  exact ⟨⟨t, va_Z.moved hW.alike ((hZ.kept (fun a h1 h2 => hS.2.1 a h1 h2)).narrow hAB), va_T.moved hW.alike ((hT.kept (fun a h1 h2 => hS.2.1 a h1 h2)).narrow hAB)⟩, va_Nw.warmF hW h1, va_Nw.warmM hW h2, va_Nw.warmM hW h3, va_Nw.warmM hW h4⟩
theorem q_X.call {A : Nat → Prop} {U : State} {g : JFrame} {mk : MethodId} {a : Array Value} (h : q_X A U U.heap) : q_X A (U.calling g mk a) (U.calling g mk a).heap := by
  obtain ⟨⟨t, hZ, hT⟩, h1, h2, h3, h4⟩ := h
  exact ⟨⟨t, va_Z.moved (u := U) (U := U.calling g mk a) (Vm.Alike.refl U.vm) hZ, va_T.moved (u := U) (U := U.calling g mk a) (Vm.Alike.refl U.vm) hT⟩, va_Nw.same (u := U) (U := U.calling g mk a) rfl rfl h1, va_Nw.same (u := U) (U := U.calling g mk a) rfl rfl h2, va_Nw.same (u := U) (U := U.calling g mk a) rfl rfl h3, va_Nw.same (u := U) (U := U.calling g mk a) rfl rfl h4⟩
abbrev q_T (cI cJ cZ : ClassId) : List (ClassId × FieldType) := [(cI, .int), (cJ, .long), (cZ, .boolean)]
def q_Pre (D : va_G) (T : List (ClassId × FieldType)) (w : va_W) (sz : Nat) (U : State) : Prop :=
  U.heap.size = sz ∧ va_P D vwCl w U.heap ∧ va_K D vwCl T U ∧ va_D (fun _ => True) w ∧ q_X (va_A w sz) U U.heap
theorem q_blind {D : va_G} {T : List (ClassId × FieldType)} {w : va_W} {sz : Nat} {av : List Value} : FrameBlind (va_Pc av (q_Pre D T w sz)) := by
  intro a U g mk h
  obtain ⟨h0, h1, h2, h3, h4, h5⟩ := h
  exact ⟨h0, h1, h2, va_K.moved (u := U) (U := U.calling g mk a) (Vm.Alike.refl U.vm) h3, h4, q_X.call h5⟩
def q_B (D : va_G) (T : List (ClassId × FieldType)) (w' : va_W) (A : Nat → Prop) : Unit → State → Prop := fun _ t => va_P D vwCl w' t.heap ∧ va_K D vwCl T t ∧ va_D A w'
abbrev qI (D : va_G) (T : List (ClassId × FieldType)) (w' : va_W) (rv : Int32) (A : Nat → Prop) : Array Value → State → Outcome → State → Prop := va_Qi (fun r (_ : Unit) => r = rv) (q_B D T w' A) A
abbrev qL (D : va_G) (T : List (ClassId × FieldType)) (w' : va_W) (rv : Int64) (A : Nat → Prop) : Array Value → State → Outcome → State → Prop := va_Ql (fun r (_ : Unit) => r = rv) (q_B D T w' A) A
abbrev qV (D : va_G) (T : List (ClassId × FieldType)) (w' : va_W) (A : Nat → Prop) : Array Value → State → Outcome → State → Prop := va_Qv (fun (_ : Unit) => True) (q_B D T w' A) A
/-- a contract: from the world w (arguments av) to what P says -/
def q_M (l : Launch) (y : MethodName) (ws : List Cond) (rm : Room) (D : va_G) (T : List (ClassId × FieldType)) (av : List Value) (w : va_W) (P : (Nat → Prop) → Array Value → State → Outcome → State → Prop) : Prop :=
  ∀ sz : Nat, Met l y ws rm (va_Pc av (q_Pre D T w sz)) (P (va_A w sz)) 0 0 (va_A w sz)
/-- what a body knows -/
def q_C (p : Program) (s : State) (m : MethodId) (args : Array Value) (meth : Method) (c : Code) (D : va_G) (T : List (ClassId × FieldType)) (A : Nat → Prop) (own : String) (Ts : List Cond) (cc : ByteArray) (nL : Nat) (ret : Option FieldType) : Prop :=
  p.tables.exec = Jvm.exec ∧ c.code = cc ∧ c.maxLocals = nL ∧ s.vm.findClass own = some m.cls ∧ (∀ w ∈ Ts, w.before args s = true) ∧ meth.sig.returnType = ret ∧ meth.locks = false ∧ va_K D vwCl T s ∧ q_X A s s.heap ∧ ∀ q : Nat, s.heap.size ≤ q → A q
theorem q_body {l : Launch} {y : MethodName} {ws ws' : List Cond} {rm : Room} {D : va_G} {T : List (ClassId × FieldType)} {av : List Value} {w : va_W} {P : (Nat → Prop) → Array Value → State → Outcome → State → Prop} {cc : ByteArray} {maxL : Nat} {ret : Option FieldType} (hy : plainName y.cls = true) (hw : ws = Cond.code y cc maxL ret :: ws') (hlen : (lg_sl av).length ≤ maxL)
    (body : ∀ (p : Program) (e : Env) (s : State) (m : MethodId) (args : Array Value) (below : List Frame) (meth : Method) (c : Code) (A : Nat → Prop), q_C p s m args meth c D T A y.cls ws cc maxL ret → ∀ (ls : Array Slot), va_P D vwCl w s.heap → va_D A w → va_S A s.heap s.heap [] → lv_has ls maxL (lv_args 0 av) →
      W p l e rm s m args below meth c s.heap [] 0 0 (MQ below (P A) args s 0 0 A) (F0 m 0 ls [])) : q_M l y ws rm D T av w P := by
  intro sz
  refine Met.ofW (cc := cc) (maxL := maxL) (ret := ret) hy hw ?_
  intro p e s m args below meth c s₁ B hml hv
  obtain ⟨rfl, hsz, hP, hK, hD0, hX⟩ := hv
  have hl := lv_entry av (n := maxL) hlen
  rw [lg_entry_eq]
  subst hsz
  exact body p e s m _ below meth c (va_A w s.heap.size) ⟨B.exec, B.bytes, hml, findClass_of_methodNamed B.named, atoms_spec (ws := ws) B.pre, B.returns, B.notSynchronized, hK, hX, fun q h => Or.inr h⟩ _ hP hD0.self va_S.rf hl
theorem q_sub {D : va_G} {cl : List vw_C} {ws wc : va_W} {H : Heap} {is : List Nat} (hP : va_P D cl ws H) (hC : is.map (fun i => ws[i]?) = wc.map some) : va_P D cl wc H := by
  intro k q hq
  have h1 : (is.map (fun i => ws[i]?))[k]? = some (some q) := by rw [hC, List.getElem?_map, hq]; rfl
  rw [List.getElem?_map] at h1
  cases hi : is[k]? with
  | none => rw [hi] at h1; cases h1
  | some i => rw [hi] at h1; exact hP i q (Option.some.inj h1)
section QCC
variable {p : Program} {l : Launch} {e : Env} {R : Room} {s : State} {m : MethodId} {args : Array Value} {below : List Frame} {meth : Method} {c : Code} {H : Heap} {locs : List Loc} {Q : State → Prop}
variable {D : va_G} {T : List (ClassId × FieldType)} {A : Nat → Prop} {own : String} {Ts : List Cond} {cc : ByteArray} {nL : Nat} {ret0 : Option FieldType}
variable {y : MethodName} {ws' : List Cond} {rm : Room} {bytes : ByteArray} {maxL index n pc : Nat} {ret : Option FieldType} {ws wc wr w1 : va_W} {ls : Array Slot} {st rest As : List Value}
theorem q_runV {C : String} {b : Nat} {ci q0 N : Nat} {TT : u_T} {fs : List Value} {P : (Nat → Prop) → Array Value → State → Outcome → State → Prop} (C0 : q_C p s m args meth c D T A own Ts cc nL ret0) (hM : q_M l y ws' rm D T (.ref b :: As) wc P) (cw : CallW R s args own C index y bytes maxL ret ws' rm 0 0 n)
    (hP : va_P D vwCl ws H) (hD : va_D A ws) (hS : va_S A s.heap H locs) (isC : List Nat) (hC : isC.map (fun i => ws[i]?) = wc.map some) (hn : va_nd isC = true)
    (hcl : vwCl[ci]? = some (C, TT, N)) (he : wc[q0]? = some (b, .inr (ci, fs))) (hnA : As.length = n) (hst : st = As.reverse ++ .ref b :: rest) (hl : ls.size = nL) (hWt : (rest.map fun v => v.category).sum ≤ 8) (hdg : decode cc pc = .ok (.invokevirtual index, 3)) :
    va_Run p l e R s m args below meth c H locs 0 0 0 0 (F0 m pc ls st) rest (P (va_A wc H.size) (Value.ref b :: As).toArray) (va_A wc H.size) := by
  obtain ⟨hx, hb, hml, hown, hts, hr, hlk, hK, hX, hA⟩ := C0
  have hPc : va_P D vwCl wc H := q_sub hP hC
  have hDc := hD.sub isC hn hC
  have hFc := va_free hD hS hA isC hC
  exact va_runV (As := As) (rest := rest) ⟨hx, hb, hml, hown, hts⟩ (hM H.size) cw ⟨q_blind, va_recv hK hPc hcl he, fun U hU hW => ⟨rfl, by rw [hU], by rw [hU]; exact hPc, va_K.moved hW.alike hK, hDc.weaken (fun _ _ _ _ => trivial), by rw [hU]; exact hX.go hS hFc hW⟩⟩ rfl hnA hl hst (lv_room (rest := []) (pc := 0) (ls := ls) (m := m) hWt) hdg ⟨Nat.zero_le _, Nat.zero_le _⟩
theorem q_runS {P : (Nat → Prop) → Array Value → State → Outcome → State → Prop} (C0 : q_C p s m args meth c D T A own Ts cc nL ret0) (hM : q_M l y ws' rm D T As wc P) (cw : CallB R s args own index y bytes maxL ret ws' rm 0 0 n ∧ (Cond.static y).before args s = true)
    (hP : va_P D vwCl ws H) (hD : va_D A ws) (hS : va_S A s.heap H locs) (isC : List Nat) (hC : isC.map (fun i => ws[i]?) = wc.map some) (hn : va_nd isC = true)
    (hnA : As.length = n) (hst : st = As.reverse ++ rest) (hl : ls.size = nL) (hWt : (rest.map fun v => v.category).sum ≤ 8) (hdg : decode cc pc = .ok (.invokestatic index, 3)) :
    va_Run p l e R s m args below meth c H locs 0 0 0 0 (F0 m pc ls st) rest (P (va_A wc H.size) As.toArray) (va_A wc H.size) := by
  obtain ⟨hx, hb, hml, hown, hts, hr, hlk, hK, hX, hA⟩ := C0
  have hPc : va_P D vwCl wc H := q_sub hP hC
  have hDc := hD.sub isC hn hC
  have hFc := va_free hD hS hA isC hC
  exact va_runS (As := As) (rest := rest) ⟨hx, hb, hml, hown, hts⟩ (hM H.size) cw ⟨q_blind, fun U hU hW => ⟨rfl, by rw [hU], by rw [hU]; exact hPc, va_K.moved hW.alike hK, hDc.weaken (fun _ _ _ _ => trivial), by rw [hU]; exact hX.go hS hFc hW⟩⟩ rfl hnA hl hst (lv_room (rest := []) (pc := 0) (ls := ls) (m := m) hWt) hdg ⟨Nat.zero_le _, Nat.zero_le _⟩
theorem q_runSN {host : String} {P : (Nat → Prop) → Array Value → State → Outcome → State → Prop} (C0 : q_C p s m args meth c D T A own Ts cc nL ret0) (hM : q_M l y ws' rm D T As wc P) (cw : va_CN R s args own index y host bytes maxL ret ws' rm 0 0 n ∧ (Cond.static y).before args s = true ∧ True)
    (hP : va_P D vwCl ws H) (hD : va_D A ws) (hS : va_S A s.heap H locs) (isC : List Nat) (hC : isC.map (fun i => ws[i]?) = wc.map some) (hn : va_nd isC = true)
    (hnA : As.length = n) (hst : st = As.reverse ++ rest) (hl : ls.size = nL) (hWt : (rest.map fun v => v.category).sum ≤ 8) (hdg : decode cc pc = .ok (.invokestatic index, 3)) :
    va_Run p l e R s m args below meth c H locs 0 0 0 0 (F0 m pc ls st) rest (P (va_A wc H.size) As.toArray) (va_A wc H.size) := by
  obtain ⟨hx, hb, hml, hown, hts, hr, hlk, hK, hX, hA⟩ := C0
  have hPc : va_P D vwCl wc H := q_sub hP hC
  have hDc := hD.sub isC hn hC
  have hFc := va_free hD hS hA isC hC
  exact va_runSN (As := As) (rest := rest) ⟨hx, hb, hml, hown, hts⟩ (hM H.size) cw ⟨q_blind, fun U hU hW => ⟨rfl, by rw [hU], by rw [hU]; exact hPc, va_K.moved hW.alike hK, hDc.weaken (fun _ _ _ _ => trivial), by rw [hU]; exact hX.go hS hFc hW⟩⟩ rfl hnA hl hst (lv_room (rest := []) (pc := 0) (ls := ls) (m := m) hWt) hdg ⟨Nat.zero_le _, Nat.zero_le _⟩
/-- behind a call: the answer, and the world joined -/
theorem q_endI {rv : Int32} {a : Array Value} (C0 : q_C p s m args meth c D T A own Ts cc nL ret0) (hP : va_P D vwCl ws H) (hD : va_D A ws) (hS : va_S A s.heap H locs) (isC isR : List Nat) (hC : isC.map (fun i => ws[i]?) = wc.map some) (hR : isR.map (fun i => ws[i]?) = wr.map some) (hnR : va_nd isR = true) (hdis : ∀ i ∈ isR, i ∉ isC)
    (hr : va_Run p l e R s m args below meth c H locs 0 0 0 0 (F0 m pc ls st) rest (qI D T w1 rv (va_A wc H.size) a) (va_A wc H.size))
    (kk : ∀ (H1 : Heap) (locs1 : List Loc), va_P D vwCl (wr ++ w1) H1 → va_D A (wr ++ w1) → va_S A s.heap H1 locs1 → W p l e R s m args below meth c H1 locs1 0 0 Q (F0 m (pc + 3) ls (.int rv :: rest))) : W p l e R s m args below meth c H locs 0 0 Q (F0 m pc ls st) := by
  obtain ⟨hx, hb, hml, hown, hts, hrt, hlk, hK, hX, hA⟩ := C0
  have hFc := va_free hD hS hA isC hC
  refine va_calli hr hS (fun q _ h => hFc q h) hFc (fun r u t H1 locs1 ht hvm hw hB hz1 hk1 hS1 => ?_)
  obtain ⟨hP1, hK1, hD1⟩ := hB
  rw [ht] at hP1
  have hw : rv = r := Eq.symm hw
  subst hw
  obtain ⟨hP2, hD2⟩ := va_join hP hD isC isR hC hR hnR hdis hk1 hFc hP1 hD1
  exact kk H1 locs1 hP2 hD2 hS1
theorem q_endL {rv : Int64} {a : Array Value} (C0 : q_C p s m args meth c D T A own Ts cc nL ret0) (hP : va_P D vwCl ws H) (hD : va_D A ws) (hS : va_S A s.heap H locs) (isC isR : List Nat) (hC : isC.map (fun i => ws[i]?) = wc.map some) (hR : isR.map (fun i => ws[i]?) = wr.map some) (hnR : va_nd isR = true) (hdis : ∀ i ∈ isR, i ∉ isC)
    (hr : va_Run p l e R s m args below meth c H locs 0 0 0 0 (F0 m pc ls st) rest (qL D T w1 rv (va_A wc H.size) a) (va_A wc H.size))
    (kk : ∀ (H1 : Heap) (locs1 : List Loc), va_P D vwCl (wr ++ w1) H1 → va_D A (wr ++ w1) → va_S A s.heap H1 locs1 → W p l e R s m args below meth c H1 locs1 0 0 Q (F0 m (pc + 3) ls (.long rv :: rest))) : W p l e R s m args below meth c H locs 0 0 Q (F0 m pc ls st) := by
  obtain ⟨hx, hb, hml, hown, hts, hrt, hlk, hK, hX, hA⟩ := C0
  have hFc := va_free hD hS hA isC hC
  refine va_calll hr hS (fun q _ h => hFc q h) hFc (fun r u t H1 locs1 ht hvm hw hB hz1 hk1 hS1 => ?_)
  obtain ⟨hP1, hK1, hD1⟩ := hB
  rw [ht] at hP1
  have hw : rv = r := Eq.symm hw
  subst hw
  obtain ⟨hP2, hD2⟩ := va_join hP hD isC isR hC hR hnR hdis hk1 hFc hP1 hD1
  exact kk H1 locs1 hP2 hD2 hS1
theorem q_endV {a : Array Value} (C0 : q_C p s m args meth c D T A own Ts cc nL ret0) (hP : va_P D vwCl ws H) (hD : va_D A ws) (hS : va_S A s.heap H locs) (isC isR : List Nat) (hC : isC.map (fun i => ws[i]?) = wc.map some) (hR : isR.map (fun i => ws[i]?) = wr.map some) (hnR : va_nd isR = true) (hdis : ∀ i ∈ isR, i ∉ isC)
    (hr : va_Run p l e R s m args below meth c H locs 0 0 0 0 (F0 m pc ls st) rest (qV D T w1 (va_A wc H.size) a) (va_A wc H.size))
    (kk : ∀ (H1 : Heap) (locs1 : List Loc), va_P D vwCl (wr ++ w1) H1 → va_D A (wr ++ w1) → va_S A s.heap H1 locs1 → W p l e R s m args below meth c H1 locs1 0 0 Q (F0 m (pc + 3) ls rest)) : W p l e R s m args below meth c H locs 0 0 Q (F0 m pc ls st) := by
  obtain ⟨hx, hb, hml, hown, hts, hrt, hlk, hK, hX, hA⟩ := C0
  have hFc := va_free hD hS hA isC hC
  refine va_callv hr hS (fun q _ h => hFc q h) hFc (fun u t H1 locs1 ht hvm hw hB hz1 hk1 hS1 => ?_)
  obtain ⟨hP1, hK1, hD1⟩ := hB
  rw [ht] at hP1
  obtain ⟨hP2, hD2⟩ := va_join hP hD isC isR hC hR hnR hdis hk1 hFc hP1 hD1
  exact kk H1 locs1 hP2 hD2 hS1
/-- a return -/
theorem q_retI {rv : Int32} (C0 : q_C p s m args meth c D T A own Ts cc nL (some .int)) (hP : va_P D vwCl w1 H) (hD : va_D A w1) (hS : va_S A s.heap H locs) (hdg : decode cc pc = .ok (.ireturn, 1)) : W p l e R s m args below meth c H locs 0 0 (MQ below (qI D T w1 rv A) args s 0 0 A) (F0 m pc ls [.int rv]) := by
  obtain ⟨hx, hb, hml, hown, hts, hrt, hlk, hK, hX, hA⟩ := C0
  exact W.iret hx hb hrt (fun t ht hW => ⟨⟨rv, (), rfl, rfl, by rw [ht]; exact hP, va_K.moved hW.alike hK, hD⟩, hS.F ht⟩) hS.2.2 hdg hlk
theorem q_retZ {rv : Int32} (C0 : q_C p s m args meth c D T A own Ts cc nL (some .boolean)) (hv : narrow .boolean (.int rv) = .int rv) (hP : va_P D vwCl w1 H) (hD : va_D A w1) (hS : va_S A s.heap H locs) (hdg : decode cc pc = .ok (.ireturn, 1)) : W p l e R s m args below meth c H locs 0 0 (MQ below (qI D T w1 rv A) args s 0 0 A) (F0 m pc ls [.int rv]) := by
  obtain ⟨hx, hb, hml, hown, hts, hrt, hlk, hK, hX, hA⟩ := C0
  exact W.zret hx hb hrt hv (fun t ht hW => ⟨⟨rv, (), rfl, rfl, by rw [ht]; exact hP, va_K.moved hW.alike hK, hD⟩, hS.F ht⟩) hS.2.2 hdg hlk
theorem q_retL {rv : Int64} (C0 : q_C p s m args meth c D T A own Ts cc nL (some .long)) (hP : va_P D vwCl w1 H) (hD : va_D A w1) (hS : va_S A s.heap H locs) (hdg : decode cc pc = .ok (.lreturn, 1)) : W p l e R s m args below meth c H locs 0 0 (MQ below (qL D T w1 rv A) args s 0 0 A) (F0 m pc ls [.long rv]) := by
  obtain ⟨hx, hb, hml, hown, hts, hrt, hlk, hK, hX, hA⟩ := C0
  exact W.lret hx hb hrt (fun t ht hW => ⟨⟨rv, (), rfl, rfl, by rw [ht]; exact hP, va_K.moved hW.alike hK, hD⟩, hS.F ht⟩) hS.2.2 hdg hlk
theorem q_retV (C0 : q_C p s m args meth c D T A own Ts cc nL none) (hP : va_P D vwCl w1 H) (hD : va_D A w1) (hS : va_S A s.heap H locs) (hdg : decode cc pc = .ok (.return_, 1)) : W p l e R s m args below meth c H locs 0 0 (MQ below (qV D T w1 A) args s 0 0 A) (F0 m pc ls []) := by
  obtain ⟨hx, hb, hml, hown, hts, hrt, hlk, hK, hX, hA⟩ := C0
  exact W.vret hx hb hrt (fun t ht hW => ⟨⟨(), rfl, trivial, by rw [ht]; exact hP, va_K.moved hW.alike hK, hD⟩, hS.F ht⟩) hS.2.2 hdg hlk
/-- fields -/
theorem q_get {C : String} {TT : u_T} {N ci a : Nat} {fs : List Value} {v : Value} (C0 : q_C p s m args meth c D T A own Ts cc nL ret0) (hin : ∀ w ∈ u_ws C TT N, w ∈ Ts) (k : Nat) (hm : Cond.fieldLink own index C (TT k).2.1 (TT k).2.2.1 ∈ Ts) (hP : va_P D vwCl ws H) (q0 : Nat) (he : ws[q0]? = some (a, .inr (ci, fs))) (hc : vwCl[ci]? = some (C, TT, N)) (hk : k < N) (hd : (TT k).1 = C) (hv : fs[k]? = some v) (hdg : decode cc pc = .ok (.getfield index, 3))
    (kk : W p l e R s m args below meth c H locs 0 0 Q (F0 m (pc + 3) ls (v :: rest))) : W p l e R s m args below meth c H locs 0 0 Q (F0 m pc ls (.ref a :: rest)) := by
  obtain ⟨hx, hb, hml, hown, hts, hrt, hlk, hK, hX, hA⟩ := C0
  exact va_get (ref := C) hx hb hts hin hown hK hP q0 he hc k hk (hts _ hm) (fun x h => by rw [hd] at h; exact h) hv hdg kk
theorem q_put {C : String} {TT : u_T} {N ci a : Nat} {fs : List Value} {v : Value} {ty : FieldType} (C0 : q_C p s m args meth c D T A own Ts cc nL ret0) (hin : ∀ w ∈ u_ws C TT N, w ∈ Ts) (ty0 : Nat → FieldType) (hty : ∀ k, k < N → parseFieldDescriptor (TT k).2.2.1 = some (ty0 k)) (hnm : ∀ a, a < N → ∀ b, b < N → a ≠ b → (TT a).2.1 ≠ (TT b).2.1) (k : Nat) (hm : Cond.fieldLink own index C (TT k).2.1 (TT k).2.2.1 ∈ Ts) (hP : va_P D vwCl ws H) (hD : va_D A ws) (hS : va_S A s.heap H locs) (q0 : Nat) (he : ws[q0]? = some (a, .inr (ci, fs))) (hc : vwCl[ci]? = some (C, TT, N)) (hk : k < N) (hd : (TT k).1 = C) (hfin : (TT k).2.2.2 = false) (hpd : parseFieldDescriptor (TT k).2.2.1 = some ty) (hn : narrow ty v = v) (hfit : fits ty v = true) (hl : k < fs.length) (hdg : decode cc pc = .ok (.putfield index, 3))
    (kk : ∀ (H1 : Heap) (locs1 : List Loc), va_P D vwCl (ws.set q0 (a, .inr (ci, fs.set k v))) H1 → va_D A (ws.set q0 (a, .inr (ci, fs.set k v))) → va_S A s.heap H1 locs1 → W p l e R s m args below meth c H1 locs1 0 0 Q (F0 m (pc + 3) ls rest)) : W p l e R s m args below meth c H locs 0 0 Q (F0 m pc ls (v :: .ref a :: rest)) := by
  obtain ⟨hx, hb, hml, hown, hts, hrt, hlk, hK, hX, hA⟩ := C0
  exact va_put (ref := C) hx hb hts hin ty0 hty hnm hown hK hP hD hS q0 he hc k hk (hts _ hm) (fun x h => by rw [hd] at h; exact h) hfin hpd hn hfit hl hdg kk
/-- rows of numbers -/
theorem q_iald {a : Nat} {cA : ClassId} {n : Nat} {f : Nat → Int32} {i v : Int32} (C0 : q_C p s m args meth c D T A own Ts cc nL ret0) (hP : va_P D vwCl ws H) (q0 t0 : Nat) (ha : ws[q0]? = some (a, .inl (cA, n, .inl f))) (ht : T[t0]? = some (cA, .int)) (hin : vp_in i n) (hv : f i.toNatClampNeg = v) (hdg : decode cc pc = .ok (.iaload, 1))
    (kk : W p l e R s m args below meth c H locs 0 0 Q (F0 m (pc + 1) ls (.int v :: rest))) : W p l e R s m args below meth c H locs 0 0 Q (F0 m pc ls (.int i :: .ref a :: rest)) := by
  obtain ⟨hx, hb, hml, hown, hts, hrt, hlk, hK, hX, hA⟩ := C0
  subst hv
  exact va_iald hx hb hK hP q0 t0 ha ht hin hdg kk
theorem q_zald {a : Nat} {cA : ClassId} {n : Nat} {f : Nat → Int32} {i v : Int32} (C0 : q_C p s m args meth c D T A own Ts cc nL ret0) (hP : va_P D vwCl ws H) (q0 t0 : Nat) (ha : ws[q0]? = some (a, .inl (cA, n, .inl f))) (ht : T[t0]? = some (cA, .boolean)) (hin : vp_in i n) (hv : f i.toNatClampNeg = v) (hdg : decode cc pc = .ok (.baload, 1))
    (kk : W p l e R s m args below meth c H locs 0 0 Q (F0 m (pc + 1) ls (.int v :: rest))) : W p l e R s m args below meth c H locs 0 0 Q (F0 m pc ls (.int i :: .ref a :: rest)) := by
  obtain ⟨hx, hb, hml, hown, hts, hrt, hlk, hK, hX, hA⟩ := C0
  subst hv
  exact va_zald hx hb hK hP q0 t0 ha ht hin hdg kk
theorem q_lald {a : Nat} {cA : ClassId} {n : Nat} {f : Nat → Int64} {i : Int32} {v : Int64} (C0 : q_C p s m args meth c D T A own Ts cc nL ret0) (hP : va_P D vwCl ws H) (q0 t0 : Nat) (ha : ws[q0]? = some (a, .inl (cA, n, .inr (.inl f)))) (ht : T[t0]? = some (cA, .long)) (hin : vp_in i n) (hv : f i.toNatClampNeg = v) (hdg : decode cc pc = .ok (.laload, 1))
    (kk : W p l e R s m args below meth c H locs 0 0 Q (F0 m (pc + 1) ls (.long v :: rest))) : W p l e R s m args below meth c H locs 0 0 Q (F0 m pc ls (.int i :: .ref a :: rest)) := by
  obtain ⟨hx, hb, hml, hown, hts, hrt, hlk, hK, hX, hA⟩ := C0
  subst hv
  exact va_lald hx hb hK hP q0 t0 ha ht hin hdg kk
theorem q_iast {a : Nat} {cA : ClassId} {n : Nat} {f g : Nat → Int32} {i x : Int32} (C0 : q_C p s m args meth c D T A own Ts cc nL ret0) (hP : va_P D vwCl ws H) (hD : va_D A ws) (hS : va_S A s.heap H locs) (q0 t0 : Nat) (ha : ws[q0]? = some (a, .inl (cA, n, .inl f))) (ht : T[t0]? = some (cA, .int)) (hin : vp_in i n) (hg : upd f i.toNatClampNeg x = g) (hdg : decode cc pc = .ok (.iastore, 1))
    (kk : ∀ (H1 : Heap) (locs1 : List Loc), va_P D vwCl (ws.set q0 (a, .inl (cA, n, .inl g))) H1 → va_D A (ws.set q0 (a, .inl (cA, n, .inl g))) → va_S A s.heap H1 locs1 → W p l e R s m args below meth c H1 locs1 0 0 Q (F0 m (pc + 1) ls rest)) : W p l e R s m args below meth c H locs 0 0 Q (F0 m pc ls (.int x :: .int i :: .ref a :: rest)) := by
  obtain ⟨hx, hb, hml, hown, hts, hrt, hlk, hK, hX, hA⟩ := C0
  subst hg
  exact va_iast hx hb hK hP hD hS q0 t0 ha ht hin hdg kk
theorem q_zast {a : Nat} {cA : ClassId} {n : Nat} {f g : Nat → Int32} {i x : Int32} (C0 : q_C p s m args meth c D T A own Ts cc nL ret0) (hP : va_P D vwCl ws H) (hD : va_D A ws) (hS : va_S A s.heap H locs) (q0 t0 : Nat) (ha : ws[q0]? = some (a, .inl (cA, n, .inl f))) (ht : T[t0]? = some (cA, .boolean)) (hin : vp_in i n) (hg : upd f i.toNatClampNeg (vp_nar .boolean x) = g) (hdg : decode cc pc = .ok (.bastore, 1))
    (kk : ∀ (H1 : Heap) (locs1 : List Loc), va_P D vwCl (ws.set q0 (a, .inl (cA, n, .inl g))) H1 → va_D A (ws.set q0 (a, .inl (cA, n, .inl g))) → va_S A s.heap H1 locs1 → W p l e R s m args below meth c H1 locs1 0 0 Q (F0 m (pc + 1) ls rest)) : W p l e R s m args below meth c H locs 0 0 Q (F0 m pc ls (.int x :: .int i :: .ref a :: rest)) := by
  obtain ⟨hx, hb, hml, hown, hts, hrt, hlk, hK, hX, hA⟩ := C0
  subst hg
  exact va_zast hx hb hK hP hD hS q0 t0 ha ht hin hdg kk
theorem q_last {a : Nat} {cA : ClassId} {n : Nat} {f g : Nat → Int64} {i : Int32} {x : Int64} (C0 : q_C p s m args meth c D T A own Ts cc nL ret0) (hP : va_P D vwCl ws H) (hD : va_D A ws) (hS : va_S A s.heap H locs) (q0 t0 : Nat) (ha : ws[q0]? = some (a, .inl (cA, n, .inr (.inl f)))) (ht : T[t0]? = some (cA, .long)) (hin : vp_in i n) (hg : vp_updL f i.toNatClampNeg x = g) (hdg : decode cc pc = .ok (.lastore, 1))
    (kk : ∀ (H1 : Heap) (locs1 : List Loc), va_P D vwCl (ws.set q0 (a, .inl (cA, n, .inr (.inl g)))) H1 → va_D A (ws.set q0 (a, .inl (cA, n, .inr (.inl g)))) → va_S A s.heap H1 locs1 → W p l e R s m args below meth c H1 locs1 0 0 Q (F0 m (pc + 1) ls rest)) : W p l e R s m args below meth c H locs 0 0 Q (F0 m pc ls (.long x :: .int i :: .ref a :: rest)) := by
  obtain ⟨hx, hb, hml, hown, hts, hrt, hlk, hK, hX, hA⟩ := C0
  subst hg
  exact va_last hx hb hK hP hD hS q0 t0 ha ht hin hdg kk
theorem q_max {x y : Int32} (C0 : q_C p s m args meth c D T A own Ts cc nL ret0) (hl : ls.size = nL) (h1 : Cond.methodLink own index Lib.Math.max.name ∈ Ts) (h2 : Cond.static Lib.Math.max.name ∈ Ts) (h3 : Cond.initialized "java/lang/Math" ∈ Ts) (h4 : Cond.code Lib.Math.max.name Lib.Math.max.code 2 (some .int) ∈ Ts) (hf : 1 ≤ R.frames) (ho : (rest.map fun v => v.category).sum + 13 ≤ R.locals) (hdg : decode cc pc = .ok (.invokestatic index, 3))
    (kk : W p l e R s m args below meth c H locs 0 0 Q (F0 m (pc + 3) ls (.int (if x < y then y else x) :: rest))) : W p l e R s m args below meth c H locs 0 0 Q (F0 m pc ls (.int y :: .int x :: rest)) := by
  obtain ⟨hx, hb, hml, hown, hts, hrt, hlk, hK, hX, hA⟩ := C0
  exact va_mmax hx hb (hml.trans hl.symm) hown (hts _ h1) (hts _ h2) (hts _ h3) (hts _ h4) hf ho (Nat.zero_le _) (Nat.zero_le _) hdg kk
theorem q_min {x y : Int32} (C0 : q_C p s m args meth c D T A own Ts cc nL ret0) (hl : ls.size = nL) (h1 : Cond.methodLink own index Lib.Math.min.name ∈ Ts) (h2 : Cond.static Lib.Math.min.name ∈ Ts) (h3 : Cond.initialized "java/lang/Math" ∈ Ts) (h4 : Cond.code Lib.Math.min.name Lib.Math.min.code 2 (some .int) ∈ Ts) (hf : 1 ≤ R.frames) (ho : (rest.map fun v => v.category).sum + 13 ≤ R.locals) (hdg : decode cc pc = .ok (.invokestatic index, 3))
    (kk : W p l e R s m args below meth c H locs 0 0 Q (F0 m (pc + 3) ls (.int (if y < x then y else x) :: rest))) : W p l e R s m args below meth c H locs 0 0 Q (F0 m pc ls (.int y :: .int x :: rest)) := by
  obtain ⟨hx, hb, hml, hown, hts, hrt, hlk, hK, hX, hA⟩ := C0
  exact va_mmin hx hb (hml.trans hl.symm) hown (hts _ h1) (hts _ h2) (hts _ h3) (hts _ h4) hf ho (Nat.zero_le _) (Nat.zero_le _) hdg kk
theorem q_abs {x : Int32} (C0 : q_C p s m args meth c D T A own Ts cc nL ret0) (hl : ls.size = nL) (h1 : Cond.methodLink own index Lib.Math.abs.name ∈ Ts) (h2 : Cond.static Lib.Math.abs.name ∈ Ts) (h3 : Cond.initialized "java/lang/Math" ∈ Ts) (h4 : Cond.code Lib.Math.abs.name Lib.Math.abs.code 1 (some .int) ∈ Ts) (hf : 1 ≤ R.frames) (ho : (rest.map fun v => v.category).sum + 13 ≤ R.locals) (hdg : decode cc pc = .ok (.invokestatic index, 3))
    (kk : W p l e R s m args below meth c H locs 0 0 Q (F0 m (pc + 3) ls (.int (if 0 ≤ x then x else 0 - x) :: rest))) : W p l e R s m args below meth c H locs 0 0 Q (F0 m pc ls (.int x :: rest)) := by
  obtain ⟨hx, hb, hml, hown, hts, hrt, hlk, hK, hX, hA⟩ := C0
  exact va_mabs hx hb (hml.trans hl.symm) hown (hts _ h1) (hts _ h2) (hts _ h3) (hts _ h4) hf ho (Nat.zero_le _) (Nat.zero_le _) hdg kk
end QCC
/-! pure plumbing: what is left of a computation -/
theorem q_if {c : Prop} [Decidable c] {α : Type} {x y : α} {r : α} (h : (if c then x else y) = r) (hc : c) : x = r := by rw [if_pos hc] at h; exact h
theorem q_nif {c : Prop} [Decidable c] {α : Type} {x y : α} {r : α} (h : (if c then x else y) = r) (hc : ¬ c) : y = r := by rw [if_neg hc] at h; exact h
theorem q_gd {c : Prop} [Decidable c] {α : Type} {x : Option α} {r : α} (h : (if c then none else x) = some r) : ¬ c ∧ x = some r := by
  by_cases hc : c
  · rw [if_pos hc] at h; cases h
  · rw [if_neg hc] at h; exact ⟨hc, h⟩
theorem q_bd {α β : Type} {x : Option α} {g : α → Option β} {r : β} (h : x.bind g = some r) : ∃ a, x = some a ∧ g a = some r := by
  cases x with
  | none => cases h
  | some a => exact ⟨a, rfl, h⟩
abbrev q_b1 {A1 ρ : Type} (x : Option (A1)) (g : A1 → Option ρ) : Option ρ := x.bind (fun q => g q)
theorem q_e1 {A1 ρ : Type} {x : Option (A1)} {g : A1 → Option ρ} {r : ρ} (h : q_b1 x g = some r) : ∃ (a1 : A1), x = some a1 ∧ g a1 = some r := by
  obtain ⟨a1, h1, h2⟩ := q_bd h
  exact ⟨a1, h1, h2⟩
abbrev q_b2 {A1 A2 ρ : Type} (x : Option (A1 × A2)) (g : A1 → A2 → Option ρ) : Option ρ := x.bind (fun q => g q.1 q.2)
theorem q_e2 {A1 A2 ρ : Type} {x : Option (A1 × A2)} {g : A1 → A2 → Option ρ} {r : ρ} (h : q_b2 x g = some r) : ∃ (a1 : A1) (a2 : A2), x = some (a1, a2) ∧ g a1 a2 = some r := by
  obtain ⟨⟨a1, a2⟩, h1, h2⟩ := q_bd h
  exact ⟨a1, a2, h1, h2⟩
abbrev q_b3 {A1 A2 A3 ρ : Type} (x : Option (A1 × A2 × A3)) (g : A1 → A2 → A3 → Option ρ) : Option ρ := x.bind (fun q => g q.1 q.2.1 q.2.2)
theorem q_e3 {A1 A2 A3 ρ : Type} {x : Option (A1 × A2 × A3)} {g : A1 → A2 → A3 → Option ρ} {r : ρ} (h : q_b3 x g = some r) : ∃ (a1 : A1) (a2 : A2) (a3 : A3), x = some (a1, a2, a3) ∧ g a1 a2 a3 = some r := by
  obtain ⟨⟨a1, a2, a3⟩, h1, h2⟩ := q_bd h
  exact ⟨a1, a2, a3, h1, h2⟩
abbrev q_b4 {A1 A2 A3 A4 ρ : Type} (x : Option (A1 × A2 × A3 × A4)) (g : A1 → A2 → A3 → A4 → Option ρ) : Option ρ := x.bind (fun q => g q.1 q.2.1 q.2.2.1 q.2.2.2)
theorem q_e4 {A1 A2 A3 A4 ρ : Type} {x : Option (A1 × A2 × A3 × A4)} {g : A1 → A2 → A3 → A4 → Option ρ} {r : ρ} (h : q_b4 x g = some r) : ∃ (a1 : A1) (a2 : A2) (a3 : A3) (a4 : A4), x = some (a1, a2, a3, a4) ∧ g a1 a2 a3 a4 = some r := by
  obtain ⟨⟨a1, a2, a3, a4⟩, h1, h2⟩ := q_bd h
  exact ⟨a1, a2, a3, a4, h1, h2⟩
abbrev q_b5 {A1 A2 A3 A4 A5 ρ : Type} (x : Option (A1 × A2 × A3 × A4 × A5)) (g : A1 → A2 → A3 → A4 → A5 → Option ρ) : Option ρ := x.bind (fun q => g q.1 q.2.1 q.2.2.1 q.2.2.2.1 q.2.2.2.2)
theorem q_e5 {A1 A2 A3 A4 A5 ρ : Type} {x : Option (A1 × A2 × A3 × A4 × A5)} {g : A1 → A2 → A3 → A4 → A5 → Option ρ} {r : ρ} (h : q_b5 x g = some r) : ∃ (a1 : A1) (a2 : A2) (a3 : A3) (a4 : A4) (a5 : A5), x = some (a1, a2, a3, a4, a5) ∧ g a1 a2 a3 a4 a5 = some r := by
  obtain ⟨⟨a1, a2, a3, a4, a5⟩, h1, h2⟩ := q_bd h
  exact ⟨a1, a2, a3, a4, a5, h1, h2⟩
abbrev q_b6 {A1 A2 A3 A4 A5 A6 ρ : Type} (x : Option (A1 × A2 × A3 × A4 × A5 × A6)) (g : A1 → A2 → A3 → A4 → A5 → A6 → Option ρ) : Option ρ := x.bind (fun q => g q.1 q.2.1 q.2.2.1 q.2.2.2.1 q.2.2.2.2.1 q.2.2.2.2.2)
theorem q_e6 {A1 A2 A3 A4 A5 A6 ρ : Type} {x : Option (A1 × A2 × A3 × A4 × A5 × A6)} {g : A1 → A2 → A3 → A4 → A5 → A6 → Option ρ} {r : ρ} (h : q_b6 x g = some r) : ∃ (a1 : A1) (a2 : A2) (a3 : A3) (a4 : A4) (a5 : A5) (a6 : A6), x = some (a1, a2, a3, a4, a5, a6) ∧ g a1 a2 a3 a4 a5 a6 = some r := by
  obtain ⟨⟨a1, a2, a3, a4, a5, a6⟩, h1, h2⟩ := q_bd h
  exact ⟨a1, a2, a3, a4, a5, a6, h1, h2⟩
abbrev q_b7 {A1 A2 A3 A4 A5 A6 A7 ρ : Type} (x : Option (A1 × A2 × A3 × A4 × A5 × A6 × A7)) (g : A1 → A2 → A3 → A4 → A5 → A6 → A7 → Option ρ) : Option ρ := x.bind (fun q => g q.1 q.2.1 q.2.2.1 q.2.2.2.1 q.2.2.2.2.1 q.2.2.2.2.2.1 q.2.2.2.2.2.2)
theorem q_e7 {A1 A2 A3 A4 A5 A6 A7 ρ : Type} {x : Option (A1 × A2 × A3 × A4 × A5 × A6 × A7)} {g : A1 → A2 → A3 → A4 → A5 → A6 → A7 → Option ρ} {r : ρ} (h : q_b7 x g = some r) : ∃ (a1 : A1) (a2 : A2) (a3 : A3) (a4 : A4) (a5 : A5) (a6 : A6) (a7 : A7), x = some (a1, a2, a3, a4, a5, a6, a7) ∧ g a1 a2 a3 a4 a5 a6 a7 = some r := by
  obtain ⟨⟨a1, a2, a3, a4, a5, a6, a7⟩, h1, h2⟩ := q_bd h
  exact ⟨a1, a2, a3, a4, a5, a6, a7, h1, h2⟩
abbrev q_b8 {A1 A2 A3 A4 A5 A6 A7 A8 ρ : Type} (x : Option (A1 × A2 × A3 × A4 × A5 × A6 × A7 × A8)) (g : A1 → A2 → A3 → A4 → A5 → A6 → A7 → A8 → Option ρ) : Option ρ := x.bind (fun q => g q.1 q.2.1 q.2.2.1 q.2.2.2.1 q.2.2.2.2.1 q.2.2.2.2.2.1 q.2.2.2.2.2.2.1 q.2.2.2.2.2.2.2)
theorem q_e8 {A1 A2 A3 A4 A5 A6 A7 A8 ρ : Type} {x : Option (A1 × A2 × A3 × A4 × A5 × A6 × A7 × A8)} {g : A1 → A2 → A3 → A4 → A5 → A6 → A7 → A8 → Option ρ} {r : ρ} (h : q_b8 x g = some r) : ∃ (a1 : A1) (a2 : A2) (a3 : A3) (a4 : A4) (a5 : A5) (a6 : A6) (a7 : A7) (a8 : A8), x = some (a1, a2, a3, a4, a5, a6, a7, a8) ∧ g a1 a2 a3 a4 a5 a6 a7 a8 = some r := by
  obtain ⟨⟨a1, a2, a3, a4, a5, a6, a7, a8⟩, h1, h2⟩ := q_bd h
  exact ⟨a1, a2, a3, a4, a5, a6, a7, a8, h1, h2⟩
abbrev q_b9 {A1 A2 A3 A4 A5 A6 A7 A8 A9 ρ : Type} (x : Option (A1 × A2 × A3 × A4 × A5 × A6 × A7 × A8 × A9)) (g : A1 → A2 → A3 → A4 → A5 → A6 → A7 → A8 → A9 → Option ρ) : Option ρ := x.bind (fun q => g q.1 q.2.1 q.2.2.1 q.2.2.2.1 q.2.2.2.2.1 q.2.2.2.2.2.1 q.2.2.2.2.2.2.1 q.2.2.2.2.2.2.2.1 q.2.2.2.2.2.2.2.2)
theorem q_e9 {A1 A2 A3 A4 A5 A6 A7 A8 A9 ρ : Type} {x : Option (A1 × A2 × A3 × A4 × A5 × A6 × A7 × A8 × A9)} {g : A1 → A2 → A3 → A4 → A5 → A6 → A7 → A8 → A9 → Option ρ} {r : ρ} (h : q_b9 x g = some r) : ∃ (a1 : A1) (a2 : A2) (a3 : A3) (a4 : A4) (a5 : A5) (a6 : A6) (a7 : A7) (a8 : A8) (a9 : A9), x = some (a1, a2, a3, a4, a5, a6, a7, a8, a9) ∧ g a1 a2 a3 a4 a5 a6 a7 a8 a9 = some r := by
  obtain ⟨⟨a1, a2, a3, a4, a5, a6, a7, a8, a9⟩, h1, h2⟩ := q_bd h
  exact ⟨a1, a2, a3, a4, a5, a6, a7, a8, a9, h1, h2⟩
abbrev q_b10 {A1 A2 A3 A4 A5 A6 A7 A8 A9 A10 ρ : Type} (x : Option (A1 × A2 × A3 × A4 × A5 × A6 × A7 × A8 × A9 × A10)) (g : A1 → A2 → A3 → A4 → A5 → A6 → A7 → A8 → A9 → A10 → Option ρ) : Option ρ := x.bind (fun q => g q.1 q.2.1 q.2.2.1 q.2.2.2.1 q.2.2.2.2.1 q.2.2.2.2.2.1 q.2.2.2.2.2.2.1 q.2.2.2.2.2.2.2.1 q.2.2.2.2.2.2.2.2.1 q.2.2.2.2.2.2.2.2.2)
theorem q_e10 {A1 A2 A3 A4 A5 A6 A7 A8 A9 A10 ρ : Type} {x : Option (A1 × A2 × A3 × A4 × A5 × A6 × A7 × A8 × A9 × A10)} {g : A1 → A2 → A3 → A4 → A5 → A6 → A7 → A8 → A9 → A10 → Option ρ} {r : ρ} (h : q_b10 x g = some r) : ∃ (a1 : A1) (a2 : A2) (a3 : A3) (a4 : A4) (a5 : A5) (a6 : A6) (a7 : A7) (a8 : A8) (a9 : A9) (a10 : A10), x = some (a1, a2, a3, a4, a5, a6, a7, a8, a9, a10) ∧ g a1 a2 a3 a4 a5 a6 a7 a8 a9 a10 = some r := by
  obtain ⟨⟨a1, a2, a3, a4, a5, a6, a7, a8, a9, a10⟩, h1, h2⟩ := q_bd h
  exact ⟨a1, a2, a3, a4, a5, a6, a7, a8, a9, a10, h1, h2⟩
abbrev q_b11 {A1 A2 A3 A4 A5 A6 A7 A8 A9 A10 A11 ρ : Type} (x : Option (A1 × A2 × A3 × A4 × A5 × A6 × A7 × A8 × A9 × A10 × A11)) (g : A1 → A2 → A3 → A4 → A5 → A6 → A7 → A8 → A9 → A10 → A11 → Option ρ) : Option ρ := x.bind (fun q => g q.1 q.2.1 q.2.2.1 q.2.2.2.1 q.2.2.2.2.1 q.2.2.2.2.2.1 q.2.2.2.2.2.2.1 q.2.2.2.2.2.2.2.1 q.2.2.2.2.2.2.2.2.1 q.2.2.2.2.2.2.2.2.2.1 q.2.2.2.2.2.2.2.2.2.2)
theorem q_e11 {A1 A2 A3 A4 A5 A6 A7 A8 A9 A10 A11 ρ : Type} {x : Option (A1 × A2 × A3 × A4 × A5 × A6 × A7 × A8 × A9 × A10 × A11)} {g : A1 → A2 → A3 → A4 → A5 → A6 → A7 → A8 → A9 → A10 → A11 → Option ρ} {r : ρ} (h : q_b11 x g = some r) : ∃ (a1 : A1) (a2 : A2) (a3 : A3) (a4 : A4) (a5 : A5) (a6 : A6) (a7 : A7) (a8 : A8) (a9 : A9) (a10 : A10) (a11 : A11), x = some (a1, a2, a3, a4, a5, a6, a7, a8, a9, a10, a11) ∧ g a1 a2 a3 a4 a5 a6 a7 a8 a9 a10 a11 = some r := by
  obtain ⟨⟨a1, a2, a3, a4, a5, a6, a7, a8, a9, a10, a11⟩, h1, h2⟩ := q_bd h
  exact ⟨a1, a2, a3, a4, a5, a6, a7, a8, a9, a10, a11, h1, h2⟩
abbrev q_b12 {A1 A2 A3 A4 A5 A6 A7 A8 A9 A10 A11 A12 ρ : Type} (x : Option (A1 × A2 × A3 × A4 × A5 × A6 × A7 × A8 × A9 × A10 × A11 × A12)) (g : A1 → A2 → A3 → A4 → A5 → A6 → A7 → A8 → A9 → A10 → A11 → A12 → Option ρ) : Option ρ := x.bind (fun q => g q.1 q.2.1 q.2.2.1 q.2.2.2.1 q.2.2.2.2.1 q.2.2.2.2.2.1 q.2.2.2.2.2.2.1 q.2.2.2.2.2.2.2.1 q.2.2.2.2.2.2.2.2.1 q.2.2.2.2.2.2.2.2.2.1 q.2.2.2.2.2.2.2.2.2.2.1 q.2.2.2.2.2.2.2.2.2.2.2)
theorem q_e12 {A1 A2 A3 A4 A5 A6 A7 A8 A9 A10 A11 A12 ρ : Type} {x : Option (A1 × A2 × A3 × A4 × A5 × A6 × A7 × A8 × A9 × A10 × A11 × A12)} {g : A1 → A2 → A3 → A4 → A5 → A6 → A7 → A8 → A9 → A10 → A11 → A12 → Option ρ} {r : ρ} (h : q_b12 x g = some r) : ∃ (a1 : A1) (a2 : A2) (a3 : A3) (a4 : A4) (a5 : A5) (a6 : A6) (a7 : A7) (a8 : A8) (a9 : A9) (a10 : A10) (a11 : A11) (a12 : A12), x = some (a1, a2, a3, a4, a5, a6, a7, a8, a9, a10, a11, a12) ∧ g a1 a2 a3 a4 a5 a6 a7 a8 a9 a10 a11 a12 = some r := by
  obtain ⟨⟨a1, a2, a3, a4, a5, a6, a7, a8, a9, a10, a11, a12⟩, h1, h2⟩ := q_bd h
  exact ⟨a1, a2, a3, a4, a5, a6, a7, a8, a9, a10, a11, a12, h1, h2⟩
/-- records of numbers -/
def mk7 (a0 a1 a2 a3 a4 a5 a6 : Int32) : Nat → Int32 := fun k => match k with
  | 0 => a0
  | 1 => a1
  | 2 => a2
  | 3 => a3
  | 4 => a4
  | 5 => a5
  | _ => a6
def mk13 (a0 a1 a2 a3 a4 a5 a6 a7 a8 a9 a10 a11 a12 : Int32) : Nat → Int32 := fun k => match k with
  | 0 => a0
  | 1 => a1
  | 2 => a2
  | 3 => a3
  | 4 => a4
  | 5 => a5
  | 6 => a6
  | 7 => a7
  | 8 => a8
  | 9 => a9
  | 10 => a10
  | 11 => a11
  | _ => a12
end
section
set_option maxRecDepth 20000 in
theorem ggX0_init_X1_init : GoodIn wsX0_init wsX1_init := goodIn_r _ [15, 16, 2, 3, 17, 18, 19, 20, 21, 22, 23, 24, 25] (by decide +kernel) (by decide +kernel)
set_option maxRecDepth 20000 in
theorem gX0_init_X1_init : GoodIn wsX0_init (wsX1_init) := ggX0_init_X1_init
theorem dX0_init_0 : decode cX0_init 0 = .ok (.aload_n 0, 1) := by decide +kernel
theorem dX0_init_1 : decode cX0_init 1 = .ok (.invokespecial 3, 3) := by decide +kernel
theorem dX0_init_4 : decode cX0_init 4 = .ok (.aload_n 0, 1) := by decide +kernel
theorem dX0_init_5 : decode cX0_init 5 = .ok (.new 9, 3) := by decide +kernel
theorem dX0_init_8 : decode cX0_init 8 = .ok (.dup, 1) := by decide +kernel
theorem dX0_init_9 : decode cX0_init 9 = .ok (.bipush 6, 2) := by decide +kernel
theorem dX0_init_11 : decode cX0_init 11 = .ok (.invokespecial 11, 3) := by decide +kernel
theorem dX0_init_14 : decode cX0_init 14 = .ok (.putfield 14, 3) := by decide +kernel
theorem dX0_init_17 : decode cX0_init 17 = .ok (.aload_n 0, 1) := by decide +kernel
theorem dX0_init_18 : decode cX0_init 18 = .ok (.new 9, 3) := by decide +kernel
theorem dX0_init_21 : decode cX0_init 21 = .ok (.dup, 1) := by decide +kernel
theorem dX0_init_22 : decode cX0_init 22 = .ok (.bipush 6, 2) := by decide +kernel
theorem dX0_init_24 : decode cX0_init 24 = .ok (.invokespecial 11, 3) := by decide +kernel
theorem dX0_init_27 : decode cX0_init 27 = .ok (.putfield 20, 3) := by decide +kernel
theorem dX0_init_30 : decode cX0_init 30 = .ok (.aload_n 0, 1) := by decide +kernel
theorem dX0_init_31 : decode cX0_init 31 = .ok (.aload_n 1, 1) := by decide +kernel
theorem dX0_init_32 : decode cX0_init 32 = .ok (.putfield 23, 3) := by decide +kernel
theorem dX0_init_35 : decode cX0_init 35 = .ok (.aload_n 0, 1) := by decide +kernel
theorem dX0_init_36 : decode cX0_init 36 = .ok (.aload_n 1, 1) := by decide +kernel
theorem dX0_init_37 : decode cX0_init 37 = .ok (.getfield 27, 3) := by decide +kernel
theorem dX0_init_40 : decode cX0_init 40 = .ok (.putfield 33, 3) := by decide +kernel
theorem dX0_init_43 : decode cX0_init 43 = .ok (.aload_n 0, 1) := by decide +kernel
theorem dX0_init_44 : decode cX0_init 44 = .ok (.lconst 1, 1) := by decide +kernel
theorem dX0_init_45 : decode cX0_init 45 = .ok (.putfield 36, 3) := by decide +kernel
theorem dX0_init_48 : decode cX0_init 48 = .ok (.return_, 1) := by decide +kernel
set_option maxRecDepth 20000 in
theorem ggX0_bottom_X0_tens : GoodIn wsX0_bottom wsX0_tens := goodIn_r _ [6] (by decide +kernel) (by decide +kernel)
set_option maxRecDepth 20000 in
theorem gX0_bottom_X0_tens : GoodIn wsX0_bottom (va_wsS RX0 40 yX0_tens wsX0_tens) := goodIn_app (goodIn_of _ (by decide +kernel)) ggX0_bottom_X0_tens
theorem dX0_bottom_0 : decode cX0_bottom 0 = .ok (.aload_n 0, 1) := by decide +kernel
theorem dX0_bottom_1 : decode cX0_bottom 1 = .ok (.getfield 36, 3) := by decide +kernel
theorem dX0_bottom_4 : decode cX0_bottom 4 = .ok (.iconst 2, 1) := by decide +kernel
theorem dX0_bottom_5 : decode cX0_bottom 5 = .ok (.aload_n 0, 1) := by decide +kernel
theorem dX0_bottom_6 : decode cX0_bottom 6 = .ok (.getfield 33, 3) := by decide +kernel
theorem dX0_bottom_9 : decode cX0_bottom 9 = .ok (.imul, 1) := by decide +kernel
theorem dX0_bottom_10 : decode cX0_bottom 10 = .ok (.iload_n 1, 1) := by decide +kernel
theorem dX0_bottom_11 : decode cX0_bottom 11 = .ok (.isub, 1) := by decide +kernel
theorem dX0_bottom_12 : decode cX0_bottom 12 = .ok (.iload_n 2, 1) := by decide +kernel
theorem dX0_bottom_13 : decode cX0_bottom 13 = .ok (.isub, 1) := by decide +kernel
theorem dX0_bottom_14 : decode cX0_bottom 14 = .ok (.invokestatic 40, 3) := by decide +kernel
theorem dX0_bottom_17 : decode cX0_bottom 17 = .ok (.lmul, 1) := by decide +kernel
theorem dX0_bottom_18 : decode cX0_bottom 18 = .ok (.lreturn, 1) := by decide +kernel
set_option maxRecDepth 20000 in
theorem ggX0_reckon_X5_tenthsOfA : GoodIn wsX0_reckon wsX5_tenthsOfA := goodIn_r _ [14, 15, 16, 64, 65, 66, 67, 68, 69, 70] (by decide +kernel) (by decide +kernel)
set_option maxRecDepth 20000 in
theorem gX0_reckon_X5_tenthsOfA : GoodIn wsX0_reckon (wsV RX0 44 RX5 yX5_tenthsOfA wsX5_tenthsOfA) := goodIn_app (goodIn_of _ (by decide +kernel)) ggX0_reckon_X5_tenthsOfA
set_option maxRecDepth 20000 in
theorem ggX0_reckon_X0_reckonScore : GoodIn wsX0_reckon wsX0_reckonScore := goodIn_r _ [21, 1, 4, 22, 23, 3, 24, 25, 26, 27, 13, 28, 29, 30, 8, 31, 32, 7, 9, 33, 34, 35, 36, 37, 38, 39, 20, 40, 5, 41, 42, 43, 44, 45, 46, 47, 48, 49, 50, 51, 52, 53, 54, 55, 56, 57, 58, 59, 60, 61, 62, 63, 64, 65, 66, 67, 68, 69, 70, 71, 72] (by decide +kernel) (by decide +kernel)
set_option maxRecDepth 20000 in
theorem gX0_reckon_X0_reckonScore : GoodIn wsX0_reckon (wsV RX0 57 RX0 yX0_reckonScore wsX0_reckonScore) := goodIn_app (goodIn_of _ (by decide +kernel)) ggX0_reckon_X0_reckonScore
theorem dX0_reckon_0 : decode cX0_reckon 0 = .ok (.aload_n 0, 1) := by decide +kernel
theorem dX0_reckon_1 : decode cX0_reckon 1 = .ok (.getfield 23, 3) := by decide +kernel
theorem dX0_reckon_4 : decode cX0_reckon 4 = .ok (.iload_n 1, 1) := by decide +kernel
theorem dX0_reckon_5 : decode cX0_reckon 5 = .ok (.invokevirtual 44, 3) := by decide +kernel
theorem dX0_reckon_8 : decode cX0_reckon 8 = .ok (.istore_n 2, 1) := by decide +kernel
theorem dX0_reckon_9 : decode cX0_reckon 9 = .ok (.bipush 10, 2) := by decide +kernel
theorem dX0_reckon_11 : decode cX0_reckon 11 = .ok (.iload_n 2, 1) := by decide +kernel
theorem dX0_reckon_12 : decode cX0_reckon 12 = .ok (.isub, 1) := by decide +kernel
theorem dX0_reckon_13 : decode cX0_reckon 13 = .ok (.istore_n 3, 1) := by decide +kernel
theorem dX0_reckon_14 : decode cX0_reckon 14 = .ok (.aload_n 0, 1) := by decide +kernel
theorem dX0_reckon_15 : decode cX0_reckon 15 = .ok (.aload_n 0, 1) := by decide +kernel
theorem dX0_reckon_16 : decode cX0_reckon 16 = .ok (.getfield 23, 3) := by decide +kernel
theorem dX0_reckon_19 : decode cX0_reckon 19 = .ok (.getfield 27, 3) := by decide +kernel
theorem dX0_reckon_22 : decode cX0_reckon 22 = .ok (.putfield 33, 3) := by decide +kernel
theorem dX0_reckon_25 : decode cX0_reckon 25 = .ok (.aload_n 0, 1) := by decide +kernel
theorem dX0_reckon_26 : decode cX0_reckon 26 = .ok (.aload_n 0, 1) := by decide +kernel
theorem dX0_reckon_27 : decode cX0_reckon 27 = .ok (.getfield 23, 3) := by decide +kernel
theorem dX0_reckon_30 : decode cX0_reckon 30 = .ok (.getfield 48, 3) := by decide +kernel
theorem dX0_reckon_33 : decode cX0_reckon 33 = .ok (.ifCond .ne 14, 3) := by decide +kernel
theorem dX0_reckon_36 : decode cX0_reckon 36 = .ok (.iload_n 2, 1) := by decide +kernel
theorem dX0_reckon_37 : decode cX0_reckon 37 = .ok (.iload_n 2, 1) := by decide +kernel
theorem dX0_reckon_38 : decode cX0_reckon 38 = .ok (.imul, 1) := by decide +kernel
theorem dX0_reckon_39 : decode cX0_reckon 39 = .ok (.iload_n 3, 1) := by decide +kernel
theorem dX0_reckon_40 : decode cX0_reckon 40 = .ok (.iload_n 3, 1) := by decide +kernel
theorem dX0_reckon_41 : decode cX0_reckon 41 = .ok (.imul, 1) := by decide +kernel
theorem dX0_reckon_42 : decode cX0_reckon 42 = .ok (.iadd, 1) := by decide +kernel
theorem dX0_reckon_43 : decode cX0_reckon 43 = .ok (.i2l, 1) := by decide +kernel
theorem dX0_reckon_44 : decode cX0_reckon 44 = .ok (.goto 4, 3) := by decide +kernel
theorem dX0_reckon_47 : decode cX0_reckon 47 = .ok (.lconst 1, 1) := by decide +kernel
theorem dX0_reckon_48 : decode cX0_reckon 48 = .ok (.putfield 36, 3) := by decide +kernel
theorem dX0_reckon_51 : decode cX0_reckon 51 = .ok (.aload_n 0, 1) := by decide +kernel
theorem dX0_reckon_52 : decode cX0_reckon 52 = .ok (.getfield 33, 3) := by decide +kernel
theorem dX0_reckon_55 : decode cX0_reckon 55 = .ok (.iconst 1, 1) := by decide +kernel
theorem dX0_reckon_56 : decode cX0_reckon 56 = .ok (.iadd, 1) := by decide +kernel
theorem dX0_reckon_57 : decode cX0_reckon 57 = .ok (.istore 4, 2) := by decide +kernel
theorem dX0_reckon_59 : decode cX0_reckon 59 = .ok (.iload 4, 2) := by decide +kernel
theorem dX0_reckon_61 : decode cX0_reckon 61 = .ok (.ifCond .lt 50, 3) := by decide +kernel
theorem dX0_reckon_64 : decode cX0_reckon 64 = .ok (.aload_n 0, 1) := by decide +kernel
theorem dX0_reckon_65 : decode cX0_reckon 65 = .ok (.getfield 33, 3) := by decide +kernel
theorem dX0_reckon_68 : decode cX0_reckon 68 = .ok (.iconst 1, 1) := by decide +kernel
theorem dX0_reckon_69 : decode cX0_reckon 69 = .ok (.iadd, 1) := by decide +kernel
theorem dX0_reckon_70 : decode cX0_reckon 70 = .ok (.iconst 2, 1) := by decide +kernel
theorem dX0_reckon_71 : decode cX0_reckon 71 = .ok (.aload_n 0, 1) := by decide +kernel
theorem dX0_reckon_72 : decode cX0_reckon 72 = .ok (.getfield 33, 3) := by decide +kernel
theorem dX0_reckon_75 : decode cX0_reckon 75 = .ok (.imul, 1) := by decide +kernel
theorem dX0_reckon_76 : decode cX0_reckon 76 = .ok (.iload 4, 2) := by decide +kernel
theorem dX0_reckon_78 : decode cX0_reckon 78 = .ok (.isub, 1) := by decide +kernel
theorem dX0_reckon_79 : decode cX0_reckon 79 = .ok (.invokestatic 51, 3) := by decide +kernel
theorem dX0_reckon_82 : decode cX0_reckon 82 = .ok (.istore 5, 2) := by decide +kernel
theorem dX0_reckon_84 : decode cX0_reckon 84 = .ok (.iload 5, 2) := by decide +kernel
theorem dX0_reckon_86 : decode cX0_reckon 86 = .ok (.ifCond .lt 19, 3) := by decide +kernel
theorem dX0_reckon_89 : decode cX0_reckon 89 = .ok (.aload_n 0, 1) := by decide +kernel
theorem dX0_reckon_90 : decode cX0_reckon 90 = .ok (.iload 4, 2) := by decide +kernel
theorem dX0_reckon_92 : decode cX0_reckon 92 = .ok (.iload 5, 2) := by decide +kernel
theorem dX0_reckon_94 : decode cX0_reckon 94 = .ok (.iload_n 2, 1) := by decide +kernel
theorem dX0_reckon_95 : decode cX0_reckon 95 = .ok (.iload_n 3, 1) := by decide +kernel
theorem dX0_reckon_96 : decode cX0_reckon 96 = .ok (.invokevirtual 57, 3) := by decide +kernel
theorem dX0_reckon_99 : decode cX0_reckon 99 = .ok (.iinc 5 (-1), 3) := by decide +kernel
theorem dX0_reckon_102 : decode cX0_reckon 102 = .ok (.goto (-18), 3) := by decide +kernel
theorem dX0_reckon_105 : decode cX0_reckon 105 = .ok (.iinc 4 (-1), 3) := by decide +kernel
theorem dX0_reckon_108 : decode cX0_reckon 108 = .ok (.goto (-49), 3) := by decide +kernel
theorem dX0_reckon_111 : decode cX0_reckon 111 = .ok (.return_, 1) := by decide +kernel
set_option maxRecDepth 20000 in
theorem ggX0_reckonScore_X5_gameWinner : GoodIn wsX0_reckonScore wsX5_gameWinner := goodIn_r _ [11, 12, 13, 14, 15, 16, 17, 18, 19, 20, 21, 10, 22, 52, 53, 54, 55, 56, 57, 58] (by decide +kernel) (by decide +kernel)
set_option maxRecDepth 20000 in
theorem gX0_reckonScore_X5_gameWinner : GoodIn wsX0_reckonScore (wsV RX0 61 RX5 yX5_gameWinner wsX5_gameWinner) := goodIn_app (goodIn_of _ (by decide +kernel)) ggX0_reckonScore_X5_gameWinner
set_option maxRecDepth 20000 in
theorem ggX0_reckonScore_X0_bottom : GoodIn wsX0_reckonScore wsX0_bottom := goodIn_r _ [27, 28, 5, 29, 30, 26, 31, 47, 48, 49, 50, 51] (by decide +kernel) (by decide +kernel)
set_option maxRecDepth 20000 in
theorem gX0_reckonScore_X0_bottom : GoodIn wsX0_reckonScore (wsV RX0 65 RX0 yX0_bottom wsX0_bottom) := goodIn_app (goodIn_of _ (by decide +kernel)) ggX0_reckonScore_X0_bottom
set_option maxRecDepth 20000 in
theorem ggX0_reckonScore_X1_put : GoodIn wsX0_reckonScore wsX1_put := goodIn_r _ [36, 37, 38, 39, 40, 41, 35, 42, 59, 60] (by decide +kernel) (by decide +kernel)
set_option maxRecDepth 20000 in
theorem gX0_reckonScore_X1_put : GoodIn wsX0_reckonScore (wsV RX0 69 RX1 yX1_put wsX1_put) := goodIn_app (goodIn_of _ (by decide +kernel)) ggX0_reckonScore_X1_put
set_option maxRecDepth 20000 in
theorem ggX0_reckonScore_X1_at : GoodIn wsX0_reckonScore wsX1_at := goodIn_r _ [46, 37, 38, 39, 40, 41, 35, 42, 59, 60] (by decide +kernel) (by decide +kernel)
set_option maxRecDepth 20000 in
theorem gX0_reckonScore_X1_at : GoodIn wsX0_reckonScore (wsV RX0 75 RX1 yX1_at wsX1_at) := goodIn_app (goodIn_of _ (by decide +kernel)) ggX0_reckonScore_X1_at
theorem dX0_reckonScore_0 : decode cX0_reckonScore 0 = .ok (.aload_n 0, 1) := by decide +kernel
theorem dX0_reckonScore_1 : decode cX0_reckonScore 1 = .ok (.getfield 23, 3) := by decide +kernel
theorem dX0_reckonScore_4 : decode cX0_reckonScore 4 = .ok (.aload_n 0, 1) := by decide +kernel
theorem dX0_reckonScore_5 : decode cX0_reckonScore 5 = .ok (.getfield 23, 3) := by decide +kernel
theorem dX0_reckonScore_8 : decode cX0_reckonScore 8 = .ok (.getfield 48, 3) := by decide +kernel
theorem dX0_reckonScore_11 : decode cX0_reckonScore 11 = .ok (.iload_n 1, 1) := by decide +kernel
theorem dX0_reckonScore_12 : decode cX0_reckonScore 12 = .ok (.iload_n 2, 1) := by decide +kernel
theorem dX0_reckonScore_13 : decode cX0_reckonScore 13 = .ok (.invokevirtual 61, 3) := by decide +kernel
theorem dX0_reckonScore_16 : decode cX0_reckonScore 16 = .ok (.istore 5, 2) := by decide +kernel
theorem dX0_reckonScore_18 : decode cX0_reckonScore 18 = .ok (.iload 5, 2) := by decide +kernel
theorem dX0_reckonScore_20 : decode cX0_reckonScore 20 = .ok (.ifCond .eq 41, 3) := by decide +kernel
theorem dX0_reckonScore_23 : decode cX0_reckonScore 23 = .ok (.aload_n 0, 1) := by decide +kernel
theorem dX0_reckonScore_24 : decode cX0_reckonScore 24 = .ok (.getfield 14, 3) := by decide +kernel
theorem dX0_reckonScore_27 : decode cX0_reckonScore 27 = .ok (.iload_n 1, 1) := by decide +kernel
theorem dX0_reckonScore_28 : decode cX0_reckonScore 28 = .ok (.iload_n 2, 1) := by decide +kernel
theorem dX0_reckonScore_29 : decode cX0_reckonScore 29 = .ok (.iload 5, 2) := by decide +kernel
theorem dX0_reckonScore_31 : decode cX0_reckonScore 31 = .ok (.iconst 1, 1) := by decide +kernel
theorem dX0_reckonScore_32 : decode cX0_reckonScore 32 = .ok (.if_icmp .ne 12, 3) := by decide +kernel
theorem dX0_reckonScore_35 : decode cX0_reckonScore 35 = .ok (.aload_n 0, 1) := by decide +kernel
theorem dX0_reckonScore_36 : decode cX0_reckonScore 36 = .ok (.iload_n 1, 1) := by decide +kernel
theorem dX0_reckonScore_37 : decode cX0_reckonScore 37 = .ok (.iload_n 2, 1) := by decide +kernel
theorem dX0_reckonScore_38 : decode cX0_reckonScore 38 = .ok (.invokevirtual 65, 3) := by decide +kernel
theorem dX0_reckonScore_41 : decode cX0_reckonScore 41 = .ok (.goto 4, 3) := by decide +kernel
theorem dX0_reckonScore_44 : decode cX0_reckonScore 44 = .ok (.lconst 0, 1) := by decide +kernel
theorem dX0_reckonScore_45 : decode cX0_reckonScore 45 = .ok (.invokevirtual 69, 3) := by decide +kernel
theorem dX0_reckonScore_48 : decode cX0_reckonScore 48 = .ok (.aload_n 0, 1) := by decide +kernel
theorem dX0_reckonScore_49 : decode cX0_reckonScore 49 = .ok (.getfield 20, 3) := by decide +kernel
theorem dX0_reckonScore_52 : decode cX0_reckonScore 52 = .ok (.iload_n 1, 1) := by decide +kernel
theorem dX0_reckonScore_53 : decode cX0_reckonScore 53 = .ok (.iload_n 2, 1) := by decide +kernel
theorem dX0_reckonScore_54 : decode cX0_reckonScore 54 = .ok (.lconst 0, 1) := by decide +kernel
theorem dX0_reckonScore_55 : decode cX0_reckonScore 55 = .ok (.invokevirtual 69, 3) := by decide +kernel
theorem dX0_reckonScore_58 : decode cX0_reckonScore 58 = .ok (.goto 128, 3) := by decide +kernel
theorem dX0_reckonScore_61 : decode cX0_reckonScore 61 = .ok (.iload_n 1, 1) := by decide +kernel
theorem dX0_reckonScore_62 : decode cX0_reckonScore 62 = .ok (.iload_n 2, 1) := by decide +kernel
theorem dX0_reckonScore_63 : decode cX0_reckonScore 63 = .ok (.iadd, 1) := by decide +kernel
theorem dX0_reckonScore_64 : decode cX0_reckonScore 64 = .ok (.iconst 2, 1) := by decide +kernel
theorem dX0_reckonScore_65 : decode cX0_reckonScore 65 = .ok (.aload_n 0, 1) := by decide +kernel
theorem dX0_reckonScore_66 : decode cX0_reckonScore 66 = .ok (.getfield 33, 3) := by decide +kernel
theorem dX0_reckonScore_69 : decode cX0_reckonScore 69 = .ok (.imul, 1) := by decide +kernel
theorem dX0_reckonScore_70 : decode cX0_reckonScore 70 = .ok (.if_icmp .ne 31, 3) := by decide +kernel
theorem dX0_reckonScore_73 : decode cX0_reckonScore 73 = .ok (.aload_n 0, 1) := by decide +kernel
theorem dX0_reckonScore_74 : decode cX0_reckonScore 74 = .ok (.getfield 14, 3) := by decide +kernel
theorem dX0_reckonScore_77 : decode cX0_reckonScore 77 = .ok (.iload_n 1, 1) := by decide +kernel
theorem dX0_reckonScore_78 : decode cX0_reckonScore 78 = .ok (.iload_n 2, 1) := by decide +kernel
theorem dX0_reckonScore_79 : decode cX0_reckonScore 79 = .ok (.iload_n 3, 1) := by decide +kernel
theorem dX0_reckonScore_80 : decode cX0_reckonScore 80 = .ok (.iload_n 3, 1) := by decide +kernel
theorem dX0_reckonScore_81 : decode cX0_reckonScore 81 = .ok (.imul, 1) := by decide +kernel
theorem dX0_reckonScore_82 : decode cX0_reckonScore 82 = .ok (.i2l, 1) := by decide +kernel
theorem dX0_reckonScore_83 : decode cX0_reckonScore 83 = .ok (.invokevirtual 69, 3) := by decide +kernel
theorem dX0_reckonScore_86 : decode cX0_reckonScore 86 = .ok (.aload_n 0, 1) := by decide +kernel
theorem dX0_reckonScore_87 : decode cX0_reckonScore 87 = .ok (.getfield 20, 3) := by decide +kernel
theorem dX0_reckonScore_90 : decode cX0_reckonScore 90 = .ok (.iload_n 1, 1) := by decide +kernel
theorem dX0_reckonScore_91 : decode cX0_reckonScore 91 = .ok (.iload_n 2, 1) := by decide +kernel
theorem dX0_reckonScore_92 : decode cX0_reckonScore 92 = .ok (.ldc2_w 73, 3) := by decide +kernel
theorem dX0_reckonScore_95 : decode cX0_reckonScore 95 = .ok (.invokevirtual 69, 3) := by decide +kernel
theorem dX0_reckonScore_98 : decode cX0_reckonScore 98 = .ok (.goto 88, 3) := by decide +kernel
theorem dX0_reckonScore_101 : decode cX0_reckonScore 101 = .ok (.aload_n 0, 1) := by decide +kernel
theorem dX0_reckonScore_102 : decode cX0_reckonScore 102 = .ok (.getfield 14, 3) := by decide +kernel
theorem dX0_reckonScore_105 : decode cX0_reckonScore 105 = .ok (.iload_n 1, 1) := by decide +kernel
theorem dX0_reckonScore_106 : decode cX0_reckonScore 106 = .ok (.iload_n 2, 1) := by decide +kernel
theorem dX0_reckonScore_107 : decode cX0_reckonScore 107 = .ok (.iload_n 3, 1) := by decide +kernel
theorem dX0_reckonScore_108 : decode cX0_reckonScore 108 = .ok (.i2l, 1) := by decide +kernel
theorem dX0_reckonScore_109 : decode cX0_reckonScore 109 = .ok (.aload_n 0, 1) := by decide +kernel
theorem dX0_reckonScore_110 : decode cX0_reckonScore 110 = .ok (.getfield 14, 3) := by decide +kernel
theorem dX0_reckonScore_113 : decode cX0_reckonScore 113 = .ok (.iload_n 1, 1) := by decide +kernel
theorem dX0_reckonScore_114 : decode cX0_reckonScore 114 = .ok (.iconst 1, 1) := by decide +kernel
theorem dX0_reckonScore_115 : decode cX0_reckonScore 115 = .ok (.iadd, 1) := by decide +kernel
theorem dX0_reckonScore_116 : decode cX0_reckonScore 116 = .ok (.iload_n 2, 1) := by decide +kernel
theorem dX0_reckonScore_117 : decode cX0_reckonScore 117 = .ok (.invokevirtual 75, 3) := by decide +kernel
theorem dX0_reckonScore_120 : decode cX0_reckonScore 120 = .ok (.lmul, 1) := by decide +kernel
theorem dX0_reckonScore_121 : decode cX0_reckonScore 121 = .ok (.iload 4, 2) := by decide +kernel
theorem dX0_reckonScore_123 : decode cX0_reckonScore 123 = .ok (.i2l, 1) := by decide +kernel
theorem dX0_reckonScore_124 : decode cX0_reckonScore 124 = .ok (.aload_n 0, 1) := by decide +kernel
theorem dX0_reckonScore_125 : decode cX0_reckonScore 125 = .ok (.getfield 14, 3) := by decide +kernel
theorem dX0_reckonScore_128 : decode cX0_reckonScore 128 = .ok (.iload_n 1, 1) := by decide +kernel
theorem dX0_reckonScore_129 : decode cX0_reckonScore 129 = .ok (.iload_n 2, 1) := by decide +kernel
theorem dX0_reckonScore_130 : decode cX0_reckonScore 130 = .ok (.iconst 1, 1) := by decide +kernel
theorem dX0_reckonScore_131 : decode cX0_reckonScore 131 = .ok (.iadd, 1) := by decide +kernel
theorem dX0_reckonScore_132 : decode cX0_reckonScore 132 = .ok (.invokevirtual 75, 3) := by decide +kernel
theorem dX0_reckonScore_135 : decode cX0_reckonScore 135 = .ok (.lmul, 1) := by decide +kernel
theorem dX0_reckonScore_136 : decode cX0_reckonScore 136 = .ok (.ladd, 1) := by decide +kernel
theorem dX0_reckonScore_137 : decode cX0_reckonScore 137 = .ok (.invokevirtual 69, 3) := by decide +kernel
theorem dX0_reckonScore_140 : decode cX0_reckonScore 140 = .ok (.aload_n 0, 1) := by decide +kernel
theorem dX0_reckonScore_141 : decode cX0_reckonScore 141 = .ok (.getfield 20, 3) := by decide +kernel
theorem dX0_reckonScore_144 : decode cX0_reckonScore 144 = .ok (.iload_n 1, 1) := by decide +kernel
theorem dX0_reckonScore_145 : decode cX0_reckonScore 145 = .ok (.iload_n 2, 1) := by decide +kernel
theorem dX0_reckonScore_146 : decode cX0_reckonScore 146 = .ok (.aload_n 0, 1) := by decide +kernel
theorem dX0_reckonScore_147 : decode cX0_reckonScore 147 = .ok (.iload_n 1, 1) := by decide +kernel
theorem dX0_reckonScore_148 : decode cX0_reckonScore 148 = .ok (.iload_n 2, 1) := by decide +kernel
theorem dX0_reckonScore_149 : decode cX0_reckonScore 149 = .ok (.invokevirtual 65, 3) := by decide +kernel
theorem dX0_reckonScore_152 : decode cX0_reckonScore 152 = .ok (.iload_n 3, 1) := by decide +kernel
theorem dX0_reckonScore_153 : decode cX0_reckonScore 153 = .ok (.i2l, 1) := by decide +kernel
theorem dX0_reckonScore_154 : decode cX0_reckonScore 154 = .ok (.aload_n 0, 1) := by decide +kernel
theorem dX0_reckonScore_155 : decode cX0_reckonScore 155 = .ok (.getfield 20, 3) := by decide +kernel
theorem dX0_reckonScore_158 : decode cX0_reckonScore 158 = .ok (.iload_n 1, 1) := by decide +kernel
theorem dX0_reckonScore_159 : decode cX0_reckonScore 159 = .ok (.iconst 1, 1) := by decide +kernel
theorem dX0_reckonScore_160 : decode cX0_reckonScore 160 = .ok (.iadd, 1) := by decide +kernel
theorem dX0_reckonScore_161 : decode cX0_reckonScore 161 = .ok (.iload_n 2, 1) := by decide +kernel
theorem dX0_reckonScore_162 : decode cX0_reckonScore 162 = .ok (.invokevirtual 75, 3) := by decide +kernel
theorem dX0_reckonScore_165 : decode cX0_reckonScore 165 = .ok (.lmul, 1) := by decide +kernel
theorem dX0_reckonScore_166 : decode cX0_reckonScore 166 = .ok (.ladd, 1) := by decide +kernel
theorem dX0_reckonScore_167 : decode cX0_reckonScore 167 = .ok (.iload 4, 2) := by decide +kernel
theorem dX0_reckonScore_169 : decode cX0_reckonScore 169 = .ok (.i2l, 1) := by decide +kernel
theorem dX0_reckonScore_170 : decode cX0_reckonScore 170 = .ok (.aload_n 0, 1) := by decide +kernel
theorem dX0_reckonScore_171 : decode cX0_reckonScore 171 = .ok (.getfield 20, 3) := by decide +kernel
theorem dX0_reckonScore_174 : decode cX0_reckonScore 174 = .ok (.iload_n 1, 1) := by decide +kernel
theorem dX0_reckonScore_175 : decode cX0_reckonScore 175 = .ok (.iload_n 2, 1) := by decide +kernel
theorem dX0_reckonScore_176 : decode cX0_reckonScore 176 = .ok (.iconst 1, 1) := by decide +kernel
theorem dX0_reckonScore_177 : decode cX0_reckonScore 177 = .ok (.iadd, 1) := by decide +kernel
theorem dX0_reckonScore_178 : decode cX0_reckonScore 178 = .ok (.invokevirtual 75, 3) := by decide +kernel
theorem dX0_reckonScore_181 : decode cX0_reckonScore 181 = .ok (.lmul, 1) := by decide +kernel
theorem dX0_reckonScore_182 : decode cX0_reckonScore 182 = .ok (.ladd, 1) := by decide +kernel
theorem dX0_reckonScore_183 : decode cX0_reckonScore 183 = .ok (.invokevirtual 69, 3) := by decide +kernel
theorem dX0_reckonScore_186 : decode cX0_reckonScore 186 = .ok (.return_, 1) := by decide +kernel
set_option maxRecDepth 20000 in
theorem ggX0_inMillionths_X0_reckon : GoodIn wsX0_inMillionths wsX0_reckon := goodIn_r _ [8, 1, 9, 10, 11, 12, 13, 14, 15, 16, 17, 18, 19, 20, 21, 22, 23, 24, 25, 26, 7, 27, 2, 28, 29, 30, 31, 32, 33, 34, 35, 36, 37, 38, 39, 40, 41, 42, 43, 44, 45, 46, 47, 48, 49, 50, 51, 52, 53, 54, 55, 56, 57, 58, 59, 60, 61, 62, 63, 69, 70, 71, 72, 73, 74, 75, 76, 77, 78, 79, 80, 81, 82] (by decide +kernel) (by decide +kernel)
set_option maxRecDepth 20000 in
theorem gX0_inMillionths_X0_reckon : GoodIn wsX0_inMillionths (wsV RX0 78 RX0 yX0_reckon wsX0_reckon) := goodIn_app (goodIn_of _ (by decide +kernel)) ggX0_inMillionths_X0_reckon
set_option maxRecDepth 20000 in
theorem ggX0_inMillionths_X5_headStartOfA : GoodIn wsX0_inMillionths wsX5_headStartOfA := goodIn_r _ [67, 68, 74, 75, 76, 77, 78, 79, 80] (by decide +kernel) (by decide +kernel)
set_option maxRecDepth 20000 in
theorem gX0_inMillionths_X5_headStartOfA : GoodIn wsX0_inMillionths (wsV RX0 81 RX5 yX5_headStartOfA wsX5_headStartOfA) := goodIn_app (goodIn_of _ (by decide +kernel)) ggX0_inMillionths_X5_headStartOfA
set_option maxRecDepth 20000 in
theorem ggX0_inMillionths_X0_bottom : GoodIn wsX0_inMillionths wsX0_bottom := goodIn_r _ [45, 12, 10, 46, 47, 7, 48, 69, 70, 71, 72, 73] (by decide +kernel) (by decide +kernel)
set_option maxRecDepth 20000 in
theorem gX0_inMillionths_X0_bottom : GoodIn wsX0_inMillionths (wsV RX0 65 RX0 yX0_bottom wsX0_bottom) := goodIn_app (goodIn_of _ (by decide +kernel)) ggX0_inMillionths_X0_bottom
set_option maxRecDepth 20000 in
theorem ggX0_inMillionths_X1_at : GoodIn wsX0_inMillionths wsX1_at := goodIn_r _ [63, 54, 55, 56, 57, 58, 52, 59, 81, 82] (by decide +kernel) (by decide +kernel)
set_option maxRecDepth 20000 in
theorem gX0_inMillionths_X1_at : GoodIn wsX0_inMillionths (wsV RX0 75 RX1 yX1_at wsX1_at) := goodIn_app (goodIn_of _ (by decide +kernel)) ggX0_inMillionths_X1_at
theorem dX0_inMillionths_0 : decode cX0_inMillionths 0 = .ok (.aload_n 0, 1) := by decide +kernel
theorem dX0_inMillionths_1 : decode cX0_inMillionths 1 = .ok (.iload_n 1, 1) := by decide +kernel
theorem dX0_inMillionths_2 : decode cX0_inMillionths 2 = .ok (.invokevirtual 78, 3) := by decide +kernel
theorem dX0_inMillionths_5 : decode cX0_inMillionths 5 = .ok (.aload_n 0, 1) := by decide +kernel
theorem dX0_inMillionths_6 : decode cX0_inMillionths 6 = .ok (.getfield 23, 3) := by decide +kernel
theorem dX0_inMillionths_9 : decode cX0_inMillionths 9 = .ok (.iload_n 1, 1) := by decide +kernel
theorem dX0_inMillionths_10 : decode cX0_inMillionths 10 = .ok (.invokevirtual 81, 3) := by decide +kernel
theorem dX0_inMillionths_13 : decode cX0_inMillionths 13 = .ok (.istore_n 2, 1) := by decide +kernel
theorem dX0_inMillionths_14 : decode cX0_inMillionths 14 = .ok (.aload_n 0, 1) := by decide +kernel
theorem dX0_inMillionths_15 : decode cX0_inMillionths 15 = .ok (.iload_n 2, 1) := by decide +kernel
theorem dX0_inMillionths_16 : decode cX0_inMillionths 16 = .ok (.iconst 0, 1) := by decide +kernel
theorem dX0_inMillionths_17 : decode cX0_inMillionths 17 = .ok (.invokevirtual 65, 3) := by decide +kernel
theorem dX0_inMillionths_20 : decode cX0_inMillionths 20 = .ok (.lstore_n 3, 1) := by decide +kernel
theorem dX0_inMillionths_21 : decode cX0_inMillionths 21 = .ok (.lload_n 3, 1) := by decide +kernel
theorem dX0_inMillionths_22 : decode cX0_inMillionths 22 = .ok (.lconst 0, 1) := by decide +kernel
theorem dX0_inMillionths_23 : decode cX0_inMillionths 23 = .ok (.lcmp, 1) := by decide +kernel
theorem dX0_inMillionths_24 : decode cX0_inMillionths 24 = .ok (.ifCond .le 21, 3) := by decide +kernel
theorem dX0_inMillionths_27 : decode cX0_inMillionths 27 = .ok (.aload_n 0, 1) := by decide +kernel
theorem dX0_inMillionths_28 : decode cX0_inMillionths 28 = .ok (.getfield 14, 3) := by decide +kernel
theorem dX0_inMillionths_31 : decode cX0_inMillionths 31 = .ok (.iload_n 2, 1) := by decide +kernel
theorem dX0_inMillionths_32 : decode cX0_inMillionths 32 = .ok (.iconst 0, 1) := by decide +kernel
theorem dX0_inMillionths_33 : decode cX0_inMillionths 33 = .ok (.invokevirtual 75, 3) := by decide +kernel
theorem dX0_inMillionths_36 : decode cX0_inMillionths 36 = .ok (.ldc2_w 84, 3) := by decide +kernel
theorem dX0_inMillionths_39 : decode cX0_inMillionths 39 = .ok (.lmul, 1) := by decide +kernel
theorem dX0_inMillionths_40 : decode cX0_inMillionths 40 = .ok (.lload_n 3, 1) := by decide +kernel
theorem dX0_inMillionths_41 : decode cX0_inMillionths 41 = .ok (.ldiv, 1) := by decide +kernel
theorem dX0_inMillionths_42 : decode cX0_inMillionths 42 = .ok (.goto 4, 3) := by decide +kernel
theorem dX0_inMillionths_45 : decode cX0_inMillionths 45 = .ok (.lconst 0, 1) := by decide +kernel
theorem dX0_inMillionths_46 : decode cX0_inMillionths 46 = .ok (.lreturn, 1) := by decide +kernel
set_option maxRecDepth 20000 in
theorem ggX0_weightAt_X1_at : GoodIn wsX0_weightAt wsX1_at := goodIn_r _ [6, 7, 8, 9, 10, 11, 5, 12, 18, 19] (by decide +kernel) (by decide +kernel)
set_option maxRecDepth 20000 in
theorem gX0_weightAt_X1_at : GoodIn wsX0_weightAt (wsV RX0 75 RX1 yX1_at wsX1_at) := goodIn_app (goodIn_of _ (by decide +kernel)) ggX0_weightAt_X1_at
theorem dX0_weightAt_0 : decode cX0_weightAt 0 = .ok (.aload_n 0, 1) := by decide +kernel
theorem dX0_weightAt_1 : decode cX0_weightAt 1 = .ok (.getfield 14, 3) := by decide +kernel
theorem dX0_weightAt_4 : decode cX0_weightAt 4 = .ok (.iload_n 1, 1) := by decide +kernel
theorem dX0_weightAt_5 : decode cX0_weightAt 5 = .ok (.iconst 1, 1) := by decide +kernel
theorem dX0_weightAt_6 : decode cX0_weightAt 6 = .ok (.iadd, 1) := by decide +kernel
theorem dX0_weightAt_7 : decode cX0_weightAt 7 = .ok (.iload_n 2, 1) := by decide +kernel
theorem dX0_weightAt_8 : decode cX0_weightAt 8 = .ok (.invokevirtual 75, 3) := by decide +kernel
theorem dX0_weightAt_11 : decode cX0_weightAt 11 = .ok (.aload_n 0, 1) := by decide +kernel
theorem dX0_weightAt_12 : decode cX0_weightAt 12 = .ok (.getfield 14, 3) := by decide +kernel
theorem dX0_weightAt_15 : decode cX0_weightAt 15 = .ok (.iload_n 1, 1) := by decide +kernel
theorem dX0_weightAt_16 : decode cX0_weightAt 16 = .ok (.iload_n 2, 1) := by decide +kernel
theorem dX0_weightAt_17 : decode cX0_weightAt 17 = .ok (.iconst 1, 1) := by decide +kernel
theorem dX0_weightAt_18 : decode cX0_weightAt 18 = .ok (.iadd, 1) := by decide +kernel
theorem dX0_weightAt_19 : decode cX0_weightAt 19 = .ok (.invokevirtual 75, 3) := by decide +kernel
theorem dX0_weightAt_22 : decode cX0_weightAt 22 = .ok (.lsub, 1) := by decide +kernel
theorem dX0_weightAt_23 : decode cX0_weightAt 23 = .ok (.lreturn, 1) := by decide +kernel
set_option maxRecDepth 20000 in
theorem ggX0_heaviestScore_X0_weightAt : GoodIn wsX0_heaviestScore wsX0_weightAt := goodIn_r _ [9, 10, 11, 12, 13, 14, 15, 16, 17, 18, 19, 20, 21, 41, 42, 43, 44, 45, 53, 54] (by decide +kernel) (by decide +kernel)
set_option maxRecDepth 20000 in
theorem gX0_heaviestScore_X0_weightAt : GoodIn wsX0_heaviestScore (wsV RX0 88 RX0 yX0_weightAt wsX0_weightAt) := goodIn_app (goodIn_of _ (by decide +kernel)) ggX0_heaviestScore_X0_weightAt
set_option maxRecDepth 20000 in
theorem ggX0_heaviestScore_X0_tens : GoodIn wsX0_heaviestScore wsX0_tens := goodIn_r _ [24] (by decide +kernel) (by decide +kernel)
set_option maxRecDepth 20000 in
theorem gX0_heaviestScore_X0_tens : GoodIn wsX0_heaviestScore (va_wsS RX0 40 yX0_tens wsX0_tens) := goodIn_app (goodIn_of _ (by decide +kernel)) ggX0_heaviestScore_X0_tens
set_option maxRecDepth 20000 in
theorem ggX0_heaviestScore_X5_gameWinner : GoodIn wsX0_heaviestScore wsX5_gameWinner := goodIn_r _ [29, 30, 31, 32, 33, 34, 35, 36, 37, 38, 39, 28, 40, 46, 47, 48, 49, 50, 51, 52] (by decide +kernel) (by decide +kernel)
set_option maxRecDepth 20000 in
theorem gX0_heaviestScore_X5_gameWinner : GoodIn wsX0_heaviestScore (wsV RX0 61 RX5 yX5_gameWinner wsX5_gameWinner) := goodIn_app (goodIn_of _ (by decide +kernel)) ggX0_heaviestScore_X5_gameWinner
theorem dX0_heaviestScore_0 : decode cX0_heaviestScore 0 = .ok (.iconst 0, 1) := by decide +kernel
theorem dX0_heaviestScore_1 : decode cX0_heaviestScore 1 = .ok (.istore_n 2, 1) := by decide +kernel
theorem dX0_heaviestScore_2 : decode cX0_heaviestScore 2 = .ok (.ldc2_w 86, 3) := by decide +kernel
theorem dX0_heaviestScore_5 : decode cX0_heaviestScore 5 = .ok (.lstore_n 3, 1) := by decide +kernel
theorem dX0_heaviestScore_6 : decode cX0_heaviestScore 6 = .ok (.iconst 0, 1) := by decide +kernel
theorem dX0_heaviestScore_7 : decode cX0_heaviestScore 7 = .ok (.istore 5, 2) := by decide +kernel
theorem dX0_heaviestScore_9 : decode cX0_heaviestScore 9 = .ok (.iload 5, 2) := by decide +kernel
theorem dX0_heaviestScore_11 : decode cX0_heaviestScore 11 = .ok (.aload_n 0, 1) := by decide +kernel
theorem dX0_heaviestScore_12 : decode cX0_heaviestScore 12 = .ok (.getfield 33, 3) := by decide +kernel
theorem dX0_heaviestScore_15 : decode cX0_heaviestScore 15 = .ok (.if_icmp .ge 101, 3) := by decide +kernel
theorem dX0_heaviestScore_18 : decode cX0_heaviestScore 18 = .ok (.iconst 0, 1) := by decide +kernel
theorem dX0_heaviestScore_19 : decode cX0_heaviestScore 19 = .ok (.istore 6, 2) := by decide +kernel
theorem dX0_heaviestScore_21 : decode cX0_heaviestScore 21 = .ok (.iload 6, 2) := by decide +kernel
theorem dX0_heaviestScore_23 : decode cX0_heaviestScore 23 = .ok (.aload_n 0, 1) := by decide +kernel
theorem dX0_heaviestScore_24 : decode cX0_heaviestScore 24 = .ok (.getfield 33, 3) := by decide +kernel
theorem dX0_heaviestScore_27 : decode cX0_heaviestScore 27 = .ok (.if_icmp .ge 83, 3) := by decide +kernel
theorem dX0_heaviestScore_30 : decode cX0_heaviestScore 30 = .ok (.aload_n 0, 1) := by decide +kernel
theorem dX0_heaviestScore_31 : decode cX0_heaviestScore 31 = .ok (.iload 5, 2) := by decide +kernel
theorem dX0_heaviestScore_33 : decode cX0_heaviestScore 33 = .ok (.iload 6, 2) := by decide +kernel
theorem dX0_heaviestScore_35 : decode cX0_heaviestScore 35 = .ok (.invokevirtual 88, 3) := by decide +kernel
theorem dX0_heaviestScore_38 : decode cX0_heaviestScore 38 = .ok (.iload 5, 2) := by decide +kernel
theorem dX0_heaviestScore_40 : decode cX0_heaviestScore 40 = .ok (.iload 6, 2) := by decide +kernel
theorem dX0_heaviestScore_42 : decode cX0_heaviestScore 42 = .ok (.iadd, 1) := by decide +kernel
theorem dX0_heaviestScore_43 : decode cX0_heaviestScore 43 = .ok (.invokestatic 40, 3) := by decide +kernel
theorem dX0_heaviestScore_46 : decode cX0_heaviestScore 46 = .ok (.lmul, 1) := by decide +kernel
theorem dX0_heaviestScore_47 : decode cX0_heaviestScore 47 = .ok (.lstore 7, 2) := by decide +kernel
theorem dX0_heaviestScore_49 : decode cX0_heaviestScore 49 = .ok (.aload_n 0, 1) := by decide +kernel
theorem dX0_heaviestScore_50 : decode cX0_heaviestScore 50 = .ok (.getfield 23, 3) := by decide +kernel
theorem dX0_heaviestScore_53 : decode cX0_heaviestScore 53 = .ok (.aload_n 0, 1) := by decide +kernel
theorem dX0_heaviestScore_54 : decode cX0_heaviestScore 54 = .ok (.getfield 23, 3) := by decide +kernel
theorem dX0_heaviestScore_57 : decode cX0_heaviestScore 57 = .ok (.getfield 48, 3) := by decide +kernel
theorem dX0_heaviestScore_60 : decode cX0_heaviestScore 60 = .ok (.iload 5, 2) := by decide +kernel
theorem dX0_heaviestScore_62 : decode cX0_heaviestScore 62 = .ok (.iload 6, 2) := by decide +kernel
theorem dX0_heaviestScore_64 : decode cX0_heaviestScore 64 = .ok (.invokevirtual 61, 3) := by decide +kernel
theorem dX0_heaviestScore_67 : decode cX0_heaviestScore 67 = .ok (.ifCond .ne 7, 3) := by decide +kernel
theorem dX0_heaviestScore_70 : decode cX0_heaviestScore 70 = .ok (.iconst 1, 1) := by decide +kernel
theorem dX0_heaviestScore_71 : decode cX0_heaviestScore 71 = .ok (.goto 4, 3) := by decide +kernel
theorem dX0_heaviestScore_74 : decode cX0_heaviestScore 74 = .ok (.iconst 0, 1) := by decide +kernel
theorem dX0_heaviestScore_75 : decode cX0_heaviestScore 75 = .ok (.istore 9, 2) := by decide +kernel
theorem dX0_heaviestScore_77 : decode cX0_heaviestScore 77 = .ok (.iload 9, 2) := by decide +kernel
theorem dX0_heaviestScore_79 : decode cX0_heaviestScore 79 = .ok (.ifCond .eq 25, 3) := by decide +kernel
theorem dX0_heaviestScore_82 : decode cX0_heaviestScore 82 = .ok (.lload 7, 2) := by decide +kernel
theorem dX0_heaviestScore_84 : decode cX0_heaviestScore 84 = .ok (.lload_n 3, 1) := by decide +kernel
theorem dX0_heaviestScore_85 : decode cX0_heaviestScore 85 = .ok (.lcmp, 1) := by decide +kernel
theorem dX0_heaviestScore_86 : decode cX0_heaviestScore 86 = .ok (.ifCond .le 18, 3) := by decide +kernel
theorem dX0_heaviestScore_89 : decode cX0_heaviestScore 89 = .ok (.lload 7, 2) := by decide +kernel
theorem dX0_heaviestScore_91 : decode cX0_heaviestScore 91 = .ok (.lstore_n 3, 1) := by decide +kernel
theorem dX0_heaviestScore_92 : decode cX0_heaviestScore 92 = .ok (.iload_n 1, 1) := by decide +kernel
theorem dX0_heaviestScore_93 : decode cX0_heaviestScore 93 = .ok (.ifCond .ne 8, 3) := by decide +kernel
theorem dX0_heaviestScore_96 : decode cX0_heaviestScore 96 = .ok (.iload 5, 2) := by decide +kernel
theorem dX0_heaviestScore_98 : decode cX0_heaviestScore 98 = .ok (.goto 5, 3) := by decide +kernel
theorem dX0_heaviestScore_101 : decode cX0_heaviestScore 101 = .ok (.iload 6, 2) := by decide +kernel
theorem dX0_heaviestScore_103 : decode cX0_heaviestScore 103 = .ok (.istore_n 2, 1) := by decide +kernel
theorem dX0_heaviestScore_104 : decode cX0_heaviestScore 104 = .ok (.iinc 6 1, 3) := by decide +kernel
theorem dX0_heaviestScore_107 : decode cX0_heaviestScore 107 = .ok (.goto (-86), 3) := by decide +kernel
theorem dX0_heaviestScore_110 : decode cX0_heaviestScore 110 = .ok (.iinc 5 1, 3) := by decide +kernel
theorem dX0_heaviestScore_113 : decode cX0_heaviestScore 113 = .ok (.goto (-104), 3) := by decide +kernel
theorem dX0_heaviestScore_116 : decode cX0_heaviestScore 116 = .ok (.iload_n 2, 1) := by decide +kernel
theorem dX0_heaviestScore_117 : decode cX0_heaviestScore 117 = .ok (.ireturn, 1) := by decide +kernel
theorem dX0_tens_0 : decode cX0_tens 0 = .ok (.iconst 0, 1) := by decide +kernel
theorem dX0_tens_1 : decode cX0_tens 1 = .ok (.iload_n 0, 1) := by decide +kernel
theorem dX0_tens_2 : decode cX0_tens 2 = .ok (.if_icmp .gt 19, 3) := by decide +kernel
theorem dX0_tens_5 : decode cX0_tens 5 = .ok (.iload_n 0, 1) := by decide +kernel
theorem dX0_tens_6 : decode cX0_tens 6 = .ok (.getstatic 91, 3) := by decide +kernel
theorem dX0_tens_9 : decode cX0_tens 9 = .ok (.arraylength, 1) := by decide +kernel
theorem dX0_tens_10 : decode cX0_tens 10 = .ok (.if_icmp .ge 11, 3) := by decide +kernel
theorem dX0_tens_13 : decode cX0_tens 13 = .ok (.getstatic 91, 3) := by decide +kernel
theorem dX0_tens_16 : decode cX0_tens 16 = .ok (.iload_n 0, 1) := by decide +kernel
theorem dX0_tens_17 : decode cX0_tens 17 = .ok (.laload, 1) := by decide +kernel
theorem dX0_tens_18 : decode cX0_tens 18 = .ok (.goto 4, 3) := by decide +kernel
theorem dX0_tens_21 : decode cX0_tens 21 = .ok (.lconst 1, 1) := by decide +kernel
theorem dX0_tens_22 : decode cX0_tens 22 = .ok (.lreturn, 1) := by decide +kernel
theorem dX1_init_0 : decode cX1_init 0 = .ok (.aload_n 0, 1) := by decide +kernel
theorem dX1_init_1 : decode cX1_init 1 = .ok (.invokespecial 1, 3) := by decide +kernel
theorem dX1_init_4 : decode cX1_init 4 = .ok (.aload_n 0, 1) := by decide +kernel
theorem dX1_init_5 : decode cX1_init 5 = .ok (.iconst 0, 1) := by decide +kernel
theorem dX1_init_6 : decode cX1_init 6 = .ok (.iload_n 1, 1) := by decide +kernel
theorem dX1_init_7 : decode cX1_init 7 = .ok (.invokestatic 7, 3) := by decide +kernel
theorem dX1_init_10 : decode cX1_init 10 = .ok (.iconst 1, 1) := by decide +kernel
theorem dX1_init_11 : decode cX1_init 11 = .ok (.iadd, 1) := by decide +kernel
theorem dX1_init_12 : decode cX1_init 12 = .ok (.putfield 13, 3) := by decide +kernel
theorem dX1_init_15 : decode cX1_init 15 = .ok (.aload_n 0, 1) := by decide +kernel
theorem dX1_init_16 : decode cX1_init 16 = .ok (.aload_n 0, 1) := by decide +kernel
theorem dX1_init_17 : decode cX1_init 17 = .ok (.getfield 13, 3) := by decide +kernel
theorem dX1_init_20 : decode cX1_init 20 = .ok (.aload_n 0, 1) := by decide +kernel
theorem dX1_init_21 : decode cX1_init 21 = .ok (.getfield 13, 3) := by decide +kernel
theorem dX1_init_24 : decode cX1_init 24 = .ok (.imul, 1) := by decide +kernel
theorem dX1_init_25 : decode cX1_init 25 = .ok (.newarray .long, 2) := by decide +kernel
theorem dX1_init_27 : decode cX1_init 27 = .ok (.putfield 19, 3) := by decide +kernel
theorem dX1_init_30 : decode cX1_init 30 = .ok (.return_, 1) := by decide +kernel
set_option maxRecDepth 20000 in
theorem ggX1_at_X1_holds : GoodIn wsX1_at wsX1_holds := goodIn_r _ [7, 2, 8, 9] (by decide +kernel) (by decide +kernel)
set_option maxRecDepth 20000 in
theorem gX1_at_X1_holds : GoodIn wsX1_at (wsV RX1 23 RX1 yX1_holds wsX1_holds) := goodIn_app (goodIn_of _ (by decide +kernel)) ggX1_at_X1_holds
theorem dX1_at_0 : decode cX1_at 0 = .ok (.aload_n 0, 1) := by decide +kernel
theorem dX1_at_1 : decode cX1_at 1 = .ok (.iload_n 1, 1) := by decide +kernel
theorem dX1_at_2 : decode cX1_at 2 = .ok (.iload_n 2, 1) := by decide +kernel
theorem dX1_at_3 : decode cX1_at 3 = .ok (.invokevirtual 23, 3) := by decide +kernel
theorem dX1_at_6 : decode cX1_at 6 = .ok (.ifCond .eq 19, 3) := by decide +kernel
theorem dX1_at_9 : decode cX1_at 9 = .ok (.aload_n 0, 1) := by decide +kernel
theorem dX1_at_10 : decode cX1_at 10 = .ok (.getfield 19, 3) := by decide +kernel
theorem dX1_at_13 : decode cX1_at 13 = .ok (.iload_n 1, 1) := by decide +kernel
theorem dX1_at_14 : decode cX1_at 14 = .ok (.aload_n 0, 1) := by decide +kernel
theorem dX1_at_15 : decode cX1_at 15 = .ok (.getfield 13, 3) := by decide +kernel
theorem dX1_at_18 : decode cX1_at 18 = .ok (.imul, 1) := by decide +kernel
theorem dX1_at_19 : decode cX1_at 19 = .ok (.iload_n 2, 1) := by decide +kernel
theorem dX1_at_20 : decode cX1_at 20 = .ok (.iadd, 1) := by decide +kernel
theorem dX1_at_21 : decode cX1_at 21 = .ok (.laload, 1) := by decide +kernel
theorem dX1_at_22 : decode cX1_at 22 = .ok (.goto 4, 3) := by decide +kernel
theorem dX1_at_25 : decode cX1_at 25 = .ok (.lconst 0, 1) := by decide +kernel
theorem dX1_at_26 : decode cX1_at 26 = .ok (.lreturn, 1) := by decide +kernel
set_option maxRecDepth 20000 in
theorem ggX1_put_X1_holds : GoodIn wsX1_put wsX1_holds := goodIn_r _ [7, 2, 8, 9] (by decide +kernel) (by decide +kernel)
set_option maxRecDepth 20000 in
theorem gX1_put_X1_holds : GoodIn wsX1_put (wsV RX1 23 RX1 yX1_holds wsX1_holds) := goodIn_app (goodIn_of _ (by decide +kernel)) ggX1_put_X1_holds
theorem dX1_put_0 : decode cX1_put 0 = .ok (.aload_n 0, 1) := by decide +kernel
theorem dX1_put_1 : decode cX1_put 1 = .ok (.iload_n 1, 1) := by decide +kernel
theorem dX1_put_2 : decode cX1_put 2 = .ok (.iload_n 2, 1) := by decide +kernel
theorem dX1_put_3 : decode cX1_put 3 = .ok (.invokevirtual 23, 3) := by decide +kernel
theorem dX1_put_6 : decode cX1_put 6 = .ok (.ifCond .eq 17, 3) := by decide +kernel
theorem dX1_put_9 : decode cX1_put 9 = .ok (.aload_n 0, 1) := by decide +kernel
theorem dX1_put_10 : decode cX1_put 10 = .ok (.getfield 19, 3) := by decide +kernel
theorem dX1_put_13 : decode cX1_put 13 = .ok (.iload_n 1, 1) := by decide +kernel
theorem dX1_put_14 : decode cX1_put 14 = .ok (.aload_n 0, 1) := by decide +kernel
theorem dX1_put_15 : decode cX1_put 15 = .ok (.getfield 13, 3) := by decide +kernel
theorem dX1_put_18 : decode cX1_put 18 = .ok (.imul, 1) := by decide +kernel
theorem dX1_put_19 : decode cX1_put 19 = .ok (.iload_n 2, 1) := by decide +kernel
theorem dX1_put_20 : decode cX1_put 20 = .ok (.iadd, 1) := by decide +kernel
theorem dX1_put_21 : decode cX1_put 21 = .ok (.lload_n 3, 1) := by decide +kernel
theorem dX1_put_22 : decode cX1_put 22 = .ok (.lastore, 1) := by decide +kernel
theorem dX1_put_23 : decode cX1_put 23 = .ok (.return_, 1) := by decide +kernel
theorem dX1_holds_0 : decode cX1_holds 0 = .ok (.iconst 0, 1) := by decide +kernel
theorem dX1_holds_1 : decode cX1_holds 1 = .ok (.iload_n 1, 1) := by decide +kernel
theorem dX1_holds_2 : decode cX1_holds 2 = .ok (.if_icmp .gt 28, 3) := by decide +kernel
theorem dX1_holds_5 : decode cX1_holds 5 = .ok (.iload_n 1, 1) := by decide +kernel
theorem dX1_holds_6 : decode cX1_holds 6 = .ok (.aload_n 0, 1) := by decide +kernel
theorem dX1_holds_7 : decode cX1_holds 7 = .ok (.getfield 13, 3) := by decide +kernel
theorem dX1_holds_10 : decode cX1_holds 10 = .ok (.if_icmp .ge 20, 3) := by decide +kernel
theorem dX1_holds_13 : decode cX1_holds 13 = .ok (.iconst 0, 1) := by decide +kernel
theorem dX1_holds_14 : decode cX1_holds 14 = .ok (.iload_n 2, 1) := by decide +kernel
theorem dX1_holds_15 : decode cX1_holds 15 = .ok (.if_icmp .gt 15, 3) := by decide +kernel
theorem dX1_holds_18 : decode cX1_holds 18 = .ok (.iload_n 2, 1) := by decide +kernel
theorem dX1_holds_19 : decode cX1_holds 19 = .ok (.aload_n 0, 1) := by decide +kernel
theorem dX1_holds_20 : decode cX1_holds 20 = .ok (.getfield 13, 3) := by decide +kernel
theorem dX1_holds_23 : decode cX1_holds 23 = .ok (.if_icmp .ge 7, 3) := by decide +kernel
theorem dX1_holds_26 : decode cX1_holds 26 = .ok (.iconst 1, 1) := by decide +kernel
theorem dX1_holds_27 : decode cX1_holds 27 = .ok (.goto 4, 3) := by decide +kernel
theorem dX1_holds_30 : decode cX1_holds 30 = .ok (.iconst 0, 1) := by decide +kernel
theorem dX1_holds_31 : decode cX1_holds 31 = .ok (.ireturn, 1) := by decide +kernel
set_option maxRecDepth 20000 in
theorem ggX2_init_X1_init : GoodIn wsX2_init wsX1_init := goodIn_r _ [12, 13, 2, 3, 14, 15, 16, 17, 18, 19, 20, 21, 22] (by decide +kernel) (by decide +kernel)
set_option maxRecDepth 20000 in
theorem gX2_init_X1_init : GoodIn wsX2_init (wsX1_init) := ggX2_init_X1_init
theorem dX2_init_0 : decode cX2_init 0 = .ok (.aload_n 0, 1) := by decide +kernel
theorem dX2_init_1 : decode cX2_init 1 = .ok (.invokespecial 3, 3) := by decide +kernel
theorem dX2_init_4 : decode cX2_init 4 = .ok (.aload_n 0, 1) := by decide +kernel
theorem dX2_init_5 : decode cX2_init 5 = .ok (.new 9, 3) := by decide +kernel
theorem dX2_init_8 : decode cX2_init 8 = .ok (.dup, 1) := by decide +kernel
theorem dX2_init_9 : decode cX2_init 9 = .ok (.bipush 7, 2) := by decide +kernel
theorem dX2_init_11 : decode cX2_init 11 = .ok (.invokespecial 11, 3) := by decide +kernel
theorem dX2_init_14 : decode cX2_init 14 = .ok (.putfield 14, 3) := by decide +kernel
theorem dX2_init_17 : decode cX2_init 17 = .ok (.aload_n 0, 1) := by decide +kernel
theorem dX2_init_18 : decode cX2_init 18 = .ok (.new 9, 3) := by decide +kernel
theorem dX2_init_21 : decode cX2_init 21 = .ok (.dup, 1) := by decide +kernel
theorem dX2_init_22 : decode cX2_init 22 = .ok (.iconst 3, 1) := by decide +kernel
theorem dX2_init_23 : decode cX2_init 23 = .ok (.invokespecial 11, 3) := by decide +kernel
theorem dX2_init_26 : decode cX2_init 26 = .ok (.putfield 20, 3) := by decide +kernel
theorem dX2_init_29 : decode cX2_init 29 = .ok (.aload_n 0, 1) := by decide +kernel
theorem dX2_init_30 : decode cX2_init 30 = .ok (.aload_n 1, 1) := by decide +kernel
theorem dX2_init_31 : decode cX2_init 31 = .ok (.putfield 23, 3) := by decide +kernel
theorem dX2_init_34 : decode cX2_init 34 = .ok (.return_, 1) := by decide +kernel
set_option maxRecDepth 20000 in
theorem ggX2_ofSet_X5_setWinner : GoodIn wsX2_ofSet wsX5_setWinner := goodIn_r _ [9, 10, 11, 12, 13, 14, 15, 16, 17, 18, 19, 8, 20, 44, 45, 46, 47, 48, 49, 50] (by decide +kernel) (by decide +kernel)
set_option maxRecDepth 20000 in
theorem gX2_ofSet_X5_setWinner : GoodIn wsX2_ofSet (wsV RX2 35 RX5 yX5_setWinner wsX5_setWinner) := goodIn_app (goodIn_of _ (by decide +kernel)) ggX2_ofSet_X5_setWinner
set_option maxRecDepth 20000 in
theorem ggX2_ofSet_X2_ofScore : GoodIn wsX2_ofSet wsX2_ofScore := goodIn_r _ [24, 25, 26, 27, 28, 29, 30, 31, 32, 33, 34, 35, 36, 51, 52] (by decide +kernel) (by decide +kernel)
set_option maxRecDepth 20000 in
theorem gX2_ofSet_X2_ofScore : GoodIn wsX2_ofSet (va_wsS RX2 39 yX2_ofScore wsX2_ofScore) := goodIn_app (goodIn_of _ (by decide +kernel)) ggX2_ofSet_X2_ofScore
set_option maxRecDepth 20000 in
theorem ggX2_ofSet_X1_put : GoodIn wsX2_ofSet wsX1_put := goodIn_r _ [40, 31, 32, 33, 34, 35, 29, 36, 51, 52] (by decide +kernel) (by decide +kernel)
set_option maxRecDepth 20000 in
theorem gX2_ofSet_X1_put : GoodIn wsX2_ofSet (wsV RX2 43 RX1 yX1_put wsX1_put) := goodIn_app (goodIn_of _ (by decide +kernel)) ggX2_ofSet_X1_put
set_option maxRecDepth 20000 in
theorem ggX2_ofSet_X1_at : GoodIn wsX2_ofSet wsX1_at := goodIn_r _ [30, 31, 32, 33, 34, 35, 29, 36, 51, 52] (by decide +kernel) (by decide +kernel)
set_option maxRecDepth 20000 in
theorem gX2_ofSet_X1_at : GoodIn wsX2_ofSet (wsV RX2 47 RX1 yX1_at wsX1_at) := goodIn_app (goodIn_of _ (by decide +kernel)) ggX2_ofSet_X1_at
theorem dX2_ofSet_0 : decode cX2_ofSet 0 = .ok (.aload_n 0, 1) := by decide +kernel
theorem dX2_ofSet_1 : decode cX2_ofSet 1 = .ok (.getfield 23, 3) := by decide +kernel
theorem dX2_ofSet_4 : decode cX2_ofSet 4 = .ok (.getfield 27, 3) := by decide +kernel
theorem dX2_ofSet_7 : decode cX2_ofSet 7 = .ok (.istore 8, 2) := by decide +kernel
theorem dX2_ofSet_9 : decode cX2_ofSet 9 = .ok (.iload 8, 2) := by decide +kernel
theorem dX2_ofSet_11 : decode cX2_ofSet 11 = .ok (.iconst 1, 1) := by decide +kernel
theorem dX2_ofSet_12 : decode cX2_ofSet 12 = .ok (.iadd, 1) := by decide +kernel
theorem dX2_ofSet_13 : decode cX2_ofSet 13 = .ok (.istore 9, 2) := by decide +kernel
theorem dX2_ofSet_15 : decode cX2_ofSet 15 = .ok (.iload 9, 2) := by decide +kernel
theorem dX2_ofSet_17 : decode cX2_ofSet 17 = .ok (.iload_n 1, 1) := by decide +kernel
theorem dX2_ofSet_18 : decode cX2_ofSet 18 = .ok (.if_icmp .lt 124, 3) := by decide +kernel
theorem dX2_ofSet_21 : decode cX2_ofSet 21 = .ok (.iload 8, 2) := by decide +kernel
theorem dX2_ofSet_23 : decode cX2_ofSet 23 = .ok (.iconst 1, 1) := by decide +kernel
theorem dX2_ofSet_24 : decode cX2_ofSet 24 = .ok (.iadd, 1) := by decide +kernel
theorem dX2_ofSet_25 : decode cX2_ofSet 25 = .ok (.istore 10, 2) := by decide +kernel
theorem dX2_ofSet_27 : decode cX2_ofSet 27 = .ok (.iload 10, 2) := by decide +kernel
theorem dX2_ofSet_29 : decode cX2_ofSet 29 = .ok (.iload_n 2, 1) := by decide +kernel
theorem dX2_ofSet_30 : decode cX2_ofSet 30 = .ok (.if_icmp .lt 106, 3) := by decide +kernel
theorem dX2_ofSet_33 : decode cX2_ofSet 33 = .ok (.iload_n 3, 1) := by decide +kernel
theorem dX2_ofSet_34 : decode cX2_ofSet 34 = .ok (.iload 9, 2) := by decide +kernel
theorem dX2_ofSet_36 : decode cX2_ofSet 36 = .ok (.iadd, 1) := by decide +kernel
theorem dX2_ofSet_37 : decode cX2_ofSet 37 = .ok (.iload_n 1, 1) := by decide +kernel
theorem dX2_ofSet_38 : decode cX2_ofSet 38 = .ok (.isub, 1) := by decide +kernel
theorem dX2_ofSet_39 : decode cX2_ofSet 39 = .ok (.iload 10, 2) := by decide +kernel
theorem dX2_ofSet_41 : decode cX2_ofSet 41 = .ok (.iadd, 1) := by decide +kernel
theorem dX2_ofSet_42 : decode cX2_ofSet 42 = .ok (.iload_n 2, 1) := by decide +kernel
theorem dX2_ofSet_43 : decode cX2_ofSet 43 = .ok (.isub, 1) := by decide +kernel
theorem dX2_ofSet_44 : decode cX2_ofSet 44 = .ok (.iconst 2, 1) := by decide +kernel
theorem dX2_ofSet_45 : decode cX2_ofSet 45 = .ok (.irem, 1) := by decide +kernel
theorem dX2_ofSet_46 : decode cX2_ofSet 46 = .ok (.ifCond .ne 7, 3) := by decide +kernel
theorem dX2_ofSet_49 : decode cX2_ofSet 49 = .ok (.iconst 1, 1) := by decide +kernel
theorem dX2_ofSet_50 : decode cX2_ofSet 50 = .ok (.goto 4, 3) := by decide +kernel
theorem dX2_ofSet_53 : decode cX2_ofSet 53 = .ok (.iconst 0, 1) := by decide +kernel
theorem dX2_ofSet_54 : decode cX2_ofSet 54 = .ok (.istore 11, 2) := by decide +kernel
theorem dX2_ofSet_56 : decode cX2_ofSet 56 = .ok (.iload 11, 2) := by decide +kernel
theorem dX2_ofSet_58 : decode cX2_ofSet 58 = .ok (.ifCond .eq 8, 3) := by decide +kernel
theorem dX2_ofSet_61 : decode cX2_ofSet 61 = .ok (.lload 4, 2) := by decide +kernel
theorem dX2_ofSet_63 : decode cX2_ofSet 63 = .ok (.goto 5, 3) := by decide +kernel
theorem dX2_ofSet_66 : decode cX2_ofSet 66 = .ok (.lload 6, 2) := by decide +kernel
theorem dX2_ofSet_68 : decode cX2_ofSet 68 = .ok (.lstore 12, 2) := by decide +kernel
theorem dX2_ofSet_70 : decode cX2_ofSet 70 = .ok (.iload 9, 2) := by decide +kernel
theorem dX2_ofSet_72 : decode cX2_ofSet 72 = .ok (.iload 8, 2) := by decide +kernel
theorem dX2_ofSet_74 : decode cX2_ofSet 74 = .ok (.if_icmp .ne 21, 3) := by decide +kernel
theorem dX2_ofSet_77 : decode cX2_ofSet 77 = .ok (.iload 10, 2) := by decide +kernel
theorem dX2_ofSet_79 : decode cX2_ofSet 79 = .ok (.iload 8, 2) := by decide +kernel
theorem dX2_ofSet_81 : decode cX2_ofSet 81 = .ok (.if_icmp .ne 14, 3) := by decide +kernel
theorem dX2_ofSet_84 : decode cX2_ofSet 84 = .ok (.lload 4, 2) := by decide +kernel
theorem dX2_ofSet_86 : decode cX2_ofSet 86 = .ok (.lload 6, 2) := by decide +kernel
theorem dX2_ofSet_88 : decode cX2_ofSet 88 = .ok (.ladd, 1) := by decide +kernel
theorem dX2_ofSet_89 : decode cX2_ofSet 89 = .ok (.ldc2_w 33, 3) := by decide +kernel
theorem dX2_ofSet_92 : decode cX2_ofSet 92 = .ok (.ldiv, 1) := by decide +kernel
theorem dX2_ofSet_93 : decode cX2_ofSet 93 = .ok (.lstore 12, 2) := by decide +kernel
theorem dX2_ofSet_95 : decode cX2_ofSet 95 = .ok (.aload_n 0, 1) := by decide +kernel
theorem dX2_ofSet_96 : decode cX2_ofSet 96 = .ok (.getfield 14, 3) := by decide +kernel
theorem dX2_ofSet_99 : decode cX2_ofSet 99 = .ok (.iload 9, 2) := by decide +kernel
theorem dX2_ofSet_101 : decode cX2_ofSet 101 = .ok (.iload 10, 2) := by decide +kernel
theorem dX2_ofSet_103 : decode cX2_ofSet 103 = .ok (.aload_n 0, 1) := by decide +kernel
theorem dX2_ofSet_104 : decode cX2_ofSet 104 = .ok (.getfield 14, 3) := by decide +kernel
theorem dX2_ofSet_107 : decode cX2_ofSet 107 = .ok (.iload 9, 2) := by decide +kernel
theorem dX2_ofSet_109 : decode cX2_ofSet 109 = .ok (.iload 10, 2) := by decide +kernel
theorem dX2_ofSet_111 : decode cX2_ofSet 111 = .ok (.aload_n 0, 1) := by decide +kernel
theorem dX2_ofSet_112 : decode cX2_ofSet 112 = .ok (.getfield 23, 3) := by decide +kernel
theorem dX2_ofSet_115 : decode cX2_ofSet 115 = .ok (.iload 9, 2) := by decide +kernel
theorem dX2_ofSet_117 : decode cX2_ofSet 117 = .ok (.iload 10, 2) := by decide +kernel
theorem dX2_ofSet_119 : decode cX2_ofSet 119 = .ok (.invokevirtual 35, 3) := by decide +kernel
theorem dX2_ofSet_122 : decode cX2_ofSet 122 = .ok (.lload 12, 2) := by decide +kernel
theorem dX2_ofSet_124 : decode cX2_ofSet 124 = .ok (.invokestatic 39, 3) := by decide +kernel
theorem dX2_ofSet_127 : decode cX2_ofSet 127 = .ok (.invokevirtual 43, 3) := by decide +kernel
theorem dX2_ofSet_130 : decode cX2_ofSet 130 = .ok (.iinc 10 (-1), 3) := by decide +kernel
theorem dX2_ofSet_133 : decode cX2_ofSet 133 = .ok (.goto (-106), 3) := by decide +kernel
theorem dX2_ofSet_136 : decode cX2_ofSet 136 = .ok (.iinc 9 (-1), 3) := by decide +kernel
theorem dX2_ofSet_139 : decode cX2_ofSet 139 = .ok (.goto (-124), 3) := by decide +kernel
theorem dX2_ofSet_142 : decode cX2_ofSet 142 = .ok (.aload_n 0, 1) := by decide +kernel
theorem dX2_ofSet_143 : decode cX2_ofSet 143 = .ok (.getfield 14, 3) := by decide +kernel
theorem dX2_ofSet_146 : decode cX2_ofSet 146 = .ok (.iload_n 1, 1) := by decide +kernel
theorem dX2_ofSet_147 : decode cX2_ofSet 147 = .ok (.iload_n 2, 1) := by decide +kernel
theorem dX2_ofSet_148 : decode cX2_ofSet 148 = .ok (.invokevirtual 47, 3) := by decide +kernel
theorem dX2_ofSet_151 : decode cX2_ofSet 151 = .ok (.lreturn, 1) := by decide +kernel
set_option maxRecDepth 20000 in
theorem ggX2_ofMatch_X2_ofSet : GoodIn wsX2_ofMatch wsX2_ofSet := goodIn_r _ [8, 1, 9, 10, 11, 12, 13, 14, 15, 16, 17, 18, 19, 20, 21, 22, 23, 24, 25, 26, 27, 28, 29, 7, 30, 31, 32, 33, 34, 35, 36, 37, 38, 39, 40, 41, 42, 43, 44, 45, 46, 52, 53, 54, 55, 56, 57, 58, 59, 60, 61, 62, 63] (by decide +kernel) (by decide +kernel)
set_option maxRecDepth 20000 in
theorem gX2_ofMatch_X2_ofSet : GoodIn wsX2_ofMatch (wsV RX2 51 RX2 yX2_ofSet wsX2_ofSet) := goodIn_app (goodIn_of _ (by decide +kernel)) ggX2_ofMatch_X2_ofSet
set_option maxRecDepth 20000 in
theorem ggX2_ofMatch_X5_matchWinner : GoodIn wsX2_ofMatch wsX5_matchWinner := goodIn_r _ [50, 51, 25, 26, 15, 27, 55, 56, 57, 58, 59, 60, 61] (by decide +kernel) (by decide +kernel)
set_option maxRecDepth 20000 in
theorem gX2_ofMatch_X5_matchWinner : GoodIn wsX2_ofMatch (wsV RX2 58 RX5 yX5_matchWinner wsX5_matchWinner) := goodIn_app (goodIn_of _ (by decide +kernel)) ggX2_ofMatch_X5_matchWinner
set_option maxRecDepth 20000 in
theorem ggX2_ofMatch_X2_ofScore : GoodIn wsX2_ofMatch wsX2_ofScore := goodIn_r _ [30, 31, 32, 33, 34, 35, 36, 37, 38, 39, 40, 41, 42, 62, 63] (by decide +kernel) (by decide +kernel)
set_option maxRecDepth 20000 in
theorem gX2_ofMatch_X2_ofScore : GoodIn wsX2_ofMatch (va_wsS RX2 39 yX2_ofScore wsX2_ofScore) := goodIn_app (goodIn_of _ (by decide +kernel)) ggX2_ofMatch_X2_ofScore
set_option maxRecDepth 20000 in
theorem ggX2_ofMatch_X1_put : GoodIn wsX2_ofMatch wsX1_put := goodIn_r _ [46, 37, 38, 39, 40, 41, 35, 42, 62, 63] (by decide +kernel) (by decide +kernel)
set_option maxRecDepth 20000 in
theorem gX2_ofMatch_X1_put : GoodIn wsX2_ofMatch (wsV RX2 43 RX1 yX1_put wsX1_put) := goodIn_app (goodIn_of _ (by decide +kernel)) ggX2_ofMatch_X1_put
set_option maxRecDepth 20000 in
theorem ggX2_ofMatch_X1_at : GoodIn wsX2_ofMatch wsX1_at := goodIn_r _ [36, 37, 38, 39, 40, 41, 35, 42, 62, 63] (by decide +kernel) (by decide +kernel)
set_option maxRecDepth 20000 in
theorem gX2_ofMatch_X1_at : GoodIn wsX2_ofMatch (wsV RX2 47 RX1 yX1_at wsX1_at) := goodIn_app (goodIn_of _ (by decide +kernel)) ggX2_ofMatch_X1_at
theorem dX2_ofMatch_0 : decode cX2_ofMatch 0 = .ok (.aload_n 0, 1) := by decide +kernel
theorem dX2_ofMatch_1 : decode cX2_ofMatch 1 = .ok (.iconst 0, 1) := by decide +kernel
theorem dX2_ofMatch_2 : decode cX2_ofMatch 2 = .ok (.iconst 0, 1) := by decide +kernel
theorem dX2_ofMatch_3 : decode cX2_ofMatch 3 = .ok (.iconst 0, 1) := by decide +kernel
theorem dX2_ofMatch_4 : decode cX2_ofMatch 4 = .ok (.lload 4, 2) := by decide +kernel
theorem dX2_ofMatch_6 : decode cX2_ofMatch 6 = .ok (.lload 6, 2) := by decide +kernel
theorem dX2_ofMatch_8 : decode cX2_ofMatch 8 = .ok (.invokevirtual 51, 3) := by decide +kernel
theorem dX2_ofMatch_11 : decode cX2_ofMatch 11 = .ok (.lstore 8, 2) := by decide +kernel
theorem dX2_ofMatch_13 : decode cX2_ofMatch 13 = .ok (.aload_n 0, 1) := by decide +kernel
theorem dX2_ofMatch_14 : decode cX2_ofMatch 14 = .ok (.iconst 0, 1) := by decide +kernel
theorem dX2_ofMatch_15 : decode cX2_ofMatch 15 = .ok (.iconst 0, 1) := by decide +kernel
theorem dX2_ofMatch_16 : decode cX2_ofMatch 16 = .ok (.iconst 1, 1) := by decide +kernel
theorem dX2_ofMatch_17 : decode cX2_ofMatch 17 = .ok (.lload 4, 2) := by decide +kernel
theorem dX2_ofMatch_19 : decode cX2_ofMatch 19 = .ok (.lload 6, 2) := by decide +kernel
theorem dX2_ofMatch_21 : decode cX2_ofMatch 21 = .ok (.invokevirtual 51, 3) := by decide +kernel
theorem dX2_ofMatch_24 : decode cX2_ofMatch 24 = .ok (.lstore 10, 2) := by decide +kernel
theorem dX2_ofMatch_26 : decode cX2_ofMatch 26 = .ok (.aload_n 0, 1) := by decide +kernel
theorem dX2_ofMatch_27 : decode cX2_ofMatch 27 = .ok (.getfield 23, 3) := by decide +kernel
theorem dX2_ofMatch_30 : decode cX2_ofMatch 30 = .ok (.getfield 55, 3) := by decide +kernel
theorem dX2_ofMatch_33 : decode cX2_ofMatch 33 = .ok (.istore 12, 2) := by decide +kernel
theorem dX2_ofMatch_35 : decode cX2_ofMatch 35 = .ok (.iload 12, 2) := by decide +kernel
theorem dX2_ofMatch_37 : decode cX2_ofMatch 37 = .ok (.iload_n 1, 1) := by decide +kernel
theorem dX2_ofMatch_38 : decode cX2_ofMatch 38 = .ok (.if_icmp .lt 102, 3) := by decide +kernel
theorem dX2_ofMatch_41 : decode cX2_ofMatch 41 = .ok (.aload_n 0, 1) := by decide +kernel
theorem dX2_ofMatch_42 : decode cX2_ofMatch 42 = .ok (.getfield 23, 3) := by decide +kernel
theorem dX2_ofMatch_45 : decode cX2_ofMatch 45 = .ok (.getfield 55, 3) := by decide +kernel
theorem dX2_ofMatch_48 : decode cX2_ofMatch 48 = .ok (.istore 13, 2) := by decide +kernel
theorem dX2_ofMatch_50 : decode cX2_ofMatch 50 = .ok (.iload 13, 2) := by decide +kernel
theorem dX2_ofMatch_52 : decode cX2_ofMatch 52 = .ok (.iload_n 2, 1) := by decide +kernel
theorem dX2_ofMatch_53 : decode cX2_ofMatch 53 = .ok (.if_icmp .lt 81, 3) := by decide +kernel
theorem dX2_ofMatch_56 : decode cX2_ofMatch 56 = .ok (.iload_n 3, 1) := by decide +kernel
theorem dX2_ofMatch_57 : decode cX2_ofMatch 57 = .ok (.iload 12, 2) := by decide +kernel
theorem dX2_ofMatch_59 : decode cX2_ofMatch 59 = .ok (.iadd, 1) := by decide +kernel
theorem dX2_ofMatch_60 : decode cX2_ofMatch 60 = .ok (.iload_n 1, 1) := by decide +kernel
theorem dX2_ofMatch_61 : decode cX2_ofMatch 61 = .ok (.isub, 1) := by decide +kernel
theorem dX2_ofMatch_62 : decode cX2_ofMatch 62 = .ok (.iload 13, 2) := by decide +kernel
theorem dX2_ofMatch_64 : decode cX2_ofMatch 64 = .ok (.iadd, 1) := by decide +kernel
theorem dX2_ofMatch_65 : decode cX2_ofMatch 65 = .ok (.iload_n 2, 1) := by decide +kernel
theorem dX2_ofMatch_66 : decode cX2_ofMatch 66 = .ok (.isub, 1) := by decide +kernel
theorem dX2_ofMatch_67 : decode cX2_ofMatch 67 = .ok (.iconst 2, 1) := by decide +kernel
theorem dX2_ofMatch_68 : decode cX2_ofMatch 68 = .ok (.irem, 1) := by decide +kernel
theorem dX2_ofMatch_69 : decode cX2_ofMatch 69 = .ok (.ifCond .ne 7, 3) := by decide +kernel
theorem dX2_ofMatch_72 : decode cX2_ofMatch 72 = .ok (.iconst 1, 1) := by decide +kernel
theorem dX2_ofMatch_73 : decode cX2_ofMatch 73 = .ok (.goto 4, 3) := by decide +kernel
theorem dX2_ofMatch_76 : decode cX2_ofMatch 76 = .ok (.iconst 0, 1) := by decide +kernel
theorem dX2_ofMatch_77 : decode cX2_ofMatch 77 = .ok (.istore 14, 2) := by decide +kernel
theorem dX2_ofMatch_79 : decode cX2_ofMatch 79 = .ok (.iload 14, 2) := by decide +kernel
theorem dX2_ofMatch_81 : decode cX2_ofMatch 81 = .ok (.ifCond .eq 8, 3) := by decide +kernel
theorem dX2_ofMatch_84 : decode cX2_ofMatch 84 = .ok (.lload 8, 2) := by decide +kernel
theorem dX2_ofMatch_86 : decode cX2_ofMatch 86 = .ok (.goto 5, 3) := by decide +kernel
theorem dX2_ofMatch_89 : decode cX2_ofMatch 89 = .ok (.lload 10, 2) := by decide +kernel
theorem dX2_ofMatch_91 : decode cX2_ofMatch 91 = .ok (.lstore 15, 2) := by decide +kernel
theorem dX2_ofMatch_93 : decode cX2_ofMatch 93 = .ok (.aload_n 0, 1) := by decide +kernel
theorem dX2_ofMatch_94 : decode cX2_ofMatch 94 = .ok (.getfield 20, 3) := by decide +kernel
theorem dX2_ofMatch_97 : decode cX2_ofMatch 97 = .ok (.iload 12, 2) := by decide +kernel
theorem dX2_ofMatch_99 : decode cX2_ofMatch 99 = .ok (.iload 13, 2) := by decide +kernel
theorem dX2_ofMatch_101 : decode cX2_ofMatch 101 = .ok (.aload_n 0, 1) := by decide +kernel
theorem dX2_ofMatch_102 : decode cX2_ofMatch 102 = .ok (.getfield 20, 3) := by decide +kernel
theorem dX2_ofMatch_105 : decode cX2_ofMatch 105 = .ok (.iload 12, 2) := by decide +kernel
theorem dX2_ofMatch_107 : decode cX2_ofMatch 107 = .ok (.iload 13, 2) := by decide +kernel
theorem dX2_ofMatch_109 : decode cX2_ofMatch 109 = .ok (.aload_n 0, 1) := by decide +kernel
theorem dX2_ofMatch_110 : decode cX2_ofMatch 110 = .ok (.getfield 23, 3) := by decide +kernel
theorem dX2_ofMatch_113 : decode cX2_ofMatch 113 = .ok (.iload 12, 2) := by decide +kernel
theorem dX2_ofMatch_115 : decode cX2_ofMatch 115 = .ok (.iload 13, 2) := by decide +kernel
theorem dX2_ofMatch_117 : decode cX2_ofMatch 117 = .ok (.invokevirtual 58, 3) := by decide +kernel
theorem dX2_ofMatch_120 : decode cX2_ofMatch 120 = .ok (.lload 15, 2) := by decide +kernel
theorem dX2_ofMatch_122 : decode cX2_ofMatch 122 = .ok (.invokestatic 39, 3) := by decide +kernel
theorem dX2_ofMatch_125 : decode cX2_ofMatch 125 = .ok (.invokevirtual 43, 3) := by decide +kernel
theorem dX2_ofMatch_128 : decode cX2_ofMatch 128 = .ok (.iinc 13 (-1), 3) := by decide +kernel
theorem dX2_ofMatch_131 : decode cX2_ofMatch 131 = .ok (.goto (-81), 3) := by decide +kernel
theorem dX2_ofMatch_134 : decode cX2_ofMatch 134 = .ok (.iinc 12 (-1), 3) := by decide +kernel
theorem dX2_ofMatch_137 : decode cX2_ofMatch 137 = .ok (.goto (-102), 3) := by decide +kernel
theorem dX2_ofMatch_140 : decode cX2_ofMatch 140 = .ok (.aload_n 0, 1) := by decide +kernel
theorem dX2_ofMatch_141 : decode cX2_ofMatch 141 = .ok (.getfield 20, 3) := by decide +kernel
theorem dX2_ofMatch_144 : decode cX2_ofMatch 144 = .ok (.iload_n 1, 1) := by decide +kernel
theorem dX2_ofMatch_145 : decode cX2_ofMatch 145 = .ok (.iload_n 2, 1) := by decide +kernel
theorem dX2_ofMatch_146 : decode cX2_ofMatch 146 = .ok (.invokevirtual 47, 3) := by decide +kernel
theorem dX2_ofMatch_149 : decode cX2_ofMatch 149 = .ok (.lreturn, 1) := by decide +kernel
set_option maxRecDepth 20000 in
theorem ggX2_ofScore_X1_at : GoodIn wsX2_ofScore wsX1_at := goodIn_r _ [6, 7, 8, 9, 10, 11, 5, 12, 13, 14] (by decide +kernel) (by decide +kernel)
set_option maxRecDepth 20000 in
theorem gX2_ofScore_X1_at : GoodIn wsX2_ofScore (wsV RX2 47 RX1 yX1_at wsX1_at) := goodIn_app (goodIn_of _ (by decide +kernel)) ggX2_ofScore_X1_at
theorem dX2_ofScore_0 : decode cX2_ofScore 0 = .ok (.iload_n 3, 1) := by decide +kernel
theorem dX2_ofScore_1 : decode cX2_ofScore 1 = .ok (.ifCond .eq 16, 3) := by decide +kernel
theorem dX2_ofScore_4 : decode cX2_ofScore 4 = .ok (.iload_n 3, 1) := by decide +kernel
theorem dX2_ofScore_5 : decode cX2_ofScore 5 = .ok (.iconst 1, 1) := by decide +kernel
theorem dX2_ofScore_6 : decode cX2_ofScore 6 = .ok (.if_icmp .ne 9, 3) := by decide +kernel
theorem dX2_ofScore_9 : decode cX2_ofScore 9 = .ok (.ldc2_w 61, 3) := by decide +kernel
theorem dX2_ofScore_12 : decode cX2_ofScore 12 = .ok (.goto 4, 3) := by decide +kernel
theorem dX2_ofScore_15 : decode cX2_ofScore 15 = .ok (.lconst 0, 1) := by decide +kernel
theorem dX2_ofScore_16 : decode cX2_ofScore 16 = .ok (.lreturn, 1) := by decide +kernel
theorem dX2_ofScore_17 : decode cX2_ofScore 17 = .ok (.lload 4, 2) := by decide +kernel
theorem dX2_ofScore_19 : decode cX2_ofScore 19 = .ok (.aload_n 0, 1) := by decide +kernel
theorem dX2_ofScore_20 : decode cX2_ofScore 20 = .ok (.iload_n 1, 1) := by decide +kernel
theorem dX2_ofScore_21 : decode cX2_ofScore 21 = .ok (.iconst 1, 1) := by decide +kernel
theorem dX2_ofScore_22 : decode cX2_ofScore 22 = .ok (.iadd, 1) := by decide +kernel
theorem dX2_ofScore_23 : decode cX2_ofScore 23 = .ok (.iload_n 2, 1) := by decide +kernel
theorem dX2_ofScore_24 : decode cX2_ofScore 24 = .ok (.invokevirtual 47, 3) := by decide +kernel
theorem dX2_ofScore_27 : decode cX2_ofScore 27 = .ok (.lmul, 1) := by decide +kernel
theorem dX2_ofScore_28 : decode cX2_ofScore 28 = .ok (.ldc2_w 61, 3) := by decide +kernel
theorem dX2_ofScore_31 : decode cX2_ofScore 31 = .ok (.lload 4, 2) := by decide +kernel
theorem dX2_ofScore_33 : decode cX2_ofScore 33 = .ok (.lsub, 1) := by decide +kernel
theorem dX2_ofScore_34 : decode cX2_ofScore 34 = .ok (.aload_n 0, 1) := by decide +kernel
theorem dX2_ofScore_35 : decode cX2_ofScore 35 = .ok (.iload_n 1, 1) := by decide +kernel
theorem dX2_ofScore_36 : decode cX2_ofScore 36 = .ok (.iload_n 2, 1) := by decide +kernel
theorem dX2_ofScore_37 : decode cX2_ofScore 37 = .ok (.iconst 1, 1) := by decide +kernel
theorem dX2_ofScore_38 : decode cX2_ofScore 38 = .ok (.iadd, 1) := by decide +kernel
theorem dX2_ofScore_39 : decode cX2_ofScore 39 = .ok (.invokevirtual 47, 3) := by decide +kernel
theorem dX2_ofScore_42 : decode cX2_ofScore 42 = .ok (.lmul, 1) := by decide +kernel
theorem dX2_ofScore_43 : decode cX2_ofScore 43 = .ok (.ladd, 1) := by decide +kernel
theorem dX2_ofScore_44 : decode cX2_ofScore 44 = .ok (.ldc2_w 61, 3) := by decide +kernel
theorem dX2_ofScore_47 : decode cX2_ofScore 47 = .ok (.ldiv, 1) := by decide +kernel
theorem dX2_ofScore_48 : decode cX2_ofScore 48 = .ok (.lreturn, 1) := by decide +kernel
theorem dX3_init_0 : decode cX3_init 0 = .ok (.aload_n 0, 1) := by decide +kernel
theorem dX3_init_1 : decode cX3_init 1 = .ok (.invokespecial 3, 3) := by decide +kernel
theorem dX3_init_4 : decode cX3_init 4 = .ok (.return_, 1) := by decide +kernel
theorem dX3_clear_0 : decode cX3_clear 0 = .ok (.aload_n 0, 1) := by decide +kernel
theorem dX3_clear_1 : decode cX3_clear 1 = .ok (.iconst 0, 1) := by decide +kernel
theorem dX3_clear_2 : decode cX3_clear 2 = .ok (.putfield 9, 3) := by decide +kernel
theorem dX3_clear_5 : decode cX3_clear 5 = .ok (.aload_n 0, 1) := by decide +kernel
theorem dX3_clear_6 : decode cX3_clear 6 = .ok (.iconst 0, 1) := by decide +kernel
theorem dX3_clear_7 : decode cX3_clear 7 = .ok (.putfield 15, 3) := by decide +kernel
theorem dX3_clear_10 : decode cX3_clear 10 = .ok (.return_, 1) := by decide +kernel
theorem dX3_oneMore_0 : decode cX3_oneMore 0 = .ok (.iload_n 1, 1) := by decide +kernel
theorem dX3_oneMore_1 : decode cX3_oneMore 1 = .ok (.ifCond .ne 16, 3) := by decide +kernel
theorem dX3_oneMore_4 : decode cX3_oneMore 4 = .ok (.aload_n 0, 1) := by decide +kernel
theorem dX3_oneMore_5 : decode cX3_oneMore 5 = .ok (.dup, 1) := by decide +kernel
theorem dX3_oneMore_6 : decode cX3_oneMore 6 = .ok (.getfield 9, 3) := by decide +kernel
theorem dX3_oneMore_9 : decode cX3_oneMore 9 = .ok (.iconst 1, 1) := by decide +kernel
theorem dX3_oneMore_10 : decode cX3_oneMore 10 = .ok (.iadd, 1) := by decide +kernel
theorem dX3_oneMore_11 : decode cX3_oneMore 11 = .ok (.putfield 9, 3) := by decide +kernel
theorem dX3_oneMore_14 : decode cX3_oneMore 14 = .ok (.goto 13, 3) := by decide +kernel
theorem dX3_oneMore_17 : decode cX3_oneMore 17 = .ok (.aload_n 0, 1) := by decide +kernel
theorem dX3_oneMore_18 : decode cX3_oneMore 18 = .ok (.dup, 1) := by decide +kernel
theorem dX3_oneMore_19 : decode cX3_oneMore 19 = .ok (.getfield 15, 3) := by decide +kernel
theorem dX3_oneMore_22 : decode cX3_oneMore 22 = .ok (.iconst 1, 1) := by decide +kernel
theorem dX3_oneMore_23 : decode cX3_oneMore 23 = .ok (.iadd, 1) := by decide +kernel
theorem dX3_oneMore_24 : decode cX3_oneMore 24 = .ok (.putfield 15, 3) := by decide +kernel
theorem dX3_oneMore_27 : decode cX3_oneMore 27 = .ok (.return_, 1) := by decide +kernel
set_option maxRecDepth 20000 in
theorem ggX4_init_X3_init : GoodIn wsX4_init wsX3_init := goodIn_r _ [16, 17, 2, 3] (by decide +kernel) (by decide +kernel)
set_option maxRecDepth 20000 in
theorem gX4_init_X3_init_n17 : GoodIn wsX4_init (wsX3_init) := ggX4_init_X3_init
set_option maxRecDepth 20000 in
theorem ggX4_init_X4_restart : GoodIn wsX4_init wsX4_restart := goodIn_r _ [22, 9, 10, 11, 12, 13, 23, 24, 25, 26, 27, 28, 8, 29, 30, 31, 32, 33, 34, 35, 36, 37, 38, 39, 40, 41, 42, 43] (by decide +kernel) (by decide +kernel)
set_option maxRecDepth 20000 in
theorem gX4_init_X4_restart : GoodIn wsX4_init (wsV RX4 38 RX4 yX4_restart wsX4_restart) := goodIn_app (goodIn_of _ (by decide +kernel)) ggX4_init_X4_restart
theorem dX4_init_0 : decode cX4_init 0 = .ok (.aload_n 0, 1) := by decide +kernel
theorem dX4_init_1 : decode cX4_init 1 = .ok (.invokespecial 3, 3) := by decide +kernel
theorem dX4_init_4 : decode cX4_init 4 = .ok (.aload_n 0, 1) := by decide +kernel
theorem dX4_init_5 : decode cX4_init 5 = .ok (.sipush 400, 3) := by decide +kernel
theorem dX4_init_8 : decode cX4_init 8 = .ok (.newarray .boolean, 2) := by decide +kernel
theorem dX4_init_10 : decode cX4_init 10 = .ok (.putfield 9, 3) := by decide +kernel
theorem dX4_init_13 : decode cX4_init 13 = .ok (.aload_n 0, 1) := by decide +kernel
theorem dX4_init_14 : decode cX4_init 14 = .ok (.new 15, 3) := by decide +kernel
theorem dX4_init_17 : decode cX4_init 17 = .ok (.dup, 1) := by decide +kernel
theorem dX4_init_18 : decode cX4_init 18 = .ok (.invokespecial 17, 3) := by decide +kernel
theorem dX4_init_21 : decode cX4_init 21 = .ok (.putfield 18, 3) := by decide +kernel
theorem dX4_init_24 : decode cX4_init 24 = .ok (.aload_n 0, 1) := by decide +kernel
theorem dX4_init_25 : decode cX4_init 25 = .ok (.new 15, 3) := by decide +kernel
theorem dX4_init_28 : decode cX4_init 28 = .ok (.dup, 1) := by decide +kernel
theorem dX4_init_29 : decode cX4_init 29 = .ok (.invokespecial 17, 3) := by decide +kernel
theorem dX4_init_32 : decode cX4_init 32 = .ok (.putfield 22, 3) := by decide +kernel
theorem dX4_init_35 : decode cX4_init 35 = .ok (.aload_n 0, 1) := by decide +kernel
theorem dX4_init_36 : decode cX4_init 36 = .ok (.new 15, 3) := by decide +kernel
theorem dX4_init_39 : decode cX4_init 39 = .ok (.dup, 1) := by decide +kernel
theorem dX4_init_40 : decode cX4_init 40 = .ok (.invokespecial 17, 3) := by decide +kernel
theorem dX4_init_43 : decode cX4_init 43 = .ok (.putfield 25, 3) := by decide +kernel
theorem dX4_init_46 : decode cX4_init 46 = .ok (.aload_n 0, 1) := by decide +kernel
theorem dX4_init_47 : decode cX4_init 47 = .ok (.new 15, 3) := by decide +kernel
theorem dX4_init_50 : decode cX4_init 50 = .ok (.dup, 1) := by decide +kernel
theorem dX4_init_51 : decode cX4_init 51 = .ok (.invokespecial 17, 3) := by decide +kernel
theorem dX4_init_54 : decode cX4_init 54 = .ok (.putfield 28, 3) := by decide +kernel
theorem dX4_init_57 : decode cX4_init 57 = .ok (.aload_n 0, 1) := by decide +kernel
theorem dX4_init_58 : decode cX4_init 58 = .ok (.new 15, 3) := by decide +kernel
theorem dX4_init_61 : decode cX4_init 61 = .ok (.dup, 1) := by decide +kernel
theorem dX4_init_62 : decode cX4_init 62 = .ok (.invokespecial 17, 3) := by decide +kernel
theorem dX4_init_65 : decode cX4_init 65 = .ok (.putfield 31, 3) := by decide +kernel
theorem dX4_init_68 : decode cX4_init 68 = .ok (.aload_n 0, 1) := by decide +kernel
theorem dX4_init_69 : decode cX4_init 69 = .ok (.aload_n 1, 1) := by decide +kernel
theorem dX4_init_70 : decode cX4_init 70 = .ok (.putfield 34, 3) := by decide +kernel
theorem dX4_init_73 : decode cX4_init 73 = .ok (.aload_n 0, 1) := by decide +kernel
theorem dX4_init_74 : decode cX4_init 74 = .ok (.invokevirtual 38, 3) := by decide +kernel
theorem dX4_init_77 : decode cX4_init 77 = .ok (.return_, 1) := by decide +kernel
set_option maxRecDepth 20000 in
theorem ggX4_restart_X3_clear : GoodIn wsX4_restart wsX3_clear := goodIn_r _ [13, 14, 15, 26, 27] (by decide +kernel) (by decide +kernel)
set_option maxRecDepth 20000 in
theorem gX4_restart_X3_clear : GoodIn wsX4_restart (wsV RX4 41 RX3 yX3_clear wsX3_clear) := goodIn_app (goodIn_of _ (by decide +kernel)) ggX4_restart_X3_clear
theorem dX4_restart_0 : decode cX4_restart 0 = .ok (.aload_n 0, 1) := by decide +kernel
theorem dX4_restart_1 : decode cX4_restart 1 = .ok (.getfield 18, 3) := by decide +kernel
theorem dX4_restart_4 : decode cX4_restart 4 = .ok (.invokevirtual 41, 3) := by decide +kernel
theorem dX4_restart_7 : decode cX4_restart 7 = .ok (.aload_n 0, 1) := by decide +kernel
theorem dX4_restart_8 : decode cX4_restart 8 = .ok (.getfield 22, 3) := by decide +kernel
theorem dX4_restart_11 : decode cX4_restart 11 = .ok (.invokevirtual 41, 3) := by decide +kernel
theorem dX4_restart_14 : decode cX4_restart 14 = .ok (.aload_n 0, 1) := by decide +kernel
theorem dX4_restart_15 : decode cX4_restart 15 = .ok (.getfield 25, 3) := by decide +kernel
theorem dX4_restart_18 : decode cX4_restart 18 = .ok (.invokevirtual 41, 3) := by decide +kernel
theorem dX4_restart_21 : decode cX4_restart 21 = .ok (.aload_n 0, 1) := by decide +kernel
theorem dX4_restart_22 : decode cX4_restart 22 = .ok (.getfield 28, 3) := by decide +kernel
theorem dX4_restart_25 : decode cX4_restart 25 = .ok (.invokevirtual 41, 3) := by decide +kernel
theorem dX4_restart_28 : decode cX4_restart 28 = .ok (.aload_n 0, 1) := by decide +kernel
theorem dX4_restart_29 : decode cX4_restart 29 = .ok (.getfield 31, 3) := by decide +kernel
theorem dX4_restart_32 : decode cX4_restart 32 = .ok (.invokevirtual 41, 3) := by decide +kernel
theorem dX4_restart_35 : decode cX4_restart 35 = .ok (.aload_n 0, 1) := by decide +kernel
theorem dX4_restart_36 : decode cX4_restart 36 = .ok (.iconst 0, 1) := by decide +kernel
theorem dX4_restart_37 : decode cX4_restart 37 = .ok (.putfield 44, 3) := by decide +kernel
theorem dX4_restart_40 : decode cX4_restart 40 = .ok (.aload_n 0, 1) := by decide +kernel
theorem dX4_restart_41 : decode cX4_restart 41 = .ok (.iconst 0, 1) := by decide +kernel
theorem dX4_restart_42 : decode cX4_restart 42 = .ok (.putfield 48, 3) := by decide +kernel
theorem dX4_restart_45 : decode cX4_restart 45 = .ok (.aload_n 0, 1) := by decide +kernel
theorem dX4_restart_46 : decode cX4_restart 46 = .ok (.iconst 0, 1) := by decide +kernel
theorem dX4_restart_47 : decode cX4_restart 47 = .ok (.putfield 51, 3) := by decide +kernel
theorem dX4_restart_50 : decode cX4_restart 50 = .ok (.return_, 1) := by decide +kernel
set_option maxRecDepth 20000 in
theorem ggX4_tell_X3_oneMore : GoodIn wsX4_tell wsX3_oneMore := goodIn_r _ [14, 15, 16, 84, 85] (by decide +kernel) (by decide +kernel)
set_option maxRecDepth 20000 in
theorem gX4_tell_X3_oneMore : GoodIn wsX4_tell (wsV RX4 54 RX3 yX3_oneMore wsX3_oneMore) := goodIn_app (goodIn_of _ (by decide +kernel)) ggX4_tell_X3_oneMore
set_option maxRecDepth 20000 in
theorem ggX4_tell_X4_pointsOfA : GoodIn wsX4_tell wsX4_pointsOfA := goodIn_r _ [21, 6, 22, 7, 3, 23, 24, 25, 26, 27, 28, 67, 68, 69, 70, 71, 72, 73, 74, 75, 76, 84, 85, 77, 78, 79, 80, 81, 82, 83] (by decide +kernel) (by decide +kernel)
set_option maxRecDepth 20000 in
theorem gX4_tell_X4_pointsOfA : GoodIn wsX4_tell (wsV RX4 63 RX4 yX4_pointsOfA wsX4_pointsOfA) := goodIn_app (goodIn_of _ (by decide +kernel)) ggX4_tell_X4_pointsOfA
set_option maxRecDepth 20000 in
theorem ggX4_tell_X5_gameWinner : GoodIn wsX4_tell wsX5_gameWinner := goodIn_r _ [32, 33, 34, 35, 36, 37, 38, 39, 40, 41, 42, 26, 43, 77, 78, 79, 80, 81, 82, 83] (by decide +kernel) (by decide +kernel)
set_option maxRecDepth 20000 in
theorem gX4_tell_X5_gameWinner : GoodIn wsX4_tell (wsV RX4 70 RX5 yX5_gameWinner wsX5_gameWinner) := goodIn_app (goodIn_of _ (by decide +kernel)) ggX4_tell_X5_gameWinner
set_option maxRecDepth 20000 in
theorem ggX4_tell_X4_endGame : GoodIn wsX4_tell wsX4_endGame := goodIn_r _ [47, 6, 48, 3, 7, 22, 9, 49, 50, 51, 13, 52, 15, 16, 10, 11, 12, 14, 53, 54, 55, 26, 56, 33, 34, 35, 36, 57, 58, 59, 60, 41, 42, 43, 61, 62, 63, 20, 64, 65, 66, 67, 68, 69, 70, 71, 72, 73, 74, 75, 76, 84, 85, 77, 78, 79, 80, 81, 82, 83] (by decide +kernel) (by decide +kernel)
set_option maxRecDepth 20000 in
theorem gX4_tell_X4_endGame : GoodIn wsX4_tell (wsV RX4 74 RX4 yX4_endGame wsX4_endGame) := goodIn_app (goodIn_of _ (by decide +kernel)) ggX4_tell_X4_endGame
theorem dX4_tell_0 : decode cX4_tell 0 = .ok (.aload_n 0, 1) := by decide +kernel
theorem dX4_tell_1 : decode cX4_tell 1 = .ok (.getfield 51, 3) := by decide +kernel
theorem dX4_tell_4 : decode cX4_tell 4 = .ok (.ifCond .lt 15, 3) := by decide +kernel
theorem dX4_tell_7 : decode cX4_tell 7 = .ok (.aload_n 0, 1) := by decide +kernel
theorem dX4_tell_8 : decode cX4_tell 8 = .ok (.getfield 51, 3) := by decide +kernel
theorem dX4_tell_11 : decode cX4_tell 11 = .ok (.aload_n 0, 1) := by decide +kernel
theorem dX4_tell_12 : decode cX4_tell 12 = .ok (.getfield 9, 3) := by decide +kernel
theorem dX4_tell_15 : decode cX4_tell 15 = .ok (.arraylength, 1) := by decide +kernel
theorem dX4_tell_16 : decode cX4_tell 16 = .ok (.if_icmp .lt 4, 3) := by decide +kernel
theorem dX4_tell_19 : decode cX4_tell 19 = .ok (.return_, 1) := by decide +kernel
theorem dX4_tell_20 : decode cX4_tell 20 = .ok (.aload_n 0, 1) := by decide +kernel
theorem dX4_tell_21 : decode cX4_tell 21 = .ok (.getfield 9, 3) := by decide +kernel
theorem dX4_tell_24 : decode cX4_tell 24 = .ok (.aload_n 0, 1) := by decide +kernel
theorem dX4_tell_25 : decode cX4_tell 25 = .ok (.getfield 51, 3) := by decide +kernel
theorem dX4_tell_28 : decode cX4_tell 28 = .ok (.iload_n 1, 1) := by decide +kernel
theorem dX4_tell_29 : decode cX4_tell 29 = .ok (.ifCond .ne 7, 3) := by decide +kernel
theorem dX4_tell_32 : decode cX4_tell 32 = .ok (.iconst 1, 1) := by decide +kernel
theorem dX4_tell_33 : decode cX4_tell 33 = .ok (.goto 4, 3) := by decide +kernel
theorem dX4_tell_36 : decode cX4_tell 36 = .ok (.iconst 0, 1) := by decide +kernel
theorem dX4_tell_37 : decode cX4_tell 37 = .ok (.bastore, 1) := by decide +kernel
theorem dX4_tell_38 : decode cX4_tell 38 = .ok (.aload_n 0, 1) := by decide +kernel
theorem dX4_tell_39 : decode cX4_tell 39 = .ok (.dup, 1) := by decide +kernel
theorem dX4_tell_40 : decode cX4_tell 40 = .ok (.getfield 51, 3) := by decide +kernel
theorem dX4_tell_43 : decode cX4_tell 43 = .ok (.iconst 1, 1) := by decide +kernel
theorem dX4_tell_44 : decode cX4_tell 44 = .ok (.iadd, 1) := by decide +kernel
theorem dX4_tell_45 : decode cX4_tell 45 = .ok (.putfield 51, 3) := by decide +kernel
theorem dX4_tell_48 : decode cX4_tell 48 = .ok (.aload_n 0, 1) := by decide +kernel
theorem dX4_tell_49 : decode cX4_tell 49 = .ok (.getfield 48, 3) := by decide +kernel
theorem dX4_tell_52 : decode cX4_tell 52 = .ok (.ifCond .ne 14, 3) := by decide +kernel
theorem dX4_tell_55 : decode cX4_tell 55 = .ok (.aload_n 0, 1) := by decide +kernel
theorem dX4_tell_56 : decode cX4_tell 56 = .ok (.getfield 28, 3) := by decide +kernel
theorem dX4_tell_59 : decode cX4_tell 59 = .ok (.iload_n 1, 1) := by decide +kernel
theorem dX4_tell_60 : decode cX4_tell 60 = .ok (.invokevirtual 54, 3) := by decide +kernel
theorem dX4_tell_63 : decode cX4_tell 63 = .ok (.goto 11, 3) := by decide +kernel
theorem dX4_tell_66 : decode cX4_tell 66 = .ok (.aload_n 0, 1) := by decide +kernel
theorem dX4_tell_67 : decode cX4_tell 67 = .ok (.getfield 31, 3) := by decide +kernel
theorem dX4_tell_70 : decode cX4_tell 70 = .ok (.iload_n 1, 1) := by decide +kernel
theorem dX4_tell_71 : decode cX4_tell 71 = .ok (.invokevirtual 54, 3) := by decide +kernel
theorem dX4_tell_74 : decode cX4_tell 74 = .ok (.aload_n 0, 1) := by decide +kernel
theorem dX4_tell_75 : decode cX4_tell 75 = .ok (.getfield 18, 3) := by decide +kernel
theorem dX4_tell_78 : decode cX4_tell 78 = .ok (.iload_n 1, 1) := by decide +kernel
theorem dX4_tell_79 : decode cX4_tell 79 = .ok (.invokevirtual 54, 3) := by decide +kernel
theorem dX4_tell_82 : decode cX4_tell 82 = .ok (.aload_n 0, 1) := by decide +kernel
theorem dX4_tell_83 : decode cX4_tell 83 = .ok (.getfield 34, 3) := by decide +kernel
theorem dX4_tell_86 : decode cX4_tell 86 = .ok (.aload_n 0, 1) := by decide +kernel
theorem dX4_tell_87 : decode cX4_tell 87 = .ok (.getfield 34, 3) := by decide +kernel
theorem dX4_tell_90 : decode cX4_tell 90 = .ok (.getfield 58, 3) := by decide +kernel
theorem dX4_tell_93 : decode cX4_tell 93 = .ok (.aload_n 0, 1) := by decide +kernel
theorem dX4_tell_94 : decode cX4_tell 94 = .ok (.invokevirtual 63, 3) := by decide +kernel
theorem dX4_tell_97 : decode cX4_tell 97 = .ok (.aload_n 0, 1) := by decide +kernel
theorem dX4_tell_98 : decode cX4_tell 98 = .ok (.getfield 18, 3) := by decide +kernel
theorem dX4_tell_101 : decode cX4_tell 101 = .ok (.getfield 67, 3) := by decide +kernel
theorem dX4_tell_104 : decode cX4_tell 104 = .ok (.invokevirtual 70, 3) := by decide +kernel
theorem dX4_tell_107 : decode cX4_tell 107 = .ok (.istore_n 2, 1) := by decide +kernel
theorem dX4_tell_108 : decode cX4_tell 108 = .ok (.iload_n 2, 1) := by decide +kernel
theorem dX4_tell_109 : decode cX4_tell 109 = .ok (.ifCond .eq 17, 3) := by decide +kernel
theorem dX4_tell_112 : decode cX4_tell 112 = .ok (.aload_n 0, 1) := by decide +kernel
theorem dX4_tell_113 : decode cX4_tell 113 = .ok (.iload_n 2, 1) := by decide +kernel
theorem dX4_tell_114 : decode cX4_tell 114 = .ok (.iconst 1, 1) := by decide +kernel
theorem dX4_tell_115 : decode cX4_tell 115 = .ok (.if_icmp .ne 7, 3) := by decide +kernel
theorem dX4_tell_118 : decode cX4_tell 118 = .ok (.iconst 0, 1) := by decide +kernel
theorem dX4_tell_119 : decode cX4_tell 119 = .ok (.goto 4, 3) := by decide +kernel
theorem dX4_tell_122 : decode cX4_tell 122 = .ok (.iconst 1, 1) := by decide +kernel
end
section
theorem dX4_tell_123 : decode cX4_tell 123 = .ok (.invokevirtual 74, 3) := by decide +kernel
theorem dX4_tell_126 : decode cX4_tell 126 = .ok (.return_, 1) := by decide +kernel
set_option maxRecDepth 20000 in
theorem ggX4_pointsOfA_X5_headStartOfA : GoodIn wsX4_pointsOfA wsX5_headStartOfA := goodIn_r _ [9, 10, 23, 24, 25, 26, 27, 28, 29] (by decide +kernel) (by decide +kernel)
set_option maxRecDepth 20000 in
theorem gX4_pointsOfA_X5_headStartOfA : GoodIn wsX4_pointsOfA (wsV RX4 80 RX5 yX5_headStartOfA wsX5_headStartOfA) := goodIn_app (goodIn_of _ (by decide +kernel)) ggX4_pointsOfA_X5_headStartOfA
theorem dX4_pointsOfA_0 : decode cX4_pointsOfA 0 = .ok (.aload_n 0, 1) := by decide +kernel
theorem dX4_pointsOfA_1 : decode cX4_pointsOfA 1 = .ok (.getfield 18, 3) := by decide +kernel
theorem dX4_pointsOfA_4 : decode cX4_pointsOfA 4 = .ok (.getfield 77, 3) := by decide +kernel
theorem dX4_pointsOfA_7 : decode cX4_pointsOfA 7 = .ok (.aload_n 0, 1) := by decide +kernel
theorem dX4_pointsOfA_8 : decode cX4_pointsOfA 8 = .ok (.getfield 34, 3) := by decide +kernel
theorem dX4_pointsOfA_11 : decode cX4_pointsOfA 11 = .ok (.aload_n 0, 1) := by decide +kernel
theorem dX4_pointsOfA_12 : decode cX4_pointsOfA 12 = .ok (.getfield 48, 3) := by decide +kernel
theorem dX4_pointsOfA_15 : decode cX4_pointsOfA 15 = .ok (.invokevirtual 80, 3) := by decide +kernel
theorem dX4_pointsOfA_18 : decode cX4_pointsOfA 18 = .ok (.iadd, 1) := by decide +kernel
theorem dX4_pointsOfA_19 : decode cX4_pointsOfA 19 = .ok (.ireturn, 1) := by decide +kernel
set_option maxRecDepth 20000 in
theorem ggX4_endGame_X3_clear : GoodIn wsX4_endGame wsX3_clear := goodIn_r _ [11, 12, 13, 51, 52] (by decide +kernel) (by decide +kernel)
set_option maxRecDepth 20000 in
theorem gX4_endGame_X3_clear : GoodIn wsX4_endGame (wsV RX4 41 RX3 yX3_clear wsX3_clear) := goodIn_app (goodIn_of _ (by decide +kernel)) ggX4_endGame_X3_clear
set_option maxRecDepth 20000 in
theorem ggX4_endGame_X3_oneMore : GoodIn wsX4_endGame wsX3_oneMore := goodIn_r _ [17, 12, 13, 51, 52] (by decide +kernel) (by decide +kernel)
set_option maxRecDepth 20000 in
theorem gX4_endGame_X3_oneMore : GoodIn wsX4_endGame (wsV RX4 54 RX3 yX3_oneMore wsX3_oneMore) := goodIn_app (goodIn_of _ (by decide +kernel)) ggX4_endGame_X3_oneMore
set_option maxRecDepth 20000 in
theorem ggX4_endGame_X5_setWinner : GoodIn wsX4_endGame wsX5_setWinner := goodIn_r _ [22, 23, 24, 25, 26, 27, 28, 29, 30, 31, 32, 21, 33, 53, 54, 55, 56, 57, 58, 59] (by decide +kernel) (by decide +kernel)
set_option maxRecDepth 20000 in
theorem gX4_endGame_X5_setWinner : GoodIn wsX4_endGame (wsV RX4 84 RX5 yX5_setWinner wsX5_setWinner) := goodIn_app (goodIn_of _ (by decide +kernel)) ggX4_endGame_X5_setWinner
set_option maxRecDepth 20000 in
theorem ggX4_endGame_X4_endSet : GoodIn wsX4_endGame wsX4_endSet := goodIn_r _ [38, 2, 39, 40, 3, 7, 8, 9, 10, 11, 12, 13, 14, 15, 16, 17, 41, 42, 43, 44, 45, 46, 47, 48, 49, 50, 51, 52] (by decide +kernel) (by decide +kernel)
set_option maxRecDepth 20000 in
theorem gX4_endGame_X4_endSet : GoodIn wsX4_endGame (wsV RX4 88 RX4 yX4_endSet wsX4_endSet) := goodIn_app (goodIn_of _ (by decide +kernel)) ggX4_endGame_X4_endSet
theorem dX4_endGame_0 : decode cX4_endGame 0 = .ok (.aload_n 0, 1) := by decide +kernel
theorem dX4_endGame_1 : decode cX4_endGame 1 = .ok (.getfield 18, 3) := by decide +kernel
theorem dX4_endGame_4 : decode cX4_endGame 4 = .ok (.invokevirtual 41, 3) := by decide +kernel
theorem dX4_endGame_7 : decode cX4_endGame 7 = .ok (.aload_n 0, 1) := by decide +kernel
theorem dX4_endGame_8 : decode cX4_endGame 8 = .ok (.getfield 22, 3) := by decide +kernel
theorem dX4_endGame_11 : decode cX4_endGame 11 = .ok (.iload_n 1, 1) := by decide +kernel
theorem dX4_endGame_12 : decode cX4_endGame 12 = .ok (.invokevirtual 54, 3) := by decide +kernel
theorem dX4_endGame_15 : decode cX4_endGame 15 = .ok (.aload_n 0, 1) := by decide +kernel
theorem dX4_endGame_16 : decode cX4_endGame 16 = .ok (.aload_n 0, 1) := by decide +kernel
theorem dX4_endGame_17 : decode cX4_endGame 17 = .ok (.getfield 48, 3) := by decide +kernel
theorem dX4_endGame_20 : decode cX4_endGame 20 = .ok (.ifCond .ne 7, 3) := by decide +kernel
theorem dX4_endGame_23 : decode cX4_endGame 23 = .ok (.iconst 1, 1) := by decide +kernel
theorem dX4_endGame_24 : decode cX4_endGame 24 = .ok (.goto 4, 3) := by decide +kernel
theorem dX4_endGame_27 : decode cX4_endGame 27 = .ok (.iconst 0, 1) := by decide +kernel
theorem dX4_endGame_28 : decode cX4_endGame 28 = .ok (.putfield 48, 3) := by decide +kernel
theorem dX4_endGame_31 : decode cX4_endGame 31 = .ok (.aload_n 0, 1) := by decide +kernel
theorem dX4_endGame_32 : decode cX4_endGame 32 = .ok (.getfield 34, 3) := by decide +kernel
theorem dX4_endGame_35 : decode cX4_endGame 35 = .ok (.aload_n 0, 1) := by decide +kernel
theorem dX4_endGame_36 : decode cX4_endGame 36 = .ok (.getfield 22, 3) := by decide +kernel
theorem dX4_endGame_39 : decode cX4_endGame 39 = .ok (.getfield 77, 3) := by decide +kernel
theorem dX4_endGame_42 : decode cX4_endGame 42 = .ok (.aload_n 0, 1) := by decide +kernel
theorem dX4_endGame_43 : decode cX4_endGame 43 = .ok (.getfield 22, 3) := by decide +kernel
theorem dX4_endGame_46 : decode cX4_endGame 46 = .ok (.getfield 67, 3) := by decide +kernel
theorem dX4_endGame_49 : decode cX4_endGame 49 = .ok (.invokevirtual 84, 3) := by decide +kernel
theorem dX4_endGame_52 : decode cX4_endGame 52 = .ok (.istore_n 2, 1) := by decide +kernel
theorem dX4_endGame_53 : decode cX4_endGame 53 = .ok (.iload_n 2, 1) := by decide +kernel
theorem dX4_endGame_54 : decode cX4_endGame 54 = .ok (.ifCond .eq 17, 3) := by decide +kernel
theorem dX4_endGame_57 : decode cX4_endGame 57 = .ok (.aload_n 0, 1) := by decide +kernel
theorem dX4_endGame_58 : decode cX4_endGame 58 = .ok (.iload_n 2, 1) := by decide +kernel
theorem dX4_endGame_59 : decode cX4_endGame 59 = .ok (.iconst 1, 1) := by decide +kernel
theorem dX4_endGame_60 : decode cX4_endGame 60 = .ok (.if_icmp .ne 7, 3) := by decide +kernel
theorem dX4_endGame_63 : decode cX4_endGame 63 = .ok (.iconst 0, 1) := by decide +kernel
theorem dX4_endGame_64 : decode cX4_endGame 64 = .ok (.goto 4, 3) := by decide +kernel
theorem dX4_endGame_67 : decode cX4_endGame 67 = .ok (.iconst 1, 1) := by decide +kernel
theorem dX4_endGame_68 : decode cX4_endGame 68 = .ok (.invokevirtual 88, 3) := by decide +kernel
theorem dX4_endGame_71 : decode cX4_endGame 71 = .ok (.return_, 1) := by decide +kernel
set_option maxRecDepth 20000 in
theorem ggX4_endSet_X3_clear : GoodIn wsX4_endSet wsX3_clear := goodIn_r _ [9, 10, 11, 26, 27] (by decide +kernel) (by decide +kernel)
set_option maxRecDepth 20000 in
theorem gX4_endSet_X3_clear : GoodIn wsX4_endSet (wsV RX4 41 RX3 yX3_clear wsX3_clear) := goodIn_app (goodIn_of _ (by decide +kernel)) ggX4_endSet_X3_clear
set_option maxRecDepth 20000 in
theorem ggX4_endSet_X3_oneMore : GoodIn wsX4_endSet wsX3_oneMore := goodIn_r _ [15, 10, 11, 26, 27] (by decide +kernel) (by decide +kernel)
set_option maxRecDepth 20000 in
theorem gX4_endSet_X3_oneMore : GoodIn wsX4_endSet (wsV RX4 54 RX3 yX3_oneMore wsX3_oneMore) := goodIn_app (goodIn_of _ (by decide +kernel)) ggX4_endSet_X3_oneMore
theorem dX4_endSet_0 : decode cX4_endSet 0 = .ok (.aload_n 0, 1) := by decide +kernel
theorem dX4_endSet_1 : decode cX4_endSet 1 = .ok (.getfield 22, 3) := by decide +kernel
theorem dX4_endSet_4 : decode cX4_endSet 4 = .ok (.invokevirtual 41, 3) := by decide +kernel
theorem dX4_endSet_7 : decode cX4_endSet 7 = .ok (.aload_n 0, 1) := by decide +kernel
theorem dX4_endSet_8 : decode cX4_endSet 8 = .ok (.getfield 25, 3) := by decide +kernel
theorem dX4_endSet_11 : decode cX4_endSet 11 = .ok (.iload_n 1, 1) := by decide +kernel
theorem dX4_endSet_12 : decode cX4_endSet 12 = .ok (.invokevirtual 54, 3) := by decide +kernel
theorem dX4_endSet_15 : decode cX4_endSet 15 = .ok (.aload_n 0, 1) := by decide +kernel
theorem dX4_endSet_16 : decode cX4_endSet 16 = .ok (.aload_n 0, 1) := by decide +kernel
theorem dX4_endSet_17 : decode cX4_endSet 17 = .ok (.getfield 44, 3) := by decide +kernel
theorem dX4_endSet_20 : decode cX4_endSet 20 = .ok (.ifCond .ne 7, 3) := by decide +kernel
theorem dX4_endSet_23 : decode cX4_endSet 23 = .ok (.iconst 1, 1) := by decide +kernel
theorem dX4_endSet_24 : decode cX4_endSet 24 = .ok (.goto 4, 3) := by decide +kernel
theorem dX4_endSet_27 : decode cX4_endSet 27 = .ok (.iconst 0, 1) := by decide +kernel
theorem dX4_endSet_28 : decode cX4_endSet 28 = .ok (.putfield 44, 3) := by decide +kernel
theorem dX4_endSet_31 : decode cX4_endSet 31 = .ok (.aload_n 0, 1) := by decide +kernel
theorem dX4_endSet_32 : decode cX4_endSet 32 = .ok (.aload_n 0, 1) := by decide +kernel
theorem dX4_endSet_33 : decode cX4_endSet 33 = .ok (.getfield 44, 3) := by decide +kernel
theorem dX4_endSet_36 : decode cX4_endSet 36 = .ok (.putfield 48, 3) := by decide +kernel
theorem dX4_endSet_39 : decode cX4_endSet 39 = .ok (.return_, 1) := by decide +kernel
set_option maxRecDepth 20000 in
theorem ggX4_takeBack_X4_restart : GoodIn wsX4_takeBack wsX4_restart := goodIn_r _ [11, 12, 13, 14, 15, 16, 17, 18, 1, 19, 20, 21, 22, 23, 24, 25, 76, 77, 78, 79, 80, 81, 82, 83, 84, 85, 86, 87] (by decide +kernel) (by decide +kernel)
set_option maxRecDepth 20000 in
theorem gX4_takeBack_X4_restart : GoodIn wsX4_takeBack (wsV RX4 38 RX4 yX4_restart wsX4_restart) := goodIn_app (goodIn_of _ (by decide +kernel)) ggX4_takeBack_X4_restart
set_option maxRecDepth 20000 in
theorem ggX4_takeBack_X4_tell : GoodIn wsX4_takeBack wsX4_tell := goodIn_r _ [29, 1, 6, 18, 15, 16, 12, 30, 31, 32, 33, 34, 35, 22, 36, 24, 25, 37, 38, 39, 10, 40, 41, 42, 43, 44, 45, 46, 47, 48, 49, 50, 51, 52, 3, 4, 5, 53, 54, 55, 56, 57, 58, 59, 60, 61, 62, 63, 13, 19, 20, 21, 23, 64, 65, 66, 67, 68, 69, 70, 71, 72, 73, 74, 75, 14, 17, 76, 77, 78, 79, 80, 81, 82, 83, 84, 85, 88, 89, 90, 91, 92, 93, 94, 86, 87] (by decide +kernel) (by decide +kernel)
set_option maxRecDepth 20000 in
theorem gX4_takeBack_X4_tell : GoodIn wsX4_takeBack (wsV RX4 96 RX4 yX4_tell wsX4_tell) := goodIn_app (goodIn_of _ (by decide +kernel)) ggX4_takeBack_X4_tell
theorem dX4_takeBack_0 : decode cX4_takeBack 0 = .ok (.aload_n 0, 1) := by decide +kernel
theorem dX4_takeBack_1 : decode cX4_takeBack 1 = .ok (.getfield 51, 3) := by decide +kernel
theorem dX4_takeBack_4 : decode cX4_takeBack 4 = .ok (.istore_n 2, 1) := by decide +kernel
theorem dX4_takeBack_5 : decode cX4_takeBack 5 = .ok (.iconst 0, 1) := by decide +kernel
theorem dX4_takeBack_6 : decode cX4_takeBack 6 = .ok (.iload_n 2, 1) := by decide +kernel
theorem dX4_takeBack_7 : decode cX4_takeBack 7 = .ok (.iload_n 1, 1) := by decide +kernel
theorem dX4_takeBack_8 : decode cX4_takeBack 8 = .ok (.isub, 1) := by decide +kernel
theorem dX4_takeBack_9 : decode cX4_takeBack 9 = .ok (.invokestatic 91, 3) := by decide +kernel
theorem dX4_takeBack_12 : decode cX4_takeBack 12 = .ok (.istore_n 3, 1) := by decide +kernel
theorem dX4_takeBack_13 : decode cX4_takeBack 13 = .ok (.aload_n 0, 1) := by decide +kernel
theorem dX4_takeBack_14 : decode cX4_takeBack 14 = .ok (.invokevirtual 38, 3) := by decide +kernel
theorem dX4_takeBack_17 : decode cX4_takeBack 17 = .ok (.iconst 0, 1) := by decide +kernel
theorem dX4_takeBack_18 : decode cX4_takeBack 18 = .ok (.istore 4, 2) := by decide +kernel
theorem dX4_takeBack_20 : decode cX4_takeBack 20 = .ok (.iload 4, 2) := by decide +kernel
theorem dX4_takeBack_22 : decode cX4_takeBack 22 = .ok (.iload_n 3, 1) := by decide +kernel
theorem dX4_takeBack_23 : decode cX4_takeBack 23 = .ok (.if_icmp .ge 38, 3) := by decide +kernel
theorem dX4_takeBack_26 : decode cX4_takeBack 26 = .ok (.iload 4, 2) := by decide +kernel
theorem dX4_takeBack_28 : decode cX4_takeBack 28 = .ok (.aload_n 0, 1) := by decide +kernel
theorem dX4_takeBack_29 : decode cX4_takeBack 29 = .ok (.getfield 9, 3) := by decide +kernel
theorem dX4_takeBack_32 : decode cX4_takeBack 32 = .ok (.arraylength, 1) := by decide +kernel
theorem dX4_takeBack_33 : decode cX4_takeBack 33 = .ok (.if_icmp .ge 28, 3) := by decide +kernel
theorem dX4_takeBack_36 : decode cX4_takeBack 36 = .ok (.aload_n 0, 1) := by decide +kernel
theorem dX4_takeBack_37 : decode cX4_takeBack 37 = .ok (.aload_n 0, 1) := by decide +kernel
theorem dX4_takeBack_38 : decode cX4_takeBack 38 = .ok (.getfield 9, 3) := by decide +kernel
theorem dX4_takeBack_41 : decode cX4_takeBack 41 = .ok (.iload 4, 2) := by decide +kernel
theorem dX4_takeBack_43 : decode cX4_takeBack 43 = .ok (.baload, 1) := by decide +kernel
theorem dX4_takeBack_44 : decode cX4_takeBack 44 = .ok (.ifCond .eq 7, 3) := by decide +kernel
theorem dX4_takeBack_47 : decode cX4_takeBack 47 = .ok (.iconst 0, 1) := by decide +kernel
theorem dX4_takeBack_48 : decode cX4_takeBack 48 = .ok (.goto 4, 3) := by decide +kernel
theorem dX4_takeBack_51 : decode cX4_takeBack 51 = .ok (.iconst 1, 1) := by decide +kernel
theorem dX4_takeBack_52 : decode cX4_takeBack 52 = .ok (.invokevirtual 96, 3) := by decide +kernel
theorem dX4_takeBack_55 : decode cX4_takeBack 55 = .ok (.iinc 4 1, 3) := by decide +kernel
theorem dX4_takeBack_58 : decode cX4_takeBack 58 = .ok (.goto (-38), 3) := by decide +kernel
theorem dX4_takeBack_61 : decode cX4_takeBack 61 = .ok (.iload_n 2, 1) := by decide +kernel
theorem dX4_takeBack_62 : decode cX4_takeBack 62 = .ok (.iload_n 3, 1) := by decide +kernel
theorem dX4_takeBack_63 : decode cX4_takeBack 63 = .ok (.isub, 1) := by decide +kernel
theorem dX4_takeBack_64 : decode cX4_takeBack 64 = .ok (.ireturn, 1) := by decide +kernel
set_option maxRecDepth 20000 in
theorem ggX4_matchWinner_X5_matchWinner : GoodIn wsX4_matchWinner wsX5_matchWinner := goodIn_r _ [9, 10, 11, 12, 8, 13, 26, 27, 28, 29, 30, 31, 32] (by decide +kernel) (by decide +kernel)
set_option maxRecDepth 20000 in
theorem gX4_matchWinner_X5_matchWinner : GoodIn wsX4_matchWinner (wsV RX4 99 RX5 yX5_matchWinner wsX5_matchWinner) := goodIn_app (goodIn_of _ (by decide +kernel)) ggX4_matchWinner_X5_matchWinner
theorem dX4_matchWinner_0 : decode cX4_matchWinner 0 = .ok (.aload_n 0, 1) := by decide +kernel
theorem dX4_matchWinner_1 : decode cX4_matchWinner 1 = .ok (.getfield 34, 3) := by decide +kernel
theorem dX4_matchWinner_4 : decode cX4_matchWinner 4 = .ok (.aload_n 0, 1) := by decide +kernel
theorem dX4_matchWinner_5 : decode cX4_matchWinner 5 = .ok (.getfield 25, 3) := by decide +kernel
theorem dX4_matchWinner_8 : decode cX4_matchWinner 8 = .ok (.getfield 77, 3) := by decide +kernel
theorem dX4_matchWinner_11 : decode cX4_matchWinner 11 = .ok (.aload_n 0, 1) := by decide +kernel
theorem dX4_matchWinner_12 : decode cX4_matchWinner 12 = .ok (.getfield 25, 3) := by decide +kernel
theorem dX4_matchWinner_15 : decode cX4_matchWinner 15 = .ok (.getfield 67, 3) := by decide +kernel
theorem dX4_matchWinner_18 : decode cX4_matchWinner 18 = .ok (.invokevirtual 99, 3) := by decide +kernel
theorem dX4_matchWinner_21 : decode cX4_matchWinner 21 = .ok (.istore_n 1, 1) := by decide +kernel
theorem dX4_matchWinner_22 : decode cX4_matchWinner 22 = .ok (.iload_n 1, 1) := by decide +kernel
theorem dX4_matchWinner_23 : decode cX4_matchWinner 23 = .ok (.ifCond .ne 8, 3) := by decide +kernel
theorem dX4_matchWinner_26 : decode cX4_matchWinner 26 = .ok (.bipush (-9), 2) := by decide +kernel
theorem dX4_matchWinner_28 : decode cX4_matchWinner 28 = .ok (.goto 13, 3) := by decide +kernel
theorem dX4_matchWinner_31 : decode cX4_matchWinner 31 = .ok (.iload_n 1, 1) := by decide +kernel
theorem dX4_matchWinner_32 : decode cX4_matchWinner 32 = .ok (.iconst 1, 1) := by decide +kernel
theorem dX4_matchWinner_33 : decode cX4_matchWinner 33 = .ok (.if_icmp .ne 7, 3) := by decide +kernel
theorem dX4_matchWinner_36 : decode cX4_matchWinner 36 = .ok (.iconst 0, 1) := by decide +kernel
theorem dX4_matchWinner_37 : decode cX4_matchWinner 37 = .ok (.goto 4, 3) := by decide +kernel
theorem dX4_matchWinner_40 : decode cX4_matchWinner 40 = .ok (.iconst 1, 1) := by decide +kernel
theorem dX4_matchWinner_41 : decode cX4_matchWinner 41 = .ok (.ireturn, 1) := by decide +kernel
set_option maxRecDepth 20000 in
theorem ggX4_told_X4_pointsOfA : GoodIn wsX4_told wsX4_pointsOfA := goodIn_r _ [14, 1, 4, 15, 6, 16, 17, 18, 19, 20, 21, 34, 35, 36, 37, 38, 39, 40, 41, 42, 43, 44, 45, 46, 47, 48, 49, 50, 51, 52] (by decide +kernel) (by decide +kernel)
set_option maxRecDepth 20000 in
theorem gX4_told_X4_pointsOfA : GoodIn wsX4_told (wsV RX4 63 RX4 yX4_pointsOfA wsX4_pointsOfA) := goodIn_app (goodIn_of _ (by decide +kernel)) ggX4_told_X4_pointsOfA
set_option maxRecDepth 20000 in
theorem ggX4_told_X4_matchWinner : GoodIn wsX4_told wsX4_matchWinner := goodIn_r _ [25, 15, 5, 4, 2, 26, 27, 28, 19, 29, 30, 31, 32, 33, 34, 35, 36, 37, 38, 39, 40, 41, 42, 43, 44, 45, 46, 47, 48, 49, 50, 51, 52] (by decide +kernel) (by decide +kernel)
set_option maxRecDepth 20000 in
theorem gX4_told_X4_matchWinner : GoodIn wsX4_told (wsV RX4 102 RX4 yX4_matchWinner wsX4_matchWinner) := goodIn_app (goodIn_of _ (by decide +kernel)) ggX4_told_X4_matchWinner
theorem dX4_told_0 : decode cX4_told 0 = .ok (.iload_n 1, 1) := by decide +kernel
theorem dX4_told_1 : decode cX4_told 1 = .ok (.tableswitch 159 0 12 #[67, 72, 80, 88, 96, 104, 112, 117, 122, 130, 138, 146, 154], 67) := by decide +kernel
theorem dX4_told_68 : decode cX4_told 68 = .ok (.aload_n 0, 1) := by decide +kernel
theorem dX4_told_69 : decode cX4_told 69 = .ok (.invokevirtual 63, 3) := by decide +kernel
theorem dX4_told_72 : decode cX4_told 72 = .ok (.ireturn, 1) := by decide +kernel
theorem dX4_told_73 : decode cX4_told 73 = .ok (.aload_n 0, 1) := by decide +kernel
theorem dX4_told_74 : decode cX4_told 74 = .ok (.getfield 18, 3) := by decide +kernel
theorem dX4_told_77 : decode cX4_told 77 = .ok (.getfield 67, 3) := by decide +kernel
theorem dX4_told_80 : decode cX4_told 80 = .ok (.ireturn, 1) := by decide +kernel
theorem dX4_told_81 : decode cX4_told 81 = .ok (.aload_n 0, 1) := by decide +kernel
theorem dX4_told_82 : decode cX4_told 82 = .ok (.getfield 22, 3) := by decide +kernel
theorem dX4_told_85 : decode cX4_told 85 = .ok (.getfield 77, 3) := by decide +kernel
theorem dX4_told_88 : decode cX4_told 88 = .ok (.ireturn, 1) := by decide +kernel
theorem dX4_told_89 : decode cX4_told 89 = .ok (.aload_n 0, 1) := by decide +kernel
theorem dX4_told_90 : decode cX4_told 90 = .ok (.getfield 22, 3) := by decide +kernel
theorem dX4_told_93 : decode cX4_told 93 = .ok (.getfield 67, 3) := by decide +kernel
theorem dX4_told_96 : decode cX4_told 96 = .ok (.ireturn, 1) := by decide +kernel
theorem dX4_told_97 : decode cX4_told 97 = .ok (.aload_n 0, 1) := by decide +kernel
theorem dX4_told_98 : decode cX4_told 98 = .ok (.getfield 25, 3) := by decide +kernel
theorem dX4_told_101 : decode cX4_told 101 = .ok (.getfield 77, 3) := by decide +kernel
theorem dX4_told_104 : decode cX4_told 104 = .ok (.ireturn, 1) := by decide +kernel
theorem dX4_told_105 : decode cX4_told 105 = .ok (.aload_n 0, 1) := by decide +kernel
theorem dX4_told_106 : decode cX4_told 106 = .ok (.getfield 25, 3) := by decide +kernel
theorem dX4_told_109 : decode cX4_told 109 = .ok (.getfield 67, 3) := by decide +kernel
theorem dX4_told_112 : decode cX4_told 112 = .ok (.ireturn, 1) := by decide +kernel
theorem dX4_told_113 : decode cX4_told 113 = .ok (.aload_n 0, 1) := by decide +kernel
theorem dX4_told_114 : decode cX4_told 114 = .ok (.getfield 48, 3) := by decide +kernel
theorem dX4_told_117 : decode cX4_told 117 = .ok (.ireturn, 1) := by decide +kernel
theorem dX4_told_118 : decode cX4_told 118 = .ok (.aload_n 0, 1) := by decide +kernel
theorem dX4_told_119 : decode cX4_told 119 = .ok (.getfield 51, 3) := by decide +kernel
theorem dX4_told_122 : decode cX4_told 122 = .ok (.ireturn, 1) := by decide +kernel
theorem dX4_told_123 : decode cX4_told 123 = .ok (.aload_n 0, 1) := by decide +kernel
theorem dX4_told_124 : decode cX4_told 124 = .ok (.getfield 28, 3) := by decide +kernel
theorem dX4_told_127 : decode cX4_told 127 = .ok (.getfield 77, 3) := by decide +kernel
theorem dX4_told_130 : decode cX4_told 130 = .ok (.ireturn, 1) := by decide +kernel
theorem dX4_told_131 : decode cX4_told 131 = .ok (.aload_n 0, 1) := by decide +kernel
theorem dX4_told_132 : decode cX4_told 132 = .ok (.getfield 28, 3) := by decide +kernel
theorem dX4_told_135 : decode cX4_told 135 = .ok (.getfield 67, 3) := by decide +kernel
theorem dX4_told_138 : decode cX4_told 138 = .ok (.ireturn, 1) := by decide +kernel
theorem dX4_told_139 : decode cX4_told 139 = .ok (.aload_n 0, 1) := by decide +kernel
theorem dX4_told_140 : decode cX4_told 140 = .ok (.getfield 31, 3) := by decide +kernel
theorem dX4_told_143 : decode cX4_told 143 = .ok (.getfield 77, 3) := by decide +kernel
theorem dX4_told_146 : decode cX4_told 146 = .ok (.ireturn, 1) := by decide +kernel
theorem dX4_told_147 : decode cX4_told 147 = .ok (.aload_n 0, 1) := by decide +kernel
theorem dX4_told_148 : decode cX4_told 148 = .ok (.getfield 31, 3) := by decide +kernel
theorem dX4_told_151 : decode cX4_told 151 = .ok (.getfield 67, 3) := by decide +kernel
theorem dX4_told_154 : decode cX4_told 154 = .ok (.ireturn, 1) := by decide +kernel
theorem dX4_told_155 : decode cX4_told 155 = .ok (.aload_n 0, 1) := by decide +kernel
theorem dX4_told_156 : decode cX4_told 156 = .ok (.invokevirtual 102, 3) := by decide +kernel
theorem dX4_told_159 : decode cX4_told 159 = .ok (.ireturn, 1) := by decide +kernel
theorem dX4_told_160 : decode cX4_told 160 = .ok (.iconst (-1), 1) := by decide +kernel
theorem dX4_told_161 : decode cX4_told 161 = .ok (.ireturn, 1) := by decide +kernel
theorem dX5_init_0 : decode cX5_init 0 = .ok (.aload_n 0, 1) := by decide +kernel
theorem dX5_init_1 : decode cX5_init 1 = .ok (.invokespecial 3, 3) := by decide +kernel
theorem dX5_init_4 : decode cX5_init 4 = .ok (.aload_n 0, 1) := by decide +kernel
theorem dX5_init_5 : decode cX5_init 5 = .ok (.bipush 6, 2) := by decide +kernel
theorem dX5_init_7 : decode cX5_init 7 = .ok (.putfield 9, 3) := by decide +kernel
theorem dX5_init_10 : decode cX5_init 10 = .ok (.aload_n 0, 1) := by decide +kernel
theorem dX5_init_11 : decode cX5_init 11 = .ok (.iconst 4, 1) := by decide +kernel
theorem dX5_init_12 : decode cX5_init 12 = .ok (.putfield 15, 3) := by decide +kernel
theorem dX5_init_15 : decode cX5_init 15 = .ok (.aload_n 0, 1) := by decide +kernel
theorem dX5_init_16 : decode cX5_init 16 = .ok (.iconst 4, 1) := by decide +kernel
theorem dX5_init_17 : decode cX5_init 17 = .ok (.putfield 18, 3) := by decide +kernel
theorem dX5_init_20 : decode cX5_init 20 = .ok (.aload_n 0, 1) := by decide +kernel
theorem dX5_init_21 : decode cX5_init 21 = .ok (.bipush 6, 2) := by decide +kernel
theorem dX5_init_23 : decode cX5_init 23 = .ok (.putfield 21, 3) := by decide +kernel
theorem dX5_init_26 : decode cX5_init 26 = .ok (.aload_n 0, 1) := by decide +kernel
theorem dX5_init_27 : decode cX5_init 27 = .ok (.iconst 2, 1) := by decide +kernel
theorem dX5_init_28 : decode cX5_init 28 = .ok (.putfield 24, 3) := by decide +kernel
theorem dX5_init_31 : decode cX5_init 31 = .ok (.aload_n 0, 1) := by decide +kernel
theorem dX5_init_32 : decode cX5_init 32 = .ok (.iconst 0, 1) := by decide +kernel
theorem dX5_init_33 : decode cX5_init 33 = .ok (.putfield 27, 3) := by decide +kernel
theorem dX5_init_36 : decode cX5_init 36 = .ok (.aload_n 0, 1) := by decide +kernel
theorem dX5_init_37 : decode cX5_init 37 = .ok (.iconst 0, 1) := by decide +kernel
theorem dX5_init_38 : decode cX5_init 38 = .ok (.putfield 30, 3) := by decide +kernel
theorem dX5_init_41 : decode cX5_init 41 = .ok (.return_, 1) := by decide +kernel
set_option maxRecDepth 20000 in
theorem ggX5_allows_X6_within : GoodIn wsX5_allows wsX6_within := goodIn_r _ [8] (by decide +kernel) (by decide +kernel)
set_option maxRecDepth 20000 in
theorem gX5_allows_X6_within_n33 : GoodIn wsX5_allows (wsX6_within) := ggX5_allows_X6_within
theorem dX5_allows_0 : decode cX5_allows 0 = .ok (.iload_n 1, 1) := by decide +kernel
theorem dX5_allows_1 : decode cX5_allows 1 = .ok (.tableswitch 96 0 6 #[43, 43, 51, 58, 66, 73, 89], 43) := by decide +kernel
theorem dX5_allows_44 : decode cX5_allows 44 = .ok (.iload_n 2, 1) := by decide +kernel
theorem dX5_allows_45 : decode cX5_allows 45 = .ok (.iconst 1, 1) := by decide +kernel
theorem dX5_allows_46 : decode cX5_allows 46 = .ok (.bipush 9, 2) := by decide +kernel
theorem dX5_allows_48 : decode cX5_allows 48 = .ok (.invokestatic 33, 3) := by decide +kernel
theorem dX5_allows_51 : decode cX5_allows 51 = .ok (.ireturn, 1) := by decide +kernel
theorem dX5_allows_52 : decode cX5_allows 52 = .ok (.iload_n 2, 1) := by decide +kernel
theorem dX5_allows_53 : decode cX5_allows 53 = .ok (.iconst 1, 1) := by decide +kernel
theorem dX5_allows_54 : decode cX5_allows 54 = .ok (.iconst 5, 1) := by decide +kernel
theorem dX5_allows_55 : decode cX5_allows 55 = .ok (.invokestatic 33, 3) := by decide +kernel
theorem dX5_allows_58 : decode cX5_allows 58 = .ok (.ireturn, 1) := by decide +kernel
theorem dX5_allows_59 : decode cX5_allows 59 = .ok (.iload_n 2, 1) := by decide +kernel
theorem dX5_allows_60 : decode cX5_allows 60 = .ok (.iconst 1, 1) := by decide +kernel
theorem dX5_allows_61 : decode cX5_allows 61 = .ok (.bipush 6, 2) := by decide +kernel
theorem dX5_allows_63 : decode cX5_allows 63 = .ok (.invokestatic 33, 3) := by decide +kernel
theorem dX5_allows_66 : decode cX5_allows 66 = .ok (.ireturn, 1) := by decide +kernel
theorem dX5_allows_67 : decode cX5_allows 67 = .ok (.iload_n 2, 1) := by decide +kernel
theorem dX5_allows_68 : decode cX5_allows 68 = .ok (.iconst 1, 1) := by decide +kernel
theorem dX5_allows_69 : decode cX5_allows 69 = .ok (.iconst 3, 1) := by decide +kernel
theorem dX5_allows_70 : decode cX5_allows 70 = .ok (.invokestatic 33, 3) := by decide +kernel
theorem dX5_allows_73 : decode cX5_allows 73 = .ok (.ireturn, 1) := by decide +kernel
theorem dX5_allows_74 : decode cX5_allows 74 = .ok (.iload_n 2, 1) := by decide +kernel
theorem dX5_allows_75 : decode cX5_allows 75 = .ok (.iconst 0, 1) := by decide +kernel
theorem dX5_allows_76 : decode cX5_allows 76 = .ok (.iconst 0, 1) := by decide +kernel
theorem dX5_allows_77 : decode cX5_allows 77 = .ok (.aload_n 0, 1) := by decide +kernel
theorem dX5_allows_78 : decode cX5_allows 78 = .ok (.getfield 18, 3) := by decide +kernel
theorem dX5_allows_81 : decode cX5_allows 81 = .ok (.iconst 2, 1) := by decide +kernel
theorem dX5_allows_82 : decode cX5_allows 82 = .ok (.isub, 1) := by decide +kernel
theorem dX5_allows_83 : decode cX5_allows 83 = .ok (.invokestatic 37, 3) := by decide +kernel
theorem dX5_allows_86 : decode cX5_allows 86 = .ok (.invokestatic 33, 3) := by decide +kernel
theorem dX5_allows_89 : decode cX5_allows 89 = .ok (.ireturn, 1) := by decide +kernel
theorem dX5_allows_90 : decode cX5_allows 90 = .ok (.iload_n 2, 1) := by decide +kernel
theorem dX5_allows_91 : decode cX5_allows 91 = .ok (.iconst 0, 1) := by decide +kernel
theorem dX5_allows_92 : decode cX5_allows 92 = .ok (.iconst 2, 1) := by decide +kernel
theorem dX5_allows_93 : decode cX5_allows 93 = .ok (.invokestatic 33, 3) := by decide +kernel
theorem dX5_allows_96 : decode cX5_allows 96 = .ok (.ireturn, 1) := by decide +kernel
theorem dX5_allows_97 : decode cX5_allows 97 = .ok (.iconst 0, 1) := by decide +kernel
theorem dX5_allows_98 : decode cX5_allows 98 = .ok (.ireturn, 1) := by decide +kernel
theorem dX5_told_0 : decode cX5_told 0 = .ok (.iload_n 1, 1) := by decide +kernel
theorem dX5_told_1 : decode cX5_told 1 = .ok (.tableswitch 78 0 6 #[43, 48, 53, 58, 63, 68, 73], 43) := by decide +kernel
theorem dX5_told_44 : decode cX5_told 44 = .ok (.aload_n 0, 1) := by decide +kernel
theorem dX5_told_45 : decode cX5_told 45 = .ok (.getfield 9, 3) := by decide +kernel
theorem dX5_told_48 : decode cX5_told 48 = .ok (.ireturn, 1) := by decide +kernel
theorem dX5_told_49 : decode cX5_told 49 = .ok (.aload_n 0, 1) := by decide +kernel
theorem dX5_told_50 : decode cX5_told 50 = .ok (.getfield 15, 3) := by decide +kernel
theorem dX5_told_53 : decode cX5_told 53 = .ok (.ireturn, 1) := by decide +kernel
theorem dX5_told_54 : decode cX5_told 54 = .ok (.aload_n 0, 1) := by decide +kernel
theorem dX5_told_55 : decode cX5_told 55 = .ok (.getfield 18, 3) := by decide +kernel
theorem dX5_told_58 : decode cX5_told 58 = .ok (.ireturn, 1) := by decide +kernel
theorem dX5_told_59 : decode cX5_told 59 = .ok (.aload_n 0, 1) := by decide +kernel
theorem dX5_told_60 : decode cX5_told 60 = .ok (.getfield 21, 3) := by decide +kernel
theorem dX5_told_63 : decode cX5_told 63 = .ok (.ireturn, 1) := by decide +kernel
theorem dX5_told_64 : decode cX5_told 64 = .ok (.aload_n 0, 1) := by decide +kernel
theorem dX5_told_65 : decode cX5_told 65 = .ok (.getfield 24, 3) := by decide +kernel
theorem dX5_told_68 : decode cX5_told 68 = .ok (.ireturn, 1) := by decide +kernel
theorem dX5_told_69 : decode cX5_told 69 = .ok (.aload_n 0, 1) := by decide +kernel
theorem dX5_told_70 : decode cX5_told 70 = .ok (.getfield 27, 3) := by decide +kernel
theorem dX5_told_73 : decode cX5_told 73 = .ok (.ireturn, 1) := by decide +kernel
theorem dX5_told_74 : decode cX5_told 74 = .ok (.aload_n 0, 1) := by decide +kernel
theorem dX5_told_75 : decode cX5_told 75 = .ok (.getfield 30, 3) := by decide +kernel
theorem dX5_told_78 : decode cX5_told 78 = .ok (.ireturn, 1) := by decide +kernel
theorem dX5_told_79 : decode cX5_told 79 = .ok (.iconst (-1), 1) := by decide +kernel
theorem dX5_told_80 : decode cX5_told 80 = .ok (.ireturn, 1) := by decide +kernel
theorem dX5_tell_0 : decode cX5_tell 0 = .ok (.iload_n 1, 1) := by decide +kernel
theorem dX5_tell_1 : decode cX5_tell 1 = .ok (.tableswitch 104 0 6 #[43, 51, 59, 72, 80, 88, 96], 43) := by decide +kernel
theorem dX5_tell_44 : decode cX5_tell 44 = .ok (.aload_n 0, 1) := by decide +kernel
theorem dX5_tell_45 : decode cX5_tell 45 = .ok (.iload_n 2, 1) := by decide +kernel
theorem dX5_tell_46 : decode cX5_tell 46 = .ok (.putfield 9, 3) := by decide +kernel
theorem dX5_tell_49 : decode cX5_tell 49 = .ok (.goto 56, 3) := by decide +kernel
theorem dX5_tell_52 : decode cX5_tell 52 = .ok (.aload_n 0, 1) := by decide +kernel
theorem dX5_tell_53 : decode cX5_tell 53 = .ok (.iload_n 2, 1) := by decide +kernel
theorem dX5_tell_54 : decode cX5_tell 54 = .ok (.putfield 15, 3) := by decide +kernel
theorem dX5_tell_57 : decode cX5_tell 57 = .ok (.goto 48, 3) := by decide +kernel
theorem dX5_tell_60 : decode cX5_tell 60 = .ok (.aload_n 0, 1) := by decide +kernel
theorem dX5_tell_61 : decode cX5_tell 61 = .ok (.iload_n 2, 1) := by decide +kernel
theorem dX5_tell_62 : decode cX5_tell 62 = .ok (.putfield 18, 3) := by decide +kernel
theorem dX5_tell_65 : decode cX5_tell 65 = .ok (.aload_n 0, 1) := by decide +kernel
theorem dX5_tell_66 : decode cX5_tell 66 = .ok (.iconst 0, 1) := by decide +kernel
theorem dX5_tell_67 : decode cX5_tell 67 = .ok (.putfield 27, 3) := by decide +kernel
theorem dX5_tell_70 : decode cX5_tell 70 = .ok (.goto 35, 3) := by decide +kernel
theorem dX5_tell_73 : decode cX5_tell 73 = .ok (.aload_n 0, 1) := by decide +kernel
theorem dX5_tell_74 : decode cX5_tell 74 = .ok (.iload_n 2, 1) := by decide +kernel
theorem dX5_tell_75 : decode cX5_tell 75 = .ok (.putfield 21, 3) := by decide +kernel
theorem dX5_tell_78 : decode cX5_tell 78 = .ok (.goto 27, 3) := by decide +kernel
theorem dX5_tell_81 : decode cX5_tell 81 = .ok (.aload_n 0, 1) := by decide +kernel
theorem dX5_tell_82 : decode cX5_tell 82 = .ok (.iload_n 2, 1) := by decide +kernel
theorem dX5_tell_83 : decode cX5_tell 83 = .ok (.putfield 24, 3) := by decide +kernel
theorem dX5_tell_86 : decode cX5_tell 86 = .ok (.goto 19, 3) := by decide +kernel
theorem dX5_tell_89 : decode cX5_tell 89 = .ok (.aload_n 0, 1) := by decide +kernel
theorem dX5_tell_90 : decode cX5_tell 90 = .ok (.iload_n 2, 1) := by decide +kernel
theorem dX5_tell_91 : decode cX5_tell 91 = .ok (.putfield 27, 3) := by decide +kernel
theorem dX5_tell_94 : decode cX5_tell 94 = .ok (.goto 11, 3) := by decide +kernel
theorem dX5_tell_97 : decode cX5_tell 97 = .ok (.aload_n 0, 1) := by decide +kernel
theorem dX5_tell_98 : decode cX5_tell 98 = .ok (.iload_n 2, 1) := by decide +kernel
theorem dX5_tell_99 : decode cX5_tell 99 = .ok (.putfield 30, 3) := by decide +kernel
theorem dX5_tell_102 : decode cX5_tell 102 = .ok (.goto 3, 3) := by decide +kernel
theorem dX5_tell_105 : decode cX5_tell 105 = .ok (.return_, 1) := by decide +kernel
theorem dX5_tenthsOfA_0 : decode cX5_tenthsOfA 0 = .ok (.iload_n 1, 1) := by decide +kernel
theorem dX5_tenthsOfA_1 : decode cX5_tenthsOfA 1 = .ok (.ifCond .ne 10, 3) := by decide +kernel
theorem dX5_tenthsOfA_4 : decode cX5_tenthsOfA 4 = .ok (.aload_n 0, 1) := by decide +kernel
theorem dX5_tenthsOfA_5 : decode cX5_tenthsOfA 5 = .ok (.getfield 9, 3) := by decide +kernel
theorem dX5_tenthsOfA_8 : decode cX5_tenthsOfA 8 = .ok (.goto 7, 3) := by decide +kernel
theorem dX5_tenthsOfA_11 : decode cX5_tenthsOfA 11 = .ok (.aload_n 0, 1) := by decide +kernel
theorem dX5_tenthsOfA_12 : decode cX5_tenthsOfA 12 = .ok (.getfield 15, 3) := by decide +kernel
theorem dX5_tenthsOfA_15 : decode cX5_tenthsOfA 15 = .ok (.ireturn, 1) := by decide +kernel
theorem dX5_headStartOfA_0 : decode cX5_headStartOfA 0 = .ok (.iload_n 1, 1) := by decide +kernel
theorem dX5_headStartOfA_1 : decode cX5_headStartOfA 1 = .ok (.ifCond .ne 10, 3) := by decide +kernel
theorem dX5_headStartOfA_4 : decode cX5_headStartOfA 4 = .ok (.aload_n 0, 1) := by decide +kernel
theorem dX5_headStartOfA_5 : decode cX5_headStartOfA 5 = .ok (.getfield 27, 3) := by decide +kernel
theorem dX5_headStartOfA_8 : decode cX5_headStartOfA 8 = .ok (.goto 4, 3) := by decide +kernel
theorem dX5_headStartOfA_11 : decode cX5_headStartOfA 11 = .ok (.iconst 0, 1) := by decide +kernel
theorem dX5_headStartOfA_12 : decode cX5_headStartOfA 12 = .ok (.ireturn, 1) := by decide +kernel
set_option maxRecDepth 20000 in
theorem ggX5_gameWinner_X5_leader : GoodIn wsX5_gameWinner wsX5_leader := goodIn_r _ [12] (by decide +kernel) (by decide +kernel)
set_option maxRecDepth 20000 in
theorem gX5_gameWinner_X5_leader : GoodIn wsX5_gameWinner (va_wsS RX5 46 yX5_leader wsX5_leader) := goodIn_app (goodIn_of _ (by decide +kernel)) ggX5_gameWinner_X5_leader
theorem dX5_gameWinner_0 : decode cX5_gameWinner 0 = .ok (.iload_n 2, 1) := by decide +kernel
theorem dX5_gameWinner_1 : decode cX5_gameWinner 1 = .ok (.iload_n 3, 1) := by decide +kernel
theorem dX5_gameWinner_2 : decode cX5_gameWinner 2 = .ok (.invokestatic 37, 3) := by decide +kernel
theorem dX5_gameWinner_5 : decode cX5_gameWinner 5 = .ok (.istore 4, 2) := by decide +kernel
theorem dX5_gameWinner_7 : decode cX5_gameWinner 7 = .ok (.iload_n 2, 1) := by decide +kernel
theorem dX5_gameWinner_8 : decode cX5_gameWinner 8 = .ok (.iload_n 3, 1) := by decide +kernel
theorem dX5_gameWinner_9 : decode cX5_gameWinner 9 = .ok (.invokestatic 43, 3) := by decide +kernel
theorem dX5_gameWinner_12 : decode cX5_gameWinner 12 = .ok (.istore 5, 2) := by decide +kernel
theorem dX5_gameWinner_14 : decode cX5_gameWinner 14 = .ok (.iload 4, 2) := by decide +kernel
theorem dX5_gameWinner_16 : decode cX5_gameWinner 16 = .ok (.aload_n 0, 1) := by decide +kernel
theorem dX5_gameWinner_17 : decode cX5_gameWinner 17 = .ok (.getfield 18, 3) := by decide +kernel
theorem dX5_gameWinner_20 : decode cX5_gameWinner 20 = .ok (.if_icmp .lt 16, 3) := by decide +kernel
theorem dX5_gameWinner_23 : decode cX5_gameWinner 23 = .ok (.iload 4, 2) := by decide +kernel
theorem dX5_gameWinner_25 : decode cX5_gameWinner 25 = .ok (.iload 5, 2) := by decide +kernel
theorem dX5_gameWinner_27 : decode cX5_gameWinner 27 = .ok (.isub, 1) := by decide +kernel
theorem dX5_gameWinner_28 : decode cX5_gameWinner 28 = .ok (.iconst 2, 1) := by decide +kernel
theorem dX5_gameWinner_29 : decode cX5_gameWinner 29 = .ok (.if_icmp .lt 7, 3) := by decide +kernel
theorem dX5_gameWinner_32 : decode cX5_gameWinner 32 = .ok (.iconst 1, 1) := by decide +kernel
theorem dX5_gameWinner_33 : decode cX5_gameWinner 33 = .ok (.goto 4, 3) := by decide +kernel
theorem dX5_gameWinner_36 : decode cX5_gameWinner 36 = .ok (.iconst 0, 1) := by decide +kernel
theorem dX5_gameWinner_37 : decode cX5_gameWinner 37 = .ok (.istore 6, 2) := by decide +kernel
theorem dX5_gameWinner_39 : decode cX5_gameWinner 39 = .ok (.iload_n 1, 1) := by decide +kernel
theorem dX5_gameWinner_40 : decode cX5_gameWinner 40 = .ok (.iconst 1, 1) := by decide +kernel
theorem dX5_gameWinner_41 : decode cX5_gameWinner 41 = .ok (.if_icmp .lt 31, 3) := by decide +kernel
theorem dX5_gameWinner_44 : decode cX5_gameWinner 44 = .ok (.iload 6, 2) := by decide +kernel
theorem dX5_gameWinner_46 : decode cX5_gameWinner 46 = .ok (.ifCond .ne 19, 3) := by decide +kernel
theorem dX5_gameWinner_49 : decode cX5_gameWinner 49 = .ok (.iload 4, 2) := by decide +kernel
theorem dX5_gameWinner_51 : decode cX5_gameWinner 51 = .ok (.aload_n 0, 1) := by decide +kernel
theorem dX5_gameWinner_52 : decode cX5_gameWinner 52 = .ok (.getfield 18, 3) := by decide +kernel
theorem dX5_gameWinner_55 : decode cX5_gameWinner 55 = .ok (.if_icmp .lt 14, 3) := by decide +kernel
theorem dX5_gameWinner_58 : decode cX5_gameWinner 58 = .ok (.iload 4, 2) := by decide +kernel
theorem dX5_gameWinner_60 : decode cX5_gameWinner 60 = .ok (.iload 5, 2) := by decide +kernel
theorem dX5_gameWinner_62 : decode cX5_gameWinner 62 = .ok (.if_icmp .le 7, 3) := by decide +kernel
theorem dX5_gameWinner_65 : decode cX5_gameWinner 65 = .ok (.iconst 1, 1) := by decide +kernel
theorem dX5_gameWinner_66 : decode cX5_gameWinner 66 = .ok (.goto 4, 3) := by decide +kernel
theorem dX5_gameWinner_69 : decode cX5_gameWinner 69 = .ok (.iconst 0, 1) := by decide +kernel
theorem dX5_gameWinner_70 : decode cX5_gameWinner 70 = .ok (.istore 6, 2) := by decide +kernel
theorem dX5_gameWinner_72 : decode cX5_gameWinner 72 = .ok (.iload_n 1, 1) := by decide +kernel
theorem dX5_gameWinner_73 : decode cX5_gameWinner 73 = .ok (.iconst 2, 1) := by decide +kernel
theorem dX5_gameWinner_74 : decode cX5_gameWinner 74 = .ok (.if_icmp .lt 39, 3) := by decide +kernel
theorem dX5_gameWinner_77 : decode cX5_gameWinner 77 = .ok (.aload_n 0, 1) := by decide +kernel
theorem dX5_gameWinner_78 : decode cX5_gameWinner 78 = .ok (.getfield 18, 3) := by decide +kernel
theorem dX5_gameWinner_81 : decode cX5_gameWinner 81 = .ok (.iconst 3, 1) := by decide +kernel
theorem dX5_gameWinner_82 : decode cX5_gameWinner 82 = .ok (.if_icmp .lt 31, 3) := by decide +kernel
theorem dX5_gameWinner_85 : decode cX5_gameWinner 85 = .ok (.iload 6, 2) := by decide +kernel
theorem dX5_gameWinner_87 : decode cX5_gameWinner 87 = .ok (.ifCond .ne 19, 3) := by decide +kernel
theorem dX5_gameWinner_90 : decode cX5_gameWinner 90 = .ok (.iload 4, 2) := by decide +kernel
theorem dX5_gameWinner_92 : decode cX5_gameWinner 92 = .ok (.aload_n 0, 1) := by decide +kernel
theorem dX5_gameWinner_93 : decode cX5_gameWinner 93 = .ok (.getfield 18, 3) := by decide +kernel
theorem dX5_gameWinner_96 : decode cX5_gameWinner 96 = .ok (.iconst 1, 1) := by decide +kernel
theorem dX5_gameWinner_97 : decode cX5_gameWinner 97 = .ok (.isub, 1) := by decide +kernel
theorem dX5_gameWinner_98 : decode cX5_gameWinner 98 = .ok (.if_icmp .lt 12, 3) := by decide +kernel
theorem dX5_gameWinner_101 : decode cX5_gameWinner 101 = .ok (.iload 5, 2) := by decide +kernel
theorem dX5_gameWinner_103 : decode cX5_gameWinner 103 = .ok (.ifCond .ne 7, 3) := by decide +kernel
theorem dX5_gameWinner_106 : decode cX5_gameWinner 106 = .ok (.iconst 1, 1) := by decide +kernel
theorem dX5_gameWinner_107 : decode cX5_gameWinner 107 = .ok (.goto 4, 3) := by decide +kernel
theorem dX5_gameWinner_110 : decode cX5_gameWinner 110 = .ok (.iconst 0, 1) := by decide +kernel
theorem dX5_gameWinner_111 : decode cX5_gameWinner 111 = .ok (.istore 6, 2) := by decide +kernel
theorem dX5_gameWinner_113 : decode cX5_gameWinner 113 = .ok (.iload 6, 2) := by decide +kernel
theorem dX5_gameWinner_115 : decode cX5_gameWinner 115 = .ok (.ifCond .eq 11, 3) := by decide +kernel
theorem dX5_gameWinner_118 : decode cX5_gameWinner 118 = .ok (.iload_n 2, 1) := by decide +kernel
theorem dX5_gameWinner_119 : decode cX5_gameWinner 119 = .ok (.iload_n 3, 1) := by decide +kernel
theorem dX5_gameWinner_120 : decode cX5_gameWinner 120 = .ok (.invokestatic 46, 3) := by decide +kernel
theorem dX5_gameWinner_123 : decode cX5_gameWinner 123 = .ok (.goto 4, 3) := by decide +kernel
theorem dX5_gameWinner_126 : decode cX5_gameWinner 126 = .ok (.iconst 0, 1) := by decide +kernel
theorem dX5_gameWinner_127 : decode cX5_gameWinner 127 = .ok (.ireturn, 1) := by decide +kernel
set_option maxRecDepth 20000 in
theorem ggX5_setWinner_X5_leader : GoodIn wsX5_setWinner wsX5_leader := goodIn_r _ [12] (by decide +kernel) (by decide +kernel)
set_option maxRecDepth 20000 in
theorem gX5_setWinner_X5_leader : GoodIn wsX5_setWinner (va_wsS RX5 46 yX5_leader wsX5_leader) := goodIn_app (goodIn_of _ (by decide +kernel)) ggX5_setWinner_X5_leader
theorem dX5_setWinner_0 : decode cX5_setWinner 0 = .ok (.iload_n 1, 1) := by decide +kernel
theorem dX5_setWinner_1 : decode cX5_setWinner 1 = .ok (.iload_n 2, 1) := by decide +kernel
theorem dX5_setWinner_2 : decode cX5_setWinner 2 = .ok (.invokestatic 37, 3) := by decide +kernel
theorem dX5_setWinner_5 : decode cX5_setWinner 5 = .ok (.aload_n 0, 1) := by decide +kernel
theorem dX5_setWinner_6 : decode cX5_setWinner 6 = .ok (.getfield 21, 3) := by decide +kernel
theorem dX5_setWinner_9 : decode cX5_setWinner 9 = .ok (.if_icmp .lt 17, 3) := by decide +kernel
theorem dX5_setWinner_12 : decode cX5_setWinner 12 = .ok (.iload_n 1, 1) := by decide +kernel
theorem dX5_setWinner_13 : decode cX5_setWinner 13 = .ok (.iload_n 2, 1) := by decide +kernel
theorem dX5_setWinner_14 : decode cX5_setWinner 14 = .ok (.isub, 1) := by decide +kernel
theorem dX5_setWinner_15 : decode cX5_setWinner 15 = .ok (.invokestatic 49, 3) := by decide +kernel
theorem dX5_setWinner_18 : decode cX5_setWinner 18 = .ok (.iconst 2, 1) := by decide +kernel
theorem dX5_setWinner_19 : decode cX5_setWinner 19 = .ok (.if_icmp .lt 7, 3) := by decide +kernel
theorem dX5_setWinner_22 : decode cX5_setWinner 22 = .ok (.iconst 1, 1) := by decide +kernel
theorem dX5_setWinner_23 : decode cX5_setWinner 23 = .ok (.goto 4, 3) := by decide +kernel
theorem dX5_setWinner_26 : decode cX5_setWinner 26 = .ok (.iconst 0, 1) := by decide +kernel
theorem dX5_setWinner_27 : decode cX5_setWinner 27 = .ok (.istore_n 3, 1) := by decide +kernel
theorem dX5_setWinner_28 : decode cX5_setWinner 28 = .ok (.iload_n 1, 1) := by decide +kernel
theorem dX5_setWinner_29 : decode cX5_setWinner 29 = .ok (.iload_n 2, 1) := by decide +kernel
theorem dX5_setWinner_30 : decode cX5_setWinner 30 = .ok (.iadd, 1) := by decide +kernel
theorem dX5_setWinner_31 : decode cX5_setWinner 31 = .ok (.iconst 2, 1) := by decide +kernel
theorem dX5_setWinner_32 : decode cX5_setWinner 32 = .ok (.aload_n 0, 1) := by decide +kernel
theorem dX5_setWinner_33 : decode cX5_setWinner 33 = .ok (.getfield 21, 3) := by decide +kernel
theorem dX5_setWinner_36 : decode cX5_setWinner 36 = .ok (.imul, 1) := by decide +kernel
theorem dX5_setWinner_37 : decode cX5_setWinner 37 = .ok (.if_icmp .le 7, 3) := by decide +kernel
theorem dX5_setWinner_40 : decode cX5_setWinner 40 = .ok (.iconst 1, 1) := by decide +kernel
theorem dX5_setWinner_41 : decode cX5_setWinner 41 = .ok (.goto 4, 3) := by decide +kernel
theorem dX5_setWinner_44 : decode cX5_setWinner 44 = .ok (.iconst 0, 1) := by decide +kernel
theorem dX5_setWinner_45 : decode cX5_setWinner 45 = .ok (.istore 4, 2) := by decide +kernel
theorem dX5_setWinner_47 : decode cX5_setWinner 47 = .ok (.iload_n 3, 1) := by decide +kernel
theorem dX5_setWinner_48 : decode cX5_setWinner 48 = .ok (.ifCond .ne 8, 3) := by decide +kernel
theorem dX5_setWinner_51 : decode cX5_setWinner 51 = .ok (.iload 4, 2) := by decide +kernel
theorem dX5_setWinner_53 : decode cX5_setWinner 53 = .ok (.ifCond .eq 11, 3) := by decide +kernel
theorem dX5_setWinner_56 : decode cX5_setWinner 56 = .ok (.iload_n 1, 1) := by decide +kernel
theorem dX5_setWinner_57 : decode cX5_setWinner 57 = .ok (.iload_n 2, 1) := by decide +kernel
theorem dX5_setWinner_58 : decode cX5_setWinner 58 = .ok (.invokestatic 46, 3) := by decide +kernel
theorem dX5_setWinner_61 : decode cX5_setWinner 61 = .ok (.goto 4, 3) := by decide +kernel
theorem dX5_setWinner_64 : decode cX5_setWinner 64 = .ok (.iconst 0, 1) := by decide +kernel
theorem dX5_setWinner_65 : decode cX5_setWinner 65 = .ok (.ireturn, 1) := by decide +kernel
set_option maxRecDepth 20000 in
theorem ggX5_matchWinner_X5_leader : GoodIn wsX5_matchWinner wsX5_leader := goodIn_r _ [5] (by decide +kernel) (by decide +kernel)
set_option maxRecDepth 20000 in
theorem gX5_matchWinner_X5_leader : GoodIn wsX5_matchWinner (va_wsS RX5 46 yX5_leader wsX5_leader) := goodIn_app (goodIn_of _ (by decide +kernel)) ggX5_matchWinner_X5_leader
theorem dX5_matchWinner_0 : decode cX5_matchWinner 0 = .ok (.iload_n 1, 1) := by decide +kernel
theorem dX5_matchWinner_1 : decode cX5_matchWinner 1 = .ok (.aload_n 0, 1) := by decide +kernel
theorem dX5_matchWinner_2 : decode cX5_matchWinner 2 = .ok (.getfield 24, 3) := by decide +kernel
theorem dX5_matchWinner_5 : decode cX5_matchWinner 5 = .ok (.if_icmp .ge 11, 3) := by decide +kernel
theorem dX5_matchWinner_8 : decode cX5_matchWinner 8 = .ok (.iload_n 2, 1) := by decide +kernel
theorem dX5_matchWinner_9 : decode cX5_matchWinner 9 = .ok (.aload_n 0, 1) := by decide +kernel
theorem dX5_matchWinner_10 : decode cX5_matchWinner 10 = .ok (.getfield 24, 3) := by decide +kernel
theorem dX5_matchWinner_13 : decode cX5_matchWinner 13 = .ok (.if_icmp .lt 11, 3) := by decide +kernel
theorem dX5_matchWinner_16 : decode cX5_matchWinner 16 = .ok (.iload_n 1, 1) := by decide +kernel
theorem dX5_matchWinner_17 : decode cX5_matchWinner 17 = .ok (.iload_n 2, 1) := by decide +kernel
theorem dX5_matchWinner_18 : decode cX5_matchWinner 18 = .ok (.invokestatic 46, 3) := by decide +kernel
theorem dX5_matchWinner_21 : decode cX5_matchWinner 21 = .ok (.goto 4, 3) := by decide +kernel
theorem dX5_matchWinner_24 : decode cX5_matchWinner 24 = .ok (.iconst 0, 1) := by decide +kernel
theorem dX5_matchWinner_25 : decode cX5_matchWinner 25 = .ok (.ireturn, 1) := by decide +kernel
theorem dX5_leader_0 : decode cX5_leader 0 = .ok (.iload_n 0, 1) := by decide +kernel
theorem dX5_leader_1 : decode cX5_leader 1 = .ok (.iload_n 1, 1) := by decide +kernel
theorem dX5_leader_2 : decode cX5_leader 2 = .ok (.if_icmp .le 7, 3) := by decide +kernel
theorem dX5_leader_5 : decode cX5_leader 5 = .ok (.iconst 1, 1) := by decide +kernel
theorem dX5_leader_6 : decode cX5_leader 6 = .ok (.goto 13, 3) := by decide +kernel
theorem dX5_leader_9 : decode cX5_leader 9 = .ok (.iload_n 0, 1) := by decide +kernel
theorem dX5_leader_10 : decode cX5_leader 10 = .ok (.iload_n 1, 1) := by decide +kernel
theorem dX5_leader_11 : decode cX5_leader 11 = .ok (.if_icmp .ge 7, 3) := by decide +kernel
theorem dX5_leader_14 : decode cX5_leader 14 = .ok (.iconst 2, 1) := by decide +kernel
theorem dX5_leader_15 : decode cX5_leader 15 = .ok (.goto 4, 3) := by decide +kernel
theorem dX5_leader_18 : decode cX5_leader 18 = .ok (.iconst 0, 1) := by decide +kernel
theorem dX5_leader_19 : decode cX5_leader 19 = .ok (.ireturn, 1) := by decide +kernel
set_option maxRecDepth 20000 in
theorem ggX6_init_X5_init : GoodIn wsX6_init wsX5_init := goodIn_r _ [22, 23, 2, 3, 24, 25, 26, 27, 28, 29, 30, 95, 96, 97, 98, 99, 100, 101] (by decide +kernel) (by decide +kernel)
set_option maxRecDepth 20000 in
theorem gX6_init_X5_init_n9 : GoodIn wsX6_init (wsX5_init) := ggX6_init_X5_init
set_option maxRecDepth 20000 in
theorem ggX6_init_X0_init : GoodIn wsX6_init wsX0_init := goodIn_r _ [33, 34, 2, 3, 35, 36, 37, 38, 39, 40, 41, 42, 43, 44, 45, 46, 47, 48, 49, 50, 51, 52, 53, 54, 125, 126, 107, 108, 109, 110, 111, 95, 96, 97, 98, 99, 100, 101] (by decide +kernel) (by decide +kernel)
set_option maxRecDepth 20000 in
theorem gX6_init_X0_init : GoodIn wsX6_init (wsX0_init) := ggX6_init_X0_init
set_option maxRecDepth 20000 in
theorem ggX6_init_X2_init : GoodIn wsX6_init wsX2_init := goodIn_r _ [57, 58, 2, 3, 59, 36, 37, 60, 61, 62, 63, 45, 46, 47, 48, 49, 50, 51, 52, 53, 54, 125, 126, 112, 113, 114] (by decide +kernel) (by decide +kernel)
set_option maxRecDepth 20000 in
theorem gX6_init_X2_init : GoodIn wsX6_init (wsX2_init) := ggX6_init_X2_init
set_option maxRecDepth 20000 in
theorem ggX6_init_X4_init : GoodIn wsX6_init wsX4_init := goodIn_r _ [66, 67, 2, 3, 68, 69, 70, 71, 72, 73, 74, 75, 76, 77, 78, 79, 80, 81, 82, 83, 84, 18, 85, 86, 87, 88, 89, 90, 91, 92, 93, 94, 115, 116, 117, 118, 119, 120, 121, 122, 123, 124, 127, 128] (by decide +kernel) (by decide +kernel)
set_option maxRecDepth 20000 in
theorem gX6_init_X4_init : GoodIn wsX6_init (wsX4_init) := ggX6_init_X4_init
theorem dX6_init_0 : decode cX6_init 0 = .ok (.aload_n 0, 1) := by decide +kernel
theorem dX6_init_1 : decode cX6_init 1 = .ok (.invokespecial 1, 3) := by decide +kernel
theorem dX6_init_4 : decode cX6_init 4 = .ok (.aload_n 0, 1) := by decide +kernel
theorem dX6_init_5 : decode cX6_init 5 = .ok (.new 7, 3) := by decide +kernel
theorem dX6_init_8 : decode cX6_init 8 = .ok (.dup, 1) := by decide +kernel
theorem dX6_init_9 : decode cX6_init 9 = .ok (.invokespecial 9, 3) := by decide +kernel
theorem dX6_init_12 : decode cX6_init 12 = .ok (.putfield 10, 3) := by decide +kernel
theorem dX6_init_15 : decode cX6_init 15 = .ok (.aload_n 0, 1) := by decide +kernel
theorem dX6_init_16 : decode cX6_init 16 = .ok (.new 16, 3) := by decide +kernel
theorem dX6_init_19 : decode cX6_init 19 = .ok (.dup, 1) := by decide +kernel
theorem dX6_init_20 : decode cX6_init 20 = .ok (.aload_n 0, 1) := by decide +kernel
theorem dX6_init_21 : decode cX6_init 21 = .ok (.getfield 10, 3) := by decide +kernel
theorem dX6_init_24 : decode cX6_init 24 = .ok (.invokespecial 18, 3) := by decide +kernel
theorem dX6_init_27 : decode cX6_init 27 = .ok (.putfield 21, 3) := by decide +kernel
theorem dX6_init_30 : decode cX6_init 30 = .ok (.aload_n 0, 1) := by decide +kernel
theorem dX6_init_31 : decode cX6_init 31 = .ok (.new 25, 3) := by decide +kernel
theorem dX6_init_34 : decode cX6_init 34 = .ok (.dup, 1) := by decide +kernel
theorem dX6_init_35 : decode cX6_init 35 = .ok (.aload_n 0, 1) := by decide +kernel
theorem dX6_init_36 : decode cX6_init 36 = .ok (.getfield 10, 3) := by decide +kernel
theorem dX6_init_39 : decode cX6_init 39 = .ok (.invokespecial 27, 3) := by decide +kernel
theorem dX6_init_42 : decode cX6_init 42 = .ok (.putfield 28, 3) := by decide +kernel
theorem dX6_init_45 : decode cX6_init 45 = .ok (.aload_n 0, 1) := by decide +kernel
theorem dX6_init_46 : decode cX6_init 46 = .ok (.new 32, 3) := by decide +kernel
theorem dX6_init_49 : decode cX6_init 49 = .ok (.dup, 1) := by decide +kernel
theorem dX6_init_50 : decode cX6_init 50 = .ok (.aload_n 0, 1) := by decide +kernel
theorem dX6_init_51 : decode cX6_init 51 = .ok (.getfield 10, 3) := by decide +kernel
theorem dX6_init_54 : decode cX6_init 54 = .ok (.invokespecial 34, 3) := by decide +kernel
theorem dX6_init_57 : decode cX6_init 57 = .ok (.putfield 35, 3) := by decide +kernel
theorem dX6_init_60 : decode cX6_init 60 = .ok (.aload_n 0, 1) := by decide +kernel
theorem dX6_init_61 : decode cX6_init 61 = .ok (.lconst 0, 1) := by decide +kernel
theorem dX6_init_62 : decode cX6_init 62 = .ok (.putfield 39, 3) := by decide +kernel
theorem dX6_init_65 : decode cX6_init 65 = .ok (.return_, 1) := by decide +kernel
set_option maxRecDepth 20000 in
theorem ggX6_set_X5_allows : GoodIn wsX6_set wsX5_allows := goodIn_r _ [8, 9, 10, 11, 12, 13, 14, 15, 16, 46, 47, 48, 49, 50, 51, 52] (by decide +kernel) (by decide +kernel)
set_option maxRecDepth 20000 in
theorem gX6_set_X5_allows : GoodIn wsX6_set (wsV RX6 43 RX5 yX5_allows wsX5_allows) := goodIn_app (goodIn_of _ (by decide +kernel)) ggX6_set_X5_allows
set_option maxRecDepth 20000 in
theorem ggX6_set_X5_told : GoodIn wsX6_set wsX5_told := goodIn_r _ [20, 21, 22, 9, 23, 24, 25, 26, 46, 47, 48, 49, 50, 51, 52] (by decide +kernel) (by decide +kernel)
set_option maxRecDepth 20000 in
theorem gX6_set_X5_told : GoodIn wsX6_set (wsV RX6 51 RX5 yX5_told wsX5_told) := goodIn_app (goodIn_of _ (by decide +kernel)) ggX6_set_X5_told
set_option maxRecDepth 20000 in
theorem ggX6_set_X5_tell : GoodIn wsX6_set wsX5_tell := goodIn_r _ [30, 21, 22, 9, 25, 23, 24, 26, 46, 47, 48, 49, 50, 51, 52] (by decide +kernel) (by decide +kernel)
set_option maxRecDepth 20000 in
theorem gX6_set_X5_tell : GoodIn wsX6_set (wsV RX6 55 RX5 yX5_tell wsX5_tell) := goodIn_app (goodIn_of _ (by decide +kernel)) ggX6_set_X5_tell
theorem dX6_set_0 : decode cX6_set 0 = .ok (.aload_n 0, 1) := by decide +kernel
theorem dX6_set_1 : decode cX6_set 1 = .ok (.getfield 10, 3) := by decide +kernel
theorem dX6_set_4 : decode cX6_set 4 = .ok (.iload_n 1, 1) := by decide +kernel
theorem dX6_set_5 : decode cX6_set 5 = .ok (.iload_n 2, 1) := by decide +kernel
theorem dX6_set_6 : decode cX6_set 6 = .ok (.invokevirtual 43, 3) := by decide +kernel
theorem dX6_set_9 : decode cX6_set 9 = .ok (.ifCond .ne 5, 3) := by decide +kernel
theorem dX6_set_12 : decode cX6_set 12 = .ok (.iconst (-1), 1) := by decide +kernel
theorem dX6_set_13 : decode cX6_set 13 = .ok (.ireturn, 1) := by decide +kernel
theorem dX6_set_14 : decode cX6_set 14 = .ok (.iload_n 1, 1) := by decide +kernel
theorem dX6_set_15 : decode cX6_set 15 = .ok (.ifCond .eq 8, 3) := by decide +kernel
theorem dX6_set_18 : decode cX6_set 18 = .ok (.iload_n 1, 1) := by decide +kernel
theorem dX6_set_19 : decode cX6_set 19 = .ok (.iconst 1, 1) := by decide +kernel
theorem dX6_set_20 : decode cX6_set 20 = .ok (.if_icmp .ne 7, 3) := by decide +kernel
theorem dX6_set_23 : decode cX6_set 23 = .ok (.iconst 1, 1) := by decide +kernel
theorem dX6_set_24 : decode cX6_set 24 = .ok (.goto 4, 3) := by decide +kernel
theorem dX6_set_27 : decode cX6_set 27 = .ok (.iconst 0, 1) := by decide +kernel
theorem dX6_set_28 : decode cX6_set 28 = .ok (.istore_n 3, 1) := by decide +kernel
theorem dX6_set_29 : decode cX6_set 29 = .ok (.iload_n 3, 1) := by decide +kernel
theorem dX6_set_30 : decode cX6_set 30 = .ok (.ifCond .ne 16, 3) := by decide +kernel
theorem dX6_set_33 : decode cX6_set 33 = .ok (.aload_n 0, 1) := by decide +kernel
theorem dX6_set_34 : decode cX6_set 34 = .ok (.getfield 35, 3) := by decide +kernel
theorem dX6_set_37 : decode cX6_set 37 = .ok (.getfield 47, 3) := by decide +kernel
theorem dX6_set_40 : decode cX6_set 40 = .ok (.ifCond .le 6, 3) := by decide +kernel
theorem dX6_set_43 : decode cX6_set 43 = .ok (.bipush (-2), 2) := by decide +kernel
theorem dX6_set_45 : decode cX6_set 45 = .ok (.ireturn, 1) := by decide +kernel
theorem dX6_set_46 : decode cX6_set 46 = .ok (.aload_n 0, 1) := by decide +kernel
theorem dX6_set_47 : decode cX6_set 47 = .ok (.getfield 10, 3) := by decide +kernel
theorem dX6_set_50 : decode cX6_set 50 = .ok (.iload_n 1, 1) := by decide +kernel
theorem dX6_set_51 : decode cX6_set 51 = .ok (.invokevirtual 51, 3) := by decide +kernel
theorem dX6_set_54 : decode cX6_set 54 = .ok (.istore 4, 2) := by decide +kernel
theorem dX6_set_56 : decode cX6_set 56 = .ok (.aload_n 0, 1) := by decide +kernel
theorem dX6_set_57 : decode cX6_set 57 = .ok (.getfield 10, 3) := by decide +kernel
theorem dX6_set_60 : decode cX6_set 60 = .ok (.iload_n 1, 1) := by decide +kernel
theorem dX6_set_61 : decode cX6_set 61 = .ok (.iload_n 2, 1) := by decide +kernel
theorem dX6_set_62 : decode cX6_set 62 = .ok (.invokevirtual 55, 3) := by decide +kernel
theorem dX6_set_65 : decode cX6_set 65 = .ok (.iload 4, 2) := by decide +kernel
theorem dX6_set_67 : decode cX6_set 67 = .ok (.ireturn, 1) := by decide +kernel
set_option maxRecDepth 20000 in
theorem ggX6_won_X6_within : GoodIn wsX6_won wsX6_within := goodIn_r _ [6] (by decide +kernel) (by decide +kernel)
set_option maxRecDepth 20000 in
theorem gX6_won_X6_within : GoodIn wsX6_won (va_wsS RX6 59 yX6_within wsX6_within) := goodIn_app (goodIn_of _ (by decide +kernel)) ggX6_won_X6_within
set_option maxRecDepth 20000 in
theorem ggX6_won_X6_asked : GoodIn wsX6_won wsX6_asked := goodIn_r _ [9] (by decide +kernel) (by decide +kernel)
set_option maxRecDepth 20000 in
theorem gX6_won_X6_asked : GoodIn wsX6_won (va_wsS RX6 63 yX6_asked wsX6_asked) := goodIn_app (goodIn_of _ (by decide +kernel)) ggX6_won_X6_asked
set_option maxRecDepth 20000 in
theorem ggX6_won_X5_gameWinner : GoodIn wsX6_won wsX5_gameWinner := goodIn_r _ [14, 15, 16, 17, 18, 19, 20, 21, 22, 23, 24, 13, 25, 31, 32, 33, 34, 35, 36, 37] (by decide +kernel) (by decide +kernel)
set_option maxRecDepth 20000 in
theorem gX6_won_X5_gameWinner : GoodIn wsX6_won (wsV RX6 66 RX5 yX5_gameWinner wsX5_gameWinner) := goodIn_app (goodIn_of _ (by decide +kernel)) ggX6_won_X5_gameWinner
theorem dX6_won_0 : decode cX6_won 0 = .ok (.iload_n 1, 1) := by decide +kernel
theorem dX6_won_1 : decode cX6_won 1 = .ok (.iconst 0, 1) := by decide +kernel
theorem dX6_won_2 : decode cX6_won 2 = .ok (.iconst 2, 1) := by decide +kernel
theorem dX6_won_3 : decode cX6_won 3 = .ok (.invokestatic 59, 3) := by decide +kernel
theorem dX6_won_6 : decode cX6_won 6 = .ok (.ifCond .eq 23, 3) := by decide +kernel
theorem dX6_won_9 : decode cX6_won 9 = .ok (.iload_n 2, 1) := by decide +kernel
theorem dX6_won_10 : decode cX6_won 10 = .ok (.iconst 0, 1) := by decide +kernel
theorem dX6_won_11 : decode cX6_won 11 = .ok (.bipush 20, 2) := by decide +kernel
theorem dX6_won_13 : decode cX6_won 13 = .ok (.invokestatic 59, 3) := by decide +kernel
theorem dX6_won_16 : decode cX6_won 16 = .ok (.ifCond .eq 13, 3) := by decide +kernel
theorem dX6_won_19 : decode cX6_won 19 = .ok (.iload_n 3, 1) := by decide +kernel
theorem dX6_won_20 : decode cX6_won 20 = .ok (.iconst 0, 1) := by decide +kernel
theorem dX6_won_21 : decode cX6_won 21 = .ok (.bipush 20, 2) := by decide +kernel
theorem dX6_won_23 : decode cX6_won 23 = .ok (.invokestatic 59, 3) := by decide +kernel
theorem dX6_won_26 : decode cX6_won 26 = .ok (.ifCond .ne 5, 3) := by decide +kernel
theorem dX6_won_29 : decode cX6_won 29 = .ok (.iconst (-1), 1) := by decide +kernel
theorem dX6_won_30 : decode cX6_won 30 = .ok (.ireturn, 1) := by decide +kernel
theorem dX6_won_31 : decode cX6_won 31 = .ok (.aload_n 0, 1) := by decide +kernel
theorem dX6_won_32 : decode cX6_won 32 = .ok (.dup, 1) := by decide +kernel
theorem dX6_won_33 : decode cX6_won 33 = .ok (.getfield 39, 3) := by decide +kernel
theorem dX6_won_36 : decode cX6_won 36 = .ok (.iload_n 1, 1) := by decide +kernel
theorem dX6_won_37 : decode cX6_won 37 = .ok (.invokestatic 63, 3) := by decide +kernel
theorem dX6_won_40 : decode cX6_won 40 = .ok (.i2l, 1) := by decide +kernel
theorem dX6_won_41 : decode cX6_won 41 = .ok (.ladd, 1) := by decide +kernel
theorem dX6_won_42 : decode cX6_won 42 = .ok (.putfield 39, 3) := by decide +kernel
theorem dX6_won_45 : decode cX6_won 45 = .ok (.aload_n 0, 1) := by decide +kernel
theorem dX6_won_46 : decode cX6_won 46 = .ok (.getfield 10, 3) := by decide +kernel
theorem dX6_won_49 : decode cX6_won 49 = .ok (.iload_n 1, 1) := by decide +kernel
theorem dX6_won_50 : decode cX6_won 50 = .ok (.iload_n 2, 1) := by decide +kernel
theorem dX6_won_51 : decode cX6_won 51 = .ok (.iload_n 3, 1) := by decide +kernel
theorem dX6_won_52 : decode cX6_won 52 = .ok (.invokevirtual 66, 3) := by decide +kernel
theorem dX6_won_55 : decode cX6_won 55 = .ok (.ireturn, 1) := by decide +kernel
set_option maxRecDepth 20000 in
theorem ggX6_chance_X6_isScore : GoodIn wsX6_chance wsX6_isScore := goodIn_r _ [8, 9, 10, 11, 12, 13, 7, 14, 88, 89, 90, 91, 92, 98, 99, 100, 101, 102, 103, 104] (by decide +kernel) (by decide +kernel)
set_option maxRecDepth 20000 in
theorem gX6_chance_X6_isScore : GoodIn wsX6_chance (wsV RX6 70 RX6 yX6_isScore wsX6_isScore) := goodIn_app (goodIn_of _ (by decide +kernel)) ggX6_chance_X6_isScore
set_option maxRecDepth 20000 in
theorem ggX6_chance_X6_isEither : GoodIn wsX6_chance wsX6_isEither := goodIn_r _ [17] (by decide +kernel) (by decide +kernel)
set_option maxRecDepth 20000 in
theorem gX6_chance_X6_isEither : GoodIn wsX6_chance (va_wsS RX6 73 yX6_isEither wsX6_isEither) := goodIn_app (goodIn_of _ (by decide +kernel)) ggX6_chance_X6_isEither
set_option maxRecDepth 20000 in
theorem ggX6_chance_X0_reckon : GoodIn wsX6_chance wsX0_reckon := goodIn_r _ [22, 23, 24, 25, 26, 27, 28, 29, 30, 31, 32, 33, 34, 35, 36, 37, 38, 39, 40, 41, 21, 42, 43, 44, 45, 46, 47, 48, 49, 50, 51, 52, 53, 54, 55, 56, 57, 58, 59, 60, 61, 62, 63, 64, 65, 66, 67, 68, 69, 70, 71, 72, 73, 74, 75, 76, 77, 78, 79, 93, 94, 95, 96, 97, 98, 99, 100, 101, 102, 103, 104, 105, 106] (by decide +kernel) (by decide +kernel)
set_option maxRecDepth 20000 in
theorem gX6_chance_X0_reckon : GoodIn wsX6_chance (wsV RX6 79 RX0 yX0_reckon wsX0_reckon) := goodIn_app (goodIn_of _ (by decide +kernel)) ggX6_chance_X0_reckon
set_option maxRecDepth 20000 in
theorem ggX6_chance_X1_at : GoodIn wsX6_chance wsX1_at := goodIn_r _ [79, 70, 71, 72, 73, 74, 68, 75, 105, 106] (by decide +kernel) (by decide +kernel)
set_option maxRecDepth 20000 in
theorem gX6_chance_X1_at : GoodIn wsX6_chance (wsV RX6 87 RX1 yX1_at wsX1_at) := goodIn_app (goodIn_of _ (by decide +kernel)) ggX6_chance_X1_at
set_option maxRecDepth 20000 in
theorem ggX6_chance_X0_bottom : GoodIn wsX6_chance wsX0_bottom := goodIn_r _ [61, 27, 25, 62, 63, 21, 64, 93, 94, 95, 96, 97] (by decide +kernel) (by decide +kernel)
set_option maxRecDepth 20000 in
theorem gX6_chance_X0_bottom : GoodIn wsX6_chance (wsV RX6 93 RX0 yX0_bottom wsX0_bottom) := goodIn_app (goodIn_of _ (by decide +kernel)) ggX6_chance_X0_bottom
set_option maxRecDepth 20000 in
theorem ggX6_chance_X6_inLeastForm : GoodIn wsX6_chance wsX6_inLeastForm := goodIn_r _ [84, 85, 86, 7, 87] (by decide +kernel) (by decide +kernel)
set_option maxRecDepth 20000 in
theorem gX6_chance_X6_inLeastForm : GoodIn wsX6_chance (va_wsS RX6 96 yX6_inLeastForm wsX6_inLeastForm) := goodIn_app (goodIn_of _ (by decide +kernel)) ggX6_chance_X6_inLeastForm
theorem dX6_chance_0 : decode cX6_chance 0 = .ok (.aload_n 0, 1) := by decide +kernel
theorem dX6_chance_1 : decode cX6_chance 1 = .ok (.iload_n 1, 1) := by decide +kernel
theorem dX6_chance_2 : decode cX6_chance 2 = .ok (.iload_n 2, 1) := by decide +kernel
theorem dX6_chance_3 : decode cX6_chance 3 = .ok (.invokevirtual 70, 3) := by decide +kernel
theorem dX6_chance_6 : decode cX6_chance 6 = .ok (.ifCond .eq 18, 3) := by decide +kernel
theorem dX6_chance_9 : decode cX6_chance 9 = .ok (.iload_n 3, 1) := by decide +kernel
theorem dX6_chance_10 : decode cX6_chance 10 = .ok (.invokestatic 73, 3) := by decide +kernel
theorem dX6_chance_13 : decode cX6_chance 13 = .ok (.ifCond .eq 11, 3) := by decide +kernel
theorem dX6_chance_16 : decode cX6_chance 16 = .ok (.iload 4, 2) := by decide +kernel
theorem dX6_chance_18 : decode cX6_chance 18 = .ok (.invokestatic 73, 3) := by decide +kernel
theorem dX6_chance_21 : decode cX6_chance 21 = .ok (.ifCond .ne 7, 3) := by decide +kernel
theorem dX6_chance_24 : decode cX6_chance 24 = .ok (.ldc2_w 77, 3) := by decide +kernel
theorem dX6_chance_27 : decode cX6_chance 27 = .ok (.lreturn, 1) := by decide +kernel
theorem dX6_chance_28 : decode cX6_chance 28 = .ok (.aload_n 0, 1) := by decide +kernel
theorem dX6_chance_29 : decode cX6_chance 29 = .ok (.getfield 21, 3) := by decide +kernel
theorem dX6_chance_32 : decode cX6_chance 32 = .ok (.iload_n 3, 1) := by decide +kernel
theorem dX6_chance_33 : decode cX6_chance 33 = .ok (.invokevirtual 79, 3) := by decide +kernel
theorem dX6_chance_36 : decode cX6_chance 36 = .ok (.aload_n 0, 1) := by decide +kernel
theorem dX6_chance_37 : decode cX6_chance 37 = .ok (.getfield 21, 3) := by decide +kernel
theorem dX6_chance_40 : decode cX6_chance 40 = .ok (.getfield 83, 3) := by decide +kernel
theorem dX6_chance_43 : decode cX6_chance 43 = .ok (.iload_n 1, 1) := by decide +kernel
theorem dX6_chance_44 : decode cX6_chance 44 = .ok (.iload_n 2, 1) := by decide +kernel
theorem dX6_chance_45 : decode cX6_chance 45 = .ok (.invokevirtual 87, 3) := by decide +kernel
theorem dX6_chance_48 : decode cX6_chance 48 = .ok (.aload_n 0, 1) := by decide +kernel
theorem dX6_chance_49 : decode cX6_chance 49 = .ok (.getfield 21, 3) := by decide +kernel
theorem dX6_chance_52 : decode cX6_chance 52 = .ok (.iload_n 1, 1) := by decide +kernel
theorem dX6_chance_53 : decode cX6_chance 53 = .ok (.iload_n 2, 1) := by decide +kernel
theorem dX6_chance_54 : decode cX6_chance 54 = .ok (.invokevirtual 93, 3) := by decide +kernel
theorem dX6_chance_57 : decode cX6_chance 57 = .ok (.iload 4, 2) := by decide +kernel
theorem dX6_chance_59 : decode cX6_chance 59 = .ok (.invokestatic 96, 3) := by decide +kernel
theorem dX6_chance_62 : decode cX6_chance 62 = .ok (.lreturn, 1) := by decide +kernel
set_option maxRecDepth 20000 in
theorem ggX6_lasts_X6_isScore : GoodIn wsX6_lasts wsX6_isScore := goodIn_r _ [8, 9, 10, 11, 12, 13, 7, 14, 88, 89, 90, 91, 92, 98, 99, 100, 101, 102, 103, 104] (by decide +kernel) (by decide +kernel)
set_option maxRecDepth 20000 in
theorem gX6_lasts_X6_isScore : GoodIn wsX6_lasts (wsV RX6 70 RX6 yX6_isScore wsX6_isScore) := goodIn_app (goodIn_of _ (by decide +kernel)) ggX6_lasts_X6_isScore
set_option maxRecDepth 20000 in
theorem ggX6_lasts_X6_isEither : GoodIn wsX6_lasts wsX6_isEither := goodIn_r _ [17] (by decide +kernel) (by decide +kernel)
set_option maxRecDepth 20000 in
theorem gX6_lasts_X6_isEither : GoodIn wsX6_lasts (va_wsS RX6 73 yX6_isEither wsX6_isEither) := goodIn_app (goodIn_of _ (by decide +kernel)) ggX6_lasts_X6_isEither
set_option maxRecDepth 20000 in
theorem ggX6_lasts_X0_reckon : GoodIn wsX6_lasts wsX0_reckon := goodIn_r _ [22, 23, 24, 25, 26, 27, 28, 29, 30, 31, 32, 33, 34, 35, 36, 37, 38, 39, 40, 41, 21, 42, 43, 44, 45, 46, 47, 48, 49, 50, 51, 52, 53, 54, 55, 56, 57, 58, 59, 60, 61, 62, 63, 64, 65, 66, 67, 68, 69, 70, 71, 72, 73, 74, 75, 76, 77, 78, 79, 93, 94, 95, 96, 97, 98, 99, 100, 101, 102, 103, 104, 105, 106] (by decide +kernel) (by decide +kernel)
set_option maxRecDepth 20000 in
theorem gX6_lasts_X0_reckon : GoodIn wsX6_lasts (wsV RX6 79 RX0 yX0_reckon wsX0_reckon) := goodIn_app (goodIn_of _ (by decide +kernel)) ggX6_lasts_X0_reckon
set_option maxRecDepth 20000 in
theorem ggX6_lasts_X1_at : GoodIn wsX6_lasts wsX1_at := goodIn_r _ [79, 70, 71, 72, 73, 74, 68, 75, 105, 106] (by decide +kernel) (by decide +kernel)
set_option maxRecDepth 20000 in
theorem gX6_lasts_X1_at : GoodIn wsX6_lasts (wsV RX6 87 RX1 yX1_at wsX1_at) := goodIn_app (goodIn_of _ (by decide +kernel)) ggX6_lasts_X1_at
set_option maxRecDepth 20000 in
theorem ggX6_lasts_X0_bottom : GoodIn wsX6_lasts wsX0_bottom := goodIn_r _ [61, 27, 25, 62, 63, 21, 64, 93, 94, 95, 96, 97] (by decide +kernel) (by decide +kernel)
set_option maxRecDepth 20000 in
theorem gX6_lasts_X0_bottom : GoodIn wsX6_lasts (wsV RX6 93 RX0 yX0_bottom wsX0_bottom) := goodIn_app (goodIn_of _ (by decide +kernel)) ggX6_lasts_X0_bottom
set_option maxRecDepth 20000 in
theorem ggX6_lasts_X6_inLeastForm : GoodIn wsX6_lasts wsX6_inLeastForm := goodIn_r _ [84, 85, 86, 7, 87] (by decide +kernel) (by decide +kernel)
set_option maxRecDepth 20000 in
theorem gX6_lasts_X6_inLeastForm : GoodIn wsX6_lasts (va_wsS RX6 96 yX6_inLeastForm wsX6_inLeastForm) := goodIn_app (goodIn_of _ (by decide +kernel)) ggX6_lasts_X6_inLeastForm
theorem dX6_lasts_0 : decode cX6_lasts 0 = .ok (.aload_n 0, 1) := by decide +kernel
theorem dX6_lasts_1 : decode cX6_lasts 1 = .ok (.iload_n 1, 1) := by decide +kernel
theorem dX6_lasts_2 : decode cX6_lasts 2 = .ok (.iload_n 2, 1) := by decide +kernel
theorem dX6_lasts_3 : decode cX6_lasts 3 = .ok (.invokevirtual 70, 3) := by decide +kernel
theorem dX6_lasts_6 : decode cX6_lasts 6 = .ok (.ifCond .eq 18, 3) := by decide +kernel
theorem dX6_lasts_9 : decode cX6_lasts 9 = .ok (.iload_n 3, 1) := by decide +kernel
theorem dX6_lasts_10 : decode cX6_lasts 10 = .ok (.invokestatic 73, 3) := by decide +kernel
theorem dX6_lasts_13 : decode cX6_lasts 13 = .ok (.ifCond .eq 11, 3) := by decide +kernel
theorem dX6_lasts_16 : decode cX6_lasts 16 = .ok (.iload 4, 2) := by decide +kernel
theorem dX6_lasts_18 : decode cX6_lasts 18 = .ok (.invokestatic 73, 3) := by decide +kernel
theorem dX6_lasts_21 : decode cX6_lasts 21 = .ok (.ifCond .ne 7, 3) := by decide +kernel
theorem dX6_lasts_24 : decode cX6_lasts 24 = .ok (.ldc2_w 77, 3) := by decide +kernel
theorem dX6_lasts_27 : decode cX6_lasts 27 = .ok (.lreturn, 1) := by decide +kernel
theorem dX6_lasts_28 : decode cX6_lasts 28 = .ok (.aload_n 0, 1) := by decide +kernel
theorem dX6_lasts_29 : decode cX6_lasts 29 = .ok (.getfield 21, 3) := by decide +kernel
theorem dX6_lasts_32 : decode cX6_lasts 32 = .ok (.iload_n 3, 1) := by decide +kernel
theorem dX6_lasts_33 : decode cX6_lasts 33 = .ok (.invokevirtual 79, 3) := by decide +kernel
theorem dX6_lasts_36 : decode cX6_lasts 36 = .ok (.aload_n 0, 1) := by decide +kernel
theorem dX6_lasts_37 : decode cX6_lasts 37 = .ok (.getfield 21, 3) := by decide +kernel
theorem dX6_lasts_40 : decode cX6_lasts 40 = .ok (.getfield 100, 3) := by decide +kernel
theorem dX6_lasts_43 : decode cX6_lasts 43 = .ok (.iload_n 1, 1) := by decide +kernel
theorem dX6_lasts_44 : decode cX6_lasts 44 = .ok (.iload_n 2, 1) := by decide +kernel
theorem dX6_lasts_45 : decode cX6_lasts 45 = .ok (.invokevirtual 87, 3) := by decide +kernel
theorem dX6_lasts_48 : decode cX6_lasts 48 = .ok (.aload_n 0, 1) := by decide +kernel
theorem dX6_lasts_49 : decode cX6_lasts 49 = .ok (.getfield 21, 3) := by decide +kernel
theorem dX6_lasts_52 : decode cX6_lasts 52 = .ok (.iload_n 1, 1) := by decide +kernel
theorem dX6_lasts_53 : decode cX6_lasts 53 = .ok (.iload_n 2, 1) := by decide +kernel
theorem dX6_lasts_54 : decode cX6_lasts 54 = .ok (.invokevirtual 93, 3) := by decide +kernel
theorem dX6_lasts_57 : decode cX6_lasts 57 = .ok (.iload 4, 2) := by decide +kernel
theorem dX6_lasts_59 : decode cX6_lasts 59 = .ok (.invokestatic 96, 3) := by decide +kernel
theorem dX6_lasts_62 : decode cX6_lasts 62 = .ok (.lreturn, 1) := by decide +kernel
set_option maxRecDepth 20000 in
theorem ggX6_weight_X6_isScore : GoodIn wsX6_weight wsX6_isScore := goodIn_r _ [10, 2, 5, 3, 11, 12, 9, 13, 91, 92, 93, 94, 95, 96, 97, 98, 99, 100, 101, 102] (by decide +kernel) (by decide +kernel)
set_option maxRecDepth 20000 in
theorem gX6_weight_X6_isScore : GoodIn wsX6_weight (wsV RX6 70 RX6 yX6_isScore wsX6_isScore) := goodIn_app (goodIn_of _ (by decide +kernel)) ggX6_weight_X6_isScore
set_option maxRecDepth 20000 in
theorem ggX6_weight_X6_isEither : GoodIn wsX6_weight wsX6_isEither := goodIn_r _ [16] (by decide +kernel) (by decide +kernel)
set_option maxRecDepth 20000 in
theorem gX6_weight_X6_isEither : GoodIn wsX6_weight (va_wsS RX6 73 yX6_isEither wsX6_isEither) := goodIn_app (goodIn_of _ (by decide +kernel)) ggX6_weight_X6_isEither
set_option maxRecDepth 20000 in
theorem ggX6_weight_X5_gameWinner : GoodIn wsX6_weight wsX5_gameWinner := goodIn_r _ [21, 22, 23, 24, 25, 26, 27, 28, 29, 30, 31, 20, 32, 96, 97, 98, 99, 100, 101, 102] (by decide +kernel) (by decide +kernel)
set_option maxRecDepth 20000 in
theorem gX6_weight_X5_gameWinner : GoodIn wsX6_weight (wsV RX6 66 RX5 yX5_gameWinner wsX5_gameWinner) := goodIn_app (goodIn_of _ (by decide +kernel)) ggX6_weight_X5_gameWinner
set_option maxRecDepth 20000 in
theorem ggX6_weight_X0_reckon : GoodIn wsX6_weight wsX0_reckon := goodIn_r _ [37, 38, 39, 40, 41, 42, 43, 27, 24, 28, 44, 45, 46, 20, 47, 48, 49, 50, 51, 52, 36, 53, 54, 55, 56, 57, 18, 19, 21, 22, 23, 25, 26, 29, 30, 31, 32, 58, 59, 60, 61, 62, 63, 64, 65, 66, 67, 68, 69, 70, 71, 72, 73, 74, 75, 76, 77, 78, 79, 103, 104, 105, 106, 107, 96, 97, 98, 99, 100, 101, 102, 108, 109] (by decide +kernel) (by decide +kernel)
set_option maxRecDepth 20000 in
theorem gX6_weight_X0_reckon : GoodIn wsX6_weight (wsV RX6 79 RX0 yX0_reckon wsX0_reckon) := goodIn_app (goodIn_of _ (by decide +kernel)) ggX6_weight_X0_reckon
set_option maxRecDepth 20000 in
theorem ggX6_weight_X0_weightAt : GoodIn wsX6_weight wsX0_weightAt := goodIn_r _ [83, 54, 76, 77, 78, 68, 79, 70, 71, 72, 73, 74, 75, 103, 104, 105, 106, 107, 108, 109] (by decide +kernel) (by decide +kernel)
set_option maxRecDepth 20000 in
theorem gX6_weight_X0_weightAt : GoodIn wsX6_weight (wsV RX6 109 RX0 yX0_weightAt wsX0_weightAt) := goodIn_app (goodIn_of _ (by decide +kernel)) ggX6_weight_X0_weightAt
set_option maxRecDepth 20000 in
theorem ggX6_weight_X0_bottom : GoodIn wsX6_weight wsX0_bottom := goodIn_r _ [61, 42, 40, 62, 63, 36, 64, 103, 104, 105, 106, 107] (by decide +kernel) (by decide +kernel)
set_option maxRecDepth 20000 in
theorem gX6_weight_X0_bottom : GoodIn wsX6_weight (wsV RX6 93 RX0 yX0_bottom wsX0_bottom) := goodIn_app (goodIn_of _ (by decide +kernel)) ggX6_weight_X0_bottom
set_option maxRecDepth 20000 in
theorem ggX6_weight_X6_inLeastForm : GoodIn wsX6_weight wsX6_inLeastForm := goodIn_r _ [87, 88, 89, 9, 90] (by decide +kernel) (by decide +kernel)
set_option maxRecDepth 20000 in
theorem gX6_weight_X6_inLeastForm : GoodIn wsX6_weight (va_wsS RX6 96 yX6_inLeastForm wsX6_inLeastForm) := goodIn_app (goodIn_of _ (by decide +kernel)) ggX6_weight_X6_inLeastForm
theorem dX6_weight_0 : decode cX6_weight 0 = .ok (.aload_n 0, 1) := by decide +kernel
theorem dX6_weight_1 : decode cX6_weight 1 = .ok (.iload_n 1, 1) := by decide +kernel
theorem dX6_weight_2 : decode cX6_weight 2 = .ok (.iload_n 2, 1) := by decide +kernel
theorem dX6_weight_3 : decode cX6_weight 3 = .ok (.invokevirtual 70, 3) := by decide +kernel
theorem dX6_weight_6 : decode cX6_weight 6 = .ok (.ifCond .eq 18, 3) := by decide +kernel
theorem dX6_weight_9 : decode cX6_weight 9 = .ok (.iload_n 3, 1) := by decide +kernel
theorem dX6_weight_10 : decode cX6_weight 10 = .ok (.invokestatic 73, 3) := by decide +kernel
theorem dX6_weight_13 : decode cX6_weight 13 = .ok (.ifCond .eq 11, 3) := by decide +kernel
theorem dX6_weight_16 : decode cX6_weight 16 = .ok (.iload 4, 2) := by decide +kernel
theorem dX6_weight_18 : decode cX6_weight 18 = .ok (.invokestatic 73, 3) := by decide +kernel
theorem dX6_weight_21 : decode cX6_weight 21 = .ok (.ifCond .ne 7, 3) := by decide +kernel
theorem dX6_weight_24 : decode cX6_weight 24 = .ok (.ldc2_w 77, 3) := by decide +kernel
theorem dX6_weight_27 : decode cX6_weight 27 = .ok (.lreturn, 1) := by decide +kernel
theorem dX6_weight_28 : decode cX6_weight 28 = .ok (.aload_n 0, 1) := by decide +kernel
theorem dX6_weight_29 : decode cX6_weight 29 = .ok (.getfield 10, 3) := by decide +kernel
theorem dX6_weight_32 : decode cX6_weight 32 = .ok (.aload_n 0, 1) := by decide +kernel
theorem dX6_weight_33 : decode cX6_weight 33 = .ok (.getfield 10, 3) := by decide +kernel
theorem dX6_weight_36 : decode cX6_weight 36 = .ok (.getfield 103, 3) := by decide +kernel
theorem dX6_weight_39 : decode cX6_weight 39 = .ok (.iload_n 1, 1) := by decide +kernel
theorem dX6_weight_40 : decode cX6_weight 40 = .ok (.iload_n 2, 1) := by decide +kernel
theorem dX6_weight_41 : decode cX6_weight 41 = .ok (.invokevirtual 66, 3) := by decide +kernel
theorem dX6_weight_44 : decode cX6_weight 44 = .ok (.ifCond .eq 7, 3) := by decide +kernel
theorem dX6_weight_47 : decode cX6_weight 47 = .ok (.ldc2_w 77, 3) := by decide +kernel
theorem dX6_weight_50 : decode cX6_weight 50 = .ok (.lreturn, 1) := by decide +kernel
theorem dX6_weight_51 : decode cX6_weight 51 = .ok (.aload_n 0, 1) := by decide +kernel
theorem dX6_weight_52 : decode cX6_weight 52 = .ok (.getfield 21, 3) := by decide +kernel
theorem dX6_weight_55 : decode cX6_weight 55 = .ok (.iload_n 3, 1) := by decide +kernel
theorem dX6_weight_56 : decode cX6_weight 56 = .ok (.invokevirtual 79, 3) := by decide +kernel
theorem dX6_weight_59 : decode cX6_weight 59 = .ok (.iload_n 1, 1) := by decide +kernel
theorem dX6_weight_60 : decode cX6_weight 60 = .ok (.aload_n 0, 1) := by decide +kernel
theorem dX6_weight_61 : decode cX6_weight 61 = .ok (.getfield 10, 3) := by decide +kernel
theorem dX6_weight_64 : decode cX6_weight 64 = .ok (.getfield 106, 3) := by decide +kernel
theorem dX6_weight_67 : decode cX6_weight 67 = .ok (.if_icmp .ne 18, 3) := by decide +kernel
theorem dX6_weight_70 : decode cX6_weight 70 = .ok (.iload_n 2, 1) := by decide +kernel
theorem dX6_weight_71 : decode cX6_weight 71 = .ok (.aload_n 0, 1) := by decide +kernel
theorem dX6_weight_72 : decode cX6_weight 72 = .ok (.getfield 10, 3) := by decide +kernel
theorem dX6_weight_75 : decode cX6_weight 75 = .ok (.getfield 106, 3) := by decide +kernel
theorem dX6_weight_78 : decode cX6_weight 78 = .ok (.if_icmp .ne 7, 3) := by decide +kernel
theorem dX6_weight_81 : decode cX6_weight 81 = .ok (.iconst 1, 1) := by decide +kernel
theorem dX6_weight_82 : decode cX6_weight 82 = .ok (.goto 4, 3) := by decide +kernel
theorem dX6_weight_85 : decode cX6_weight 85 = .ok (.iconst 0, 1) := by decide +kernel
theorem dX6_weight_86 : decode cX6_weight 86 = .ok (.istore 5, 2) := by decide +kernel
theorem dX6_weight_88 : decode cX6_weight 88 = .ok (.aload_n 0, 1) := by decide +kernel
theorem dX6_weight_89 : decode cX6_weight 89 = .ok (.getfield 21, 3) := by decide +kernel
theorem dX6_weight_92 : decode cX6_weight 92 = .ok (.iload_n 1, 1) := by decide +kernel
theorem dX6_weight_93 : decode cX6_weight 93 = .ok (.iload 5, 2) := by decide +kernel
theorem dX6_weight_95 : decode cX6_weight 95 = .ok (.isub, 1) := by decide +kernel
theorem dX6_weight_96 : decode cX6_weight 96 = .ok (.iload_n 2, 1) := by decide +kernel
theorem dX6_weight_97 : decode cX6_weight 97 = .ok (.iload 5, 2) := by decide +kernel
theorem dX6_weight_99 : decode cX6_weight 99 = .ok (.isub, 1) := by decide +kernel
theorem dX6_weight_100 : decode cX6_weight 100 = .ok (.invokevirtual 109, 3) := by decide +kernel
theorem dX6_weight_103 : decode cX6_weight 103 = .ok (.aload_n 0, 1) := by decide +kernel
theorem dX6_weight_104 : decode cX6_weight 104 = .ok (.getfield 21, 3) := by decide +kernel
theorem dX6_weight_107 : decode cX6_weight 107 = .ok (.iload_n 1, 1) := by decide +kernel
theorem dX6_weight_108 : decode cX6_weight 108 = .ok (.iload 5, 2) := by decide +kernel
theorem dX6_weight_110 : decode cX6_weight 110 = .ok (.isub, 1) := by decide +kernel
theorem dX6_weight_111 : decode cX6_weight 111 = .ok (.iconst 1, 1) := by decide +kernel
theorem dX6_weight_112 : decode cX6_weight 112 = .ok (.iadd, 1) := by decide +kernel
theorem dX6_weight_113 : decode cX6_weight 113 = .ok (.iload_n 2, 1) := by decide +kernel
theorem dX6_weight_114 : decode cX6_weight 114 = .ok (.iload 5, 2) := by decide +kernel
theorem dX6_weight_116 : decode cX6_weight 116 = .ok (.isub, 1) := by decide +kernel
theorem dX6_weight_117 : decode cX6_weight 117 = .ok (.invokevirtual 93, 3) := by decide +kernel
theorem dX6_weight_120 : decode cX6_weight 120 = .ok (.iload 4, 2) := by decide +kernel
theorem dX6_weight_122 : decode cX6_weight 122 = .ok (.invokestatic 96, 3) := by decide +kernel
theorem dX6_weight_125 : decode cX6_weight 125 = .ok (.lreturn, 1) := by decide +kernel
set_option maxRecDepth 20000 in
theorem ggX6_heaviest_X6_isEither : GoodIn wsX6_heaviest wsX6_isEither := goodIn_r _ [5] (by decide +kernel) (by decide +kernel)
set_option maxRecDepth 20000 in
theorem gX6_heaviest_X6_isEither : GoodIn wsX6_heaviest (va_wsS RX6 73 yX6_isEither wsX6_isEither) := goodIn_app (goodIn_of _ (by decide +kernel)) ggX6_heaviest_X6_isEither
set_option maxRecDepth 20000 in
theorem ggX6_heaviest_X0_reckon : GoodIn wsX6_heaviest wsX0_reckon := goodIn_r _ [10, 11, 12, 13, 14, 15, 16, 17, 18, 19, 20, 21, 22, 23, 24, 25, 26, 27, 28, 29, 9, 30, 31, 32, 33, 34, 35, 36, 37, 38, 39, 40, 41, 42, 43, 44, 45, 46, 47, 48, 49, 50, 51, 52, 53, 54, 55, 56, 57, 58, 59, 60, 61, 62, 63, 64, 65, 66, 67, 82, 83, 84, 85, 86, 87, 88, 89, 90, 91, 92, 93, 94, 95] (by decide +kernel) (by decide +kernel)
set_option maxRecDepth 20000 in
theorem gX6_heaviest_X0_reckon : GoodIn wsX6_heaviest (wsV RX6 79 RX0 yX0_reckon wsX0_reckon) := goodIn_app (goodIn_of _ (by decide +kernel)) ggX6_heaviest_X0_reckon
set_option maxRecDepth 20000 in
theorem ggX6_heaviest_X0_heaviestScore : GoodIn wsX6_heaviest wsX0_heaviestScore := goodIn_r _ [71, 72, 13, 11, 14, 73, 74, 75, 9, 76, 31, 64, 65, 66, 56, 67, 58, 59, 60, 61, 62, 63, 50, 51, 52, 34, 35, 36, 23, 37, 38, 39, 18, 40, 41, 17, 19, 42, 43, 44, 45, 82, 83, 84, 85, 86, 87, 88, 89, 90, 91, 92, 93, 94, 95] (by decide +kernel) (by decide +kernel)
set_option maxRecDepth 20000 in
theorem gX6_heaviest_X0_heaviestScore : GoodIn wsX6_heaviest (wsV RX6 112 RX0 yX0_heaviestScore wsX0_heaviestScore) := goodIn_app (goodIn_of _ (by decide +kernel)) ggX6_heaviest_X0_heaviestScore
theorem dX6_heaviest_0 : decode cX6_heaviest 0 = .ok (.iload_n 1, 1) := by decide +kernel
theorem dX6_heaviest_1 : decode cX6_heaviest 1 = .ok (.invokestatic 73, 3) := by decide +kernel
theorem dX6_heaviest_4 : decode cX6_heaviest 4 = .ok (.ifCond .eq 10, 3) := by decide +kernel
theorem dX6_heaviest_7 : decode cX6_heaviest 7 = .ok (.iload_n 2, 1) := by decide +kernel
theorem dX6_heaviest_8 : decode cX6_heaviest 8 = .ok (.invokestatic 73, 3) := by decide +kernel
theorem dX6_heaviest_11 : decode cX6_heaviest 11 = .ok (.ifCond .ne 5, 3) := by decide +kernel
theorem dX6_heaviest_14 : decode cX6_heaviest 14 = .ok (.iconst (-1), 1) := by decide +kernel
theorem dX6_heaviest_15 : decode cX6_heaviest 15 = .ok (.ireturn, 1) := by decide +kernel
theorem dX6_heaviest_16 : decode cX6_heaviest 16 = .ok (.aload_n 0, 1) := by decide +kernel
theorem dX6_heaviest_17 : decode cX6_heaviest 17 = .ok (.getfield 21, 3) := by decide +kernel
theorem dX6_heaviest_20 : decode cX6_heaviest 20 = .ok (.iload_n 1, 1) := by decide +kernel
theorem dX6_heaviest_21 : decode cX6_heaviest 21 = .ok (.invokevirtual 79, 3) := by decide +kernel
theorem dX6_heaviest_24 : decode cX6_heaviest 24 = .ok (.aload_n 0, 1) := by decide +kernel
theorem dX6_heaviest_25 : decode cX6_heaviest 25 = .ok (.getfield 21, 3) := by decide +kernel
theorem dX6_heaviest_28 : decode cX6_heaviest 28 = .ok (.iload_n 2, 1) := by decide +kernel
theorem dX6_heaviest_29 : decode cX6_heaviest 29 = .ok (.invokevirtual 112, 3) := by decide +kernel
theorem dX6_heaviest_32 : decode cX6_heaviest 32 = .ok (.ireturn, 1) := by decide +kernel
set_option maxRecDepth 20000 in
theorem ggX6_game_X6_isEither : GoodIn wsX6_game wsX6_isEither := goodIn_r _ [5] (by decide +kernel) (by decide +kernel)
set_option maxRecDepth 20000 in
theorem gX6_game_X6_isEither : GoodIn wsX6_game (va_wsS RX6 73 yX6_isEither wsX6_isEither) := goodIn_app (goodIn_of _ (by decide +kernel)) ggX6_game_X6_isEither
set_option maxRecDepth 20000 in
theorem ggX6_game_X0_inMillionths : GoodIn wsX6_game wsX0_inMillionths := goodIn_r _ [10, 11, 12, 13, 14, 15, 16, 9, 17, 18, 19, 20, 21, 22, 23, 24, 25, 26, 27, 28, 29, 30, 31, 32, 33, 34, 35, 36, 37, 38, 39, 40, 41, 42, 43, 44, 45, 46, 47, 48, 49, 50, 51, 52, 53, 54, 55, 56, 57, 58, 59, 60, 61, 62, 63, 64, 65, 66, 67, 68, 69, 70, 71, 72, 73, 74, 75, 76, 77, 83, 84, 85, 86, 87, 88, 89, 90, 91, 92, 93, 94, 95, 96] (by decide +kernel) (by decide +kernel)
set_option maxRecDepth 20000 in
theorem gX6_game_X0_inMillionths : GoodIn wsX6_game (wsV RX6 115 RX0 yX0_inMillionths wsX0_inMillionths) := goodIn_app (goodIn_of _ (by decide +kernel)) ggX6_game_X0_inMillionths
theorem dX6_game_0 : decode cX6_game 0 = .ok (.iload_n 1, 1) := by decide +kernel
theorem dX6_game_1 : decode cX6_game 1 = .ok (.invokestatic 73, 3) := by decide +kernel
theorem dX6_game_4 : decode cX6_game 4 = .ok (.ifCond .ne 5, 3) := by decide +kernel
theorem dX6_game_7 : decode cX6_game 7 = .ok (.iconst (-1), 1) := by decide +kernel
theorem dX6_game_8 : decode cX6_game 8 = .ok (.ireturn, 1) := by decide +kernel
theorem dX6_game_9 : decode cX6_game 9 = .ok (.aload_n 0, 1) := by decide +kernel
theorem dX6_game_10 : decode cX6_game 10 = .ok (.getfield 21, 3) := by decide +kernel
theorem dX6_game_13 : decode cX6_game 13 = .ok (.iload_n 1, 1) := by decide +kernel
theorem dX6_game_14 : decode cX6_game 14 = .ok (.invokevirtual 115, 3) := by decide +kernel
theorem dX6_game_17 : decode cX6_game 17 = .ok (.l2i, 1) := by decide +kernel
end
section
theorem dX6_game_18 : decode cX6_game 18 = .ok (.ireturn, 1) := by decide +kernel
set_option maxRecDepth 20000 in
theorem ggX6_round_X6_within : GoodIn wsX6_round wsX6_within := goodIn_r _ [8] (by decide +kernel) (by decide +kernel)
set_option maxRecDepth 20000 in
theorem gX6_round_X6_within : GoodIn wsX6_round (va_wsS RX6 59 yX6_within wsX6_within) := goodIn_app (goodIn_of _ (by decide +kernel)) ggX6_round_X6_within
set_option maxRecDepth 20000 in
theorem ggX6_round_X6_isEither : GoodIn wsX6_round wsX6_isEither := goodIn_r _ [11] (by decide +kernel) (by decide +kernel)
set_option maxRecDepth 20000 in
theorem gX6_round_X6_isEither : GoodIn wsX6_round (va_wsS RX6 73 yX6_isEither wsX6_isEither) := goodIn_app (goodIn_of _ (by decide +kernel)) ggX6_round_X6_isEither
set_option maxRecDepth 20000 in
theorem ggX6_round_X0_inMillionths : GoodIn wsX6_round wsX0_inMillionths := goodIn_r _ [16, 17, 18, 19, 20, 21, 22, 15, 23, 24, 25, 26, 27, 28, 29, 30, 31, 32, 33, 34, 35, 36, 37, 38, 39, 40, 41, 42, 43, 44, 45, 46, 47, 48, 49, 50, 51, 52, 53, 54, 55, 56, 57, 58, 59, 60, 61, 62, 63, 64, 65, 66, 67, 68, 69, 70, 71, 72, 73, 74, 75, 76, 77, 78, 79, 80, 81, 82, 83, 119, 120, 121, 122, 123, 112, 113, 114, 115, 116, 117, 118, 124, 125] (by decide +kernel) (by decide +kernel)
set_option maxRecDepth 20000 in
theorem gX6_round_X0_inMillionths : GoodIn wsX6_round (wsV RX6 115 RX0 yX0_inMillionths wsX0_inMillionths) := goodIn_app (goodIn_of _ (by decide +kernel)) ggX6_round_X0_inMillionths
set_option maxRecDepth 20000 in
theorem ggX6_round_X2_ofSet : GoodIn wsX6_round wsX2_ofSet := goodIn_r _ [88, 89, 90, 91, 92, 93, 94, 95, 35, 96, 49, 50, 30, 51, 97, 98, 99, 100, 54, 55, 56, 101, 102, 87, 103, 104, 105, 76, 77, 67, 78, 69, 70, 71, 72, 73, 74, 106, 65, 66, 68, 126, 127, 128, 112, 113, 114, 115, 116, 117, 118, 124, 125] (by decide +kernel) (by decide +kernel)
set_option maxRecDepth 20000 in
theorem gX6_round_X2_ofSet : GoodIn wsX6_round (wsV RX6 122 RX2 yX2_ofSet wsX2_ofSet) := goodIn_app (goodIn_of _ (by decide +kernel)) ggX6_round_X2_ofSet
theorem dX6_round_0 : decode cX6_round 0 = .ok (.iload_n 1, 1) := by decide +kernel
theorem dX6_round_1 : decode cX6_round 1 = .ok (.iconst 0, 1) := by decide +kernel
theorem dX6_round_2 : decode cX6_round 2 = .ok (.aload_n 0, 1) := by decide +kernel
theorem dX6_round_3 : decode cX6_round 3 = .ok (.getfield 10, 3) := by decide +kernel
theorem dX6_round_6 : decode cX6_round 6 = .ok (.getfield 119, 3) := by decide +kernel
theorem dX6_round_9 : decode cX6_round 9 = .ok (.invokestatic 59, 3) := by decide +kernel
theorem dX6_round_12 : decode cX6_round 12 = .ok (.ifCond .eq 25, 3) := by decide +kernel
theorem dX6_round_15 : decode cX6_round 15 = .ok (.iload_n 2, 1) := by decide +kernel
theorem dX6_round_16 : decode cX6_round 16 = .ok (.iconst 0, 1) := by decide +kernel
theorem dX6_round_17 : decode cX6_round 17 = .ok (.aload_n 0, 1) := by decide +kernel
theorem dX6_round_18 : decode cX6_round 18 = .ok (.getfield 10, 3) := by decide +kernel
theorem dX6_round_21 : decode cX6_round 21 = .ok (.getfield 119, 3) := by decide +kernel
theorem dX6_round_24 : decode cX6_round 24 = .ok (.invokestatic 59, 3) := by decide +kernel
theorem dX6_round_27 : decode cX6_round 27 = .ok (.ifCond .eq 10, 3) := by decide +kernel
theorem dX6_round_30 : decode cX6_round 30 = .ok (.iload_n 3, 1) := by decide +kernel
theorem dX6_round_31 : decode cX6_round 31 = .ok (.invokestatic 73, 3) := by decide +kernel
theorem dX6_round_34 : decode cX6_round 34 = .ok (.ifCond .ne 5, 3) := by decide +kernel
theorem dX6_round_37 : decode cX6_round 37 = .ok (.iconst (-1), 1) := by decide +kernel
theorem dX6_round_38 : decode cX6_round 38 = .ok (.ireturn, 1) := by decide +kernel
theorem dX6_round_39 : decode cX6_round 39 = .ok (.aload_n 0, 1) := by decide +kernel
theorem dX6_round_40 : decode cX6_round 40 = .ok (.getfield 28, 3) := by decide +kernel
theorem dX6_round_43 : decode cX6_round 43 = .ok (.iload_n 1, 1) := by decide +kernel
theorem dX6_round_44 : decode cX6_round 44 = .ok (.iload_n 2, 1) := by decide +kernel
theorem dX6_round_45 : decode cX6_round 45 = .ok (.iload_n 3, 1) := by decide +kernel
theorem dX6_round_46 : decode cX6_round 46 = .ok (.aload_n 0, 1) := by decide +kernel
theorem dX6_round_47 : decode cX6_round 47 = .ok (.getfield 21, 3) := by decide +kernel
theorem dX6_round_50 : decode cX6_round 50 = .ok (.iconst 0, 1) := by decide +kernel
theorem dX6_round_51 : decode cX6_round 51 = .ok (.invokevirtual 115, 3) := by decide +kernel
theorem dX6_round_54 : decode cX6_round 54 = .ok (.aload_n 0, 1) := by decide +kernel
theorem dX6_round_55 : decode cX6_round 55 = .ok (.getfield 21, 3) := by decide +kernel
theorem dX6_round_58 : decode cX6_round 58 = .ok (.iconst 1, 1) := by decide +kernel
theorem dX6_round_59 : decode cX6_round 59 = .ok (.invokevirtual 115, 3) := by decide +kernel
theorem dX6_round_62 : decode cX6_round 62 = .ok (.invokevirtual 122, 3) := by decide +kernel
theorem dX6_round_65 : decode cX6_round 65 = .ok (.l2i, 1) := by decide +kernel
theorem dX6_round_66 : decode cX6_round 66 = .ok (.ireturn, 1) := by decide +kernel
set_option maxRecDepth 20000 in
theorem ggX6_match_X6_within : GoodIn wsX6_match wsX6_within := goodIn_r _ [8] (by decide +kernel) (by decide +kernel)
set_option maxRecDepth 20000 in
theorem gX6_match_X6_within : GoodIn wsX6_match (va_wsS RX6 59 yX6_within wsX6_within) := goodIn_app (goodIn_of _ (by decide +kernel)) ggX6_match_X6_within
set_option maxRecDepth 20000 in
theorem ggX6_match_X6_isEither : GoodIn wsX6_match wsX6_isEither := goodIn_r _ [11] (by decide +kernel) (by decide +kernel)
set_option maxRecDepth 20000 in
theorem gX6_match_X6_isEither : GoodIn wsX6_match (va_wsS RX6 73 yX6_isEither wsX6_isEither) := goodIn_app (goodIn_of _ (by decide +kernel)) ggX6_match_X6_isEither
set_option maxRecDepth 20000 in
theorem ggX6_match_X0_inMillionths : GoodIn wsX6_match wsX0_inMillionths := goodIn_r _ [16, 17, 18, 19, 20, 21, 22, 15, 23, 24, 25, 26, 27, 28, 29, 30, 31, 32, 33, 34, 35, 36, 37, 38, 39, 40, 41, 42, 43, 44, 45, 46, 47, 48, 49, 50, 51, 52, 53, 54, 55, 56, 57, 58, 59, 60, 61, 62, 63, 64, 65, 66, 67, 68, 69, 70, 71, 72, 73, 74, 75, 76, 77, 78, 79, 80, 81, 82, 83, 130, 131, 132, 133, 134, 123, 124, 125, 126, 127, 128, 129, 135, 136] (by decide +kernel) (by decide +kernel)
set_option maxRecDepth 20000 in
theorem gX6_match_X0_inMillionths : GoodIn wsX6_match (wsV RX6 115 RX0 yX0_inMillionths wsX0_inMillionths) := goodIn_app (goodIn_of _ (by decide +kernel)) ggX6_match_X0_inMillionths
set_option maxRecDepth 20000 in
theorem ggX6_match_X2_ofMatch : GoodIn wsX6_match wsX2_ofMatch := goodIn_r _ [88, 89, 90, 91, 92, 93, 94, 87, 95, 96, 97, 98, 99, 100, 101, 35, 102, 49, 50, 30, 51, 103, 104, 105, 106, 54, 55, 56, 107, 108, 109, 110, 111, 76, 77, 67, 78, 69, 70, 71, 72, 73, 74, 112, 65, 66, 68, 113, 114, 115, 116, 117, 137, 138, 139, 123, 124, 125, 126, 127, 128, 129, 135, 136] (by decide +kernel) (by decide +kernel)
set_option maxRecDepth 20000 in
theorem gX6_match_X2_ofMatch : GoodIn wsX6_match (wsV RX6 129 RX2 yX2_ofMatch wsX2_ofMatch) := goodIn_app (goodIn_of _ (by decide +kernel)) ggX6_match_X2_ofMatch
theorem dX6_match_0 : decode cX6_match 0 = .ok (.iload_n 1, 1) := by decide +kernel
theorem dX6_match_1 : decode cX6_match 1 = .ok (.iconst 0, 1) := by decide +kernel
theorem dX6_match_2 : decode cX6_match 2 = .ok (.aload_n 0, 1) := by decide +kernel
theorem dX6_match_3 : decode cX6_match 3 = .ok (.getfield 10, 3) := by decide +kernel
theorem dX6_match_6 : decode cX6_match 6 = .ok (.getfield 126, 3) := by decide +kernel
theorem dX6_match_9 : decode cX6_match 9 = .ok (.invokestatic 59, 3) := by decide +kernel
theorem dX6_match_12 : decode cX6_match 12 = .ok (.ifCond .eq 25, 3) := by decide +kernel
theorem dX6_match_15 : decode cX6_match 15 = .ok (.iload_n 2, 1) := by decide +kernel
theorem dX6_match_16 : decode cX6_match 16 = .ok (.iconst 0, 1) := by decide +kernel
theorem dX6_match_17 : decode cX6_match 17 = .ok (.aload_n 0, 1) := by decide +kernel
theorem dX6_match_18 : decode cX6_match 18 = .ok (.getfield 10, 3) := by decide +kernel
theorem dX6_match_21 : decode cX6_match 21 = .ok (.getfield 126, 3) := by decide +kernel
theorem dX6_match_24 : decode cX6_match 24 = .ok (.invokestatic 59, 3) := by decide +kernel
theorem dX6_match_27 : decode cX6_match 27 = .ok (.ifCond .eq 10, 3) := by decide +kernel
theorem dX6_match_30 : decode cX6_match 30 = .ok (.iload_n 3, 1) := by decide +kernel
theorem dX6_match_31 : decode cX6_match 31 = .ok (.invokestatic 73, 3) := by decide +kernel
theorem dX6_match_34 : decode cX6_match 34 = .ok (.ifCond .ne 5, 3) := by decide +kernel
theorem dX6_match_37 : decode cX6_match 37 = .ok (.iconst (-1), 1) := by decide +kernel
theorem dX6_match_38 : decode cX6_match 38 = .ok (.ireturn, 1) := by decide +kernel
theorem dX6_match_39 : decode cX6_match 39 = .ok (.iload_n 1, 1) := by decide +kernel
theorem dX6_match_40 : decode cX6_match 40 = .ok (.aload_n 0, 1) := by decide +kernel
theorem dX6_match_41 : decode cX6_match 41 = .ok (.getfield 10, 3) := by decide +kernel
theorem dX6_match_44 : decode cX6_match 44 = .ok (.getfield 126, 3) := by decide +kernel
theorem dX6_match_47 : decode cX6_match 47 = .ok (.if_icmp .ne 16, 3) := by decide +kernel
theorem dX6_match_50 : decode cX6_match 50 = .ok (.iload_n 2, 1) := by decide +kernel
theorem dX6_match_51 : decode cX6_match 51 = .ok (.aload_n 0, 1) := by decide +kernel
theorem dX6_match_52 : decode cX6_match 52 = .ok (.getfield 10, 3) := by decide +kernel
theorem dX6_match_55 : decode cX6_match 55 = .ok (.getfield 126, 3) := by decide +kernel
theorem dX6_match_58 : decode cX6_match 58 = .ok (.if_icmp .ne 5, 3) := by decide +kernel
theorem dX6_match_61 : decode cX6_match 61 = .ok (.iconst (-1), 1) := by decide +kernel
theorem dX6_match_62 : decode cX6_match 62 = .ok (.ireturn, 1) := by decide +kernel
theorem dX6_match_63 : decode cX6_match 63 = .ok (.aload_n 0, 1) := by decide +kernel
theorem dX6_match_64 : decode cX6_match 64 = .ok (.getfield 28, 3) := by decide +kernel
theorem dX6_match_67 : decode cX6_match 67 = .ok (.iload_n 1, 1) := by decide +kernel
theorem dX6_match_68 : decode cX6_match 68 = .ok (.iload_n 2, 1) := by decide +kernel
theorem dX6_match_69 : decode cX6_match 69 = .ok (.iload_n 3, 1) := by decide +kernel
theorem dX6_match_70 : decode cX6_match 70 = .ok (.aload_n 0, 1) := by decide +kernel
theorem dX6_match_71 : decode cX6_match 71 = .ok (.getfield 21, 3) := by decide +kernel
theorem dX6_match_74 : decode cX6_match 74 = .ok (.iconst 0, 1) := by decide +kernel
theorem dX6_match_75 : decode cX6_match 75 = .ok (.invokevirtual 115, 3) := by decide +kernel
theorem dX6_match_78 : decode cX6_match 78 = .ok (.aload_n 0, 1) := by decide +kernel
theorem dX6_match_79 : decode cX6_match 79 = .ok (.getfield 21, 3) := by decide +kernel
theorem dX6_match_82 : decode cX6_match 82 = .ok (.iconst 1, 1) := by decide +kernel
theorem dX6_match_83 : decode cX6_match 83 = .ok (.invokevirtual 115, 3) := by decide +kernel
theorem dX6_match_86 : decode cX6_match 86 = .ok (.invokevirtual 129, 3) := by decide +kernel
theorem dX6_match_89 : decode cX6_match 89 = .ok (.l2i, 1) := by decide +kernel
theorem dX6_match_90 : decode cX6_match 90 = .ok (.ireturn, 1) := by decide +kernel
set_option maxRecDepth 20000 in
theorem ggX6_point_X6_isEither : GoodIn wsX6_point wsX6_isEither := goodIn_r _ [6] (by decide +kernel) (by decide +kernel)
set_option maxRecDepth 20000 in
theorem gX6_point_X6_isEither : GoodIn wsX6_point (va_wsS RX6 73 yX6_isEither wsX6_isEither) := goodIn_app (goodIn_of _ (by decide +kernel)) ggX6_point_X6_isEither
set_option maxRecDepth 20000 in
theorem ggX6_point_X4_matchWinner : GoodIn wsX6_point wsX4_matchWinner := goodIn_r _ [11, 12, 13, 14, 15, 16, 17, 18, 19, 20, 21, 22, 23, 24, 91, 92, 93, 94, 95, 96, 97, 98, 99, 100, 101, 102, 103, 104, 105, 106, 107, 108, 109] (by decide +kernel) (by decide +kernel)
set_option maxRecDepth 20000 in
theorem gX6_point_X4_matchWinner : GoodIn wsX6_point (wsV RX6 132 RX4 yX4_matchWinner wsX4_matchWinner) := goodIn_app (goodIn_of _ (by decide +kernel)) ggX6_point_X4_matchWinner
set_option maxRecDepth 20000 in
theorem ggX6_point_X4_tell : GoodIn wsX6_point wsX4_tell := goodIn_r _ [28, 29, 30, 31, 32, 33, 34, 12, 35, 15, 36, 37, 38, 39, 40, 41, 42, 43, 44, 45, 10, 46, 14, 47, 48, 49, 19, 50, 51, 52, 53, 54, 55, 56, 57, 58, 59, 60, 61, 62, 63, 22, 23, 24, 64, 65, 66, 67, 68, 69, 70, 71, 72, 73, 74, 75, 76, 77, 78, 79, 80, 81, 82, 83, 84, 13, 85, 91, 92, 93, 94, 95, 96, 97, 98, 99, 100, 103, 104, 105, 106, 107, 108, 109, 101, 102] (by decide +kernel) (by decide +kernel)
set_option maxRecDepth 20000 in
theorem gX6_point_X4_tell : GoodIn wsX6_point (wsV RX6 136 RX4 yX4_tell wsX4_tell) := goodIn_app (goodIn_of _ (by decide +kernel)) ggX6_point_X4_tell
theorem dX6_point_0 : decode cX6_point 0 = .ok (.iload_n 1, 1) := by decide +kernel
theorem dX6_point_1 : decode cX6_point 1 = .ok (.invokestatic 73, 3) := by decide +kernel
theorem dX6_point_4 : decode cX6_point 4 = .ok (.ifCond .ne 5, 3) := by decide +kernel
theorem dX6_point_7 : decode cX6_point 7 = .ok (.iconst (-1), 1) := by decide +kernel
theorem dX6_point_8 : decode cX6_point 8 = .ok (.ireturn, 1) := by decide +kernel
theorem dX6_point_9 : decode cX6_point 9 = .ok (.aload_n 0, 1) := by decide +kernel
theorem dX6_point_10 : decode cX6_point 10 = .ok (.getfield 35, 3) := by decide +kernel
theorem dX6_point_13 : decode cX6_point 13 = .ok (.invokevirtual 132, 3) := by decide +kernel
theorem dX6_point_16 : decode cX6_point 16 = .ok (.bipush (-9), 2) := by decide +kernel
theorem dX6_point_18 : decode cX6_point 18 = .ok (.if_icmp .eq 6, 3) := by decide +kernel
theorem dX6_point_21 : decode cX6_point 21 = .ok (.bipush (-2), 2) := by decide +kernel
theorem dX6_point_23 : decode cX6_point 23 = .ok (.ireturn, 1) := by decide +kernel
theorem dX6_point_24 : decode cX6_point 24 = .ok (.aload_n 0, 1) := by decide +kernel
theorem dX6_point_25 : decode cX6_point 25 = .ok (.getfield 35, 3) := by decide +kernel
theorem dX6_point_28 : decode cX6_point 28 = .ok (.getfield 47, 3) := by decide +kernel
theorem dX6_point_31 : decode cX6_point 31 = .ok (.sipush 400, 3) := by decide +kernel
theorem dX6_point_34 : decode cX6_point 34 = .ok (.if_icmp .lt 6, 3) := by decide +kernel
theorem dX6_point_37 : decode cX6_point 37 = .ok (.bipush (-3), 2) := by decide +kernel
theorem dX6_point_39 : decode cX6_point 39 = .ok (.ireturn, 1) := by decide +kernel
theorem dX6_point_40 : decode cX6_point 40 = .ok (.aload_n 0, 1) := by decide +kernel
theorem dX6_point_41 : decode cX6_point 41 = .ok (.getfield 35, 3) := by decide +kernel
theorem dX6_point_44 : decode cX6_point 44 = .ok (.iload_n 1, 1) := by decide +kernel
theorem dX6_point_45 : decode cX6_point 45 = .ok (.invokevirtual 136, 3) := by decide +kernel
theorem dX6_point_48 : decode cX6_point 48 = .ok (.aload_n 0, 1) := by decide +kernel
theorem dX6_point_49 : decode cX6_point 49 = .ok (.getfield 35, 3) := by decide +kernel
theorem dX6_point_52 : decode cX6_point 52 = .ok (.getfield 47, 3) := by decide +kernel
theorem dX6_point_55 : decode cX6_point 55 = .ok (.ireturn, 1) := by decide +kernel
set_option maxRecDepth 20000 in
theorem ggX6_back_X6_within : GoodIn wsX6_back wsX6_within := goodIn_r _ [5] (by decide +kernel) (by decide +kernel)
set_option maxRecDepth 20000 in
theorem gX6_back_X6_within : GoodIn wsX6_back (va_wsS RX6 59 yX6_within wsX6_within) := goodIn_app (goodIn_of _ (by decide +kernel)) ggX6_back_X6_within
set_option maxRecDepth 20000 in
theorem ggX6_back_X4_takeBack : GoodIn wsX6_back wsX4_takeBack := goodIn_r _ [10, 11, 12, 13, 14, 15, 16, 17, 18, 19, 9, 20, 21, 22, 23, 24, 25, 26, 27, 28, 29, 30, 31, 32, 33, 34, 35, 36, 37, 38, 39, 40, 41, 42, 43, 44, 45, 46, 47, 48, 49, 50, 51, 52, 53, 54, 55, 56, 57, 58, 59, 60, 61, 62, 63, 64, 65, 66, 67, 68, 69, 70, 71, 72, 73, 74, 75, 76, 77, 78, 79, 80, 81, 82, 83, 84, 90, 91, 92, 93, 94, 95, 96, 97, 98, 99, 100, 101, 102, 103, 104, 105, 106, 107, 108] (by decide +kernel) (by decide +kernel)
set_option maxRecDepth 20000 in
theorem gX6_back_X4_takeBack : GoodIn wsX6_back (wsV RX6 138 RX4 yX4_takeBack wsX4_takeBack) := goodIn_app (goodIn_of _ (by decide +kernel)) ggX6_back_X4_takeBack
theorem dX6_back_0 : decode cX6_back 0 = .ok (.iload_n 1, 1) := by decide +kernel
theorem dX6_back_1 : decode cX6_back 1 = .ok (.iconst 1, 1) := by decide +kernel
theorem dX6_back_2 : decode cX6_back 2 = .ok (.sipush 400, 3) := by decide +kernel
theorem dX6_back_5 : decode cX6_back 5 = .ok (.invokestatic 59, 3) := by decide +kernel
theorem dX6_back_8 : decode cX6_back 8 = .ok (.ifCond .ne 5, 3) := by decide +kernel
theorem dX6_back_11 : decode cX6_back 11 = .ok (.iconst (-1), 1) := by decide +kernel
theorem dX6_back_12 : decode cX6_back 12 = .ok (.ireturn, 1) := by decide +kernel
theorem dX6_back_13 : decode cX6_back 13 = .ok (.aload_n 0, 1) := by decide +kernel
theorem dX6_back_14 : decode cX6_back 14 = .ok (.getfield 35, 3) := by decide +kernel
theorem dX6_back_17 : decode cX6_back 17 = .ok (.iload_n 1, 1) := by decide +kernel
theorem dX6_back_18 : decode cX6_back 18 = .ok (.invokevirtual 138, 3) := by decide +kernel
theorem dX6_back_21 : decode cX6_back 21 = .ok (.ireturn, 1) := by decide +kernel
set_option maxRecDepth 20000 in
theorem ggX6_score_X6_within : GoodIn wsX6_score wsX6_within := goodIn_r _ [5] (by decide +kernel) (by decide +kernel)
set_option maxRecDepth 20000 in
theorem gX6_score_X6_within : GoodIn wsX6_score (va_wsS RX6 59 yX6_within wsX6_within) := goodIn_app (goodIn_of _ (by decide +kernel)) ggX6_score_X6_within
set_option maxRecDepth 20000 in
theorem ggX6_score_X4_told : GoodIn wsX6_score wsX4_told := goodIn_r _ [10, 11, 12, 13, 14, 15, 16, 17, 18, 19, 20, 21, 22, 9, 23, 24, 25, 26, 27, 28, 29, 30, 31, 32, 33, 34, 35, 36, 37, 38, 39, 40, 41, 42, 48, 49, 50, 51, 52, 53, 54, 55, 56, 57, 58, 59, 60, 61, 62, 63, 64, 65, 66] (by decide +kernel) (by decide +kernel)
set_option maxRecDepth 20000 in
theorem gX6_score_X4_told : GoodIn wsX6_score (wsV RX6 141 RX4 yX4_told wsX4_told) := goodIn_app (goodIn_of _ (by decide +kernel)) ggX6_score_X4_told
theorem dX6_score_0 : decode cX6_score 0 = .ok (.iload_n 1, 1) := by decide +kernel
theorem dX6_score_1 : decode cX6_score 1 = .ok (.iconst 0, 1) := by decide +kernel
theorem dX6_score_2 : decode cX6_score 2 = .ok (.bipush 12, 2) := by decide +kernel
theorem dX6_score_4 : decode cX6_score 4 = .ok (.invokestatic 59, 3) := by decide +kernel
theorem dX6_score_7 : decode cX6_score 7 = .ok (.ifCond .ne 5, 3) := by decide +kernel
theorem dX6_score_10 : decode cX6_score 10 = .ok (.iconst (-1), 1) := by decide +kernel
theorem dX6_score_11 : decode cX6_score 11 = .ok (.ireturn, 1) := by decide +kernel
theorem dX6_score_12 : decode cX6_score 12 = .ok (.aload_n 0, 1) := by decide +kernel
theorem dX6_score_13 : decode cX6_score 13 = .ok (.getfield 35, 3) := by decide +kernel
theorem dX6_score_16 : decode cX6_score 16 = .ok (.iload_n 1, 1) := by decide +kernel
theorem dX6_score_17 : decode cX6_score 17 = .ok (.invokevirtual 141, 3) := by decide +kernel
theorem dX6_score_20 : decode cX6_score 20 = .ok (.ireturn, 1) := by decide +kernel
set_option maxRecDepth 20000 in
theorem ggX6_likeliest_X6_within : GoodIn wsX6_likeliest wsX6_within := goodIn_r _ [4] (by decide +kernel) (by decide +kernel)
set_option maxRecDepth 20000 in
theorem gX6_likeliest_X6_within : GoodIn wsX6_likeliest (va_wsS RX6 59 yX6_within wsX6_within) := goodIn_app (goodIn_of _ (by decide +kernel)) ggX6_likeliest_X6_within
set_option maxRecDepth 20000 in
theorem ggX6_likeliest_X6_likelihood : GoodIn wsX6_likeliest wsX6_likelihood := goodIn_r _ [7] (by decide +kernel) (by decide +kernel)
set_option maxRecDepth 20000 in
theorem gX6_likeliest_X6_likelihood : GoodIn wsX6_likeliest (va_wsS RX6 142 yX6_likelihood wsX6_likelihood) := goodIn_app (goodIn_of _ (by decide +kernel)) ggX6_likeliest_X6_likelihood
theorem dX6_likeliest_0 : decode cX6_likeliest 0 = .ok (.iload_n 1, 1) := by decide +kernel
theorem dX6_likeliest_1 : decode cX6_likeliest 1 = .ok (.iconst 0, 1) := by decide +kernel
theorem dX6_likeliest_2 : decode cX6_likeliest 2 = .ok (.bipush 18, 2) := by decide +kernel
theorem dX6_likeliest_4 : decode cX6_likeliest 4 = .ok (.invokestatic 59, 3) := by decide +kernel
theorem dX6_likeliest_7 : decode cX6_likeliest 7 = .ok (.ifCond .eq 21, 3) := by decide +kernel
theorem dX6_likeliest_10 : decode cX6_likeliest 10 = .ok (.iload_n 2, 1) := by decide +kernel
theorem dX6_likeliest_11 : decode cX6_likeliest 11 = .ok (.iconst 0, 1) := by decide +kernel
theorem dX6_likeliest_12 : decode cX6_likeliest 12 = .ok (.bipush 18, 2) := by decide +kernel
theorem dX6_likeliest_14 : decode cX6_likeliest 14 = .ok (.invokestatic 59, 3) := by decide +kernel
theorem dX6_likeliest_17 : decode cX6_likeliest 17 = .ok (.ifCond .eq 11, 3) := by decide +kernel
theorem dX6_likeliest_20 : decode cX6_likeliest 20 = .ok (.iload_n 1, 1) := by decide +kernel
theorem dX6_likeliest_21 : decode cX6_likeliest 21 = .ok (.iload_n 2, 1) := by decide +kernel
theorem dX6_likeliest_22 : decode cX6_likeliest 22 = .ok (.iadd, 1) := by decide +kernel
theorem dX6_likeliest_23 : decode cX6_likeliest 23 = .ok (.bipush 18, 2) := by decide +kernel
theorem dX6_likeliest_25 : decode cX6_likeliest 25 = .ok (.if_icmp .le 5, 3) := by decide +kernel
theorem dX6_likeliest_28 : decode cX6_likeliest 28 = .ok (.iconst (-1), 1) := by decide +kernel
theorem dX6_likeliest_29 : decode cX6_likeliest 29 = .ok (.ireturn, 1) := by decide +kernel
theorem dX6_likeliest_30 : decode cX6_likeliest 30 = .ok (.iconst 1, 1) := by decide +kernel
theorem dX6_likeliest_31 : decode cX6_likeliest 31 = .ok (.istore_n 3, 1) := by decide +kernel
theorem dX6_likeliest_32 : decode cX6_likeliest 32 = .ok (.iconst 2, 1) := by decide +kernel
theorem dX6_likeliest_33 : decode cX6_likeliest 33 = .ok (.istore 4, 2) := by decide +kernel
theorem dX6_likeliest_35 : decode cX6_likeliest 35 = .ok (.iload 4, 2) := by decide +kernel
theorem dX6_likeliest_37 : decode cX6_likeliest 37 = .ok (.bipush 9, 2) := by decide +kernel
theorem dX6_likeliest_39 : decode cX6_likeliest 39 = .ok (.if_icmp .gt 29, 3) := by decide +kernel
theorem dX6_likeliest_42 : decode cX6_likeliest 42 = .ok (.iload 4, 2) := by decide +kernel
theorem dX6_likeliest_44 : decode cX6_likeliest 44 = .ok (.iload_n 1, 1) := by decide +kernel
theorem dX6_likeliest_45 : decode cX6_likeliest 45 = .ok (.iload_n 2, 1) := by decide +kernel
theorem dX6_likeliest_46 : decode cX6_likeliest 46 = .ok (.invokestatic 142, 3) := by decide +kernel
theorem dX6_likeliest_49 : decode cX6_likeliest 49 = .ok (.iload_n 3, 1) := by decide +kernel
theorem dX6_likeliest_50 : decode cX6_likeliest 50 = .ok (.iload_n 1, 1) := by decide +kernel
theorem dX6_likeliest_51 : decode cX6_likeliest 51 = .ok (.iload_n 2, 1) := by decide +kernel
theorem dX6_likeliest_52 : decode cX6_likeliest 52 = .ok (.invokestatic 142, 3) := by decide +kernel
theorem dX6_likeliest_55 : decode cX6_likeliest 55 = .ok (.lcmp, 1) := by decide +kernel
theorem dX6_likeliest_56 : decode cX6_likeliest 56 = .ok (.ifCond .le 6, 3) := by decide +kernel
theorem dX6_likeliest_59 : decode cX6_likeliest 59 = .ok (.iload 4, 2) := by decide +kernel
theorem dX6_likeliest_61 : decode cX6_likeliest 61 = .ok (.istore_n 3, 1) := by decide +kernel
theorem dX6_likeliest_62 : decode cX6_likeliest 62 = .ok (.iinc 4 1, 3) := by decide +kernel
theorem dX6_likeliest_65 : decode cX6_likeliest 65 = .ok (.goto (-30), 3) := by decide +kernel
theorem dX6_likeliest_68 : decode cX6_likeliest 68 = .ok (.iload_n 3, 1) := by decide +kernel
theorem dX6_likeliest_69 : decode cX6_likeliest 69 = .ok (.ireturn, 1) := by decide +kernel
set_option maxRecDepth 20000 in
theorem ggX6_count_X5_told : GoodIn wsX6_count wsX5_told := goodIn_r _ [6, 7, 8, 9, 10, 11, 12, 13, 19, 20, 21, 22, 23, 24, 25] (by decide +kernel) (by decide +kernel)
set_option maxRecDepth 20000 in
theorem gX6_count_X5_told : GoodIn wsX6_count (wsV RX6 51 RX5 yX5_told wsX5_told) := goodIn_app (goodIn_of _ (by decide +kernel)) ggX6_count_X5_told
theorem dX6_count_0 : decode cX6_count 0 = .ok (.aload_n 0, 1) := by decide +kernel
theorem dX6_count_1 : decode cX6_count 1 = .ok (.getfield 10, 3) := by decide +kernel
theorem dX6_count_4 : decode cX6_count 4 = .ok (.iload_n 1, 1) := by decide +kernel
theorem dX6_count_5 : decode cX6_count 5 = .ok (.invokevirtual 51, 3) := by decide +kernel
theorem dX6_count_8 : decode cX6_count 8 = .ok (.ireturn, 1) := by decide +kernel
theorem dX6_trace_0 : decode cX6_trace 0 = .ok (.aload_n 0, 1) := by decide +kernel
theorem dX6_trace_1 : decode cX6_trace 1 = .ok (.getfield 39, 3) := by decide +kernel
theorem dX6_trace_4 : decode cX6_trace 4 = .ok (.lreturn, 1) := by decide +kernel
theorem dX6_within_0 : decode cX6_within 0 = .ok (.iload_n 1, 1) := by decide +kernel
theorem dX6_within_1 : decode cX6_within 1 = .ok (.iload_n 0, 1) := by decide +kernel
theorem dX6_within_2 : decode cX6_within 2 = .ok (.if_icmp .gt 12, 3) := by decide +kernel
theorem dX6_within_5 : decode cX6_within 5 = .ok (.iload_n 0, 1) := by decide +kernel
theorem dX6_within_6 : decode cX6_within 6 = .ok (.iload_n 2, 1) := by decide +kernel
theorem dX6_within_7 : decode cX6_within 7 = .ok (.if_icmp .gt 7, 3) := by decide +kernel
theorem dX6_within_10 : decode cX6_within 10 = .ok (.iconst 1, 1) := by decide +kernel
theorem dX6_within_11 : decode cX6_within 11 = .ok (.goto 4, 3) := by decide +kernel
theorem dX6_within_14 : decode cX6_within 14 = .ok (.iconst 0, 1) := by decide +kernel
theorem dX6_within_15 : decode cX6_within 15 = .ok (.ireturn, 1) := by decide +kernel
theorem dX6_isEither_0 : decode cX6_isEither 0 = .ok (.iload_n 0, 1) := by decide +kernel
theorem dX6_isEither_1 : decode cX6_isEither 1 = .ok (.ifCond .eq 8, 3) := by decide +kernel
theorem dX6_isEither_4 : decode cX6_isEither 4 = .ok (.iload_n 0, 1) := by decide +kernel
theorem dX6_isEither_5 : decode cX6_isEither 5 = .ok (.iconst 1, 1) := by decide +kernel
theorem dX6_isEither_6 : decode cX6_isEither 6 = .ok (.if_icmp .ne 7, 3) := by decide +kernel
theorem dX6_isEither_9 : decode cX6_isEither 9 = .ok (.iconst 1, 1) := by decide +kernel
theorem dX6_isEither_10 : decode cX6_isEither 10 = .ok (.goto 4, 3) := by decide +kernel
theorem dX6_isEither_13 : decode cX6_isEither 13 = .ok (.iconst 0, 1) := by decide +kernel
theorem dX6_isEither_14 : decode cX6_isEither 14 = .ok (.ireturn, 1) := by decide +kernel
set_option maxRecDepth 20000 in
theorem ggX6_isScore_X6_within : GoodIn wsX6_isScore wsX6_within := goodIn_r _ [7] (by decide +kernel) (by decide +kernel)
set_option maxRecDepth 20000 in
theorem gX6_isScore_X6_within : GoodIn wsX6_isScore (va_wsS RX6 59 yX6_within wsX6_within) := goodIn_app (goodIn_of _ (by decide +kernel)) ggX6_isScore_X6_within
theorem dX6_isScore_0 : decode cX6_isScore 0 = .ok (.aload_n 0, 1) := by decide +kernel
theorem dX6_isScore_1 : decode cX6_isScore 1 = .ok (.getfield 10, 3) := by decide +kernel
theorem dX6_isScore_4 : decode cX6_isScore 4 = .ok (.getfield 106, 3) := by decide +kernel
theorem dX6_isScore_7 : decode cX6_isScore 7 = .ok (.istore_n 3, 1) := by decide +kernel
theorem dX6_isScore_8 : decode cX6_isScore 8 = .ok (.iload_n 1, 1) := by decide +kernel
theorem dX6_isScore_9 : decode cX6_isScore 9 = .ok (.iconst 0, 1) := by decide +kernel
theorem dX6_isScore_10 : decode cX6_isScore 10 = .ok (.iload_n 3, 1) := by decide +kernel
theorem dX6_isScore_11 : decode cX6_isScore 11 = .ok (.invokestatic 59, 3) := by decide +kernel
theorem dX6_isScore_14 : decode cX6_isScore 14 = .ok (.ifCond .eq 36, 3) := by decide +kernel
theorem dX6_isScore_17 : decode cX6_isScore 17 = .ok (.iload_n 2, 1) := by decide +kernel
theorem dX6_isScore_18 : decode cX6_isScore 18 = .ok (.iconst 0, 1) := by decide +kernel
theorem dX6_isScore_19 : decode cX6_isScore 19 = .ok (.iload_n 3, 1) := by decide +kernel
theorem dX6_isScore_20 : decode cX6_isScore 20 = .ok (.invokestatic 59, 3) := by decide +kernel
theorem dX6_isScore_23 : decode cX6_isScore 23 = .ok (.ifCond .eq 27, 3) := by decide +kernel
theorem dX6_isScore_26 : decode cX6_isScore 26 = .ok (.aload_n 0, 1) := by decide +kernel
theorem dX6_isScore_27 : decode cX6_isScore 27 = .ok (.getfield 10, 3) := by decide +kernel
theorem dX6_isScore_30 : decode cX6_isScore 30 = .ok (.getfield 103, 3) := by decide +kernel
theorem dX6_isScore_33 : decode cX6_isScore 33 = .ok (.ifCond .eq 13, 3) := by decide +kernel
theorem dX6_isScore_36 : decode cX6_isScore 36 = .ok (.iload_n 1, 1) := by decide +kernel
theorem dX6_isScore_37 : decode cX6_isScore 37 = .ok (.iload_n 3, 1) := by decide +kernel
theorem dX6_isScore_38 : decode cX6_isScore 38 = .ok (.if_icmp .lt 8, 3) := by decide +kernel
theorem dX6_isScore_41 : decode cX6_isScore 41 = .ok (.iload_n 2, 1) := by decide +kernel
theorem dX6_isScore_42 : decode cX6_isScore 42 = .ok (.iload_n 3, 1) := by decide +kernel
theorem dX6_isScore_43 : decode cX6_isScore 43 = .ok (.if_icmp .ge 7, 3) := by decide +kernel
theorem dX6_isScore_46 : decode cX6_isScore 46 = .ok (.iconst 1, 1) := by decide +kernel
theorem dX6_isScore_47 : decode cX6_isScore 47 = .ok (.goto 4, 3) := by decide +kernel
theorem dX6_isScore_50 : decode cX6_isScore 50 = .ok (.iconst 0, 1) := by decide +kernel
theorem dX6_isScore_51 : decode cX6_isScore 51 = .ok (.ireturn, 1) := by decide +kernel
theorem dX6_asked_0 : decode cX6_asked 0 = .ok (.iload_n 0, 1) := by decide +kernel
theorem dX6_asked_1 : decode cX6_asked 1 = .ok (.ifCond .ne 7, 3) := by decide +kernel
theorem dX6_asked_4 : decode cX6_asked 4 = .ok (.iconst 1, 1) := by decide +kernel
theorem dX6_asked_5 : decode cX6_asked 5 = .ok (.goto 15, 3) := by decide +kernel
theorem dX6_asked_8 : decode cX6_asked 8 = .ok (.iload_n 0, 1) := by decide +kernel
theorem dX6_asked_9 : decode cX6_asked 9 = .ok (.iconst 1, 1) := by decide +kernel
theorem dX6_asked_10 : decode cX6_asked 10 = .ok (.if_icmp .ne 8, 3) := by decide +kernel
theorem dX6_asked_13 : decode cX6_asked 13 = .ok (.bipush 11, 2) := by decide +kernel
theorem dX6_asked_15 : decode cX6_asked 15 = .ok (.goto 5, 3) := by decide +kernel
theorem dX6_asked_18 : decode cX6_asked 18 = .ok (.bipush 111, 2) := by decide +kernel
theorem dX6_asked_20 : decode cX6_asked 20 = .ok (.ireturn, 1) := by decide +kernel
theorem dX6_likelihood_0 : decode cX6_likelihood 0 = .ok (.lconst 1, 1) := by decide +kernel
theorem dX6_likelihood_1 : decode cX6_likelihood 1 = .ok (.lstore_n 3, 1) := by decide +kernel
theorem dX6_likelihood_2 : decode cX6_likelihood 2 = .ok (.iconst 0, 1) := by decide +kernel
theorem dX6_likelihood_3 : decode cX6_likelihood 3 = .ok (.istore 5, 2) := by decide +kernel
theorem dX6_likelihood_5 : decode cX6_likelihood 5 = .ok (.iload 5, 2) := by decide +kernel
theorem dX6_likelihood_7 : decode cX6_likelihood 7 = .ok (.iload_n 1, 1) := by decide +kernel
theorem dX6_likelihood_8 : decode cX6_likelihood 8 = .ok (.if_icmp .ge 14, 3) := by decide +kernel
theorem dX6_likelihood_11 : decode cX6_likelihood 11 = .ok (.lload_n 3, 1) := by decide +kernel
theorem dX6_likelihood_12 : decode cX6_likelihood 12 = .ok (.iload_n 0, 1) := by decide +kernel
theorem dX6_likelihood_13 : decode cX6_likelihood 13 = .ok (.i2l, 1) := by decide +kernel
theorem dX6_likelihood_14 : decode cX6_likelihood 14 = .ok (.lmul, 1) := by decide +kernel
theorem dX6_likelihood_15 : decode cX6_likelihood 15 = .ok (.lstore_n 3, 1) := by decide +kernel
theorem dX6_likelihood_16 : decode cX6_likelihood 16 = .ok (.iinc 5 1, 3) := by decide +kernel
theorem dX6_likelihood_19 : decode cX6_likelihood 19 = .ok (.goto (-14), 3) := by decide +kernel
theorem dX6_likelihood_22 : decode cX6_likelihood 22 = .ok (.iconst 0, 1) := by decide +kernel
theorem dX6_likelihood_23 : decode cX6_likelihood 23 = .ok (.istore 5, 2) := by decide +kernel
theorem dX6_likelihood_25 : decode cX6_likelihood 25 = .ok (.iload 5, 2) := by decide +kernel
theorem dX6_likelihood_27 : decode cX6_likelihood 27 = .ok (.iload_n 2, 1) := by decide +kernel
theorem dX6_likelihood_28 : decode cX6_likelihood 28 = .ok (.if_icmp .ge 17, 3) := by decide +kernel
theorem dX6_likelihood_31 : decode cX6_likelihood 31 = .ok (.lload_n 3, 1) := by decide +kernel
theorem dX6_likelihood_32 : decode cX6_likelihood 32 = .ok (.bipush 10, 2) := by decide +kernel
theorem dX6_likelihood_34 : decode cX6_likelihood 34 = .ok (.iload_n 0, 1) := by decide +kernel
theorem dX6_likelihood_35 : decode cX6_likelihood 35 = .ok (.isub, 1) := by decide +kernel
theorem dX6_likelihood_36 : decode cX6_likelihood 36 = .ok (.i2l, 1) := by decide +kernel
theorem dX6_likelihood_37 : decode cX6_likelihood 37 = .ok (.lmul, 1) := by decide +kernel
theorem dX6_likelihood_38 : decode cX6_likelihood 38 = .ok (.lstore_n 3, 1) := by decide +kernel
theorem dX6_likelihood_39 : decode cX6_likelihood 39 = .ok (.iinc 5 1, 3) := by decide +kernel
theorem dX6_likelihood_42 : decode cX6_likelihood 42 = .ok (.goto (-17), 3) := by decide +kernel
theorem dX6_likelihood_45 : decode cX6_likelihood 45 = .ok (.lload_n 3, 1) := by decide +kernel
theorem dX6_likelihood_46 : decode cX6_likelihood 46 = .ok (.lreturn, 1) := by decide +kernel
set_option maxRecDepth 20000 in
theorem ggX6_inLeastForm_X6_greatestDivisor : GoodIn wsX6_inLeastForm wsX6_greatestDivisor := goodIn_r _ [4] (by decide +kernel) (by decide +kernel)
set_option maxRecDepth 20000 in
theorem gX6_inLeastForm_X6_greatestDivisor : GoodIn wsX6_inLeastForm (va_wsS RX6 146 yX6_greatestDivisor wsX6_greatestDivisor) := goodIn_app (goodIn_of _ (by decide +kernel)) ggX6_inLeastForm_X6_greatestDivisor
theorem dX6_inLeastForm_0 : decode cX6_inLeastForm 0 = .ok (.lload_n 0, 1) := by decide +kernel
theorem dX6_inLeastForm_1 : decode cX6_inLeastForm 1 = .ok (.lload_n 2, 1) := by decide +kernel
theorem dX6_inLeastForm_2 : decode cX6_inLeastForm 2 = .ok (.invokestatic 146, 3) := by decide +kernel
theorem dX6_inLeastForm_5 : decode cX6_inLeastForm 5 = .ok (.lstore 5, 2) := by decide +kernel
theorem dX6_inLeastForm_7 : decode cX6_inLeastForm 7 = .ok (.iload 4, 2) := by decide +kernel
theorem dX6_inLeastForm_9 : decode cX6_inLeastForm 9 = .ok (.ifCond .ne 7, 3) := by decide +kernel
theorem dX6_inLeastForm_12 : decode cX6_inLeastForm 12 = .ok (.lload_n 0, 1) := by decide +kernel
theorem dX6_inLeastForm_13 : decode cX6_inLeastForm 13 = .ok (.goto 4, 3) := by decide +kernel
theorem dX6_inLeastForm_16 : decode cX6_inLeastForm 16 = .ok (.lload_n 2, 1) := by decide +kernel
theorem dX6_inLeastForm_17 : decode cX6_inLeastForm 17 = .ok (.lstore 7, 2) := by decide +kernel
theorem dX6_inLeastForm_19 : decode cX6_inLeastForm 19 = .ok (.lload 5, 2) := by decide +kernel
theorem dX6_inLeastForm_21 : decode cX6_inLeastForm 21 = .ok (.lconst 1, 1) := by decide +kernel
theorem dX6_inLeastForm_22 : decode cX6_inLeastForm 22 = .ok (.lcmp, 1) := by decide +kernel
theorem dX6_inLeastForm_23 : decode cX6_inLeastForm 23 = .ok (.ifCond .le 11, 3) := by decide +kernel
theorem dX6_inLeastForm_26 : decode cX6_inLeastForm 26 = .ok (.lload 7, 2) := by decide +kernel
theorem dX6_inLeastForm_28 : decode cX6_inLeastForm 28 = .ok (.lload 5, 2) := by decide +kernel
theorem dX6_inLeastForm_30 : decode cX6_inLeastForm 30 = .ok (.ldiv, 1) := by decide +kernel
theorem dX6_inLeastForm_31 : decode cX6_inLeastForm 31 = .ok (.goto 5, 3) := by decide +kernel
theorem dX6_inLeastForm_34 : decode cX6_inLeastForm 34 = .ok (.lload 7, 2) := by decide +kernel
theorem dX6_inLeastForm_36 : decode cX6_inLeastForm 36 = .ok (.lreturn, 1) := by decide +kernel
theorem dX6_greatestDivisor_0 : decode cX6_greatestDivisor 0 = .ok (.lload_n 0, 1) := by decide +kernel
theorem dX6_greatestDivisor_1 : decode cX6_greatestDivisor 1 = .ok (.lstore 4, 2) := by decide +kernel
theorem dX6_greatestDivisor_3 : decode cX6_greatestDivisor 3 = .ok (.lload_n 2, 1) := by decide +kernel
theorem dX6_greatestDivisor_4 : decode cX6_greatestDivisor 4 = .ok (.lstore 6, 2) := by decide +kernel
theorem dX6_greatestDivisor_6 : decode cX6_greatestDivisor 6 = .ok (.iconst 0, 1) := by decide +kernel
theorem dX6_greatestDivisor_7 : decode cX6_greatestDivisor 7 = .ok (.istore 8, 2) := by decide +kernel
theorem dX6_greatestDivisor_9 : decode cX6_greatestDivisor 9 = .ok (.iload 8, 2) := by decide +kernel
theorem dX6_greatestDivisor_11 : decode cX6_greatestDivisor 11 = .ok (.sipush 200, 3) := by decide +kernel
theorem dX6_greatestDivisor_14 : decode cX6_greatestDivisor 14 = .ok (.if_icmp .ge 31, 3) := by decide +kernel
theorem dX6_greatestDivisor_17 : decode cX6_greatestDivisor 17 = .ok (.lload 6, 2) := by decide +kernel
theorem dX6_greatestDivisor_19 : decode cX6_greatestDivisor 19 = .ok (.lconst 0, 1) := by decide +kernel
theorem dX6_greatestDivisor_20 : decode cX6_greatestDivisor 20 = .ok (.lcmp, 1) := by decide +kernel
theorem dX6_greatestDivisor_21 : decode cX6_greatestDivisor 21 = .ok (.ifCond .le 24, 3) := by decide +kernel
theorem dX6_greatestDivisor_24 : decode cX6_greatestDivisor 24 = .ok (.lload 4, 2) := by decide +kernel
theorem dX6_greatestDivisor_26 : decode cX6_greatestDivisor 26 = .ok (.lload 6, 2) := by decide +kernel
theorem dX6_greatestDivisor_28 : decode cX6_greatestDivisor 28 = .ok (.lrem, 1) := by decide +kernel
theorem dX6_greatestDivisor_29 : decode cX6_greatestDivisor 29 = .ok (.lstore 9, 2) := by decide +kernel
theorem dX6_greatestDivisor_31 : decode cX6_greatestDivisor 31 = .ok (.lload 6, 2) := by decide +kernel
theorem dX6_greatestDivisor_33 : decode cX6_greatestDivisor 33 = .ok (.lstore 4, 2) := by decide +kernel
theorem dX6_greatestDivisor_35 : decode cX6_greatestDivisor 35 = .ok (.lload 9, 2) := by decide +kernel
theorem dX6_greatestDivisor_37 : decode cX6_greatestDivisor 37 = .ok (.lstore 6, 2) := by decide +kernel
theorem dX6_greatestDivisor_39 : decode cX6_greatestDivisor 39 = .ok (.iinc 8 1, 3) := by decide +kernel
theorem dX6_greatestDivisor_42 : decode cX6_greatestDivisor 42 = .ok (.goto (-33), 3) := by decide +kernel
theorem dX6_greatestDivisor_45 : decode cX6_greatestDivisor 45 = .ok (.lload 4, 2) := by decide +kernel
theorem dX6_greatestDivisor_47 : decode cX6_greatestDivisor 47 = .ok (.lreturn, 1) := by decide +kernel
set_option maxRecDepth 20000 in
theorem ggX7_init_X7_replays : GoodIn wsX7_init wsX7_replays := goodIn_r _ [16, 11, 17, 18, 6, 5, 19, 20, 21, 15, 22, 23, 24, 25, 26, 27, 28, 29, 30, 31, 32, 33, 34, 35, 36, 37, 38, 39, 40, 41] (by decide +kernel) (by decide +kernel)
set_option maxRecDepth 20000 in
theorem gX7_init_X7_replays : GoodIn wsX7_init (wsV RX7 29 RX7 yX7_replays wsX7_replays) := goodIn_app (goodIn_of _ (by decide +kernel)) ggX7_init_X7_replays
theorem dX7_init_0 : decode cX7_init 0 = .ok (.aload_n 0, 1) := by decide +kernel
theorem dX7_init_1 : decode cX7_init 1 = .ok (.invokespecial 1, 3) := by decide +kernel
theorem dX7_init_4 : decode cX7_init 4 = .ok (.aload_n 0, 1) := by decide +kernel
theorem dX7_init_5 : decode cX7_init 5 = .ok (.bipush 7, 2) := by decide +kernel
theorem dX7_init_7 : decode cX7_init 7 = .ok (.newarray .int, 2) := by decide +kernel
theorem dX7_init_9 : decode cX7_init 9 = .ok (.putfield 7, 3) := by decide +kernel
theorem dX7_init_12 : decode cX7_init 12 = .ok (.aload_n 0, 1) := by decide +kernel
theorem dX7_init_13 : decode cX7_init 13 = .ok (.sipush 400, 3) := by decide +kernel
theorem dX7_init_16 : decode cX7_init 16 = .ok (.newarray .int, 2) := by decide +kernel
theorem dX7_init_18 : decode cX7_init 18 = .ok (.putfield 13, 3) := by decide +kernel
theorem dX7_init_21 : decode cX7_init 21 = .ok (.aload_n 0, 1) := by decide +kernel
theorem dX7_init_22 : decode cX7_init 22 = .ok (.bipush 49, 2) := by decide +kernel
theorem dX7_init_24 : decode cX7_init 24 = .ok (.newarray .long, 2) := by decide +kernel
theorem dX7_init_26 : decode cX7_init 26 = .ok (.putfield 16, 3) := by decide +kernel
theorem dX7_init_29 : decode cX7_init 29 = .ok (.aload_n 0, 1) := by decide +kernel
theorem dX7_init_30 : decode cX7_init 30 = .ok (.bipush 49, 2) := by decide +kernel
theorem dX7_init_32 : decode cX7_init 32 = .ok (.newarray .long, 2) := by decide +kernel
theorem dX7_init_34 : decode cX7_init 34 = .ok (.putfield 20, 3) := by decide +kernel
theorem dX7_init_37 : decode cX7_init 37 = .ok (.aload_n 0, 1) := by decide +kernel
theorem dX7_init_38 : decode cX7_init 38 = .ok (.sipush 128, 3) := by decide +kernel
theorem dX7_init_41 : decode cX7_init 41 = .ok (.newarray .long, 2) := by decide +kernel
theorem dX7_init_43 : decode cX7_init 43 = .ok (.putfield 23, 3) := by decide +kernel
theorem dX7_init_46 : decode cX7_init 46 = .ok (.aload_n 0, 1) := by decide +kernel
theorem dX7_init_47 : decode cX7_init 47 = .ok (.bipush 13, 2) := by decide +kernel
theorem dX7_init_49 : decode cX7_init 49 = .ok (.newarray .int, 2) := by decide +kernel
theorem dX7_init_51 : decode cX7_init 51 = .ok (.putfield 26, 3) := by decide +kernel
theorem dX7_init_54 : decode cX7_init 54 = .ok (.aload_n 0, 1) := by decide +kernel
theorem dX7_init_55 : decode cX7_init 55 = .ok (.getfield 7, 3) := by decide +kernel
theorem dX7_init_58 : decode cX7_init 58 = .ok (.iconst 0, 1) := by decide +kernel
theorem dX7_init_59 : decode cX7_init 59 = .ok (.bipush 6, 2) := by decide +kernel
theorem dX7_init_61 : decode cX7_init 61 = .ok (.iastore, 1) := by decide +kernel
theorem dX7_init_62 : decode cX7_init 62 = .ok (.aload_n 0, 1) := by decide +kernel
theorem dX7_init_63 : decode cX7_init 63 = .ok (.getfield 7, 3) := by decide +kernel
theorem dX7_init_66 : decode cX7_init 66 = .ok (.iconst 1, 1) := by decide +kernel
theorem dX7_init_67 : decode cX7_init 67 = .ok (.iconst 4, 1) := by decide +kernel
theorem dX7_init_68 : decode cX7_init 68 = .ok (.iastore, 1) := by decide +kernel
theorem dX7_init_69 : decode cX7_init 69 = .ok (.aload_n 0, 1) := by decide +kernel
theorem dX7_init_70 : decode cX7_init 70 = .ok (.getfield 7, 3) := by decide +kernel
theorem dX7_init_73 : decode cX7_init 73 = .ok (.iconst 2, 1) := by decide +kernel
theorem dX7_init_74 : decode cX7_init 74 = .ok (.iconst 4, 1) := by decide +kernel
theorem dX7_init_75 : decode cX7_init 75 = .ok (.iastore, 1) := by decide +kernel
theorem dX7_init_76 : decode cX7_init 76 = .ok (.aload_n 0, 1) := by decide +kernel
theorem dX7_init_77 : decode cX7_init 77 = .ok (.getfield 7, 3) := by decide +kernel
theorem dX7_init_80 : decode cX7_init 80 = .ok (.iconst 3, 1) := by decide +kernel
theorem dX7_init_81 : decode cX7_init 81 = .ok (.bipush 6, 2) := by decide +kernel
theorem dX7_init_83 : decode cX7_init 83 = .ok (.iastore, 1) := by decide +kernel
theorem dX7_init_84 : decode cX7_init 84 = .ok (.aload_n 0, 1) := by decide +kernel
theorem dX7_init_85 : decode cX7_init 85 = .ok (.getfield 7, 3) := by decide +kernel
theorem dX7_init_88 : decode cX7_init 88 = .ok (.iconst 4, 1) := by decide +kernel
theorem dX7_init_89 : decode cX7_init 89 = .ok (.iconst 2, 1) := by decide +kernel
theorem dX7_init_90 : decode cX7_init 90 = .ok (.iastore, 1) := by decide +kernel
theorem dX7_init_91 : decode cX7_init 91 = .ok (.aload_n 0, 1) := by decide +kernel
theorem dX7_init_92 : decode cX7_init 92 = .ok (.invokevirtual 29, 3) := by decide +kernel
theorem dX7_init_95 : decode cX7_init 95 = .ok (.return_, 1) := by decide +kernel
theorem dX7_in_0 : decode cX7_in 0 = .ok (.iload_n 0, 1) := by decide +kernel
theorem dX7_in_1 : decode cX7_in 1 = .ok (.iload_n 1, 1) := by decide +kernel
theorem dX7_in_2 : decode cX7_in 2 = .ok (.if_icmp .lt 12, 3) := by decide +kernel
theorem dX7_in_5 : decode cX7_in 5 = .ok (.iload_n 0, 1) := by decide +kernel
theorem dX7_in_6 : decode cX7_in 6 = .ok (.iload_n 2, 1) := by decide +kernel
theorem dX7_in_7 : decode cX7_in 7 = .ok (.if_icmp .gt 7, 3) := by decide +kernel
theorem dX7_in_10 : decode cX7_in 10 = .ok (.iconst 1, 1) := by decide +kernel
theorem dX7_in_11 : decode cX7_in 11 = .ok (.goto 4, 3) := by decide +kernel
theorem dX7_in_14 : decode cX7_in 14 = .ok (.iconst 0, 1) := by decide +kernel
theorem dX7_in_15 : decode cX7_in 15 = .ok (.ireturn, 1) := by decide +kernel
theorem dX7_most_0 : decode cX7_most 0 = .ok (.iload_n 1, 1) := by decide +kernel
theorem dX7_most_1 : decode cX7_most 1 = .ok (.tableswitch 72 0 5 #[39, 39, 42, 44, 47, 49], 39) := by decide +kernel
theorem dX7_most_40 : decode cX7_most 40 = .ok (.bipush 9, 2) := by decide +kernel
theorem dX7_most_42 : decode cX7_most 42 = .ok (.ireturn, 1) := by decide +kernel
theorem dX7_most_43 : decode cX7_most 43 = .ok (.iconst 5, 1) := by decide +kernel
theorem dX7_most_44 : decode cX7_most 44 = .ok (.ireturn, 1) := by decide +kernel
theorem dX7_most_45 : decode cX7_most 45 = .ok (.bipush 6, 2) := by decide +kernel
theorem dX7_most_47 : decode cX7_most 47 = .ok (.ireturn, 1) := by decide +kernel
theorem dX7_most_48 : decode cX7_most 48 = .ok (.iconst 3, 1) := by decide +kernel
theorem dX7_most_49 : decode cX7_most 49 = .ok (.ireturn, 1) := by decide +kernel
theorem dX7_most_50 : decode cX7_most 50 = .ok (.aload_n 0, 1) := by decide +kernel
theorem dX7_most_51 : decode cX7_most 51 = .ok (.getfield 7, 3) := by decide +kernel
theorem dX7_most_54 : decode cX7_most 54 = .ok (.iconst 2, 1) := by decide +kernel
theorem dX7_most_55 : decode cX7_most 55 = .ok (.iaload, 1) := by decide +kernel
theorem dX7_most_56 : decode cX7_most 56 = .ok (.iconst 2, 1) := by decide +kernel
theorem dX7_most_57 : decode cX7_most 57 = .ok (.if_icmp .ge 7, 3) := by decide +kernel
theorem dX7_most_60 : decode cX7_most 60 = .ok (.iconst 0, 1) := by decide +kernel
theorem dX7_most_61 : decode cX7_most 61 = .ok (.goto 11, 3) := by decide +kernel
theorem dX7_most_64 : decode cX7_most 64 = .ok (.aload_n 0, 1) := by decide +kernel
theorem dX7_most_65 : decode cX7_most 65 = .ok (.getfield 7, 3) := by decide +kernel
theorem dX7_most_68 : decode cX7_most 68 = .ok (.iconst 2, 1) := by decide +kernel
theorem dX7_most_69 : decode cX7_most 69 = .ok (.iaload, 1) := by decide +kernel
theorem dX7_most_70 : decode cX7_most 70 = .ok (.iconst 2, 1) := by decide +kernel
theorem dX7_most_71 : decode cX7_most 71 = .ok (.isub, 1) := by decide +kernel
theorem dX7_most_72 : decode cX7_most 72 = .ok (.ireturn, 1) := by decide +kernel
theorem dX7_most_73 : decode cX7_most 73 = .ok (.iconst 2, 1) := by decide +kernel
theorem dX7_most_74 : decode cX7_most 74 = .ok (.ireturn, 1) := by decide +kernel
set_option maxRecDepth 20000 in
theorem ggX7_set_X7_in : GoodIn wsX7_set wsX7_in := goodIn_r _ [7] (by decide +kernel) (by decide +kernel)
set_option maxRecDepth 20000 in
theorem gX7_set_X7_in : GoodIn wsX7_set (va_wsS RX7 36 yX7_in wsX7_in) := goodIn_app (goodIn_of _ (by decide +kernel)) ggX7_set_X7_in
set_option maxRecDepth 20000 in
theorem ggX7_set_X7_most : GoodIn wsX7_set wsX7_most := goodIn_r _ [11, 3, 31, 32, 33, 34, 35, 36, 37, 38, 39, 40, 41] (by decide +kernel) (by decide +kernel)
set_option maxRecDepth 20000 in
theorem gX7_set_X7_most : GoodIn wsX7_set (wsV RX7 40 RX7 yX7_most wsX7_most) := goodIn_app (goodIn_of _ (by decide +kernel)) ggX7_set_X7_most
set_option maxRecDepth 20000 in
theorem ggX7_set_X7_replays : GoodIn wsX7_set wsX7_replays := goodIn_r _ [15, 16, 17, 2, 18, 3, 19, 20, 21, 6, 22, 23, 24, 25, 26, 27, 28, 29, 30, 31, 32, 33, 34, 35, 36, 37, 38, 39, 40, 41] (by decide +kernel) (by decide +kernel)
set_option maxRecDepth 20000 in
theorem gX7_set_X7_replays : GoodIn wsX7_set (wsV RX7 29 RX7 yX7_replays wsX7_replays) := goodIn_app (goodIn_of _ (by decide +kernel)) ggX7_set_X7_replays
theorem dX7_set_0 : decode cX7_set 0 = .ok (.aload_n 0, 1) := by decide +kernel
theorem dX7_set_1 : decode cX7_set 1 = .ok (.iconst 0, 1) := by decide +kernel
theorem dX7_set_2 : decode cX7_set 2 = .ok (.putfield 32, 3) := by decide +kernel
theorem dX7_set_5 : decode cX7_set 5 = .ok (.iload_n 1, 1) := by decide +kernel
theorem dX7_set_6 : decode cX7_set 6 = .ok (.iconst 0, 1) := by decide +kernel
theorem dX7_set_7 : decode cX7_set 7 = .ok (.bipush 6, 2) := by decide +kernel
theorem dX7_set_9 : decode cX7_set 9 = .ok (.invokestatic 36, 3) := by decide +kernel
theorem dX7_set_12 : decode cX7_set 12 = .ok (.ifCond .eq 25, 3) := by decide +kernel
theorem dX7_set_15 : decode cX7_set 15 = .ok (.iload_n 2, 1) := by decide +kernel
theorem dX7_set_16 : decode cX7_set 16 = .ok (.iload_n 1, 1) := by decide +kernel
theorem dX7_set_17 : decode cX7_set 17 = .ok (.iconst 5, 1) := by decide +kernel
theorem dX7_set_18 : decode cX7_set 18 = .ok (.if_icmp .ge 7, 3) := by decide +kernel
theorem dX7_set_21 : decode cX7_set 21 = .ok (.iconst 1, 1) := by decide +kernel
theorem dX7_set_22 : decode cX7_set 22 = .ok (.goto 4, 3) := by decide +kernel
theorem dX7_set_25 : decode cX7_set 25 = .ok (.iconst 0, 1) := by decide +kernel
theorem dX7_set_26 : decode cX7_set 26 = .ok (.aload_n 0, 1) := by decide +kernel
theorem dX7_set_27 : decode cX7_set 27 = .ok (.iload_n 1, 1) := by decide +kernel
theorem dX7_set_28 : decode cX7_set 28 = .ok (.invokevirtual 40, 3) := by decide +kernel
theorem dX7_set_31 : decode cX7_set 31 = .ok (.invokestatic 36, 3) := by decide +kernel
theorem dX7_set_34 : decode cX7_set 34 = .ok (.ifCond .ne 5, 3) := by decide +kernel
theorem dX7_set_37 : decode cX7_set 37 = .ok (.iconst (-1), 1) := by decide +kernel
theorem dX7_set_38 : decode cX7_set 38 = .ok (.ireturn, 1) := by decide +kernel
theorem dX7_set_39 : decode cX7_set 39 = .ok (.iload_n 1, 1) := by decide +kernel
theorem dX7_set_40 : decode cX7_set 40 = .ok (.iconst 1, 1) := by decide +kernel
theorem dX7_set_41 : decode cX7_set 41 = .ok (.if_icmp .le 13, 3) := by decide +kernel
theorem dX7_set_44 : decode cX7_set 44 = .ok (.aload_n 0, 1) := by decide +kernel
theorem dX7_set_45 : decode cX7_set 45 = .ok (.getfield 44, 3) := by decide +kernel
theorem dX7_set_48 : decode cX7_set 48 = .ok (.ifCond .le 6, 3) := by decide +kernel
theorem dX7_set_51 : decode cX7_set 51 = .ok (.bipush (-2), 2) := by decide +kernel
theorem dX7_set_53 : decode cX7_set 53 = .ok (.ireturn, 1) := by decide +kernel
theorem dX7_set_54 : decode cX7_set 54 = .ok (.aload_n 0, 1) := by decide +kernel
theorem dX7_set_55 : decode cX7_set 55 = .ok (.getfield 7, 3) := by decide +kernel
theorem dX7_set_58 : decode cX7_set 58 = .ok (.iload_n 1, 1) := by decide +kernel
theorem dX7_set_59 : decode cX7_set 59 = .ok (.iaload, 1) := by decide +kernel
theorem dX7_set_60 : decode cX7_set 60 = .ok (.istore_n 3, 1) := by decide +kernel
theorem dX7_set_61 : decode cX7_set 61 = .ok (.aload_n 0, 1) := by decide +kernel
theorem dX7_set_62 : decode cX7_set 62 = .ok (.getfield 7, 3) := by decide +kernel
theorem dX7_set_65 : decode cX7_set 65 = .ok (.iload_n 1, 1) := by decide +kernel
theorem dX7_set_66 : decode cX7_set 66 = .ok (.iload_n 2, 1) := by decide +kernel
theorem dX7_set_67 : decode cX7_set 67 = .ok (.iastore, 1) := by decide +kernel
theorem dX7_set_68 : decode cX7_set 68 = .ok (.aload_n 0, 1) := by decide +kernel
theorem dX7_set_69 : decode cX7_set 69 = .ok (.getfield 7, 3) := by decide +kernel
theorem dX7_set_72 : decode cX7_set 72 = .ok (.iconst 5, 1) := by decide +kernel
theorem dX7_set_73 : decode cX7_set 73 = .ok (.iload_n 1, 1) := by decide +kernel
theorem dX7_set_74 : decode cX7_set 74 = .ok (.iconst 2, 1) := by decide +kernel
theorem dX7_set_75 : decode cX7_set 75 = .ok (.if_icmp .ne 7, 3) := by decide +kernel
theorem dX7_set_78 : decode cX7_set 78 = .ok (.iconst 0, 1) := by decide +kernel
theorem dX7_set_79 : decode cX7_set 79 = .ok (.goto 9, 3) := by decide +kernel
theorem dX7_set_82 : decode cX7_set 82 = .ok (.aload_n 0, 1) := by decide +kernel
theorem dX7_set_83 : decode cX7_set 83 = .ok (.getfield 7, 3) := by decide +kernel
theorem dX7_set_86 : decode cX7_set 86 = .ok (.iconst 5, 1) := by decide +kernel
theorem dX7_set_87 : decode cX7_set 87 = .ok (.iaload, 1) := by decide +kernel
theorem dX7_set_88 : decode cX7_set 88 = .ok (.iastore, 1) := by decide +kernel
theorem dX7_set_89 : decode cX7_set 89 = .ok (.aload_n 0, 1) := by decide +kernel
theorem dX7_set_90 : decode cX7_set 90 = .ok (.invokevirtual 29, 3) := by decide +kernel
theorem dX7_set_93 : decode cX7_set 93 = .ok (.iload_n 3, 1) := by decide +kernel
theorem dX7_set_94 : decode cX7_set 94 = .ok (.ireturn, 1) := by decide +kernel
theorem dX7_wonOf_0 : decode cX7_wonOf 0 = .ok (.aload_n 0, 1) := by decide +kernel
theorem dX7_wonOf_1 : decode cX7_wonOf 1 = .ok (.getfield 7, 3) := by decide +kernel
theorem dX7_wonOf_4 : decode cX7_wonOf 4 = .ok (.iconst 2, 1) := by decide +kernel
theorem dX7_wonOf_5 : decode cX7_wonOf 5 = .ok (.iaload, 1) := by decide +kernel
theorem dX7_wonOf_6 : decode cX7_wonOf 6 = .ok (.istore 4, 2) := by decide +kernel
theorem dX7_wonOf_8 : decode cX7_wonOf 8 = .ok (.iload_n 2, 1) := by decide +kernel
theorem dX7_wonOf_9 : decode cX7_wonOf 9 = .ok (.iload 4, 2) := by decide +kernel
theorem dX7_wonOf_11 : decode cX7_wonOf 11 = .ok (.if_icmp .lt 12, 3) := by decide +kernel
theorem dX7_wonOf_14 : decode cX7_wonOf 14 = .ok (.iload_n 2, 1) := by decide +kernel
theorem dX7_wonOf_15 : decode cX7_wonOf 15 = .ok (.iload_n 3, 1) := by decide +kernel
theorem dX7_wonOf_16 : decode cX7_wonOf 16 = .ok (.isub, 1) := by decide +kernel
theorem dX7_wonOf_17 : decode cX7_wonOf 17 = .ok (.iconst 2, 1) := by decide +kernel
theorem dX7_wonOf_18 : decode cX7_wonOf 18 = .ok (.if_icmp .lt 5, 3) := by decide +kernel
theorem dX7_wonOf_21 : decode cX7_wonOf 21 = .ok (.iconst 1, 1) := by decide +kernel
theorem dX7_wonOf_22 : decode cX7_wonOf 22 = .ok (.ireturn, 1) := by decide +kernel
theorem dX7_wonOf_23 : decode cX7_wonOf 23 = .ok (.iload_n 3, 1) := by decide +kernel
theorem dX7_wonOf_24 : decode cX7_wonOf 24 = .ok (.iload 4, 2) := by decide +kernel
theorem dX7_wonOf_26 : decode cX7_wonOf 26 = .ok (.if_icmp .lt 12, 3) := by decide +kernel
theorem dX7_wonOf_29 : decode cX7_wonOf 29 = .ok (.iload_n 3, 1) := by decide +kernel
theorem dX7_wonOf_30 : decode cX7_wonOf 30 = .ok (.iload_n 2, 1) := by decide +kernel
theorem dX7_wonOf_31 : decode cX7_wonOf 31 = .ok (.isub, 1) := by decide +kernel
theorem dX7_wonOf_32 : decode cX7_wonOf 32 = .ok (.iconst 2, 1) := by decide +kernel
theorem dX7_wonOf_33 : decode cX7_wonOf 33 = .ok (.if_icmp .lt 5, 3) := by decide +kernel
theorem dX7_wonOf_36 : decode cX7_wonOf 36 = .ok (.iconst 2, 1) := by decide +kernel
theorem dX7_wonOf_37 : decode cX7_wonOf 37 = .ok (.ireturn, 1) := by decide +kernel
theorem dX7_wonOf_38 : decode cX7_wonOf 38 = .ok (.iload_n 1, 1) := by decide +kernel
theorem dX7_wonOf_39 : decode cX7_wonOf 39 = .ok (.ifCond .le 16, 3) := by decide +kernel
theorem dX7_wonOf_42 : decode cX7_wonOf 42 = .ok (.iload_n 2, 1) := by decide +kernel
theorem dX7_wonOf_43 : decode cX7_wonOf 43 = .ok (.iload 4, 2) := by decide +kernel
theorem dX7_wonOf_45 : decode cX7_wonOf 45 = .ok (.if_icmp .lt 10, 3) := by decide +kernel
theorem dX7_wonOf_48 : decode cX7_wonOf 48 = .ok (.iload_n 2, 1) := by decide +kernel
theorem dX7_wonOf_49 : decode cX7_wonOf 49 = .ok (.iload_n 3, 1) := by decide +kernel
theorem dX7_wonOf_50 : decode cX7_wonOf 50 = .ok (.if_icmp .le 5, 3) := by decide +kernel
theorem dX7_wonOf_53 : decode cX7_wonOf 53 = .ok (.iconst 1, 1) := by decide +kernel
theorem dX7_wonOf_54 : decode cX7_wonOf 54 = .ok (.ireturn, 1) := by decide +kernel
theorem dX7_wonOf_55 : decode cX7_wonOf 55 = .ok (.iload_n 1, 1) := by decide +kernel
theorem dX7_wonOf_56 : decode cX7_wonOf 56 = .ok (.ifCond .le 16, 3) := by decide +kernel
theorem dX7_wonOf_59 : decode cX7_wonOf 59 = .ok (.iload_n 3, 1) := by decide +kernel
theorem dX7_wonOf_60 : decode cX7_wonOf 60 = .ok (.iload 4, 2) := by decide +kernel
theorem dX7_wonOf_62 : decode cX7_wonOf 62 = .ok (.if_icmp .lt 10, 3) := by decide +kernel
theorem dX7_wonOf_65 : decode cX7_wonOf 65 = .ok (.iload_n 3, 1) := by decide +kernel
theorem dX7_wonOf_66 : decode cX7_wonOf 66 = .ok (.iload_n 2, 1) := by decide +kernel
theorem dX7_wonOf_67 : decode cX7_wonOf 67 = .ok (.if_icmp .le 5, 3) := by decide +kernel
theorem dX7_wonOf_70 : decode cX7_wonOf 70 = .ok (.iconst 2, 1) := by decide +kernel
theorem dX7_wonOf_71 : decode cX7_wonOf 71 = .ok (.ireturn, 1) := by decide +kernel
theorem dX7_wonOf_72 : decode cX7_wonOf 72 = .ok (.iload_n 1, 1) := by decide +kernel
theorem dX7_wonOf_73 : decode cX7_wonOf 73 = .ok (.iconst 1, 1) := by decide +kernel
theorem dX7_wonOf_74 : decode cX7_wonOf 74 = .ok (.if_icmp .le 43, 3) := by decide +kernel
theorem dX7_wonOf_77 : decode cX7_wonOf 77 = .ok (.iload 4, 2) := by decide +kernel
theorem dX7_wonOf_79 : decode cX7_wonOf 79 = .ok (.iconst 3, 1) := by decide +kernel
theorem dX7_wonOf_80 : decode cX7_wonOf 80 = .ok (.if_icmp .lt 37, 3) := by decide +kernel
theorem dX7_wonOf_83 : decode cX7_wonOf 83 = .ok (.iload_n 2, 1) := by decide +kernel
theorem dX7_wonOf_84 : decode cX7_wonOf 84 = .ok (.iload 4, 2) := by decide +kernel
theorem dX7_wonOf_86 : decode cX7_wonOf 86 = .ok (.iconst 1, 1) := by decide +kernel
theorem dX7_wonOf_87 : decode cX7_wonOf 87 = .ok (.isub, 1) := by decide +kernel
theorem dX7_wonOf_88 : decode cX7_wonOf 88 = .ok (.if_icmp .lt 11, 3) := by decide +kernel
theorem dX7_wonOf_91 : decode cX7_wonOf 91 = .ok (.iload_n 3, 1) := by decide +kernel
theorem dX7_wonOf_92 : decode cX7_wonOf 92 = .ok (.ifCond .ne 7, 3) := by decide +kernel
theorem dX7_wonOf_95 : decode cX7_wonOf 95 = .ok (.iconst 1, 1) := by decide +kernel
theorem dX7_wonOf_96 : decode cX7_wonOf 96 = .ok (.goto 20, 3) := by decide +kernel
theorem dX7_wonOf_99 : decode cX7_wonOf 99 = .ok (.iload_n 3, 1) := by decide +kernel
theorem dX7_wonOf_100 : decode cX7_wonOf 100 = .ok (.iload 4, 2) := by decide +kernel
theorem dX7_wonOf_102 : decode cX7_wonOf 102 = .ok (.iconst 1, 1) := by decide +kernel
theorem dX7_wonOf_103 : decode cX7_wonOf 103 = .ok (.isub, 1) := by decide +kernel
theorem dX7_wonOf_104 : decode cX7_wonOf 104 = .ok (.if_icmp .lt 11, 3) := by decide +kernel
theorem dX7_wonOf_107 : decode cX7_wonOf 107 = .ok (.iload_n 2, 1) := by decide +kernel
theorem dX7_wonOf_108 : decode cX7_wonOf 108 = .ok (.ifCond .ne 7, 3) := by decide +kernel
theorem dX7_wonOf_111 : decode cX7_wonOf 111 = .ok (.iconst 2, 1) := by decide +kernel
theorem dX7_wonOf_112 : decode cX7_wonOf 112 = .ok (.goto 4, 3) := by decide +kernel
theorem dX7_wonOf_115 : decode cX7_wonOf 115 = .ok (.iconst 0, 1) := by decide +kernel
theorem dX7_wonOf_116 : decode cX7_wonOf 116 = .ok (.ireturn, 1) := by decide +kernel
theorem dX7_wonOf_117 : decode cX7_wonOf 117 = .ok (.iconst 0, 1) := by decide +kernel
theorem dX7_wonOf_118 : decode cX7_wonOf 118 = .ok (.ireturn, 1) := by decide +kernel
set_option maxRecDepth 20000 in
theorem ggX7_won_X7_in : GoodIn wsX7_won wsX7_in := goodIn_r _ [8] (by decide +kernel) (by decide +kernel)
set_option maxRecDepth 20000 in
theorem gX7_won_X7_in : GoodIn wsX7_won (va_wsS RX7 36 yX7_in wsX7_in) := goodIn_app (goodIn_of _ (by decide +kernel)) ggX7_won_X7_in
set_option maxRecDepth 20000 in
theorem ggX7_won_X7_wonOf : GoodIn wsX7_won wsX7_wonOf := goodIn_r _ [12, 13, 14, 15, 16, 17, 18, 19, 20, 21, 22, 23, 24] (by decide +kernel) (by decide +kernel)
set_option maxRecDepth 20000 in
theorem gX7_won_X7_wonOf : GoodIn wsX7_won (wsV RX7 55 RX7 yX7_wonOf wsX7_wonOf) := goodIn_app (goodIn_of _ (by decide +kernel)) ggX7_won_X7_wonOf
theorem dX7_won_0 : decode cX7_won 0 = .ok (.aload_n 0, 1) := by decide +kernel
theorem dX7_won_1 : decode cX7_won 1 = .ok (.iconst 0, 1) := by decide +kernel
theorem dX7_won_2 : decode cX7_won 2 = .ok (.putfield 32, 3) := by decide +kernel
theorem dX7_won_5 : decode cX7_won 5 = .ok (.iload_n 1, 1) := by decide +kernel
theorem dX7_won_6 : decode cX7_won 6 = .ok (.iconst 0, 1) := by decide +kernel
theorem dX7_won_7 : decode cX7_won 7 = .ok (.iconst 2, 1) := by decide +kernel
theorem dX7_won_8 : decode cX7_won 8 = .ok (.invokestatic 36, 3) := by decide +kernel
theorem dX7_won_11 : decode cX7_won 11 = .ok (.ifCond .eq 23, 3) := by decide +kernel
theorem dX7_won_14 : decode cX7_won 14 = .ok (.iload_n 2, 1) := by decide +kernel
theorem dX7_won_15 : decode cX7_won 15 = .ok (.iconst 0, 1) := by decide +kernel
theorem dX7_won_16 : decode cX7_won 16 = .ok (.bipush 20, 2) := by decide +kernel
theorem dX7_won_18 : decode cX7_won 18 = .ok (.invokestatic 36, 3) := by decide +kernel
theorem dX7_won_21 : decode cX7_won 21 = .ok (.ifCond .eq 13, 3) := by decide +kernel
theorem dX7_won_24 : decode cX7_won 24 = .ok (.iload_n 3, 1) := by decide +kernel
theorem dX7_won_25 : decode cX7_won 25 = .ok (.iconst 0, 1) := by decide +kernel
theorem dX7_won_26 : decode cX7_won 26 = .ok (.bipush 20, 2) := by decide +kernel
theorem dX7_won_28 : decode cX7_won 28 = .ok (.invokestatic 36, 3) := by decide +kernel
theorem dX7_won_31 : decode cX7_won 31 = .ok (.ifCond .ne 5, 3) := by decide +kernel
theorem dX7_won_34 : decode cX7_won 34 = .ok (.iconst (-1), 1) := by decide +kernel
theorem dX7_won_35 : decode cX7_won 35 = .ok (.ireturn, 1) := by decide +kernel
theorem dX7_won_36 : decode cX7_won 36 = .ok (.aload_n 0, 1) := by decide +kernel
theorem dX7_won_37 : decode cX7_won 37 = .ok (.dup, 1) := by decide +kernel
theorem dX7_won_38 : decode cX7_won 38 = .ok (.getfield 47, 3) := by decide +kernel
theorem dX7_won_41 : decode cX7_won 41 = .ok (.iload_n 1, 1) := by decide +kernel
theorem dX7_won_42 : decode cX7_won 42 = .ok (.ifCond .ne 7, 3) := by decide +kernel
theorem dX7_won_45 : decode cX7_won 45 = .ok (.lconst 1, 1) := by decide +kernel
theorem dX7_won_46 : decode cX7_won 46 = .ok (.goto 17, 3) := by decide +kernel
theorem dX7_won_49 : decode cX7_won 49 = .ok (.iload_n 1, 1) := by decide +kernel
theorem dX7_won_50 : decode cX7_won 50 = .ok (.iconst 1, 1) := by decide +kernel
theorem dX7_won_51 : decode cX7_won 51 = .ok (.if_icmp .ne 9, 3) := by decide +kernel
theorem dX7_won_54 : decode cX7_won 54 = .ok (.ldc2_w 51, 3) := by decide +kernel
theorem dX7_won_57 : decode cX7_won 57 = .ok (.goto 6, 3) := by decide +kernel
theorem dX7_won_60 : decode cX7_won 60 = .ok (.ldc2_w 53, 3) := by decide +kernel
theorem dX7_won_63 : decode cX7_won 63 = .ok (.ladd, 1) := by decide +kernel
theorem dX7_won_64 : decode cX7_won 64 = .ok (.putfield 47, 3) := by decide +kernel
theorem dX7_won_67 : decode cX7_won 67 = .ok (.aload_n 0, 1) := by decide +kernel
theorem dX7_won_68 : decode cX7_won 68 = .ok (.iload_n 1, 1) := by decide +kernel
theorem dX7_won_69 : decode cX7_won 69 = .ok (.iload_n 2, 1) := by decide +kernel
theorem dX7_won_70 : decode cX7_won 70 = .ok (.iload_n 3, 1) := by decide +kernel
theorem dX7_won_71 : decode cX7_won 71 = .ok (.invokevirtual 55, 3) := by decide +kernel
theorem dX7_won_74 : decode cX7_won 74 = .ok (.ireturn, 1) := by decide +kernel
set_option maxRecDepth 20000 in
theorem ggX7_works_X7_in : GoodIn wsX7_works wsX7_in := goodIn_r _ [13] (by decide +kernel) (by decide +kernel)
set_option maxRecDepth 20000 in
theorem gX7_works_X7_in : GoodIn wsX7_works (va_wsS RX7 36 yX7_in wsX7_in) := goodIn_app (goodIn_of _ (by decide +kernel)) ggX7_works_X7_in
set_option maxRecDepth 20000 in
theorem ggX7_works_X7_wonOf : GoodIn wsX7_works wsX7_wonOf := goodIn_r _ [17, 1, 18, 19, 20, 21, 22, 23, 24, 25, 26, 27, 28] (by decide +kernel) (by decide +kernel)
set_option maxRecDepth 20000 in
theorem gX7_works_X7_wonOf : GoodIn wsX7_works (wsV RX7 55 RX7 yX7_wonOf wsX7_wonOf) := goodIn_app (goodIn_of _ (by decide +kernel)) ggX7_works_X7_wonOf
theorem dX7_works_0 : decode cX7_works 0 = .ok (.aload_n 0, 1) := by decide +kernel
theorem dX7_works_1 : decode cX7_works 1 = .ok (.getfield 7, 3) := by decide +kernel
theorem dX7_works_4 : decode cX7_works 4 = .ok (.iconst 2, 1) := by decide +kernel
theorem dX7_works_5 : decode cX7_works 5 = .ok (.iaload, 1) := by decide +kernel
theorem dX7_works_6 : decode cX7_works 6 = .ok (.istore_n 2, 1) := by decide +kernel
theorem dX7_works_7 : decode cX7_works 7 = .ok (.aload_n 0, 1) := by decide +kernel
theorem dX7_works_8 : decode cX7_works 8 = .ok (.getfield 7, 3) := by decide +kernel
theorem dX7_works_11 : decode cX7_works 11 = .ok (.iload_n 1, 1) := by decide +kernel
theorem dX7_works_12 : decode cX7_works 12 = .ok (.iaload, 1) := by decide +kernel
theorem dX7_works_13 : decode cX7_works 13 = .ok (.istore_n 3, 1) := by decide +kernel
theorem dX7_works_14 : decode cX7_works 14 = .ok (.bipush 10, 2) := by decide +kernel
theorem dX7_works_16 : decode cX7_works 16 = .ok (.iload_n 3, 1) := by decide +kernel
theorem dX7_works_17 : decode cX7_works 17 = .ok (.isub, 1) := by decide +kernel
theorem dX7_works_18 : decode cX7_works 18 = .ok (.istore 4, 2) := by decide +kernel
theorem dX7_works_20 : decode cX7_works 20 = .ok (.iload_n 3, 1) := by decide +kernel
theorem dX7_works_21 : decode cX7_works 21 = .ok (.iload_n 3, 1) := by decide +kernel
theorem dX7_works_22 : decode cX7_works 22 = .ok (.imul, 1) := by decide +kernel
theorem dX7_works_23 : decode cX7_works 23 = .ok (.iload 4, 2) := by decide +kernel
theorem dX7_works_25 : decode cX7_works 25 = .ok (.iload 4, 2) := by decide +kernel
theorem dX7_works_27 : decode cX7_works 27 = .ok (.imul, 1) := by decide +kernel
theorem dX7_works_28 : decode cX7_works 28 = .ok (.iadd, 1) := by decide +kernel
theorem dX7_works_29 : decode cX7_works 29 = .ok (.i2l, 1) := by decide +kernel
theorem dX7_works_30 : decode cX7_works 30 = .ok (.lstore 5, 2) := by decide +kernel
theorem dX7_works_32 : decode cX7_works 32 = .ok (.aload_n 0, 1) := by decide +kernel
theorem dX7_works_33 : decode cX7_works 33 = .ok (.ldc2_w 59, 3) := by decide +kernel
theorem dX7_works_36 : decode cX7_works 36 = .ok (.lload 5, 2) := by decide +kernel
theorem dX7_works_38 : decode cX7_works 38 = .ok (.lmul, 1) := by decide +kernel
theorem dX7_works_39 : decode cX7_works 39 = .ok (.putfield 61, 3) := by decide +kernel
theorem dX7_works_42 : decode cX7_works 42 = .ok (.iconst 2, 1) := by decide +kernel
theorem dX7_works_43 : decode cX7_works 43 = .ok (.iload_n 2, 1) := by decide +kernel
theorem dX7_works_44 : decode cX7_works 44 = .ok (.imul, 1) := by decide +kernel
theorem dX7_works_45 : decode cX7_works 45 = .ok (.iconst 2, 1) := by decide +kernel
theorem dX7_works_46 : decode cX7_works 46 = .ok (.iadd, 1) := by decide +kernel
theorem dX7_works_47 : decode cX7_works 47 = .ok (.istore 7, 2) := by decide +kernel
theorem dX7_works_49 : decode cX7_works 49 = .ok (.iload 7, 2) := by decide +kernel
theorem dX7_works_51 : decode cX7_works 51 = .ok (.ifCond .lt 342, 3) := by decide +kernel
theorem dX7_works_54 : decode cX7_works 54 = .ok (.iconst 0, 1) := by decide +kernel
theorem dX7_works_55 : decode cX7_works 55 = .ok (.istore 8, 2) := by decide +kernel
theorem dX7_works_57 : decode cX7_works 57 = .ok (.iload 8, 2) := by decide +kernel
theorem dX7_works_59 : decode cX7_works 59 = .ok (.iload_n 2, 1) := by decide +kernel
theorem dX7_works_60 : decode cX7_works 60 = .ok (.iconst 1, 1) := by decide +kernel
theorem dX7_works_61 : decode cX7_works 61 = .ok (.iadd, 1) := by decide +kernel
theorem dX7_works_62 : decode cX7_works 62 = .ok (.if_icmp .gt 325, 3) := by decide +kernel
theorem dX7_works_65 : decode cX7_works 65 = .ok (.iload 7, 2) := by decide +kernel
theorem dX7_works_67 : decode cX7_works 67 = .ok (.iload 8, 2) := by decide +kernel
theorem dX7_works_69 : decode cX7_works 69 = .ok (.isub, 1) := by decide +kernel
theorem dX7_works_70 : decode cX7_works 70 = .ok (.istore 9, 2) := by decide +kernel
theorem dX7_works_72 : decode cX7_works 72 = .ok (.iload 9, 2) := by decide +kernel
theorem dX7_works_74 : decode cX7_works 74 = .ok (.iconst 0, 1) := by decide +kernel
theorem dX7_works_75 : decode cX7_works 75 = .ok (.iload_n 2, 1) := by decide +kernel
theorem dX7_works_76 : decode cX7_works 76 = .ok (.iconst 1, 1) := by decide +kernel
theorem dX7_works_77 : decode cX7_works 77 = .ok (.iadd, 1) := by decide +kernel
theorem dX7_works_78 : decode cX7_works 78 = .ok (.invokestatic 36, 3) := by decide +kernel
theorem dX7_works_81 : decode cX7_works 81 = .ok (.ifCond .eq 300, 3) := by decide +kernel
theorem dX7_works_84 : decode cX7_works 84 = .ok (.bipush 7, 2) := by decide +kernel
theorem dX7_works_86 : decode cX7_works 86 = .ok (.iload 8, 2) := by decide +kernel
theorem dX7_works_88 : decode cX7_works 88 = .ok (.imul, 1) := by decide +kernel
theorem dX7_works_89 : decode cX7_works 89 = .ok (.iload 9, 2) := by decide +kernel
theorem dX7_works_91 : decode cX7_works 91 = .ok (.iadd, 1) := by decide +kernel
theorem dX7_works_92 : decode cX7_works 92 = .ok (.istore 10, 2) := by decide +kernel
theorem dX7_works_94 : decode cX7_works 94 = .ok (.aload_n 0, 1) := by decide +kernel
theorem dX7_works_95 : decode cX7_works 95 = .ok (.aload_n 0, 1) := by decide +kernel
theorem dX7_works_96 : decode cX7_works 96 = .ok (.getfield 7, 3) := by decide +kernel
theorem dX7_works_99 : decode cX7_works 99 = .ok (.bipush 6, 2) := by decide +kernel
theorem dX7_works_101 : decode cX7_works 101 = .ok (.iaload, 1) := by decide +kernel
theorem dX7_works_102 : decode cX7_works 102 = .ok (.iload 8, 2) := by decide +kernel
theorem dX7_works_104 : decode cX7_works 104 = .ok (.iload 9, 2) := by decide +kernel
theorem dX7_works_106 : decode cX7_works 106 = .ok (.invokevirtual 55, 3) := by decide +kernel
theorem dX7_works_109 : decode cX7_works 109 = .ok (.istore 11, 2) := by decide +kernel
theorem dX7_works_111 : decode cX7_works 111 = .ok (.iload 11, 2) := by decide +kernel
theorem dX7_works_113 : decode cX7_works 113 = .ok (.ifCond .le 35, 3) := by decide +kernel
theorem dX7_works_116 : decode cX7_works 116 = .ok (.aload_n 0, 1) := by decide +kernel
theorem dX7_works_117 : decode cX7_works 117 = .ok (.getfield 16, 3) := by decide +kernel
theorem dX7_works_120 : decode cX7_works 120 = .ok (.iload 10, 2) := by decide +kernel
theorem dX7_works_122 : decode cX7_works 122 = .ok (.iload 11, 2) := by decide +kernel
theorem dX7_works_124 : decode cX7_works 124 = .ok (.iconst 1, 1) := by decide +kernel
theorem dX7_works_125 : decode cX7_works 125 = .ok (.if_icmp .ne 10, 3) := by decide +kernel
theorem dX7_works_128 : decode cX7_works 128 = .ok (.aload_n 0, 1) := by decide +kernel
theorem dX7_works_129 : decode cX7_works 129 = .ok (.getfield 61, 3) := by decide +kernel
theorem dX7_works_132 : decode cX7_works 132 = .ok (.goto 4, 3) := by decide +kernel
theorem dX7_works_135 : decode cX7_works 135 = .ok (.lconst 0, 1) := by decide +kernel
theorem dX7_works_136 : decode cX7_works 136 = .ok (.lastore, 1) := by decide +kernel
theorem dX7_works_137 : decode cX7_works 137 = .ok (.aload_n 0, 1) := by decide +kernel
theorem dX7_works_138 : decode cX7_works 138 = .ok (.getfield 20, 3) := by decide +kernel
theorem dX7_works_141 : decode cX7_works 141 = .ok (.iload 10, 2) := by decide +kernel
theorem dX7_works_143 : decode cX7_works 143 = .ok (.lconst 0, 1) := by decide +kernel
theorem dX7_works_144 : decode cX7_works 144 = .ok (.lastore, 1) := by decide +kernel
theorem dX7_works_145 : decode cX7_works 145 = .ok (.goto 236, 3) := by decide +kernel
theorem dX7_works_148 : decode cX7_works 148 = .ok (.iload 8, 2) := by decide +kernel
theorem dX7_works_150 : decode cX7_works 150 = .ok (.iload_n 2, 1) := by decide +kernel
theorem dX7_works_151 : decode cX7_works 151 = .ok (.iconst 1, 1) := by decide +kernel
theorem dX7_works_152 : decode cX7_works 152 = .ok (.isub, 1) := by decide +kernel
theorem dX7_works_153 : decode cX7_works 153 = .ok (.if_icmp .lt 135, 3) := by decide +kernel
theorem dX7_works_156 : decode cX7_works 156 = .ok (.iload 9, 2) := by decide +kernel
theorem dX7_works_158 : decode cX7_works 158 = .ok (.iload_n 2, 1) := by decide +kernel
theorem dX7_works_159 : decode cX7_works 159 = .ok (.iconst 1, 1) := by decide +kernel
theorem dX7_works_160 : decode cX7_works 160 = .ok (.isub, 1) := by decide +kernel
theorem dX7_works_161 : decode cX7_works 161 = .ok (.if_icmp .lt 127, 3) := by decide +kernel
theorem dX7_works_164 : decode cX7_works 164 = .ok (.aload_n 0, 1) := by decide +kernel
theorem dX7_works_165 : decode cX7_works 165 = .ok (.getfield 7, 3) := by decide +kernel
theorem dX7_works_168 : decode cX7_works 168 = .ok (.bipush 6, 2) := by decide +kernel
theorem dX7_works_170 : decode cX7_works 170 = .ok (.iaload, 1) := by decide +kernel
theorem dX7_works_171 : decode cX7_works 171 = .ok (.ifCond .ne 117, 3) := by decide +kernel
theorem dX7_works_174 : decode cX7_works 174 = .ok (.aload_n 0, 1) := by decide +kernel
theorem dX7_works_175 : decode cX7_works 175 = .ok (.getfield 16, 3) := by decide +kernel
theorem dX7_works_178 : decode cX7_works 178 = .ok (.iload 10, 2) := by decide +kernel
theorem dX7_works_180 : decode cX7_works 180 = .ok (.iload 8, 2) := by decide +kernel
theorem dX7_works_182 : decode cX7_works 182 = .ok (.iload 9, 2) := by decide +kernel
theorem dX7_works_184 : decode cX7_works 184 = .ok (.if_icmp .ne 14, 3) := by decide +kernel
theorem dX7_works_187 : decode cX7_works 187 = .ok (.iload_n 3, 1) := by decide +kernel
theorem dX7_works_188 : decode cX7_works 188 = .ok (.iload_n 3, 1) := by decide +kernel
theorem dX7_works_189 : decode cX7_works 189 = .ok (.imul, 1) := by decide +kernel
theorem dX7_works_190 : decode cX7_works 190 = .ok (.i2l, 1) := by decide +kernel
theorem dX7_works_191 : decode cX7_works 191 = .ok (.ldc2_w 59, 3) := by decide +kernel
theorem dX7_works_194 : decode cX7_works 194 = .ok (.lmul, 1) := by decide +kernel
theorem dX7_works_195 : decode cX7_works 195 = .ok (.goto 40, 3) := by decide +kernel
theorem dX7_works_198 : decode cX7_works 198 = .ok (.iload 8, 2) := by decide +kernel
theorem dX7_works_200 : decode cX7_works 200 = .ok (.iload 9, 2) := by decide +kernel
theorem dX7_works_202 : decode cX7_works 202 = .ok (.if_icmp .le 23, 3) := by decide +kernel
theorem dX7_works_205 : decode cX7_works 205 = .ok (.iload_n 3, 1) := by decide +kernel
theorem dX7_works_206 : decode cX7_works 206 = .ok (.i2l, 1) := by decide +kernel
theorem dX7_works_207 : decode cX7_works 207 = .ok (.lload 5, 2) := by decide +kernel
theorem dX7_works_209 : decode cX7_works 209 = .ok (.lmul, 1) := by decide +kernel
theorem dX7_works_210 : decode cX7_works 210 = .ok (.iload 4, 2) := by decide +kernel
theorem dX7_works_212 : decode cX7_works 212 = .ok (.iload_n 3, 1) := by decide +kernel
theorem dX7_works_213 : decode cX7_works 213 = .ok (.imul, 1) := by decide +kernel
theorem dX7_works_214 : decode cX7_works 214 = .ok (.iload_n 3, 1) := by decide +kernel
theorem dX7_works_215 : decode cX7_works 215 = .ok (.imul, 1) := by decide +kernel
theorem dX7_works_216 : decode cX7_works 216 = .ok (.i2l, 1) := by decide +kernel
theorem dX7_works_217 : decode cX7_works 217 = .ok (.ladd, 1) := by decide +kernel
theorem dX7_works_218 : decode cX7_works 218 = .ok (.ldc2_w 64, 3) := by decide +kernel
theorem dX7_works_221 : decode cX7_works 221 = .ok (.lmul, 1) := by decide +kernel
theorem dX7_works_222 : decode cX7_works 222 = .ok (.goto 13, 3) := by decide +kernel
theorem dX7_works_225 : decode cX7_works 225 = .ok (.iload_n 3, 1) := by decide +kernel
theorem dX7_works_226 : decode cX7_works 226 = .ok (.iload_n 3, 1) := by decide +kernel
theorem dX7_works_227 : decode cX7_works 227 = .ok (.imul, 1) := by decide +kernel
theorem dX7_works_228 : decode cX7_works 228 = .ok (.iload_n 3, 1) := by decide +kernel
theorem dX7_works_229 : decode cX7_works 229 = .ok (.imul, 1) := by decide +kernel
theorem dX7_works_230 : decode cX7_works 230 = .ok (.i2l, 1) := by decide +kernel
theorem dX7_works_231 : decode cX7_works 231 = .ok (.ldc2_w 64, 3) := by decide +kernel
theorem dX7_works_234 : decode cX7_works 234 = .ok (.lmul, 1) := by decide +kernel
theorem dX7_works_235 : decode cX7_works 235 = .ok (.lastore, 1) := by decide +kernel
theorem dX7_works_236 : decode cX7_works 236 = .ok (.aload_n 0, 1) := by decide +kernel
theorem dX7_works_237 : decode cX7_works 237 = .ok (.getfield 20, 3) := by decide +kernel
theorem dX7_works_240 : decode cX7_works 240 = .ok (.iload 10, 2) := by decide +kernel
theorem dX7_works_242 : decode cX7_works 242 = .ok (.iload 8, 2) := by decide +kernel
theorem dX7_works_244 : decode cX7_works 244 = .ok (.iload 9, 2) := by decide +kernel
theorem dX7_works_246 : decode cX7_works 246 = .ok (.if_icmp .ne 9, 3) := by decide +kernel
theorem dX7_works_249 : decode cX7_works 249 = .ok (.ldc2_w 66, 3) := by decide +kernel
theorem dX7_works_252 : decode cX7_works 252 = .ok (.goto 32, 3) := by decide +kernel
theorem dX7_works_255 : decode cX7_works 255 = .ok (.ldc2_w 68, 3) := by decide +kernel
theorem dX7_works_258 : decode cX7_works 258 = .ok (.lload 5, 2) := by decide +kernel
theorem dX7_works_260 : decode cX7_works 260 = .ok (.lmul, 1) := by decide +kernel
theorem dX7_works_261 : decode cX7_works 261 = .ok (.ldc2_w 70, 3) := by decide +kernel
theorem dX7_works_264 : decode cX7_works 264 = .ok (.iload 8, 2) := by decide +kernel
theorem dX7_works_266 : decode cX7_works 266 = .ok (.iload 9, 2) := by decide +kernel
theorem dX7_works_268 : decode cX7_works 268 = .ok (.if_icmp .le 8, 3) := by decide +kernel
theorem dX7_works_271 : decode cX7_works 271 = .ok (.iload 4, 2) := by decide +kernel
theorem dX7_works_273 : decode cX7_works 273 = .ok (.goto 4, 3) := by decide +kernel
theorem dX7_works_276 : decode cX7_works 276 = .ok (.iload_n 3, 1) := by decide +kernel
theorem dX7_works_277 : decode cX7_works 277 = .ok (.i2l, 1) := by decide +kernel
theorem dX7_works_278 : decode cX7_works 278 = .ok (.lmul, 1) := by decide +kernel
theorem dX7_works_279 : decode cX7_works 279 = .ok (.ladd, 1) := by decide +kernel
theorem dX7_works_280 : decode cX7_works 280 = .ok (.ldc2_w 64, 3) := by decide +kernel
theorem dX7_works_283 : decode cX7_works 283 = .ok (.lmul, 1) := by decide +kernel
theorem dX7_works_284 : decode cX7_works 284 = .ok (.lastore, 1) := by decide +kernel
theorem dX7_works_285 : decode cX7_works 285 = .ok (.goto 96, 3) := by decide +kernel
theorem dX7_works_288 : decode cX7_works 288 = .ok (.iload 8, 2) := by decide +kernel
theorem dX7_works_290 : decode cX7_works 290 = .ok (.iload_n 2, 1) := by decide +kernel
theorem dX7_works_291 : decode cX7_works 291 = .ok (.if_icmp .gt 90, 3) := by decide +kernel
theorem dX7_works_294 : decode cX7_works 294 = .ok (.iload 9, 2) := by decide +kernel
theorem dX7_works_296 : decode cX7_works 296 = .ok (.iload_n 2, 1) := by decide +kernel
theorem dX7_works_297 : decode cX7_works 297 = .ok (.if_icmp .gt 84, 3) := by decide +kernel
theorem dX7_works_300 : decode cX7_works 300 = .ok (.aload_n 0, 1) := by decide +kernel
theorem dX7_works_301 : decode cX7_works 301 = .ok (.getfield 16, 3) := by decide +kernel
theorem dX7_works_304 : decode cX7_works 304 = .ok (.iload 10, 2) := by decide +kernel
theorem dX7_works_306 : decode cX7_works 306 = .ok (.iload_n 3, 1) := by decide +kernel
theorem dX7_works_307 : decode cX7_works 307 = .ok (.i2l, 1) := by decide +kernel
theorem dX7_works_308 : decode cX7_works 308 = .ok (.aload_n 0, 1) := by decide +kernel
theorem dX7_works_309 : decode cX7_works 309 = .ok (.getfield 16, 3) := by decide +kernel
theorem dX7_works_312 : decode cX7_works 312 = .ok (.iload 10, 2) := by decide +kernel
theorem dX7_works_314 : decode cX7_works 314 = .ok (.bipush 7, 2) := by decide +kernel
theorem dX7_works_316 : decode cX7_works 316 = .ok (.iadd, 1) := by decide +kernel
theorem dX7_works_317 : decode cX7_works 317 = .ok (.laload, 1) := by decide +kernel
theorem dX7_works_318 : decode cX7_works 318 = .ok (.lmul, 1) := by decide +kernel
theorem dX7_works_319 : decode cX7_works 319 = .ok (.iload 4, 2) := by decide +kernel
theorem dX7_works_321 : decode cX7_works 321 = .ok (.i2l, 1) := by decide +kernel
theorem dX7_works_322 : decode cX7_works 322 = .ok (.aload_n 0, 1) := by decide +kernel
theorem dX7_works_323 : decode cX7_works 323 = .ok (.getfield 16, 3) := by decide +kernel
theorem dX7_works_326 : decode cX7_works 326 = .ok (.iload 10, 2) := by decide +kernel
theorem dX7_works_328 : decode cX7_works 328 = .ok (.iconst 1, 1) := by decide +kernel
theorem dX7_works_329 : decode cX7_works 329 = .ok (.iadd, 1) := by decide +kernel
theorem dX7_works_330 : decode cX7_works 330 = .ok (.laload, 1) := by decide +kernel
theorem dX7_works_331 : decode cX7_works 331 = .ok (.lmul, 1) := by decide +kernel
theorem dX7_works_332 : decode cX7_works 332 = .ok (.ladd, 1) := by decide +kernel
theorem dX7_works_333 : decode cX7_works 333 = .ok (.ldc2_w 68, 3) := by decide +kernel
theorem dX7_works_336 : decode cX7_works 336 = .ok (.ldiv, 1) := by decide +kernel
theorem dX7_works_337 : decode cX7_works 337 = .ok (.lastore, 1) := by decide +kernel
theorem dX7_works_338 : decode cX7_works 338 = .ok (.aload_n 0, 1) := by decide +kernel
theorem dX7_works_339 : decode cX7_works 339 = .ok (.getfield 20, 3) := by decide +kernel
theorem dX7_works_342 : decode cX7_works 342 = .ok (.iload 10, 2) := by decide +kernel
theorem dX7_works_344 : decode cX7_works 344 = .ok (.aload_n 0, 1) := by decide +kernel
theorem dX7_works_345 : decode cX7_works 345 = .ok (.getfield 61, 3) := by decide +kernel
theorem dX7_works_348 : decode cX7_works 348 = .ok (.iload_n 3, 1) := by decide +kernel
theorem dX7_works_349 : decode cX7_works 349 = .ok (.i2l, 1) := by decide +kernel
theorem dX7_works_350 : decode cX7_works 350 = .ok (.aload_n 0, 1) := by decide +kernel
theorem dX7_works_351 : decode cX7_works 351 = .ok (.getfield 20, 3) := by decide +kernel
theorem dX7_works_354 : decode cX7_works 354 = .ok (.iload 10, 2) := by decide +kernel
theorem dX7_works_356 : decode cX7_works 356 = .ok (.bipush 7, 2) := by decide +kernel
theorem dX7_works_358 : decode cX7_works 358 = .ok (.iadd, 1) := by decide +kernel
theorem dX7_works_359 : decode cX7_works 359 = .ok (.laload, 1) := by decide +kernel
end
section
theorem dX7_works_360 : decode cX7_works 360 = .ok (.lmul, 1) := by decide +kernel
theorem dX7_works_361 : decode cX7_works 361 = .ok (.iload 4, 2) := by decide +kernel
theorem dX7_works_363 : decode cX7_works 363 = .ok (.i2l, 1) := by decide +kernel
theorem dX7_works_364 : decode cX7_works 364 = .ok (.aload_n 0, 1) := by decide +kernel
theorem dX7_works_365 : decode cX7_works 365 = .ok (.getfield 20, 3) := by decide +kernel
theorem dX7_works_368 : decode cX7_works 368 = .ok (.iload 10, 2) := by decide +kernel
theorem dX7_works_370 : decode cX7_works 370 = .ok (.iconst 1, 1) := by decide +kernel
theorem dX7_works_371 : decode cX7_works 371 = .ok (.iadd, 1) := by decide +kernel
theorem dX7_works_372 : decode cX7_works 372 = .ok (.laload, 1) := by decide +kernel
theorem dX7_works_373 : decode cX7_works 373 = .ok (.lmul, 1) := by decide +kernel
theorem dX7_works_374 : decode cX7_works 374 = .ok (.ladd, 1) := by decide +kernel
theorem dX7_works_375 : decode cX7_works 375 = .ok (.ldc2_w 68, 3) := by decide +kernel
theorem dX7_works_378 : decode cX7_works 378 = .ok (.ldiv, 1) := by decide +kernel
theorem dX7_works_379 : decode cX7_works 379 = .ok (.ladd, 1) := by decide +kernel
theorem dX7_works_380 : decode cX7_works 380 = .ok (.lastore, 1) := by decide +kernel
theorem dX7_works_381 : decode cX7_works 381 = .ok (.iinc 8 1, 3) := by decide +kernel
theorem dX7_works_384 : decode cX7_works 384 = .ok (.goto (-327), 3) := by decide +kernel
theorem dX7_works_387 : decode cX7_works 387 = .ok (.iinc 7 (-1), 3) := by decide +kernel
theorem dX7_works_390 : decode cX7_works 390 = .ok (.goto (-341), 3) := by decide +kernel
theorem dX7_works_393 : decode cX7_works 393 = .ok (.return_, 1) := by decide +kernel
theorem dX7_common_0 : decode cX7_common 0 = .ok (.lload_n 0, 1) := by decide +kernel
theorem dX7_common_1 : decode cX7_common 1 = .ok (.lstore 4, 2) := by decide +kernel
theorem dX7_common_3 : decode cX7_common 3 = .ok (.lload_n 2, 1) := by decide +kernel
theorem dX7_common_4 : decode cX7_common 4 = .ok (.lstore 6, 2) := by decide +kernel
theorem dX7_common_6 : decode cX7_common 6 = .ok (.lload 6, 2) := by decide +kernel
theorem dX7_common_8 : decode cX7_common 8 = .ok (.lconst 0, 1) := by decide +kernel
theorem dX7_common_9 : decode cX7_common 9 = .ok (.lcmp, 1) := by decide +kernel
theorem dX7_common_10 : decode cX7_common 10 = .ok (.ifCond .eq 21, 3) := by decide +kernel
theorem dX7_common_13 : decode cX7_common 13 = .ok (.lload 4, 2) := by decide +kernel
theorem dX7_common_15 : decode cX7_common 15 = .ok (.lload 6, 2) := by decide +kernel
theorem dX7_common_17 : decode cX7_common 17 = .ok (.lrem, 1) := by decide +kernel
theorem dX7_common_18 : decode cX7_common 18 = .ok (.lstore 8, 2) := by decide +kernel
theorem dX7_common_20 : decode cX7_common 20 = .ok (.lload 6, 2) := by decide +kernel
theorem dX7_common_22 : decode cX7_common 22 = .ok (.lstore 4, 2) := by decide +kernel
theorem dX7_common_24 : decode cX7_common 24 = .ok (.lload 8, 2) := by decide +kernel
theorem dX7_common_26 : decode cX7_common 26 = .ok (.lstore 6, 2) := by decide +kernel
theorem dX7_common_28 : decode cX7_common 28 = .ok (.goto (-22), 3) := by decide +kernel
theorem dX7_common_31 : decode cX7_common 31 = .ok (.lload 4, 2) := by decide +kernel
theorem dX7_common_33 : decode cX7_common 33 = .ok (.lreturn, 1) := by decide +kernel
set_option maxRecDepth 20000 in
theorem ggX7_part_X7_common : GoodIn wsX7_part wsX7_common := goodIn_r _ [5] (by decide +kernel) (by decide +kernel)
set_option maxRecDepth 20000 in
theorem gX7_part_X7_common : GoodIn wsX7_part (va_wsS RX7 72 yX7_common wsX7_common) := goodIn_app (goodIn_of _ (by decide +kernel)) ggX7_part_X7_common
theorem dX7_part_0 : decode cX7_part 0 = .ok (.lload_n 1, 1) := by decide +kernel
theorem dX7_part_1 : decode cX7_part 1 = .ok (.aload_n 0, 1) := by decide +kernel
theorem dX7_part_2 : decode cX7_part 2 = .ok (.getfield 61, 3) := by decide +kernel
theorem dX7_part_5 : decode cX7_part 5 = .ok (.invokestatic 72, 3) := by decide +kernel
theorem dX7_part_8 : decode cX7_part 8 = .ok (.lstore 4, 2) := by decide +kernel
theorem dX7_part_10 : decode cX7_part 10 = .ok (.iload_n 3, 1) := by decide +kernel
theorem dX7_part_11 : decode cX7_part 11 = .ok (.ifCond .ne 10, 3) := by decide +kernel
theorem dX7_part_14 : decode cX7_part 14 = .ok (.lload_n 1, 1) := by decide +kernel
theorem dX7_part_15 : decode cX7_part 15 = .ok (.lload 4, 2) := by decide +kernel
theorem dX7_part_17 : decode cX7_part 17 = .ok (.ldiv, 1) := by decide +kernel
theorem dX7_part_18 : decode cX7_part 18 = .ok (.goto 10, 3) := by decide +kernel
theorem dX7_part_21 : decode cX7_part 21 = .ok (.aload_n 0, 1) := by decide +kernel
theorem dX7_part_22 : decode cX7_part 22 = .ok (.getfield 61, 3) := by decide +kernel
theorem dX7_part_25 : decode cX7_part 25 = .ok (.lload 4, 2) := by decide +kernel
theorem dX7_part_27 : decode cX7_part 27 = .ok (.ldiv, 1) := by decide +kernel
theorem dX7_part_28 : decode cX7_part 28 = .ok (.lreturn, 1) := by decide +kernel
set_option maxRecDepth 20000 in
theorem ggX7_isAsked_X7_in : GoodIn wsX7_isAsked wsX7_in := goodIn_r _ [5] (by decide +kernel) (by decide +kernel)
set_option maxRecDepth 20000 in
theorem gX7_isAsked_X7_in : GoodIn wsX7_isAsked (va_wsS RX7 36 yX7_in wsX7_in) := goodIn_app (goodIn_of _ (by decide +kernel)) ggX7_isAsked_X7_in
theorem dX7_isAsked_0 : decode cX7_isAsked 0 = .ok (.aload_n 0, 1) := by decide +kernel
theorem dX7_isAsked_1 : decode cX7_isAsked 1 = .ok (.getfield 7, 3) := by decide +kernel
theorem dX7_isAsked_4 : decode cX7_isAsked 4 = .ok (.iconst 2, 1) := by decide +kernel
theorem dX7_isAsked_5 : decode cX7_isAsked 5 = .ok (.iaload, 1) := by decide +kernel
theorem dX7_isAsked_6 : decode cX7_isAsked 6 = .ok (.istore 5, 2) := by decide +kernel
theorem dX7_isAsked_8 : decode cX7_isAsked 8 = .ok (.iload_n 1, 1) := by decide +kernel
theorem dX7_isAsked_9 : decode cX7_isAsked 9 = .ok (.iconst 0, 1) := by decide +kernel
theorem dX7_isAsked_10 : decode cX7_isAsked 10 = .ok (.iload 5, 2) := by decide +kernel
theorem dX7_isAsked_12 : decode cX7_isAsked 12 = .ok (.invokestatic 36, 3) := by decide +kernel
theorem dX7_isAsked_15 : decode cX7_isAsked 15 = .ok (.ifCond .eq 58, 3) := by decide +kernel
theorem dX7_isAsked_18 : decode cX7_isAsked 18 = .ok (.iload_n 2, 1) := by decide +kernel
theorem dX7_isAsked_19 : decode cX7_isAsked 19 = .ok (.iconst 0, 1) := by decide +kernel
theorem dX7_isAsked_20 : decode cX7_isAsked 20 = .ok (.iload 5, 2) := by decide +kernel
theorem dX7_isAsked_22 : decode cX7_isAsked 22 = .ok (.invokestatic 36, 3) := by decide +kernel
theorem dX7_isAsked_25 : decode cX7_isAsked 25 = .ok (.ifCond .eq 48, 3) := by decide +kernel
theorem dX7_isAsked_28 : decode cX7_isAsked 28 = .ok (.aload_n 0, 1) := by decide +kernel
theorem dX7_isAsked_29 : decode cX7_isAsked 29 = .ok (.getfield 7, 3) := by decide +kernel
theorem dX7_isAsked_32 : decode cX7_isAsked 32 = .ok (.bipush 6, 2) := by decide +kernel
theorem dX7_isAsked_34 : decode cX7_isAsked 34 = .ok (.iaload, 1) := by decide +kernel
theorem dX7_isAsked_35 : decode cX7_isAsked 35 = .ok (.ifCond .eq 15, 3) := by decide +kernel
theorem dX7_isAsked_38 : decode cX7_isAsked 38 = .ok (.iload_n 1, 1) := by decide +kernel
theorem dX7_isAsked_39 : decode cX7_isAsked 39 = .ok (.iload 5, 2) := by decide +kernel
theorem dX7_isAsked_41 : decode cX7_isAsked 41 = .ok (.if_icmp .lt 9, 3) := by decide +kernel
theorem dX7_isAsked_44 : decode cX7_isAsked 44 = .ok (.iload_n 2, 1) := by decide +kernel
theorem dX7_isAsked_45 : decode cX7_isAsked 45 = .ok (.iload 5, 2) := by decide +kernel
theorem dX7_isAsked_47 : decode cX7_isAsked 47 = .ok (.if_icmp .ge 26, 3) := by decide +kernel
theorem dX7_isAsked_50 : decode cX7_isAsked 50 = .ok (.iload_n 3, 1) := by decide +kernel
theorem dX7_isAsked_51 : decode cX7_isAsked 51 = .ok (.iconst 0, 1) := by decide +kernel
theorem dX7_isAsked_52 : decode cX7_isAsked 52 = .ok (.iconst 1, 1) := by decide +kernel
theorem dX7_isAsked_53 : decode cX7_isAsked 53 = .ok (.invokestatic 36, 3) := by decide +kernel
theorem dX7_isAsked_56 : decode cX7_isAsked 56 = .ok (.ifCond .eq 17, 3) := by decide +kernel
theorem dX7_isAsked_59 : decode cX7_isAsked 59 = .ok (.iload 4, 2) := by decide +kernel
theorem dX7_isAsked_61 : decode cX7_isAsked 61 = .ok (.iconst 0, 1) := by decide +kernel
theorem dX7_isAsked_62 : decode cX7_isAsked 62 = .ok (.iconst 1, 1) := by decide +kernel
theorem dX7_isAsked_63 : decode cX7_isAsked 63 = .ok (.invokestatic 36, 3) := by decide +kernel
theorem dX7_isAsked_66 : decode cX7_isAsked 66 = .ok (.ifCond .eq 7, 3) := by decide +kernel
theorem dX7_isAsked_69 : decode cX7_isAsked 69 = .ok (.iconst 1, 1) := by decide +kernel
theorem dX7_isAsked_70 : decode cX7_isAsked 70 = .ok (.goto 4, 3) := by decide +kernel
theorem dX7_isAsked_73 : decode cX7_isAsked 73 = .ok (.iconst 0, 1) := by decide +kernel
theorem dX7_isAsked_74 : decode cX7_isAsked 74 = .ok (.ireturn, 1) := by decide +kernel
set_option maxRecDepth 20000 in
theorem ggX7_chance_X7_isAsked : GoodIn wsX7_chance wsX7_isAsked := goodIn_r _ [8, 9, 10, 11, 7, 12, 35, 36, 37, 38, 39, 40, 41, 42, 43, 44, 45] (by decide +kernel) (by decide +kernel)
set_option maxRecDepth 20000 in
theorem gX7_chance_X7_isAsked : GoodIn wsX7_chance (wsV RX7 76 RX7 yX7_isAsked wsX7_isAsked) := goodIn_app (goodIn_of _ (by decide +kernel)) ggX7_chance_X7_isAsked
set_option maxRecDepth 20000 in
theorem ggX7_chance_X7_works : GoodIn wsX7_chance wsX7_works := goodIn_r _ [16, 9, 17, 18, 3, 19, 20, 21, 22, 23, 10, 11, 7, 12, 24, 25, 26, 27, 35, 36, 37, 38, 39, 40, 41, 42, 43, 44, 45] (by decide +kernel) (by decide +kernel)
set_option maxRecDepth 20000 in
theorem gX7_chance_X7_works : GoodIn wsX7_chance (wsV RX7 82 RX7 yX7_works wsX7_works) := goodIn_app (goodIn_of _ (by decide +kernel)) ggX7_chance_X7_works
set_option maxRecDepth 20000 in
theorem ggX7_chance_X7_part : GoodIn wsX7_chance wsX7_part := goodIn_r _ [31, 18, 32, 33, 7, 34, 35, 36, 37, 38, 39, 40, 41, 42, 43, 44, 45] (by decide +kernel) (by decide +kernel)
set_option maxRecDepth 20000 in
theorem gX7_chance_X7_part : GoodIn wsX7_chance (wsV RX7 86 RX7 yX7_part wsX7_part) := goodIn_app (goodIn_of _ (by decide +kernel)) ggX7_chance_X7_part
theorem dX7_chance_0 : decode cX7_chance 0 = .ok (.aload_n 0, 1) := by decide +kernel
theorem dX7_chance_1 : decode cX7_chance 1 = .ok (.iconst 0, 1) := by decide +kernel
theorem dX7_chance_2 : decode cX7_chance 2 = .ok (.putfield 32, 3) := by decide +kernel
theorem dX7_chance_5 : decode cX7_chance 5 = .ok (.aload_n 0, 1) := by decide +kernel
theorem dX7_chance_6 : decode cX7_chance 6 = .ok (.iload_n 1, 1) := by decide +kernel
theorem dX7_chance_7 : decode cX7_chance 7 = .ok (.iload_n 2, 1) := by decide +kernel
theorem dX7_chance_8 : decode cX7_chance 8 = .ok (.iload_n 3, 1) := by decide +kernel
theorem dX7_chance_9 : decode cX7_chance 9 = .ok (.iload 4, 2) := by decide +kernel
theorem dX7_chance_11 : decode cX7_chance 11 = .ok (.invokevirtual 76, 3) := by decide +kernel
theorem dX7_chance_14 : decode cX7_chance 14 = .ok (.ifCond .ne 7, 3) := by decide +kernel
theorem dX7_chance_17 : decode cX7_chance 17 = .ok (.ldc2_w 80, 3) := by decide +kernel
theorem dX7_chance_20 : decode cX7_chance 20 = .ok (.lreturn, 1) := by decide +kernel
theorem dX7_chance_21 : decode cX7_chance 21 = .ok (.aload_n 0, 1) := by decide +kernel
theorem dX7_chance_22 : decode cX7_chance 22 = .ok (.iload_n 3, 1) := by decide +kernel
theorem dX7_chance_23 : decode cX7_chance 23 = .ok (.invokevirtual 82, 3) := by decide +kernel
theorem dX7_chance_26 : decode cX7_chance 26 = .ok (.aload_n 0, 1) := by decide +kernel
theorem dX7_chance_27 : decode cX7_chance 27 = .ok (.aload_n 0, 1) := by decide +kernel
theorem dX7_chance_28 : decode cX7_chance 28 = .ok (.getfield 16, 3) := by decide +kernel
theorem dX7_chance_31 : decode cX7_chance 31 = .ok (.bipush 7, 2) := by decide +kernel
theorem dX7_chance_33 : decode cX7_chance 33 = .ok (.iload_n 1, 1) := by decide +kernel
theorem dX7_chance_34 : decode cX7_chance 34 = .ok (.imul, 1) := by decide +kernel
theorem dX7_chance_35 : decode cX7_chance 35 = .ok (.iload_n 2, 1) := by decide +kernel
theorem dX7_chance_36 : decode cX7_chance 36 = .ok (.iadd, 1) := by decide +kernel
theorem dX7_chance_37 : decode cX7_chance 37 = .ok (.laload, 1) := by decide +kernel
theorem dX7_chance_38 : decode cX7_chance 38 = .ok (.iload 4, 2) := by decide +kernel
theorem dX7_chance_40 : decode cX7_chance 40 = .ok (.invokevirtual 86, 3) := by decide +kernel
theorem dX7_chance_43 : decode cX7_chance 43 = .ok (.lreturn, 1) := by decide +kernel
set_option maxRecDepth 20000 in
theorem ggX7_lasts_X7_isAsked : GoodIn wsX7_lasts wsX7_isAsked := goodIn_r _ [8, 9, 10, 11, 7, 12, 35, 36, 37, 38, 39, 40, 41, 42, 43, 44, 45] (by decide +kernel) (by decide +kernel)
set_option maxRecDepth 20000 in
theorem gX7_lasts_X7_isAsked : GoodIn wsX7_lasts (wsV RX7 76 RX7 yX7_isAsked wsX7_isAsked) := goodIn_app (goodIn_of _ (by decide +kernel)) ggX7_lasts_X7_isAsked
set_option maxRecDepth 20000 in
theorem ggX7_lasts_X7_works : GoodIn wsX7_lasts wsX7_works := goodIn_r _ [16, 9, 17, 18, 19, 3, 20, 21, 22, 23, 10, 11, 7, 12, 24, 25, 26, 27, 35, 36, 37, 38, 39, 40, 41, 42, 43, 44, 45] (by decide +kernel) (by decide +kernel)
set_option maxRecDepth 20000 in
theorem gX7_lasts_X7_works : GoodIn wsX7_lasts (wsV RX7 82 RX7 yX7_works wsX7_works) := goodIn_app (goodIn_of _ (by decide +kernel)) ggX7_lasts_X7_works
set_option maxRecDepth 20000 in
theorem ggX7_lasts_X7_part : GoodIn wsX7_lasts wsX7_part := goodIn_r _ [31, 18, 32, 33, 7, 34, 35, 36, 37, 38, 39, 40, 41, 42, 43, 44, 45] (by decide +kernel) (by decide +kernel)
set_option maxRecDepth 20000 in
theorem gX7_lasts_X7_part : GoodIn wsX7_lasts (wsV RX7 86 RX7 yX7_part wsX7_part) := goodIn_app (goodIn_of _ (by decide +kernel)) ggX7_lasts_X7_part
theorem dX7_lasts_0 : decode cX7_lasts 0 = .ok (.aload_n 0, 1) := by decide +kernel
theorem dX7_lasts_1 : decode cX7_lasts 1 = .ok (.iconst 0, 1) := by decide +kernel
theorem dX7_lasts_2 : decode cX7_lasts 2 = .ok (.putfield 32, 3) := by decide +kernel
theorem dX7_lasts_5 : decode cX7_lasts 5 = .ok (.aload_n 0, 1) := by decide +kernel
theorem dX7_lasts_6 : decode cX7_lasts 6 = .ok (.iload_n 1, 1) := by decide +kernel
theorem dX7_lasts_7 : decode cX7_lasts 7 = .ok (.iload_n 2, 1) := by decide +kernel
theorem dX7_lasts_8 : decode cX7_lasts 8 = .ok (.iload_n 3, 1) := by decide +kernel
theorem dX7_lasts_9 : decode cX7_lasts 9 = .ok (.iload 4, 2) := by decide +kernel
theorem dX7_lasts_11 : decode cX7_lasts 11 = .ok (.invokevirtual 76, 3) := by decide +kernel
theorem dX7_lasts_14 : decode cX7_lasts 14 = .ok (.ifCond .ne 7, 3) := by decide +kernel
theorem dX7_lasts_17 : decode cX7_lasts 17 = .ok (.ldc2_w 80, 3) := by decide +kernel
theorem dX7_lasts_20 : decode cX7_lasts 20 = .ok (.lreturn, 1) := by decide +kernel
theorem dX7_lasts_21 : decode cX7_lasts 21 = .ok (.aload_n 0, 1) := by decide +kernel
theorem dX7_lasts_22 : decode cX7_lasts 22 = .ok (.iload_n 3, 1) := by decide +kernel
theorem dX7_lasts_23 : decode cX7_lasts 23 = .ok (.invokevirtual 82, 3) := by decide +kernel
theorem dX7_lasts_26 : decode cX7_lasts 26 = .ok (.aload_n 0, 1) := by decide +kernel
theorem dX7_lasts_27 : decode cX7_lasts 27 = .ok (.aload_n 0, 1) := by decide +kernel
theorem dX7_lasts_28 : decode cX7_lasts 28 = .ok (.getfield 20, 3) := by decide +kernel
theorem dX7_lasts_31 : decode cX7_lasts 31 = .ok (.bipush 7, 2) := by decide +kernel
theorem dX7_lasts_33 : decode cX7_lasts 33 = .ok (.iload_n 1, 1) := by decide +kernel
theorem dX7_lasts_34 : decode cX7_lasts 34 = .ok (.imul, 1) := by decide +kernel
theorem dX7_lasts_35 : decode cX7_lasts 35 = .ok (.iload_n 2, 1) := by decide +kernel
theorem dX7_lasts_36 : decode cX7_lasts 36 = .ok (.iadd, 1) := by decide +kernel
theorem dX7_lasts_37 : decode cX7_lasts 37 = .ok (.laload, 1) := by decide +kernel
theorem dX7_lasts_38 : decode cX7_lasts 38 = .ok (.iload 4, 2) := by decide +kernel
theorem dX7_lasts_40 : decode cX7_lasts 40 = .ok (.invokevirtual 86, 3) := by decide +kernel
theorem dX7_lasts_43 : decode cX7_lasts 43 = .ok (.lreturn, 1) := by decide +kernel
set_option maxRecDepth 20000 in
theorem ggX7_weight_X7_isAsked : GoodIn wsX7_weight wsX7_isAsked := goodIn_r _ [9, 2, 10, 11, 8, 12, 35, 36, 37, 38, 39, 40, 41, 42, 43, 44, 45] (by decide +kernel) (by decide +kernel)
set_option maxRecDepth 20000 in
theorem gX7_weight_X7_isAsked : GoodIn wsX7_weight (wsV RX7 76 RX7 yX7_isAsked wsX7_isAsked) := goodIn_app (goodIn_of _ (by decide +kernel)) ggX7_weight_X7_isAsked
set_option maxRecDepth 20000 in
theorem ggX7_weight_X7_wonOf : GoodIn wsX7_weight wsX7_wonOf := goodIn_r _ [16, 2, 35, 36, 37, 38, 39, 40, 41, 42, 43, 44, 45] (by decide +kernel) (by decide +kernel)
set_option maxRecDepth 20000 in
theorem gX7_weight_X7_wonOf : GoodIn wsX7_weight (wsV RX7 55 RX7 yX7_wonOf wsX7_wonOf) := goodIn_app (goodIn_of _ (by decide +kernel)) ggX7_weight_X7_wonOf
set_option maxRecDepth 20000 in
theorem ggX7_weight_X7_works : GoodIn wsX7_weight wsX7_works := goodIn_r _ [20, 2, 21, 22, 4, 23, 24, 25, 26, 27, 10, 11, 8, 12, 13, 14, 15, 16, 35, 36, 37, 38, 39, 40, 41, 42, 43, 44, 45] (by decide +kernel) (by decide +kernel)
set_option maxRecDepth 20000 in
theorem gX7_weight_X7_works : GoodIn wsX7_weight (wsV RX7 82 RX7 yX7_works wsX7_works) := goodIn_app (goodIn_of _ (by decide +kernel)) ggX7_weight_X7_works
set_option maxRecDepth 20000 in
theorem ggX7_weight_X7_part : GoodIn wsX7_weight wsX7_part := goodIn_r _ [31, 22, 32, 33, 8, 34, 35, 36, 37, 38, 39, 40, 41, 42, 43, 44, 45] (by decide +kernel) (by decide +kernel)
set_option maxRecDepth 20000 in
theorem gX7_weight_X7_part : GoodIn wsX7_weight (wsV RX7 86 RX7 yX7_part wsX7_part) := goodIn_app (goodIn_of _ (by decide +kernel)) ggX7_weight_X7_part
theorem dX7_weight_0 : decode cX7_weight 0 = .ok (.aload_n 0, 1) := by decide +kernel
theorem dX7_weight_1 : decode cX7_weight 1 = .ok (.iconst 0, 1) := by decide +kernel
theorem dX7_weight_2 : decode cX7_weight 2 = .ok (.putfield 32, 3) := by decide +kernel
theorem dX7_weight_5 : decode cX7_weight 5 = .ok (.aload_n 0, 1) := by decide +kernel
theorem dX7_weight_6 : decode cX7_weight 6 = .ok (.iload_n 1, 1) := by decide +kernel
theorem dX7_weight_7 : decode cX7_weight 7 = .ok (.iload_n 2, 1) := by decide +kernel
theorem dX7_weight_8 : decode cX7_weight 8 = .ok (.iload_n 3, 1) := by decide +kernel
theorem dX7_weight_9 : decode cX7_weight 9 = .ok (.iload 4, 2) := by decide +kernel
theorem dX7_weight_11 : decode cX7_weight 11 = .ok (.invokevirtual 76, 3) := by decide +kernel
theorem dX7_weight_14 : decode cX7_weight 14 = .ok (.ifCond .eq 19, 3) := by decide +kernel
theorem dX7_weight_17 : decode cX7_weight 17 = .ok (.aload_n 0, 1) := by decide +kernel
theorem dX7_weight_18 : decode cX7_weight 18 = .ok (.aload_n 0, 1) := by decide +kernel
theorem dX7_weight_19 : decode cX7_weight 19 = .ok (.getfield 7, 3) := by decide +kernel
theorem dX7_weight_22 : decode cX7_weight 22 = .ok (.bipush 6, 2) := by decide +kernel
theorem dX7_weight_24 : decode cX7_weight 24 = .ok (.iaload, 1) := by decide +kernel
theorem dX7_weight_25 : decode cX7_weight 25 = .ok (.iload_n 1, 1) := by decide +kernel
theorem dX7_weight_26 : decode cX7_weight 26 = .ok (.iload_n 2, 1) := by decide +kernel
theorem dX7_weight_27 : decode cX7_weight 27 = .ok (.invokevirtual 55, 3) := by decide +kernel
theorem dX7_weight_30 : decode cX7_weight 30 = .ok (.ifCond .le 7, 3) := by decide +kernel
theorem dX7_weight_33 : decode cX7_weight 33 = .ok (.ldc2_w 80, 3) := by decide +kernel
theorem dX7_weight_36 : decode cX7_weight 36 = .ok (.lreturn, 1) := by decide +kernel
theorem dX7_weight_37 : decode cX7_weight 37 = .ok (.aload_n 0, 1) := by decide +kernel
theorem dX7_weight_38 : decode cX7_weight 38 = .ok (.iload_n 3, 1) := by decide +kernel
theorem dX7_weight_39 : decode cX7_weight 39 = .ok (.invokevirtual 82, 3) := by decide +kernel
theorem dX7_weight_42 : decode cX7_weight 42 = .ok (.aload_n 0, 1) := by decide +kernel
theorem dX7_weight_43 : decode cX7_weight 43 = .ok (.aload_n 0, 1) := by decide +kernel
theorem dX7_weight_44 : decode cX7_weight 44 = .ok (.getfield 16, 3) := by decide +kernel
theorem dX7_weight_47 : decode cX7_weight 47 = .ok (.bipush 7, 2) := by decide +kernel
theorem dX7_weight_49 : decode cX7_weight 49 = .ok (.iload_n 1, 1) := by decide +kernel
theorem dX7_weight_50 : decode cX7_weight 50 = .ok (.imul, 1) := by decide +kernel
theorem dX7_weight_51 : decode cX7_weight 51 = .ok (.bipush 7, 2) := by decide +kernel
theorem dX7_weight_53 : decode cX7_weight 53 = .ok (.iadd, 1) := by decide +kernel
theorem dX7_weight_54 : decode cX7_weight 54 = .ok (.iload_n 2, 1) := by decide +kernel
theorem dX7_weight_55 : decode cX7_weight 55 = .ok (.iadd, 1) := by decide +kernel
theorem dX7_weight_56 : decode cX7_weight 56 = .ok (.laload, 1) := by decide +kernel
theorem dX7_weight_57 : decode cX7_weight 57 = .ok (.aload_n 0, 1) := by decide +kernel
theorem dX7_weight_58 : decode cX7_weight 58 = .ok (.getfield 16, 3) := by decide +kernel
theorem dX7_weight_61 : decode cX7_weight 61 = .ok (.bipush 7, 2) := by decide +kernel
theorem dX7_weight_63 : decode cX7_weight 63 = .ok (.iload_n 1, 1) := by decide +kernel
theorem dX7_weight_64 : decode cX7_weight 64 = .ok (.imul, 1) := by decide +kernel
theorem dX7_weight_65 : decode cX7_weight 65 = .ok (.iload_n 2, 1) := by decide +kernel
theorem dX7_weight_66 : decode cX7_weight 66 = .ok (.iadd, 1) := by decide +kernel
theorem dX7_weight_67 : decode cX7_weight 67 = .ok (.iconst 1, 1) := by decide +kernel
theorem dX7_weight_68 : decode cX7_weight 68 = .ok (.iadd, 1) := by decide +kernel
theorem dX7_weight_69 : decode cX7_weight 69 = .ok (.laload, 1) := by decide +kernel
theorem dX7_weight_70 : decode cX7_weight 70 = .ok (.lsub, 1) := by decide +kernel
theorem dX7_weight_71 : decode cX7_weight 71 = .ok (.iload 4, 2) := by decide +kernel
theorem dX7_weight_73 : decode cX7_weight 73 = .ok (.invokevirtual 86, 3) := by decide +kernel
theorem dX7_weight_76 : decode cX7_weight 76 = .ok (.lreturn, 1) := by decide +kernel
set_option maxRecDepth 20000 in
theorem ggX7_heaviest_X7_in : GoodIn wsX7_heaviest wsX7_in := goodIn_r _ [8] (by decide +kernel) (by decide +kernel)
set_option maxRecDepth 20000 in
theorem gX7_heaviest_X7_in : GoodIn wsX7_heaviest (va_wsS RX7 36 yX7_in wsX7_in) := goodIn_app (goodIn_of _ (by decide +kernel)) ggX7_heaviest_X7_in
set_option maxRecDepth 20000 in
theorem ggX7_heaviest_X7_works : GoodIn wsX7_heaviest wsX7_works := goodIn_r _ [12, 3, 13, 14, 4, 15, 16, 17, 18, 19, 5, 6, 7, 8, 20, 21, 22, 23, 24, 25, 26, 27, 28, 29, 30, 31, 32, 33, 34] (by decide +kernel) (by decide +kernel)
set_option maxRecDepth 20000 in
theorem gX7_heaviest_X7_works : GoodIn wsX7_heaviest (wsV RX7 82 RX7 yX7_works wsX7_works) := goodIn_app (goodIn_of _ (by decide +kernel)) ggX7_heaviest_X7_works
set_option maxRecDepth 20000 in
theorem ggX7_heaviest_X7_wonOf : GoodIn wsX7_heaviest wsX7_wonOf := goodIn_r _ [23, 3, 24, 25, 26, 27, 28, 29, 30, 31, 32, 33, 34] (by decide +kernel) (by decide +kernel)
set_option maxRecDepth 20000 in
theorem gX7_heaviest_X7_wonOf : GoodIn wsX7_heaviest (wsV RX7 55 RX7 yX7_wonOf wsX7_wonOf) := goodIn_app (goodIn_of _ (by decide +kernel)) ggX7_heaviest_X7_wonOf
theorem dX7_heaviest_0 : decode cX7_heaviest 0 = .ok (.aload_n 0, 1) := by decide +kernel
theorem dX7_heaviest_1 : decode cX7_heaviest 1 = .ok (.iconst 0, 1) := by decide +kernel
theorem dX7_heaviest_2 : decode cX7_heaviest 2 = .ok (.putfield 32, 3) := by decide +kernel
theorem dX7_heaviest_5 : decode cX7_heaviest 5 = .ok (.iload_n 1, 1) := by decide +kernel
theorem dX7_heaviest_6 : decode cX7_heaviest 6 = .ok (.iconst 0, 1) := by decide +kernel
theorem dX7_heaviest_7 : decode cX7_heaviest 7 = .ok (.iconst 1, 1) := by decide +kernel
theorem dX7_heaviest_8 : decode cX7_heaviest 8 = .ok (.invokestatic 36, 3) := by decide +kernel
theorem dX7_heaviest_11 : decode cX7_heaviest 11 = .ok (.ifCond .eq 12, 3) := by decide +kernel
theorem dX7_heaviest_14 : decode cX7_heaviest 14 = .ok (.iload_n 2, 1) := by decide +kernel
theorem dX7_heaviest_15 : decode cX7_heaviest 15 = .ok (.iconst 0, 1) := by decide +kernel
theorem dX7_heaviest_16 : decode cX7_heaviest 16 = .ok (.iconst 1, 1) := by decide +kernel
theorem dX7_heaviest_17 : decode cX7_heaviest 17 = .ok (.invokestatic 36, 3) := by decide +kernel
theorem dX7_heaviest_20 : decode cX7_heaviest 20 = .ok (.ifCond .ne 5, 3) := by decide +kernel
theorem dX7_heaviest_23 : decode cX7_heaviest 23 = .ok (.iconst (-1), 1) := by decide +kernel
theorem dX7_heaviest_24 : decode cX7_heaviest 24 = .ok (.ireturn, 1) := by decide +kernel
theorem dX7_heaviest_25 : decode cX7_heaviest 25 = .ok (.aload_n 0, 1) := by decide +kernel
theorem dX7_heaviest_26 : decode cX7_heaviest 26 = .ok (.iload_n 1, 1) := by decide +kernel
theorem dX7_heaviest_27 : decode cX7_heaviest 27 = .ok (.invokevirtual 82, 3) := by decide +kernel
theorem dX7_heaviest_30 : decode cX7_heaviest 30 = .ok (.ldc2_w 90, 3) := by decide +kernel
theorem dX7_heaviest_33 : decode cX7_heaviest 33 = .ok (.lstore_n 3, 1) := by decide +kernel
theorem dX7_heaviest_34 : decode cX7_heaviest 34 = .ok (.iconst 0, 1) := by decide +kernel
theorem dX7_heaviest_35 : decode cX7_heaviest 35 = .ok (.istore 5, 2) := by decide +kernel
theorem dX7_heaviest_37 : decode cX7_heaviest 37 = .ok (.iconst 0, 1) := by decide +kernel
theorem dX7_heaviest_38 : decode cX7_heaviest 38 = .ok (.istore 6, 2) := by decide +kernel
theorem dX7_heaviest_40 : decode cX7_heaviest 40 = .ok (.iload 6, 2) := by decide +kernel
theorem dX7_heaviest_42 : decode cX7_heaviest 42 = .ok (.aload_n 0, 1) := by decide +kernel
theorem dX7_heaviest_43 : decode cX7_heaviest 43 = .ok (.getfield 7, 3) := by decide +kernel
theorem dX7_heaviest_46 : decode cX7_heaviest 46 = .ok (.iconst 2, 1) := by decide +kernel
theorem dX7_heaviest_47 : decode cX7_heaviest 47 = .ok (.iaload, 1) := by decide +kernel
theorem dX7_heaviest_48 : decode cX7_heaviest 48 = .ok (.if_icmp .ge 101, 3) := by decide +kernel
theorem dX7_heaviest_51 : decode cX7_heaviest 51 = .ok (.iconst 0, 1) := by decide +kernel
theorem dX7_heaviest_52 : decode cX7_heaviest 52 = .ok (.istore 7, 2) := by decide +kernel
theorem dX7_heaviest_54 : decode cX7_heaviest 54 = .ok (.iload 7, 2) := by decide +kernel
theorem dX7_heaviest_56 : decode cX7_heaviest 56 = .ok (.aload_n 0, 1) := by decide +kernel
theorem dX7_heaviest_57 : decode cX7_heaviest 57 = .ok (.getfield 7, 3) := by decide +kernel
theorem dX7_heaviest_60 : decode cX7_heaviest 60 = .ok (.iconst 2, 1) := by decide +kernel
theorem dX7_heaviest_61 : decode cX7_heaviest 61 = .ok (.iaload, 1) := by decide +kernel
theorem dX7_heaviest_62 : decode cX7_heaviest 62 = .ok (.if_icmp .ge 81, 3) := by decide +kernel
theorem dX7_heaviest_65 : decode cX7_heaviest 65 = .ok (.aload_n 0, 1) := by decide +kernel
theorem dX7_heaviest_66 : decode cX7_heaviest 66 = .ok (.getfield 16, 3) := by decide +kernel
theorem dX7_heaviest_69 : decode cX7_heaviest 69 = .ok (.bipush 7, 2) := by decide +kernel
theorem dX7_heaviest_71 : decode cX7_heaviest 71 = .ok (.iload 6, 2) := by decide +kernel
theorem dX7_heaviest_73 : decode cX7_heaviest 73 = .ok (.imul, 1) := by decide +kernel
theorem dX7_heaviest_74 : decode cX7_heaviest 74 = .ok (.bipush 7, 2) := by decide +kernel
theorem dX7_heaviest_76 : decode cX7_heaviest 76 = .ok (.iadd, 1) := by decide +kernel
theorem dX7_heaviest_77 : decode cX7_heaviest 77 = .ok (.iload 7, 2) := by decide +kernel
theorem dX7_heaviest_79 : decode cX7_heaviest 79 = .ok (.iadd, 1) := by decide +kernel
theorem dX7_heaviest_80 : decode cX7_heaviest 80 = .ok (.laload, 1) := by decide +kernel
theorem dX7_heaviest_81 : decode cX7_heaviest 81 = .ok (.aload_n 0, 1) := by decide +kernel
theorem dX7_heaviest_82 : decode cX7_heaviest 82 = .ok (.getfield 16, 3) := by decide +kernel
theorem dX7_heaviest_85 : decode cX7_heaviest 85 = .ok (.bipush 7, 2) := by decide +kernel
theorem dX7_heaviest_87 : decode cX7_heaviest 87 = .ok (.iload 6, 2) := by decide +kernel
theorem dX7_heaviest_89 : decode cX7_heaviest 89 = .ok (.imul, 1) := by decide +kernel
theorem dX7_heaviest_90 : decode cX7_heaviest 90 = .ok (.iload 7, 2) := by decide +kernel
theorem dX7_heaviest_92 : decode cX7_heaviest 92 = .ok (.iadd, 1) := by decide +kernel
theorem dX7_heaviest_93 : decode cX7_heaviest 93 = .ok (.iconst 1, 1) := by decide +kernel
theorem dX7_heaviest_94 : decode cX7_heaviest 94 = .ok (.iadd, 1) := by decide +kernel
theorem dX7_heaviest_95 : decode cX7_heaviest 95 = .ok (.laload, 1) := by decide +kernel
theorem dX7_heaviest_96 : decode cX7_heaviest 96 = .ok (.lsub, 1) := by decide +kernel
theorem dX7_heaviest_97 : decode cX7_heaviest 97 = .ok (.lstore 8, 2) := by decide +kernel
theorem dX7_heaviest_99 : decode cX7_heaviest 99 = .ok (.aload_n 0, 1) := by decide +kernel
theorem dX7_heaviest_100 : decode cX7_heaviest 100 = .ok (.aload_n 0, 1) := by decide +kernel
theorem dX7_heaviest_101 : decode cX7_heaviest 101 = .ok (.getfield 7, 3) := by decide +kernel
theorem dX7_heaviest_104 : decode cX7_heaviest 104 = .ok (.bipush 6, 2) := by decide +kernel
theorem dX7_heaviest_106 : decode cX7_heaviest 106 = .ok (.iaload, 1) := by decide +kernel
theorem dX7_heaviest_107 : decode cX7_heaviest 107 = .ok (.iload 6, 2) := by decide +kernel
theorem dX7_heaviest_109 : decode cX7_heaviest 109 = .ok (.iload 7, 2) := by decide +kernel
theorem dX7_heaviest_111 : decode cX7_heaviest 111 = .ok (.invokevirtual 55, 3) := by decide +kernel
theorem dX7_heaviest_114 : decode cX7_heaviest 114 = .ok (.ifCond .ne 23, 3) := by decide +kernel
theorem dX7_heaviest_117 : decode cX7_heaviest 117 = .ok (.lload 8, 2) := by decide +kernel
theorem dX7_heaviest_119 : decode cX7_heaviest 119 = .ok (.lload_n 3, 1) := by decide +kernel
theorem dX7_heaviest_120 : decode cX7_heaviest 120 = .ok (.lcmp, 1) := by decide +kernel
theorem dX7_heaviest_121 : decode cX7_heaviest 121 = .ok (.ifCond .le 16, 3) := by decide +kernel
theorem dX7_heaviest_124 : decode cX7_heaviest 124 = .ok (.lload 8, 2) := by decide +kernel
theorem dX7_heaviest_126 : decode cX7_heaviest 126 = .ok (.lstore_n 3, 1) := by decide +kernel
theorem dX7_heaviest_127 : decode cX7_heaviest 127 = .ok (.bipush 7, 2) := by decide +kernel
theorem dX7_heaviest_129 : decode cX7_heaviest 129 = .ok (.iload 6, 2) := by decide +kernel
theorem dX7_heaviest_131 : decode cX7_heaviest 131 = .ok (.imul, 1) := by decide +kernel
theorem dX7_heaviest_132 : decode cX7_heaviest 132 = .ok (.iload 7, 2) := by decide +kernel
theorem dX7_heaviest_134 : decode cX7_heaviest 134 = .ok (.iadd, 1) := by decide +kernel
theorem dX7_heaviest_135 : decode cX7_heaviest 135 = .ok (.istore 5, 2) := by decide +kernel
theorem dX7_heaviest_137 : decode cX7_heaviest 137 = .ok (.iinc 7 1, 3) := by decide +kernel
theorem dX7_heaviest_140 : decode cX7_heaviest 140 = .ok (.goto (-86), 3) := by decide +kernel
theorem dX7_heaviest_143 : decode cX7_heaviest 143 = .ok (.iinc 6 1, 3) := by decide +kernel
theorem dX7_heaviest_146 : decode cX7_heaviest 146 = .ok (.goto (-106), 3) := by decide +kernel
theorem dX7_heaviest_149 : decode cX7_heaviest 149 = .ok (.iload_n 2, 1) := by decide +kernel
theorem dX7_heaviest_150 : decode cX7_heaviest 150 = .ok (.ifCond .ne 11, 3) := by decide +kernel
theorem dX7_heaviest_153 : decode cX7_heaviest 153 = .ok (.iload 5, 2) := by decide +kernel
theorem dX7_heaviest_155 : decode cX7_heaviest 155 = .ok (.bipush 7, 2) := by decide +kernel
theorem dX7_heaviest_157 : decode cX7_heaviest 157 = .ok (.idiv, 1) := by decide +kernel
theorem dX7_heaviest_158 : decode cX7_heaviest 158 = .ok (.goto 8, 3) := by decide +kernel
theorem dX7_heaviest_161 : decode cX7_heaviest 161 = .ok (.iload 5, 2) := by decide +kernel
theorem dX7_heaviest_163 : decode cX7_heaviest 163 = .ok (.bipush 7, 2) := by decide +kernel
theorem dX7_heaviest_165 : decode cX7_heaviest 165 = .ok (.irem, 1) := by decide +kernel
theorem dX7_heaviest_166 : decode cX7_heaviest 166 = .ok (.ireturn, 1) := by decide +kernel
set_option maxRecDepth 20000 in
theorem ggX7_gameOf_X7_works : GoodIn wsX7_gameOf wsX7_works := goodIn_r _ [9, 2, 10, 4, 1, 11, 12, 13, 14, 15, 16, 17, 8, 18, 19, 20, 21, 22, 23, 24, 25, 26, 27, 28, 29, 30, 31, 32, 33] (by decide +kernel) (by decide +kernel)
set_option maxRecDepth 20000 in
theorem gX7_gameOf_X7_works : GoodIn wsX7_gameOf (wsV RX7 82 RX7 yX7_works wsX7_works) := goodIn_app (goodIn_of _ (by decide +kernel)) ggX7_gameOf_X7_works
theorem dX7_gameOf_0 : decode cX7_gameOf 0 = .ok (.aload_n 0, 1) := by decide +kernel
theorem dX7_gameOf_1 : decode cX7_gameOf 1 = .ok (.iload_n 1, 1) := by decide +kernel
theorem dX7_gameOf_2 : decode cX7_gameOf 2 = .ok (.invokevirtual 82, 3) := by decide +kernel
theorem dX7_gameOf_5 : decode cX7_gameOf 5 = .ok (.aload_n 0, 1) := by decide +kernel
theorem dX7_gameOf_6 : decode cX7_gameOf 6 = .ok (.getfield 16, 3) := by decide +kernel
theorem dX7_gameOf_9 : decode cX7_gameOf 9 = .ok (.iload_n 1, 1) := by decide +kernel
theorem dX7_gameOf_10 : decode cX7_gameOf 10 = .ok (.ifCond .ne 15, 3) := by decide +kernel
theorem dX7_gameOf_13 : decode cX7_gameOf 13 = .ok (.bipush 7, 2) := by decide +kernel
theorem dX7_gameOf_15 : decode cX7_gameOf 15 = .ok (.aload_n 0, 1) := by decide +kernel
theorem dX7_gameOf_16 : decode cX7_gameOf 16 = .ok (.getfield 7, 3) := by decide +kernel
theorem dX7_gameOf_19 : decode cX7_gameOf 19 = .ok (.iconst 5, 1) := by decide +kernel
theorem dX7_gameOf_20 : decode cX7_gameOf 20 = .ok (.iaload, 1) := by decide +kernel
theorem dX7_gameOf_21 : decode cX7_gameOf 21 = .ok (.imul, 1) := by decide +kernel
theorem dX7_gameOf_22 : decode cX7_gameOf 22 = .ok (.goto 4, 3) := by decide +kernel
theorem dX7_gameOf_25 : decode cX7_gameOf 25 = .ok (.iconst 0, 1) := by decide +kernel
theorem dX7_gameOf_26 : decode cX7_gameOf 26 = .ok (.laload, 1) := by decide +kernel
theorem dX7_gameOf_27 : decode cX7_gameOf 27 = .ok (.ldc2_w 92, 3) := by decide +kernel
theorem dX7_gameOf_30 : decode cX7_gameOf 30 = .ok (.lmul, 1) := by decide +kernel
theorem dX7_gameOf_31 : decode cX7_gameOf 31 = .ok (.aload_n 0, 1) := by decide +kernel
theorem dX7_gameOf_32 : decode cX7_gameOf 32 = .ok (.getfield 61, 3) := by decide +kernel
theorem dX7_gameOf_35 : decode cX7_gameOf 35 = .ok (.ldiv, 1) := by decide +kernel
theorem dX7_gameOf_36 : decode cX7_gameOf 36 = .ok (.lreturn, 1) := by decide +kernel
set_option maxRecDepth 20000 in
theorem ggX7_game_X7_in : GoodIn wsX7_game wsX7_in := goodIn_r _ [5] (by decide +kernel) (by decide +kernel)
set_option maxRecDepth 20000 in
theorem gX7_game_X7_in : GoodIn wsX7_game (va_wsS RX7 36 yX7_in wsX7_in) := goodIn_app (goodIn_of _ (by decide +kernel)) ggX7_game_X7_in
set_option maxRecDepth 20000 in
theorem ggX7_game_X7_gameOf : GoodIn wsX7_game wsX7_gameOf := goodIn_r _ [9, 10, 11, 12, 13, 14, 15, 16, 4, 17, 18, 19, 20, 21, 22, 23, 2, 3, 5, 24, 25, 26, 27, 28, 29, 30, 31, 32, 33, 34, 35, 36, 37, 38] (by decide +kernel) (by decide +kernel)
set_option maxRecDepth 20000 in
theorem gX7_game_X7_gameOf : GoodIn wsX7_game (wsV RX7 94 RX7 yX7_gameOf wsX7_gameOf) := goodIn_app (goodIn_of _ (by decide +kernel)) ggX7_game_X7_gameOf
theorem dX7_game_0 : decode cX7_game 0 = .ok (.aload_n 0, 1) := by decide +kernel
theorem dX7_game_1 : decode cX7_game 1 = .ok (.iconst 0, 1) := by decide +kernel
theorem dX7_game_2 : decode cX7_game 2 = .ok (.putfield 32, 3) := by decide +kernel
theorem dX7_game_5 : decode cX7_game 5 = .ok (.iload_n 1, 1) := by decide +kernel
theorem dX7_game_6 : decode cX7_game 6 = .ok (.iconst 0, 1) := by decide +kernel
theorem dX7_game_7 : decode cX7_game 7 = .ok (.iconst 1, 1) := by decide +kernel
theorem dX7_game_8 : decode cX7_game 8 = .ok (.invokestatic 36, 3) := by decide +kernel
theorem dX7_game_11 : decode cX7_game 11 = .ok (.ifCond .eq 12, 3) := by decide +kernel
theorem dX7_game_14 : decode cX7_game 14 = .ok (.aload_n 0, 1) := by decide +kernel
theorem dX7_game_15 : decode cX7_game 15 = .ok (.iload_n 1, 1) := by decide +kernel
theorem dX7_game_16 : decode cX7_game 16 = .ok (.invokevirtual 94, 3) := by decide +kernel
theorem dX7_game_19 : decode cX7_game 19 = .ok (.l2i, 1) := by decide +kernel
theorem dX7_game_20 : decode cX7_game 20 = .ok (.goto 4, 3) := by decide +kernel
theorem dX7_game_23 : decode cX7_game 23 = .ok (.iconst (-1), 1) := by decide +kernel
theorem dX7_game_24 : decode cX7_game 24 = .ok (.ireturn, 1) := by decide +kernel
set_option maxRecDepth 20000 in
theorem ggX7_worksSets_X7_gameOf : GoodIn wsX7_worksSets wsX7_gameOf := goodIn_r _ [9, 10, 1, 3, 11, 12, 13, 14, 8, 15, 16, 17, 18, 19, 20, 21, 22, 23, 24, 25, 26, 27, 28, 29, 30, 31, 32, 33, 34, 35, 36, 37, 38, 39] (by decide +kernel) (by decide +kernel)
set_option maxRecDepth 20000 in
theorem gX7_worksSets_X7_gameOf : GoodIn wsX7_worksSets (wsV RX7 94 RX7 yX7_gameOf wsX7_gameOf) := goodIn_app (goodIn_of _ (by decide +kernel)) ggX7_worksSets_X7_gameOf
set_option maxRecDepth 20000 in
theorem ggX7_worksSets_X7_in : GoodIn wsX7_worksSets wsX7_in := goodIn_r _ [24] (by decide +kernel) (by decide +kernel)
set_option maxRecDepth 20000 in
theorem gX7_worksSets_X7_in : GoodIn wsX7_worksSets (va_wsS RX7 36 yX7_in wsX7_in) := goodIn_app (goodIn_of _ (by decide +kernel)) ggX7_worksSets_X7_in
theorem dX7_worksSets_0 : decode cX7_worksSets 0 = .ok (.aload_n 0, 1) := by decide +kernel
theorem dX7_worksSets_1 : decode cX7_worksSets 1 = .ok (.getfield 7, 3) := by decide +kernel
theorem dX7_worksSets_4 : decode cX7_worksSets 4 = .ok (.iconst 3, 1) := by decide +kernel
theorem dX7_worksSets_5 : decode cX7_worksSets 5 = .ok (.iaload, 1) := by decide +kernel
theorem dX7_worksSets_6 : decode cX7_worksSets 6 = .ok (.istore_n 1, 1) := by decide +kernel
theorem dX7_worksSets_7 : decode cX7_worksSets 7 = .ok (.aload_n 0, 1) := by decide +kernel
theorem dX7_worksSets_8 : decode cX7_worksSets 8 = .ok (.iconst 0, 1) := by decide +kernel
theorem dX7_worksSets_9 : decode cX7_worksSets 9 = .ok (.invokevirtual 94, 3) := by decide +kernel
theorem dX7_worksSets_12 : decode cX7_worksSets 12 = .ok (.lstore_n 2, 1) := by decide +kernel
theorem dX7_worksSets_13 : decode cX7_worksSets 13 = .ok (.aload_n 0, 1) := by decide +kernel
theorem dX7_worksSets_14 : decode cX7_worksSets 14 = .ok (.iconst 1, 1) := by decide +kernel
theorem dX7_worksSets_15 : decode cX7_worksSets 15 = .ok (.invokevirtual 94, 3) := by decide +kernel
theorem dX7_worksSets_18 : decode cX7_worksSets 18 = .ok (.lstore 4, 2) := by decide +kernel
theorem dX7_worksSets_20 : decode cX7_worksSets 20 = .ok (.iconst 2, 1) := by decide +kernel
theorem dX7_worksSets_21 : decode cX7_worksSets 21 = .ok (.iload_n 1, 1) := by decide +kernel
theorem dX7_worksSets_22 : decode cX7_worksSets 22 = .ok (.imul, 1) := by decide +kernel
theorem dX7_worksSets_23 : decode cX7_worksSets 23 = .ok (.iconst 1, 1) := by decide +kernel
theorem dX7_worksSets_24 : decode cX7_worksSets 24 = .ok (.iadd, 1) := by decide +kernel
theorem dX7_worksSets_25 : decode cX7_worksSets 25 = .ok (.istore 6, 2) := by decide +kernel
theorem dX7_worksSets_27 : decode cX7_worksSets 27 = .ok (.iload 6, 2) := by decide +kernel
theorem dX7_worksSets_29 : decode cX7_worksSets 29 = .ok (.ifCond .lt 261, 3) := by decide +kernel
theorem dX7_worksSets_32 : decode cX7_worksSets 32 = .ok (.iconst 0, 1) := by decide +kernel
theorem dX7_worksSets_33 : decode cX7_worksSets 33 = .ok (.istore 7, 2) := by decide +kernel
theorem dX7_worksSets_35 : decode cX7_worksSets 35 = .ok (.iload 7, 2) := by decide +kernel
theorem dX7_worksSets_37 : decode cX7_worksSets 37 = .ok (.iload_n 1, 1) := by decide +kernel
theorem dX7_worksSets_38 : decode cX7_worksSets 38 = .ok (.iconst 1, 1) := by decide +kernel
theorem dX7_worksSets_39 : decode cX7_worksSets 39 = .ok (.iadd, 1) := by decide +kernel
theorem dX7_worksSets_40 : decode cX7_worksSets 40 = .ok (.if_icmp .gt 244, 3) := by decide +kernel
theorem dX7_worksSets_43 : decode cX7_worksSets 43 = .ok (.iload 6, 2) := by decide +kernel
theorem dX7_worksSets_45 : decode cX7_worksSets 45 = .ok (.iload 7, 2) := by decide +kernel
theorem dX7_worksSets_47 : decode cX7_worksSets 47 = .ok (.isub, 1) := by decide +kernel
theorem dX7_worksSets_48 : decode cX7_worksSets 48 = .ok (.istore 8, 2) := by decide +kernel
theorem dX7_worksSets_50 : decode cX7_worksSets 50 = .ok (.iconst 0, 1) := by decide +kernel
theorem dX7_worksSets_51 : decode cX7_worksSets 51 = .ok (.istore 9, 2) := by decide +kernel
theorem dX7_worksSets_53 : decode cX7_worksSets 53 = .ok (.iload 9, 2) := by decide +kernel
theorem dX7_worksSets_55 : decode cX7_worksSets 55 = .ok (.iconst 2, 1) := by decide +kernel
theorem dX7_worksSets_56 : decode cX7_worksSets 56 = .ok (.if_icmp .ge 222, 3) := by decide +kernel
theorem dX7_worksSets_59 : decode cX7_worksSets 59 = .ok (.iload 8, 2) := by decide +kernel
theorem dX7_worksSets_61 : decode cX7_worksSets 61 = .ok (.iconst 0, 1) := by decide +kernel
theorem dX7_worksSets_62 : decode cX7_worksSets 62 = .ok (.iload_n 1, 1) := by decide +kernel
theorem dX7_worksSets_63 : decode cX7_worksSets 63 = .ok (.iconst 1, 1) := by decide +kernel
theorem dX7_worksSets_64 : decode cX7_worksSets 64 = .ok (.iadd, 1) := by decide +kernel
theorem dX7_worksSets_65 : decode cX7_worksSets 65 = .ok (.invokestatic 36, 3) := by decide +kernel
theorem dX7_worksSets_68 : decode cX7_worksSets 68 = .ok (.ifCond .eq 210, 3) := by decide +kernel
theorem dX7_worksSets_71 : decode cX7_worksSets 71 = .ok (.iconst 2, 1) := by decide +kernel
theorem dX7_worksSets_72 : decode cX7_worksSets 72 = .ok (.bipush 8, 2) := by decide +kernel
theorem dX7_worksSets_74 : decode cX7_worksSets 74 = .ok (.iload 7, 2) := by decide +kernel
theorem dX7_worksSets_76 : decode cX7_worksSets 76 = .ok (.imul, 1) := by decide +kernel
theorem dX7_worksSets_77 : decode cX7_worksSets 77 = .ok (.iload 8, 2) := by decide +kernel
theorem dX7_worksSets_79 : decode cX7_worksSets 79 = .ok (.iadd, 1) := by decide +kernel
theorem dX7_worksSets_80 : decode cX7_worksSets 80 = .ok (.imul, 1) := by decide +kernel
theorem dX7_worksSets_81 : decode cX7_worksSets 81 = .ok (.iload 9, 2) := by decide +kernel
theorem dX7_worksSets_83 : decode cX7_worksSets 83 = .ok (.iadd, 1) := by decide +kernel
theorem dX7_worksSets_84 : decode cX7_worksSets 84 = .ok (.istore 10, 2) := by decide +kernel
theorem dX7_worksSets_86 : decode cX7_worksSets 86 = .ok (.iload 9, 2) := by decide +kernel
theorem dX7_worksSets_88 : decode cX7_worksSets 88 = .ok (.ifCond .ne 7, 3) := by decide +kernel
theorem dX7_worksSets_91 : decode cX7_worksSets 91 = .ok (.lload_n 2, 1) := by decide +kernel
theorem dX7_worksSets_92 : decode cX7_worksSets 92 = .ok (.goto 5, 3) := by decide +kernel
theorem dX7_worksSets_95 : decode cX7_worksSets 95 = .ok (.lload 4, 2) := by decide +kernel
theorem dX7_worksSets_97 : decode cX7_worksSets 97 = .ok (.lstore 11, 2) := by decide +kernel
theorem dX7_worksSets_99 : decode cX7_worksSets 99 = .ok (.iload 7, 2) := by decide +kernel
theorem dX7_worksSets_101 : decode cX7_worksSets 101 = .ok (.iload_n 1, 1) := by decide +kernel
theorem dX7_worksSets_102 : decode cX7_worksSets 102 = .ok (.if_icmp .lt 25, 3) := by decide +kernel
theorem dX7_worksSets_105 : decode cX7_worksSets 105 = .ok (.iload 7, 2) := by decide +kernel
theorem dX7_worksSets_107 : decode cX7_worksSets 107 = .ok (.iload 8, 2) := by decide +kernel
theorem dX7_worksSets_109 : decode cX7_worksSets 109 = .ok (.isub, 1) := by decide +kernel
theorem dX7_worksSets_110 : decode cX7_worksSets 110 = .ok (.iconst 2, 1) := by decide +kernel
theorem dX7_worksSets_111 : decode cX7_worksSets 111 = .ok (.if_icmp .lt 16, 3) := by decide +kernel
theorem dX7_worksSets_114 : decode cX7_worksSets 114 = .ok (.aload_n 0, 1) := by decide +kernel
theorem dX7_worksSets_115 : decode cX7_worksSets 115 = .ok (.getfield 23, 3) := by decide +kernel
theorem dX7_worksSets_118 : decode cX7_worksSets 118 = .ok (.iload 10, 2) := by decide +kernel
theorem dX7_worksSets_120 : decode cX7_worksSets 120 = .ok (.ldc2_w 92, 3) := by decide +kernel
theorem dX7_worksSets_123 : decode cX7_worksSets 123 = .ok (.lastore, 1) := by decide +kernel
theorem dX7_worksSets_124 : decode cX7_worksSets 124 = .ok (.goto 148, 3) := by decide +kernel
theorem dX7_worksSets_127 : decode cX7_worksSets 127 = .ok (.iload 8, 2) := by decide +kernel
theorem dX7_worksSets_129 : decode cX7_worksSets 129 = .ok (.iload_n 1, 1) := by decide +kernel
theorem dX7_worksSets_130 : decode cX7_worksSets 130 = .ok (.if_icmp .lt 23, 3) := by decide +kernel
theorem dX7_worksSets_133 : decode cX7_worksSets 133 = .ok (.iload 8, 2) := by decide +kernel
theorem dX7_worksSets_135 : decode cX7_worksSets 135 = .ok (.iload 7, 2) := by decide +kernel
theorem dX7_worksSets_137 : decode cX7_worksSets 137 = .ok (.isub, 1) := by decide +kernel
theorem dX7_worksSets_138 : decode cX7_worksSets 138 = .ok (.iconst 2, 1) := by decide +kernel
theorem dX7_worksSets_139 : decode cX7_worksSets 139 = .ok (.if_icmp .lt 14, 3) := by decide +kernel
theorem dX7_worksSets_142 : decode cX7_worksSets 142 = .ok (.aload_n 0, 1) := by decide +kernel
theorem dX7_worksSets_143 : decode cX7_worksSets 143 = .ok (.getfield 23, 3) := by decide +kernel
theorem dX7_worksSets_146 : decode cX7_worksSets 146 = .ok (.iload 10, 2) := by decide +kernel
theorem dX7_worksSets_148 : decode cX7_worksSets 148 = .ok (.lconst 0, 1) := by decide +kernel
theorem dX7_worksSets_149 : decode cX7_worksSets 149 = .ok (.lastore, 1) := by decide +kernel
theorem dX7_worksSets_150 : decode cX7_worksSets 150 = .ok (.goto 122, 3) := by decide +kernel
theorem dX7_worksSets_153 : decode cX7_worksSets 153 = .ok (.iload 7, 2) := by decide +kernel
theorem dX7_worksSets_155 : decode cX7_worksSets 155 = .ok (.iload_n 1, 1) := by decide +kernel
theorem dX7_worksSets_156 : decode cX7_worksSets 156 = .ok (.if_icmp .ne 27, 3) := by decide +kernel
theorem dX7_worksSets_159 : decode cX7_worksSets 159 = .ok (.iload 8, 2) := by decide +kernel
theorem dX7_worksSets_161 : decode cX7_worksSets 161 = .ok (.iload_n 1, 1) := by decide +kernel
theorem dX7_worksSets_162 : decode cX7_worksSets 162 = .ok (.if_icmp .ne 21, 3) := by decide +kernel
theorem dX7_worksSets_165 : decode cX7_worksSets 165 = .ok (.aload_n 0, 1) := by decide +kernel
theorem dX7_worksSets_166 : decode cX7_worksSets 166 = .ok (.getfield 23, 3) := by decide +kernel
theorem dX7_worksSets_169 : decode cX7_worksSets 169 = .ok (.iload 10, 2) := by decide +kernel
theorem dX7_worksSets_171 : decode cX7_worksSets 171 = .ok (.lload_n 2, 1) := by decide +kernel
theorem dX7_worksSets_172 : decode cX7_worksSets 172 = .ok (.lload 4, 2) := by decide +kernel
theorem dX7_worksSets_174 : decode cX7_worksSets 174 = .ok (.ladd, 1) := by decide +kernel
theorem dX7_worksSets_175 : decode cX7_worksSets 175 = .ok (.ldc2_w 98, 3) := by decide +kernel
theorem dX7_worksSets_178 : decode cX7_worksSets 178 = .ok (.ldiv, 1) := by decide +kernel
theorem dX7_worksSets_179 : decode cX7_worksSets 179 = .ok (.lastore, 1) := by decide +kernel
theorem dX7_worksSets_180 : decode cX7_worksSets 180 = .ok (.goto 92, 3) := by decide +kernel
theorem dX7_worksSets_183 : decode cX7_worksSets 183 = .ok (.iload 7, 2) := by decide +kernel
theorem dX7_worksSets_185 : decode cX7_worksSets 185 = .ok (.iload_n 1, 1) := by decide +kernel
theorem dX7_worksSets_186 : decode cX7_worksSets 186 = .ok (.if_icmp .gt 86, 3) := by decide +kernel
theorem dX7_worksSets_189 : decode cX7_worksSets 189 = .ok (.iload 8, 2) := by decide +kernel
theorem dX7_worksSets_191 : decode cX7_worksSets 191 = .ok (.iload_n 1, 1) := by decide +kernel
theorem dX7_worksSets_192 : decode cX7_worksSets 192 = .ok (.if_icmp .gt 80, 3) := by decide +kernel
theorem dX7_worksSets_195 : decode cX7_worksSets 195 = .ok (.iconst 1, 1) := by decide +kernel
theorem dX7_worksSets_196 : decode cX7_worksSets 196 = .ok (.iload 9, 2) := by decide +kernel
theorem dX7_worksSets_198 : decode cX7_worksSets 198 = .ok (.isub, 1) := by decide +kernel
theorem dX7_worksSets_199 : decode cX7_worksSets 199 = .ok (.istore 13, 2) := by decide +kernel
theorem dX7_worksSets_201 : decode cX7_worksSets 201 = .ok (.aload_n 0, 1) := by decide +kernel
theorem dX7_worksSets_202 : decode cX7_worksSets 202 = .ok (.getfield 23, 3) := by decide +kernel
theorem dX7_worksSets_205 : decode cX7_worksSets 205 = .ok (.iconst 2, 1) := by decide +kernel
theorem dX7_worksSets_206 : decode cX7_worksSets 206 = .ok (.bipush 8, 2) := by decide +kernel
theorem dX7_worksSets_208 : decode cX7_worksSets 208 = .ok (.iload 7, 2) := by decide +kernel
theorem dX7_worksSets_210 : decode cX7_worksSets 210 = .ok (.imul, 1) := by decide +kernel
theorem dX7_worksSets_211 : decode cX7_worksSets 211 = .ok (.bipush 8, 2) := by decide +kernel
theorem dX7_worksSets_213 : decode cX7_worksSets 213 = .ok (.iadd, 1) := by decide +kernel
theorem dX7_worksSets_214 : decode cX7_worksSets 214 = .ok (.iload 8, 2) := by decide +kernel
theorem dX7_worksSets_216 : decode cX7_worksSets 216 = .ok (.iadd, 1) := by decide +kernel
theorem dX7_worksSets_217 : decode cX7_worksSets 217 = .ok (.imul, 1) := by decide +kernel
theorem dX7_worksSets_218 : decode cX7_worksSets 218 = .ok (.iload 13, 2) := by decide +kernel
theorem dX7_worksSets_220 : decode cX7_worksSets 220 = .ok (.iadd, 1) := by decide +kernel
theorem dX7_worksSets_221 : decode cX7_worksSets 221 = .ok (.laload, 1) := by decide +kernel
theorem dX7_worksSets_222 : decode cX7_worksSets 222 = .ok (.lstore 14, 2) := by decide +kernel
theorem dX7_worksSets_224 : decode cX7_worksSets 224 = .ok (.aload_n 0, 1) := by decide +kernel
theorem dX7_worksSets_225 : decode cX7_worksSets 225 = .ok (.getfield 23, 3) := by decide +kernel
theorem dX7_worksSets_228 : decode cX7_worksSets 228 = .ok (.iconst 2, 1) := by decide +kernel
theorem dX7_worksSets_229 : decode cX7_worksSets 229 = .ok (.bipush 8, 2) := by decide +kernel
theorem dX7_worksSets_231 : decode cX7_worksSets 231 = .ok (.iload 7, 2) := by decide +kernel
theorem dX7_worksSets_233 : decode cX7_worksSets 233 = .ok (.imul, 1) := by decide +kernel
theorem dX7_worksSets_234 : decode cX7_worksSets 234 = .ok (.iload 8, 2) := by decide +kernel
theorem dX7_worksSets_236 : decode cX7_worksSets 236 = .ok (.iadd, 1) := by decide +kernel
theorem dX7_worksSets_237 : decode cX7_worksSets 237 = .ok (.iconst 1, 1) := by decide +kernel
theorem dX7_worksSets_238 : decode cX7_worksSets 238 = .ok (.iadd, 1) := by decide +kernel
theorem dX7_worksSets_239 : decode cX7_worksSets 239 = .ok (.imul, 1) := by decide +kernel
theorem dX7_worksSets_240 : decode cX7_worksSets 240 = .ok (.iload 13, 2) := by decide +kernel
theorem dX7_worksSets_242 : decode cX7_worksSets 242 = .ok (.iadd, 1) := by decide +kernel
theorem dX7_worksSets_243 : decode cX7_worksSets 243 = .ok (.laload, 1) := by decide +kernel
theorem dX7_worksSets_244 : decode cX7_worksSets 244 = .ok (.lstore 16, 2) := by decide +kernel
theorem dX7_worksSets_246 : decode cX7_worksSets 246 = .ok (.aload_n 0, 1) := by decide +kernel
theorem dX7_worksSets_247 : decode cX7_worksSets 247 = .ok (.getfield 23, 3) := by decide +kernel
theorem dX7_worksSets_250 : decode cX7_worksSets 250 = .ok (.iload 10, 2) := by decide +kernel
theorem dX7_worksSets_252 : decode cX7_worksSets 252 = .ok (.lload 11, 2) := by decide +kernel
theorem dX7_worksSets_254 : decode cX7_worksSets 254 = .ok (.lload 14, 2) := by decide +kernel
theorem dX7_worksSets_256 : decode cX7_worksSets 256 = .ok (.lmul, 1) := by decide +kernel
theorem dX7_worksSets_257 : decode cX7_worksSets 257 = .ok (.ldc2_w 92, 3) := by decide +kernel
theorem dX7_worksSets_260 : decode cX7_worksSets 260 = .ok (.lload 11, 2) := by decide +kernel
theorem dX7_worksSets_262 : decode cX7_worksSets 262 = .ok (.lsub, 1) := by decide +kernel
theorem dX7_worksSets_263 : decode cX7_worksSets 263 = .ok (.lload 16, 2) := by decide +kernel
theorem dX7_worksSets_265 : decode cX7_worksSets 265 = .ok (.lmul, 1) := by decide +kernel
theorem dX7_worksSets_266 : decode cX7_worksSets 266 = .ok (.ladd, 1) := by decide +kernel
theorem dX7_worksSets_267 : decode cX7_worksSets 267 = .ok (.ldc2_w 92, 3) := by decide +kernel
theorem dX7_worksSets_270 : decode cX7_worksSets 270 = .ok (.ldiv, 1) := by decide +kernel
theorem dX7_worksSets_271 : decode cX7_worksSets 271 = .ok (.lastore, 1) := by decide +kernel
theorem dX7_worksSets_272 : decode cX7_worksSets 272 = .ok (.iinc 9 1, 3) := by decide +kernel
theorem dX7_worksSets_275 : decode cX7_worksSets 275 = .ok (.goto (-222), 3) := by decide +kernel
theorem dX7_worksSets_278 : decode cX7_worksSets 278 = .ok (.iinc 7 1, 3) := by decide +kernel
theorem dX7_worksSets_281 : decode cX7_worksSets 281 = .ok (.goto (-246), 3) := by decide +kernel
theorem dX7_worksSets_284 : decode cX7_worksSets 284 = .ok (.iinc 6 (-1), 3) := by decide +kernel
theorem dX7_worksSets_287 : decode cX7_worksSets 287 = .ok (.goto (-260), 3) := by decide +kernel
theorem dX7_worksSets_290 : decode cX7_worksSets 290 = .ok (.return_, 1) := by decide +kernel
set_option maxRecDepth 20000 in
theorem ggX7_round_X7_in : GoodIn wsX7_round wsX7_in := goodIn_r _ [7] (by decide +kernel) (by decide +kernel)
set_option maxRecDepth 20000 in
theorem gX7_round_X7_in : GoodIn wsX7_round (va_wsS RX7 36 yX7_in wsX7_in) := goodIn_app (goodIn_of _ (by decide +kernel)) ggX7_round_X7_in
set_option maxRecDepth 20000 in
theorem ggX7_round_X7_worksSets : GoodIn wsX7_round wsX7_worksSets := goodIn_r _ [11, 2, 3, 12, 13, 14, 15, 16, 6, 17, 18, 19, 20, 21, 22, 23, 24, 25, 26, 27, 28, 29, 4, 5, 7, 30, 31, 32, 33, 34, 35, 36, 37, 38, 39, 40, 41, 42, 43, 44] (by decide +kernel) (by decide +kernel)
set_option maxRecDepth 20000 in
theorem gX7_round_X7_worksSets : GoodIn wsX7_round (wsV RX7 100 RX7 yX7_worksSets wsX7_worksSets) := goodIn_app (goodIn_of _ (by decide +kernel)) ggX7_round_X7_worksSets
theorem dX7_round_0 : decode cX7_round 0 = .ok (.aload_n 0, 1) := by decide +kernel
theorem dX7_round_1 : decode cX7_round 1 = .ok (.iconst 0, 1) := by decide +kernel
theorem dX7_round_2 : decode cX7_round 2 = .ok (.putfield 32, 3) := by decide +kernel
theorem dX7_round_5 : decode cX7_round 5 = .ok (.iload_n 1, 1) := by decide +kernel
theorem dX7_round_6 : decode cX7_round 6 = .ok (.iconst 0, 1) := by decide +kernel
theorem dX7_round_7 : decode cX7_round 7 = .ok (.aload_n 0, 1) := by decide +kernel
theorem dX7_round_8 : decode cX7_round 8 = .ok (.getfield 7, 3) := by decide +kernel
theorem dX7_round_11 : decode cX7_round 11 = .ok (.iconst 3, 1) := by decide +kernel
theorem dX7_round_12 : decode cX7_round 12 = .ok (.iaload, 1) := by decide +kernel
theorem dX7_round_13 : decode cX7_round 13 = .ok (.invokestatic 36, 3) := by decide +kernel
theorem dX7_round_16 : decode cX7_round 16 = .ok (.ifCond .eq 26, 3) := by decide +kernel
theorem dX7_round_19 : decode cX7_round 19 = .ok (.iload_n 2, 1) := by decide +kernel
theorem dX7_round_20 : decode cX7_round 20 = .ok (.iconst 0, 1) := by decide +kernel
theorem dX7_round_21 : decode cX7_round 21 = .ok (.aload_n 0, 1) := by decide +kernel
theorem dX7_round_22 : decode cX7_round 22 = .ok (.getfield 7, 3) := by decide +kernel
theorem dX7_round_25 : decode cX7_round 25 = .ok (.iconst 3, 1) := by decide +kernel
theorem dX7_round_26 : decode cX7_round 26 = .ok (.iaload, 1) := by decide +kernel
theorem dX7_round_27 : decode cX7_round 27 = .ok (.invokestatic 36, 3) := by decide +kernel
theorem dX7_round_30 : decode cX7_round 30 = .ok (.ifCond .eq 12, 3) := by decide +kernel
theorem dX7_round_33 : decode cX7_round 33 = .ok (.iload_n 3, 1) := by decide +kernel
theorem dX7_round_34 : decode cX7_round 34 = .ok (.iconst 0, 1) := by decide +kernel
theorem dX7_round_35 : decode cX7_round 35 = .ok (.iconst 1, 1) := by decide +kernel
theorem dX7_round_36 : decode cX7_round 36 = .ok (.invokestatic 36, 3) := by decide +kernel
theorem dX7_round_39 : decode cX7_round 39 = .ok (.ifCond .ne 5, 3) := by decide +kernel
theorem dX7_round_42 : decode cX7_round 42 = .ok (.iconst (-1), 1) := by decide +kernel
theorem dX7_round_43 : decode cX7_round 43 = .ok (.ireturn, 1) := by decide +kernel
theorem dX7_round_44 : decode cX7_round 44 = .ok (.aload_n 0, 1) := by decide +kernel
theorem dX7_round_45 : decode cX7_round 45 = .ok (.invokevirtual 100, 3) := by decide +kernel
theorem dX7_round_48 : decode cX7_round 48 = .ok (.aload_n 0, 1) := by decide +kernel
theorem dX7_round_49 : decode cX7_round 49 = .ok (.getfield 23, 3) := by decide +kernel
theorem dX7_round_52 : decode cX7_round 52 = .ok (.iconst 2, 1) := by decide +kernel
theorem dX7_round_53 : decode cX7_round 53 = .ok (.bipush 8, 2) := by decide +kernel
theorem dX7_round_55 : decode cX7_round 55 = .ok (.iload_n 1, 1) := by decide +kernel
theorem dX7_round_56 : decode cX7_round 56 = .ok (.imul, 1) := by decide +kernel
theorem dX7_round_57 : decode cX7_round 57 = .ok (.iload_n 2, 1) := by decide +kernel
theorem dX7_round_58 : decode cX7_round 58 = .ok (.iadd, 1) := by decide +kernel
theorem dX7_round_59 : decode cX7_round 59 = .ok (.imul, 1) := by decide +kernel
theorem dX7_round_60 : decode cX7_round 60 = .ok (.iload_n 3, 1) := by decide +kernel
theorem dX7_round_61 : decode cX7_round 61 = .ok (.iadd, 1) := by decide +kernel
theorem dX7_round_62 : decode cX7_round 62 = .ok (.laload, 1) := by decide +kernel
theorem dX7_round_63 : decode cX7_round 63 = .ok (.l2i, 1) := by decide +kernel
theorem dX7_round_64 : decode cX7_round 64 = .ok (.ireturn, 1) := by decide +kernel
set_option maxRecDepth 20000 in
theorem ggX7_match_X7_in : GoodIn wsX7_match wsX7_in := goodIn_r _ [8] (by decide +kernel) (by decide +kernel)
set_option maxRecDepth 20000 in
theorem gX7_match_X7_in : GoodIn wsX7_match (va_wsS RX7 36 yX7_in wsX7_in) := goodIn_app (goodIn_of _ (by decide +kernel)) ggX7_match_X7_in
set_option maxRecDepth 20000 in
theorem ggX7_match_X7_worksSets : GoodIn wsX7_match wsX7_worksSets := goodIn_r _ [12, 2, 3, 4, 13, 14, 15, 16, 7, 17, 18, 19, 20, 21, 22, 23, 24, 25, 26, 27, 28, 29, 5, 6, 8, 30, 31, 32, 33, 34, 35, 36, 37, 38, 39, 40, 41, 42, 43, 44] (by decide +kernel) (by decide +kernel)
set_option maxRecDepth 20000 in
theorem gX7_match_X7_worksSets : GoodIn wsX7_match (wsV RX7 100 RX7 yX7_worksSets wsX7_worksSets) := goodIn_app (goodIn_of _ (by decide +kernel)) ggX7_match_X7_worksSets
theorem dX7_match_0 : decode cX7_match 0 = .ok (.aload_n 0, 1) := by decide +kernel
theorem dX7_match_1 : decode cX7_match 1 = .ok (.iconst 0, 1) := by decide +kernel
theorem dX7_match_2 : decode cX7_match 2 = .ok (.putfield 32, 3) := by decide +kernel
theorem dX7_match_5 : decode cX7_match 5 = .ok (.aload_n 0, 1) := by decide +kernel
theorem dX7_match_6 : decode cX7_match 6 = .ok (.getfield 7, 3) := by decide +kernel
theorem dX7_match_9 : decode cX7_match 9 = .ok (.iconst 4, 1) := by decide +kernel
theorem dX7_match_10 : decode cX7_match 10 = .ok (.iaload, 1) := by decide +kernel
theorem dX7_match_11 : decode cX7_match 11 = .ok (.istore 4, 2) := by decide +kernel
theorem dX7_match_13 : decode cX7_match 13 = .ok (.iload_n 1, 1) := by decide +kernel
theorem dX7_match_14 : decode cX7_match 14 = .ok (.iconst 0, 1) := by decide +kernel
theorem dX7_match_15 : decode cX7_match 15 = .ok (.iload 4, 2) := by decide +kernel
theorem dX7_match_17 : decode cX7_match 17 = .ok (.invokestatic 36, 3) := by decide +kernel
theorem dX7_match_20 : decode cX7_match 20 = .ok (.ifCond .eq 34, 3) := by decide +kernel
theorem dX7_match_23 : decode cX7_match 23 = .ok (.iload_n 2, 1) := by decide +kernel
theorem dX7_match_24 : decode cX7_match 24 = .ok (.iconst 0, 1) := by decide +kernel
theorem dX7_match_25 : decode cX7_match 25 = .ok (.iload 4, 2) := by decide +kernel
theorem dX7_match_27 : decode cX7_match 27 = .ok (.invokestatic 36, 3) := by decide +kernel
theorem dX7_match_30 : decode cX7_match 30 = .ok (.ifCond .eq 24, 3) := by decide +kernel
theorem dX7_match_33 : decode cX7_match 33 = .ok (.iload_n 1, 1) := by decide +kernel
theorem dX7_match_34 : decode cX7_match 34 = .ok (.iload 4, 2) := by decide +kernel
theorem dX7_match_36 : decode cX7_match 36 = .ok (.if_icmp .ne 9, 3) := by decide +kernel
theorem dX7_match_39 : decode cX7_match 39 = .ok (.iload_n 2, 1) := by decide +kernel
theorem dX7_match_40 : decode cX7_match 40 = .ok (.iload 4, 2) := by decide +kernel
theorem dX7_match_42 : decode cX7_match 42 = .ok (.if_icmp .eq 12, 3) := by decide +kernel
theorem dX7_match_45 : decode cX7_match 45 = .ok (.iload_n 3, 1) := by decide +kernel
theorem dX7_match_46 : decode cX7_match 46 = .ok (.iconst 0, 1) := by decide +kernel
theorem dX7_match_47 : decode cX7_match 47 = .ok (.iconst 1, 1) := by decide +kernel
theorem dX7_match_48 : decode cX7_match 48 = .ok (.invokestatic 36, 3) := by decide +kernel
theorem dX7_match_51 : decode cX7_match 51 = .ok (.ifCond .ne 5, 3) := by decide +kernel
theorem dX7_match_54 : decode cX7_match 54 = .ok (.iconst (-1), 1) := by decide +kernel
theorem dX7_match_55 : decode cX7_match 55 = .ok (.ireturn, 1) := by decide +kernel
theorem dX7_match_56 : decode cX7_match 56 = .ok (.aload_n 0, 1) := by decide +kernel
theorem dX7_match_57 : decode cX7_match 57 = .ok (.invokevirtual 100, 3) := by decide +kernel
theorem dX7_match_60 : decode cX7_match 60 = .ok (.aload_n 0, 1) := by decide +kernel
theorem dX7_match_61 : decode cX7_match 61 = .ok (.getfield 23, 3) := by decide +kernel
theorem dX7_match_64 : decode cX7_match 64 = .ok (.iconst 0, 1) := by decide +kernel
theorem dX7_match_65 : decode cX7_match 65 = .ok (.laload, 1) := by decide +kernel
theorem dX7_match_66 : decode cX7_match 66 = .ok (.lstore 5, 2) := by decide +kernel
theorem dX7_match_68 : decode cX7_match 68 = .ok (.aload_n 0, 1) := by decide +kernel
theorem dX7_match_69 : decode cX7_match 69 = .ok (.getfield 23, 3) := by decide +kernel
theorem dX7_match_72 : decode cX7_match 72 = .ok (.iconst 1, 1) := by decide +kernel
theorem dX7_match_73 : decode cX7_match 73 = .ok (.laload, 1) := by decide +kernel
theorem dX7_match_74 : decode cX7_match 74 = .ok (.lstore 7, 2) := by decide +kernel
theorem dX7_match_76 : decode cX7_match 76 = .ok (.iconst 2, 1) := by decide +kernel
theorem dX7_match_77 : decode cX7_match 77 = .ok (.iload 4, 2) := by decide +kernel
theorem dX7_match_79 : decode cX7_match 79 = .ok (.imul, 1) := by decide +kernel
theorem dX7_match_80 : decode cX7_match 80 = .ok (.iconst 1, 1) := by decide +kernel
theorem dX7_match_81 : decode cX7_match 81 = .ok (.isub, 1) := by decide +kernel
theorem dX7_match_82 : decode cX7_match 82 = .ok (.istore 9, 2) := by decide +kernel
theorem dX7_match_84 : decode cX7_match 84 = .ok (.iload 9, 2) := by decide +kernel
theorem dX7_match_86 : decode cX7_match 86 = .ok (.ifCond .lt 192, 3) := by decide +kernel
theorem dX7_match_89 : decode cX7_match 89 = .ok (.iconst 0, 1) := by decide +kernel
theorem dX7_match_90 : decode cX7_match 90 = .ok (.istore 10, 2) := by decide +kernel
theorem dX7_match_92 : decode cX7_match 92 = .ok (.iload 10, 2) := by decide +kernel
theorem dX7_match_94 : decode cX7_match 94 = .ok (.iload 4, 2) := by decide +kernel
theorem dX7_match_96 : decode cX7_match 96 = .ok (.if_icmp .gt 176, 3) := by decide +kernel
theorem dX7_match_99 : decode cX7_match 99 = .ok (.iload 9, 2) := by decide +kernel
theorem dX7_match_101 : decode cX7_match 101 = .ok (.iload 10, 2) := by decide +kernel
theorem dX7_match_103 : decode cX7_match 103 = .ok (.isub, 1) := by decide +kernel
theorem dX7_match_104 : decode cX7_match 104 = .ok (.istore 11, 2) := by decide +kernel
theorem dX7_match_106 : decode cX7_match 106 = .ok (.iconst 0, 1) := by decide +kernel
theorem dX7_match_107 : decode cX7_match 107 = .ok (.istore 12, 2) := by decide +kernel
theorem dX7_match_109 : decode cX7_match 109 = .ok (.iload 12, 2) := by decide +kernel
theorem dX7_match_111 : decode cX7_match 111 = .ok (.iconst 2, 1) := by decide +kernel
theorem dX7_match_112 : decode cX7_match 112 = .ok (.if_icmp .ge 154, 3) := by decide +kernel
theorem dX7_match_115 : decode cX7_match 115 = .ok (.iload 11, 2) := by decide +kernel
theorem dX7_match_117 : decode cX7_match 117 = .ok (.iconst 0, 1) := by decide +kernel
theorem dX7_match_118 : decode cX7_match 118 = .ok (.iload 4, 2) := by decide +kernel
theorem dX7_match_120 : decode cX7_match 120 = .ok (.invokestatic 36, 3) := by decide +kernel
theorem dX7_match_123 : decode cX7_match 123 = .ok (.ifCond .eq 143, 3) := by decide +kernel
theorem dX7_match_126 : decode cX7_match 126 = .ok (.iconst 2, 1) := by decide +kernel
theorem dX7_match_127 : decode cX7_match 127 = .ok (.bipush 8, 2) := by decide +kernel
theorem dX7_match_129 : decode cX7_match 129 = .ok (.iload 10, 2) := by decide +kernel
theorem dX7_match_131 : decode cX7_match 131 = .ok (.imul, 1) := by decide +kernel
theorem dX7_match_132 : decode cX7_match 132 = .ok (.iload 11, 2) := by decide +kernel
theorem dX7_match_134 : decode cX7_match 134 = .ok (.iadd, 1) := by decide +kernel
theorem dX7_match_135 : decode cX7_match 135 = .ok (.imul, 1) := by decide +kernel
theorem dX7_match_136 : decode cX7_match 136 = .ok (.iload 12, 2) := by decide +kernel
theorem dX7_match_138 : decode cX7_match 138 = .ok (.iadd, 1) := by decide +kernel
theorem dX7_match_139 : decode cX7_match 139 = .ok (.istore 13, 2) := by decide +kernel
theorem dX7_match_141 : decode cX7_match 141 = .ok (.iload 12, 2) := by decide +kernel
theorem dX7_match_143 : decode cX7_match 143 = .ok (.ifCond .ne 8, 3) := by decide +kernel
theorem dX7_match_146 : decode cX7_match 146 = .ok (.lload 5, 2) := by decide +kernel
theorem dX7_match_148 : decode cX7_match 148 = .ok (.goto 5, 3) := by decide +kernel
theorem dX7_match_151 : decode cX7_match 151 = .ok (.lload 7, 2) := by decide +kernel
theorem dX7_match_153 : decode cX7_match 153 = .ok (.lstore 14, 2) := by decide +kernel
theorem dX7_match_155 : decode cX7_match 155 = .ok (.iload 10, 2) := by decide +kernel
theorem dX7_match_157 : decode cX7_match 157 = .ok (.iload 4, 2) := by decide +kernel
theorem dX7_match_159 : decode cX7_match 159 = .ok (.if_icmp .eq 10, 3) := by decide +kernel
theorem dX7_match_162 : decode cX7_match 162 = .ok (.iload 11, 2) := by decide +kernel
theorem dX7_match_164 : decode cX7_match 164 = .ok (.iload 4, 2) := by decide +kernel
theorem dX7_match_166 : decode cX7_match 166 = .ok (.if_icmp .ne 27, 3) := by decide +kernel
theorem dX7_match_169 : decode cX7_match 169 = .ok (.aload_n 0, 1) := by decide +kernel
theorem dX7_match_170 : decode cX7_match 170 = .ok (.getfield 23, 3) := by decide +kernel
theorem dX7_match_173 : decode cX7_match 173 = .ok (.iload 13, 2) := by decide +kernel
theorem dX7_match_175 : decode cX7_match 175 = .ok (.iload 10, 2) := by decide +kernel
theorem dX7_match_177 : decode cX7_match 177 = .ok (.iload 4, 2) := by decide +kernel
theorem dX7_match_179 : decode cX7_match 179 = .ok (.if_icmp .ne 9, 3) := by decide +kernel
theorem dX7_match_182 : decode cX7_match 182 = .ok (.ldc2_w 92, 3) := by decide +kernel
theorem dX7_match_185 : decode cX7_match 185 = .ok (.goto 4, 3) := by decide +kernel
theorem dX7_match_188 : decode cX7_match 188 = .ok (.lconst 0, 1) := by decide +kernel
theorem dX7_match_189 : decode cX7_match 189 = .ok (.lastore, 1) := by decide +kernel
theorem dX7_match_190 : decode cX7_match 190 = .ok (.goto 70, 3) := by decide +kernel
theorem dX7_match_193 : decode cX7_match 193 = .ok (.aload_n 0, 1) := by decide +kernel
theorem dX7_match_194 : decode cX7_match 194 = .ok (.getfield 23, 3) := by decide +kernel
theorem dX7_match_197 : decode cX7_match 197 = .ok (.iload 13, 2) := by decide +kernel
theorem dX7_match_199 : decode cX7_match 199 = .ok (.lload 14, 2) := by decide +kernel
theorem dX7_match_201 : decode cX7_match 201 = .ok (.aload_n 0, 1) := by decide +kernel
theorem dX7_match_202 : decode cX7_match 202 = .ok (.getfield 23, 3) := by decide +kernel
theorem dX7_match_205 : decode cX7_match 205 = .ok (.iconst 2, 1) := by decide +kernel
theorem dX7_match_206 : decode cX7_match 206 = .ok (.bipush 8, 2) := by decide +kernel
theorem dX7_match_208 : decode cX7_match 208 = .ok (.iload 10, 2) := by decide +kernel
theorem dX7_match_210 : decode cX7_match 210 = .ok (.imul, 1) := by decide +kernel
theorem dX7_match_211 : decode cX7_match 211 = .ok (.bipush 8, 2) := by decide +kernel
theorem dX7_match_213 : decode cX7_match 213 = .ok (.iadd, 1) := by decide +kernel
theorem dX7_match_214 : decode cX7_match 214 = .ok (.iload 11, 2) := by decide +kernel
theorem dX7_match_216 : decode cX7_match 216 = .ok (.iadd, 1) := by decide +kernel
theorem dX7_match_217 : decode cX7_match 217 = .ok (.imul, 1) := by decide +kernel
theorem dX7_match_218 : decode cX7_match 218 = .ok (.iconst 1, 1) := by decide +kernel
theorem dX7_match_219 : decode cX7_match 219 = .ok (.iadd, 1) := by decide +kernel
theorem dX7_match_220 : decode cX7_match 220 = .ok (.iload 12, 2) := by decide +kernel
theorem dX7_match_222 : decode cX7_match 222 = .ok (.isub, 1) := by decide +kernel
theorem dX7_match_223 : decode cX7_match 223 = .ok (.laload, 1) := by decide +kernel
theorem dX7_match_224 : decode cX7_match 224 = .ok (.lmul, 1) := by decide +kernel
theorem dX7_match_225 : decode cX7_match 225 = .ok (.ldc2_w 92, 3) := by decide +kernel
theorem dX7_match_228 : decode cX7_match 228 = .ok (.lload 14, 2) := by decide +kernel
theorem dX7_match_230 : decode cX7_match 230 = .ok (.lsub, 1) := by decide +kernel
theorem dX7_match_231 : decode cX7_match 231 = .ok (.aload_n 0, 1) := by decide +kernel
theorem dX7_match_232 : decode cX7_match 232 = .ok (.getfield 23, 3) := by decide +kernel
theorem dX7_match_235 : decode cX7_match 235 = .ok (.iconst 2, 1) := by decide +kernel
theorem dX7_match_236 : decode cX7_match 236 = .ok (.bipush 8, 2) := by decide +kernel
theorem dX7_match_238 : decode cX7_match 238 = .ok (.iload 10, 2) := by decide +kernel
theorem dX7_match_240 : decode cX7_match 240 = .ok (.imul, 1) := by decide +kernel
theorem dX7_match_241 : decode cX7_match 241 = .ok (.iload 11, 2) := by decide +kernel
theorem dX7_match_243 : decode cX7_match 243 = .ok (.iadd, 1) := by decide +kernel
theorem dX7_match_244 : decode cX7_match 244 = .ok (.iconst 1, 1) := by decide +kernel
theorem dX7_match_245 : decode cX7_match 245 = .ok (.iadd, 1) := by decide +kernel
theorem dX7_match_246 : decode cX7_match 246 = .ok (.imul, 1) := by decide +kernel
theorem dX7_match_247 : decode cX7_match 247 = .ok (.iconst 1, 1) := by decide +kernel
theorem dX7_match_248 : decode cX7_match 248 = .ok (.iadd, 1) := by decide +kernel
theorem dX7_match_249 : decode cX7_match 249 = .ok (.iload 12, 2) := by decide +kernel
theorem dX7_match_251 : decode cX7_match 251 = .ok (.isub, 1) := by decide +kernel
theorem dX7_match_252 : decode cX7_match 252 = .ok (.laload, 1) := by decide +kernel
theorem dX7_match_253 : decode cX7_match 253 = .ok (.lmul, 1) := by decide +kernel
theorem dX7_match_254 : decode cX7_match 254 = .ok (.ladd, 1) := by decide +kernel
theorem dX7_match_255 : decode cX7_match 255 = .ok (.ldc2_w 92, 3) := by decide +kernel
theorem dX7_match_258 : decode cX7_match 258 = .ok (.ldiv, 1) := by decide +kernel
theorem dX7_match_259 : decode cX7_match 259 = .ok (.lastore, 1) := by decide +kernel
theorem dX7_match_260 : decode cX7_match 260 = .ok (.iinc 12 1, 3) := by decide +kernel
theorem dX7_match_263 : decode cX7_match 263 = .ok (.goto (-154), 3) := by decide +kernel
theorem dX7_match_266 : decode cX7_match 266 = .ok (.iinc 10 1, 3) := by decide +kernel
theorem dX7_match_269 : decode cX7_match 269 = .ok (.goto (-177), 3) := by decide +kernel
theorem dX7_match_272 : decode cX7_match 272 = .ok (.iinc 9 (-1), 3) := by decide +kernel
theorem dX7_match_275 : decode cX7_match 275 = .ok (.goto (-191), 3) := by decide +kernel
theorem dX7_match_278 : decode cX7_match 278 = .ok (.aload_n 0, 1) := by decide +kernel
theorem dX7_match_279 : decode cX7_match 279 = .ok (.getfield 23, 3) := by decide +kernel
theorem dX7_match_282 : decode cX7_match 282 = .ok (.iconst 2, 1) := by decide +kernel
theorem dX7_match_283 : decode cX7_match 283 = .ok (.bipush 8, 2) := by decide +kernel
theorem dX7_match_285 : decode cX7_match 285 = .ok (.iload_n 1, 1) := by decide +kernel
theorem dX7_match_286 : decode cX7_match 286 = .ok (.imul, 1) := by decide +kernel
theorem dX7_match_287 : decode cX7_match 287 = .ok (.iload_n 2, 1) := by decide +kernel
theorem dX7_match_288 : decode cX7_match 288 = .ok (.iadd, 1) := by decide +kernel
theorem dX7_match_289 : decode cX7_match 289 = .ok (.imul, 1) := by decide +kernel
theorem dX7_match_290 : decode cX7_match 290 = .ok (.iload_n 3, 1) := by decide +kernel
theorem dX7_match_291 : decode cX7_match 291 = .ok (.iadd, 1) := by decide +kernel
theorem dX7_match_292 : decode cX7_match 292 = .ok (.laload, 1) := by decide +kernel
theorem dX7_match_293 : decode cX7_match 293 = .ok (.l2i, 1) := by decide +kernel
theorem dX7_match_294 : decode cX7_match 294 = .ok (.ireturn, 1) := by decide +kernel
theorem dX7_beginsGame_0 : decode cX7_beginsGame 0 = .ok (.aload_n 0, 1) := by decide +kernel
theorem dX7_beginsGame_1 : decode cX7_beginsGame 1 = .ok (.getfield 26, 3) := by decide +kernel
theorem dX7_beginsGame_4 : decode cX7_beginsGame 4 = .ok (.iconst 0, 1) := by decide +kernel
theorem dX7_beginsGame_5 : decode cX7_beginsGame 5 = .ok (.aload_n 0, 1) := by decide +kernel
theorem dX7_beginsGame_6 : decode cX7_beginsGame 6 = .ok (.getfield 26, 3) := by decide +kernel
theorem dX7_beginsGame_9 : decode cX7_beginsGame 9 = .ok (.bipush 6, 2) := by decide +kernel
theorem dX7_beginsGame_11 : decode cX7_beginsGame 11 = .ok (.iaload, 1) := by decide +kernel
theorem dX7_beginsGame_12 : decode cX7_beginsGame 12 = .ok (.ifCond .ne 12, 3) := by decide +kernel
theorem dX7_beginsGame_15 : decode cX7_beginsGame 15 = .ok (.aload_n 0, 1) := by decide +kernel
theorem dX7_beginsGame_16 : decode cX7_beginsGame 16 = .ok (.getfield 7, 3) := by decide +kernel
theorem dX7_beginsGame_19 : decode cX7_beginsGame 19 = .ok (.iconst 5, 1) := by decide +kernel
theorem dX7_beginsGame_20 : decode cX7_beginsGame 20 = .ok (.iaload, 1) := by decide +kernel
theorem dX7_beginsGame_21 : decode cX7_beginsGame 21 = .ok (.goto 4, 3) := by decide +kernel
theorem dX7_beginsGame_24 : decode cX7_beginsGame 24 = .ok (.iconst 0, 1) := by decide +kernel
theorem dX7_beginsGame_25 : decode cX7_beginsGame 25 = .ok (.iastore, 1) := by decide +kernel
theorem dX7_beginsGame_26 : decode cX7_beginsGame 26 = .ok (.aload_n 0, 1) := by decide +kernel
theorem dX7_beginsGame_27 : decode cX7_beginsGame 27 = .ok (.getfield 26, 3) := by decide +kernel
theorem dX7_beginsGame_30 : decode cX7_beginsGame 30 = .ok (.iconst 1, 1) := by decide +kernel
theorem dX7_beginsGame_31 : decode cX7_beginsGame 31 = .ok (.iconst 0, 1) := by decide +kernel
theorem dX7_beginsGame_32 : decode cX7_beginsGame 32 = .ok (.iastore, 1) := by decide +kernel
theorem dX7_beginsGame_33 : decode cX7_beginsGame 33 = .ok (.return_, 1) := by decide +kernel
set_option maxRecDepth 20000 in
theorem ggX7_winsGame_X7_beginsGame : GoodIn wsX7_winsGame wsX7_beginsGame := goodIn_r _ [8, 2, 1, 9, 10, 11, 12, 13, 14, 15, 16, 17, 18, 19] (by decide +kernel) (by decide +kernel)
set_option maxRecDepth 20000 in
theorem gX7_winsGame_X7_beginsGame : GoodIn wsX7_winsGame (wsV RX7 106 RX7 yX7_beginsGame wsX7_beginsGame) := goodIn_app (goodIn_of _ (by decide +kernel)) ggX7_winsGame_X7_beginsGame
theorem dX7_winsGame_0 : decode cX7_winsGame 0 = .ok (.aload_n 0, 1) := by decide +kernel
theorem dX7_winsGame_1 : decode cX7_winsGame 1 = .ok (.getfield 7, 3) := by decide +kernel
theorem dX7_winsGame_4 : decode cX7_winsGame 4 = .ok (.iconst 3, 1) := by decide +kernel
theorem dX7_winsGame_5 : decode cX7_winsGame 5 = .ok (.iaload, 1) := by decide +kernel
theorem dX7_winsGame_6 : decode cX7_winsGame 6 = .ok (.istore_n 2, 1) := by decide +kernel
theorem dX7_winsGame_7 : decode cX7_winsGame 7 = .ok (.aload_n 0, 1) := by decide +kernel
theorem dX7_winsGame_8 : decode cX7_winsGame 8 = .ok (.getfield 26, 3) := by decide +kernel
theorem dX7_winsGame_11 : decode cX7_winsGame 11 = .ok (.iconst 2, 1) := by decide +kernel
theorem dX7_winsGame_12 : decode cX7_winsGame 12 = .ok (.iload_n 1, 1) := by decide +kernel
theorem dX7_winsGame_13 : decode cX7_winsGame 13 = .ok (.iadd, 1) := by decide +kernel
theorem dX7_winsGame_14 : decode cX7_winsGame 14 = .ok (.iaload, 1) := by decide +kernel
theorem dX7_winsGame_15 : decode cX7_winsGame 15 = .ok (.iconst 1, 1) := by decide +kernel
theorem dX7_winsGame_16 : decode cX7_winsGame 16 = .ok (.iadd, 1) := by decide +kernel
theorem dX7_winsGame_17 : decode cX7_winsGame 17 = .ok (.istore_n 3, 1) := by decide +kernel
theorem dX7_winsGame_18 : decode cX7_winsGame 18 = .ok (.aload_n 0, 1) := by decide +kernel
theorem dX7_winsGame_19 : decode cX7_winsGame 19 = .ok (.getfield 26, 3) := by decide +kernel
theorem dX7_winsGame_22 : decode cX7_winsGame 22 = .ok (.iconst 3, 1) := by decide +kernel
theorem dX7_winsGame_23 : decode cX7_winsGame 23 = .ok (.iload_n 1, 1) := by decide +kernel
theorem dX7_winsGame_24 : decode cX7_winsGame 24 = .ok (.isub, 1) := by decide +kernel
theorem dX7_winsGame_25 : decode cX7_winsGame 25 = .ok (.iaload, 1) := by decide +kernel
theorem dX7_winsGame_26 : decode cX7_winsGame 26 = .ok (.istore 4, 2) := by decide +kernel
theorem dX7_winsGame_28 : decode cX7_winsGame 28 = .ok (.aload_n 0, 1) := by decide +kernel
theorem dX7_winsGame_29 : decode cX7_winsGame 29 = .ok (.getfield 26, 3) := by decide +kernel
theorem dX7_winsGame_32 : decode cX7_winsGame 32 = .ok (.iconst 2, 1) := by decide +kernel
theorem dX7_winsGame_33 : decode cX7_winsGame 33 = .ok (.iload_n 1, 1) := by decide +kernel
theorem dX7_winsGame_34 : decode cX7_winsGame 34 = .ok (.iadd, 1) := by decide +kernel
theorem dX7_winsGame_35 : decode cX7_winsGame 35 = .ok (.iload_n 3, 1) := by decide +kernel
theorem dX7_winsGame_36 : decode cX7_winsGame 36 = .ok (.iastore, 1) := by decide +kernel
theorem dX7_winsGame_37 : decode cX7_winsGame 37 = .ok (.aload_n 0, 1) := by decide +kernel
theorem dX7_winsGame_38 : decode cX7_winsGame 38 = .ok (.getfield 26, 3) := by decide +kernel
theorem dX7_winsGame_41 : decode cX7_winsGame 41 = .ok (.bipush 6, 2) := by decide +kernel
theorem dX7_winsGame_43 : decode cX7_winsGame 43 = .ok (.iconst 1, 1) := by decide +kernel
theorem dX7_winsGame_44 : decode cX7_winsGame 44 = .ok (.aload_n 0, 1) := by decide +kernel
theorem dX7_winsGame_45 : decode cX7_winsGame 45 = .ok (.getfield 26, 3) := by decide +kernel
theorem dX7_winsGame_48 : decode cX7_winsGame 48 = .ok (.bipush 6, 2) := by decide +kernel
theorem dX7_winsGame_50 : decode cX7_winsGame 50 = .ok (.iaload, 1) := by decide +kernel
theorem dX7_winsGame_51 : decode cX7_winsGame 51 = .ok (.isub, 1) := by decide +kernel
theorem dX7_winsGame_52 : decode cX7_winsGame 52 = .ok (.iastore, 1) := by decide +kernel
theorem dX7_winsGame_53 : decode cX7_winsGame 53 = .ok (.iload_n 3, 1) := by decide +kernel
theorem dX7_winsGame_54 : decode cX7_winsGame 54 = .ok (.iload_n 2, 1) := by decide +kernel
theorem dX7_winsGame_55 : decode cX7_winsGame 55 = .ok (.if_icmp .lt 11, 3) := by decide +kernel
theorem dX7_winsGame_58 : decode cX7_winsGame 58 = .ok (.iload_n 3, 1) := by decide +kernel
theorem dX7_winsGame_59 : decode cX7_winsGame 59 = .ok (.iload 4, 2) := by decide +kernel
theorem dX7_winsGame_61 : decode cX7_winsGame 61 = .ok (.isub, 1) := by decide +kernel
theorem dX7_winsGame_62 : decode cX7_winsGame 62 = .ok (.iconst 2, 1) := by decide +kernel
theorem dX7_winsGame_63 : decode cX7_winsGame 63 = .ok (.if_icmp .ge 16, 3) := by decide +kernel
theorem dX7_winsGame_66 : decode cX7_winsGame 66 = .ok (.iload_n 3, 1) := by decide +kernel
theorem dX7_winsGame_67 : decode cX7_winsGame 67 = .ok (.iload_n 2, 1) := by decide +kernel
theorem dX7_winsGame_68 : decode cX7_winsGame 68 = .ok (.iconst 1, 1) := by decide +kernel
theorem dX7_winsGame_69 : decode cX7_winsGame 69 = .ok (.iadd, 1) := by decide +kernel
theorem dX7_winsGame_70 : decode cX7_winsGame 70 = .ok (.if_icmp .ne 86, 3) := by decide +kernel
theorem dX7_winsGame_73 : decode cX7_winsGame 73 = .ok (.iload 4, 2) := by decide +kernel
theorem dX7_winsGame_75 : decode cX7_winsGame 75 = .ok (.iload_n 2, 1) := by decide +kernel
theorem dX7_winsGame_76 : decode cX7_winsGame 76 = .ok (.if_icmp .ne 80, 3) := by decide +kernel
theorem dX7_winsGame_79 : decode cX7_winsGame 79 = .ok (.aload_n 0, 1) := by decide +kernel
theorem dX7_winsGame_80 : decode cX7_winsGame 80 = .ok (.getfield 26, 3) := by decide +kernel
theorem dX7_winsGame_83 : decode cX7_winsGame 83 = .ok (.iconst 2, 1) := by decide +kernel
theorem dX7_winsGame_84 : decode cX7_winsGame 84 = .ok (.iconst 0, 1) := by decide +kernel
theorem dX7_winsGame_85 : decode cX7_winsGame 85 = .ok (.iastore, 1) := by decide +kernel
theorem dX7_winsGame_86 : decode cX7_winsGame 86 = .ok (.aload_n 0, 1) := by decide +kernel
theorem dX7_winsGame_87 : decode cX7_winsGame 87 = .ok (.getfield 26, 3) := by decide +kernel
theorem dX7_winsGame_90 : decode cX7_winsGame 90 = .ok (.iconst 3, 1) := by decide +kernel
theorem dX7_winsGame_91 : decode cX7_winsGame 91 = .ok (.iconst 0, 1) := by decide +kernel
theorem dX7_winsGame_92 : decode cX7_winsGame 92 = .ok (.iastore, 1) := by decide +kernel
theorem dX7_winsGame_93 : decode cX7_winsGame 93 = .ok (.aload_n 0, 1) := by decide +kernel
theorem dX7_winsGame_94 : decode cX7_winsGame 94 = .ok (.getfield 26, 3) := by decide +kernel
theorem dX7_winsGame_97 : decode cX7_winsGame 97 = .ok (.iconst 4, 1) := by decide +kernel
theorem dX7_winsGame_98 : decode cX7_winsGame 98 = .ok (.iload_n 1, 1) := by decide +kernel
theorem dX7_winsGame_99 : decode cX7_winsGame 99 = .ok (.iadd, 1) := by decide +kernel
theorem dX7_winsGame_100 : decode cX7_winsGame 100 = .ok (.dup2, 1) := by decide +kernel
theorem dX7_winsGame_101 : decode cX7_winsGame 101 = .ok (.iaload, 1) := by decide +kernel
theorem dX7_winsGame_102 : decode cX7_winsGame 102 = .ok (.iconst 1, 1) := by decide +kernel
theorem dX7_winsGame_103 : decode cX7_winsGame 103 = .ok (.iadd, 1) := by decide +kernel
end
section
theorem dX7_winsGame_104 : decode cX7_winsGame 104 = .ok (.iastore, 1) := by decide +kernel
theorem dX7_winsGame_105 : decode cX7_winsGame 105 = .ok (.aload_n 0, 1) := by decide +kernel
theorem dX7_winsGame_106 : decode cX7_winsGame 106 = .ok (.iconst 1, 1) := by decide +kernel
theorem dX7_winsGame_107 : decode cX7_winsGame 107 = .ok (.aload_n 0, 1) := by decide +kernel
theorem dX7_winsGame_108 : decode cX7_winsGame 108 = .ok (.getfield 103, 3) := by decide +kernel
theorem dX7_winsGame_111 : decode cX7_winsGame 111 = .ok (.isub, 1) := by decide +kernel
theorem dX7_winsGame_112 : decode cX7_winsGame 112 = .ok (.putfield 103, 3) := by decide +kernel
theorem dX7_winsGame_115 : decode cX7_winsGame 115 = .ok (.aload_n 0, 1) := by decide +kernel
theorem dX7_winsGame_116 : decode cX7_winsGame 116 = .ok (.getfield 26, 3) := by decide +kernel
theorem dX7_winsGame_119 : decode cX7_winsGame 119 = .ok (.bipush 6, 2) := by decide +kernel
theorem dX7_winsGame_121 : decode cX7_winsGame 121 = .ok (.aload_n 0, 1) := by decide +kernel
theorem dX7_winsGame_122 : decode cX7_winsGame 122 = .ok (.getfield 103, 3) := by decide +kernel
theorem dX7_winsGame_125 : decode cX7_winsGame 125 = .ok (.iastore, 1) := by decide +kernel
theorem dX7_winsGame_126 : decode cX7_winsGame 126 = .ok (.aload_n 0, 1) := by decide +kernel
theorem dX7_winsGame_127 : decode cX7_winsGame 127 = .ok (.getfield 26, 3) := by decide +kernel
theorem dX7_winsGame_130 : decode cX7_winsGame 130 = .ok (.bipush 12, 2) := by decide +kernel
theorem dX7_winsGame_132 : decode cX7_winsGame 132 = .ok (.aload_n 0, 1) := by decide +kernel
theorem dX7_winsGame_133 : decode cX7_winsGame 133 = .ok (.getfield 26, 3) := by decide +kernel
theorem dX7_winsGame_136 : decode cX7_winsGame 136 = .ok (.iconst 4, 1) := by decide +kernel
theorem dX7_winsGame_137 : decode cX7_winsGame 137 = .ok (.iload_n 1, 1) := by decide +kernel
theorem dX7_winsGame_138 : decode cX7_winsGame 138 = .ok (.iadd, 1) := by decide +kernel
theorem dX7_winsGame_139 : decode cX7_winsGame 139 = .ok (.iaload, 1) := by decide +kernel
theorem dX7_winsGame_140 : decode cX7_winsGame 140 = .ok (.aload_n 0, 1) := by decide +kernel
theorem dX7_winsGame_141 : decode cX7_winsGame 141 = .ok (.getfield 7, 3) := by decide +kernel
theorem dX7_winsGame_144 : decode cX7_winsGame 144 = .ok (.iconst 4, 1) := by decide +kernel
theorem dX7_winsGame_145 : decode cX7_winsGame 145 = .ok (.iaload, 1) := by decide +kernel
theorem dX7_winsGame_146 : decode cX7_winsGame 146 = .ok (.if_icmp .ne 7, 3) := by decide +kernel
theorem dX7_winsGame_149 : decode cX7_winsGame 149 = .ok (.iload_n 1, 1) := by decide +kernel
theorem dX7_winsGame_150 : decode cX7_winsGame 150 = .ok (.goto 5, 3) := by decide +kernel
theorem dX7_winsGame_153 : decode cX7_winsGame 153 = .ok (.bipush (-9), 2) := by decide +kernel
theorem dX7_winsGame_155 : decode cX7_winsGame 155 = .ok (.iastore, 1) := by decide +kernel
theorem dX7_winsGame_156 : decode cX7_winsGame 156 = .ok (.aload_n 0, 1) := by decide +kernel
theorem dX7_winsGame_157 : decode cX7_winsGame 157 = .ok (.invokevirtual 106, 3) := by decide +kernel
theorem dX7_winsGame_160 : decode cX7_winsGame 160 = .ok (.return_, 1) := by decide +kernel
set_option maxRecDepth 20000 in
theorem ggX7_replays_X7_beginsGame : GoodIn wsX7_replays wsX7_beginsGame := goodIn_r _ [10, 1, 5, 19, 20, 21, 22, 23, 24, 25, 26, 27, 28, 29] (by decide +kernel) (by decide +kernel)
set_option maxRecDepth 20000 in
theorem gX7_replays_X7_beginsGame : GoodIn wsX7_replays (wsV RX7 106 RX7 yX7_beginsGame wsX7_beginsGame) := goodIn_app (goodIn_of _ (by decide +kernel)) ggX7_replays_X7_beginsGame
set_option maxRecDepth 20000 in
theorem ggX7_replays_X7_wonOf : GoodIn wsX7_replays wsX7_wonOf := goodIn_r _ [14, 5, 19, 20, 21, 22, 23, 24, 25, 26, 27, 28, 29] (by decide +kernel) (by decide +kernel)
set_option maxRecDepth 20000 in
theorem gX7_replays_X7_wonOf : GoodIn wsX7_replays (wsV RX7 55 RX7 yX7_wonOf wsX7_wonOf) := goodIn_app (goodIn_of _ (by decide +kernel)) ggX7_replays_X7_wonOf
set_option maxRecDepth 20000 in
theorem ggX7_replays_X7_winsGame : GoodIn wsX7_replays wsX7_winsGame := goodIn_r _ [18, 5, 1, 2, 6, 7, 8, 9, 10, 19, 20, 21, 22, 23, 24, 25, 26, 27, 28, 29] (by decide +kernel) (by decide +kernel)
set_option maxRecDepth 20000 in
theorem gX7_replays_X7_winsGame : GoodIn wsX7_replays (wsV RX7 109 RX7 yX7_winsGame wsX7_winsGame) := goodIn_app (goodIn_of _ (by decide +kernel)) ggX7_replays_X7_winsGame
theorem dX7_replays_0 : decode cX7_replays 0 = .ok (.iconst 0, 1) := by decide +kernel
theorem dX7_replays_1 : decode cX7_replays 1 = .ok (.istore_n 1, 1) := by decide +kernel
theorem dX7_replays_2 : decode cX7_replays 2 = .ok (.iload_n 1, 1) := by decide +kernel
theorem dX7_replays_3 : decode cX7_replays 3 = .ok (.bipush 12, 2) := by decide +kernel
theorem dX7_replays_5 : decode cX7_replays 5 = .ok (.if_icmp .ge 16, 3) := by decide +kernel
theorem dX7_replays_8 : decode cX7_replays 8 = .ok (.aload_n 0, 1) := by decide +kernel
theorem dX7_replays_9 : decode cX7_replays 9 = .ok (.getfield 26, 3) := by decide +kernel
theorem dX7_replays_12 : decode cX7_replays 12 = .ok (.iload_n 1, 1) := by decide +kernel
theorem dX7_replays_13 : decode cX7_replays 13 = .ok (.iconst 0, 1) := by decide +kernel
theorem dX7_replays_14 : decode cX7_replays 14 = .ok (.iastore, 1) := by decide +kernel
theorem dX7_replays_15 : decode cX7_replays 15 = .ok (.iinc 1 1, 3) := by decide +kernel
theorem dX7_replays_18 : decode cX7_replays 18 = .ok (.goto (-16), 3) := by decide +kernel
theorem dX7_replays_21 : decode cX7_replays 21 = .ok (.aload_n 0, 1) := by decide +kernel
theorem dX7_replays_22 : decode cX7_replays 22 = .ok (.getfield 26, 3) := by decide +kernel
theorem dX7_replays_25 : decode cX7_replays 25 = .ok (.bipush 12, 2) := by decide +kernel
theorem dX7_replays_27 : decode cX7_replays 27 = .ok (.bipush (-9), 2) := by decide +kernel
theorem dX7_replays_29 : decode cX7_replays 29 = .ok (.iastore, 1) := by decide +kernel
theorem dX7_replays_30 : decode cX7_replays 30 = .ok (.aload_n 0, 1) := by decide +kernel
theorem dX7_replays_31 : decode cX7_replays 31 = .ok (.iconst 0, 1) := by decide +kernel
theorem dX7_replays_32 : decode cX7_replays 32 = .ok (.putfield 103, 3) := by decide +kernel
theorem dX7_replays_35 : decode cX7_replays 35 = .ok (.aload_n 0, 1) := by decide +kernel
theorem dX7_replays_36 : decode cX7_replays 36 = .ok (.invokevirtual 106, 3) := by decide +kernel
theorem dX7_replays_39 : decode cX7_replays 39 = .ok (.iconst 0, 1) := by decide +kernel
theorem dX7_replays_40 : decode cX7_replays 40 = .ok (.istore_n 1, 1) := by decide +kernel
theorem dX7_replays_41 : decode cX7_replays 41 = .ok (.iload_n 1, 1) := by decide +kernel
theorem dX7_replays_42 : decode cX7_replays 42 = .ok (.aload_n 0, 1) := by decide +kernel
theorem dX7_replays_43 : decode cX7_replays 43 = .ok (.getfield 44, 3) := by decide +kernel
theorem dX7_replays_46 : decode cX7_replays 46 = .ok (.if_icmp .ge 95, 3) := by decide +kernel
theorem dX7_replays_49 : decode cX7_replays 49 = .ok (.aload_n 0, 1) := by decide +kernel
theorem dX7_replays_50 : decode cX7_replays 50 = .ok (.getfield 13, 3) := by decide +kernel
theorem dX7_replays_53 : decode cX7_replays 53 = .ok (.iload_n 1, 1) := by decide +kernel
theorem dX7_replays_54 : decode cX7_replays 54 = .ok (.iaload, 1) := by decide +kernel
theorem dX7_replays_55 : decode cX7_replays 55 = .ok (.istore_n 2, 1) := by decide +kernel
theorem dX7_replays_56 : decode cX7_replays 56 = .ok (.aload_n 0, 1) := by decide +kernel
theorem dX7_replays_57 : decode cX7_replays 57 = .ok (.getfield 26, 3) := by decide +kernel
theorem dX7_replays_60 : decode cX7_replays 60 = .ok (.iload_n 2, 1) := by decide +kernel
theorem dX7_replays_61 : decode cX7_replays 61 = .ok (.dup2, 1) := by decide +kernel
theorem dX7_replays_62 : decode cX7_replays 62 = .ok (.iaload, 1) := by decide +kernel
theorem dX7_replays_63 : decode cX7_replays 63 = .ok (.iconst 1, 1) := by decide +kernel
theorem dX7_replays_64 : decode cX7_replays 64 = .ok (.iadd, 1) := by decide +kernel
theorem dX7_replays_65 : decode cX7_replays 65 = .ok (.iastore, 1) := by decide +kernel
theorem dX7_replays_66 : decode cX7_replays 66 = .ok (.aload_n 0, 1) := by decide +kernel
theorem dX7_replays_67 : decode cX7_replays 67 = .ok (.getfield 26, 3) := by decide +kernel
theorem dX7_replays_70 : decode cX7_replays 70 = .ok (.bipush 7, 2) := by decide +kernel
theorem dX7_replays_72 : decode cX7_replays 72 = .ok (.dup2, 1) := by decide +kernel
theorem dX7_replays_73 : decode cX7_replays 73 = .ok (.iaload, 1) := by decide +kernel
theorem dX7_replays_74 : decode cX7_replays 74 = .ok (.iconst 1, 1) := by decide +kernel
theorem dX7_replays_75 : decode cX7_replays 75 = .ok (.iadd, 1) := by decide +kernel
theorem dX7_replays_76 : decode cX7_replays 76 = .ok (.iastore, 1) := by decide +kernel
theorem dX7_replays_77 : decode cX7_replays 77 = .ok (.aload_n 0, 1) := by decide +kernel
theorem dX7_replays_78 : decode cX7_replays 78 = .ok (.getfield 26, 3) := by decide +kernel
theorem dX7_replays_81 : decode cX7_replays 81 = .ok (.bipush 8, 2) := by decide +kernel
theorem dX7_replays_83 : decode cX7_replays 83 = .ok (.iconst 2, 1) := by decide +kernel
theorem dX7_replays_84 : decode cX7_replays 84 = .ok (.aload_n 0, 1) := by decide +kernel
theorem dX7_replays_85 : decode cX7_replays 85 = .ok (.getfield 26, 3) := by decide +kernel
theorem dX7_replays_88 : decode cX7_replays 88 = .ok (.bipush 6, 2) := by decide +kernel
theorem dX7_replays_90 : decode cX7_replays 90 = .ok (.iaload, 1) := by decide +kernel
theorem dX7_replays_91 : decode cX7_replays 91 = .ok (.imul, 1) := by decide +kernel
theorem dX7_replays_92 : decode cX7_replays 92 = .ok (.iadd, 1) := by decide +kernel
theorem dX7_replays_93 : decode cX7_replays 93 = .ok (.iload_n 2, 1) := by decide +kernel
theorem dX7_replays_94 : decode cX7_replays 94 = .ok (.iadd, 1) := by decide +kernel
theorem dX7_replays_95 : decode cX7_replays 95 = .ok (.dup2, 1) := by decide +kernel
theorem dX7_replays_96 : decode cX7_replays 96 = .ok (.iaload, 1) := by decide +kernel
theorem dX7_replays_97 : decode cX7_replays 97 = .ok (.iconst 1, 1) := by decide +kernel
theorem dX7_replays_98 : decode cX7_replays 98 = .ok (.iadd, 1) := by decide +kernel
theorem dX7_replays_99 : decode cX7_replays 99 = .ok (.iastore, 1) := by decide +kernel
theorem dX7_replays_100 : decode cX7_replays 100 = .ok (.aload_n 0, 1) := by decide +kernel
theorem dX7_replays_101 : decode cX7_replays 101 = .ok (.aload_n 0, 1) := by decide +kernel
theorem dX7_replays_102 : decode cX7_replays 102 = .ok (.getfield 7, 3) := by decide +kernel
theorem dX7_replays_105 : decode cX7_replays 105 = .ok (.bipush 6, 2) := by decide +kernel
theorem dX7_replays_107 : decode cX7_replays 107 = .ok (.iaload, 1) := by decide +kernel
theorem dX7_replays_108 : decode cX7_replays 108 = .ok (.aload_n 0, 1) := by decide +kernel
theorem dX7_replays_109 : decode cX7_replays 109 = .ok (.getfield 26, 3) := by decide +kernel
theorem dX7_replays_112 : decode cX7_replays 112 = .ok (.iconst 0, 1) := by decide +kernel
theorem dX7_replays_113 : decode cX7_replays 113 = .ok (.iaload, 1) := by decide +kernel
theorem dX7_replays_114 : decode cX7_replays 114 = .ok (.aload_n 0, 1) := by decide +kernel
theorem dX7_replays_115 : decode cX7_replays 115 = .ok (.getfield 26, 3) := by decide +kernel
theorem dX7_replays_118 : decode cX7_replays 118 = .ok (.iconst 1, 1) := by decide +kernel
theorem dX7_replays_119 : decode cX7_replays 119 = .ok (.iaload, 1) := by decide +kernel
theorem dX7_replays_120 : decode cX7_replays 120 = .ok (.invokevirtual 55, 3) := by decide +kernel
theorem dX7_replays_123 : decode cX7_replays 123 = .ok (.istore_n 3, 1) := by decide +kernel
theorem dX7_replays_124 : decode cX7_replays 124 = .ok (.iload_n 3, 1) := by decide +kernel
theorem dX7_replays_125 : decode cX7_replays 125 = .ok (.ifCond .le 10, 3) := by decide +kernel
theorem dX7_replays_128 : decode cX7_replays 128 = .ok (.aload_n 0, 1) := by decide +kernel
theorem dX7_replays_129 : decode cX7_replays 129 = .ok (.iload_n 3, 1) := by decide +kernel
theorem dX7_replays_130 : decode cX7_replays 130 = .ok (.iconst 1, 1) := by decide +kernel
theorem dX7_replays_131 : decode cX7_replays 131 = .ok (.isub, 1) := by decide +kernel
theorem dX7_replays_132 : decode cX7_replays 132 = .ok (.invokevirtual 109, 3) := by decide +kernel
theorem dX7_replays_135 : decode cX7_replays 135 = .ok (.iinc 1 1, 3) := by decide +kernel
theorem dX7_replays_138 : decode cX7_replays 138 = .ok (.goto (-97), 3) := by decide +kernel
theorem dX7_replays_141 : decode cX7_replays 141 = .ok (.return_, 1) := by decide +kernel
set_option maxRecDepth 20000 in
theorem ggX7_point_X7_in : GoodIn wsX7_point wsX7_in := goodIn_r _ [8] (by decide +kernel) (by decide +kernel)
set_option maxRecDepth 20000 in
theorem gX7_point_X7_in : GoodIn wsX7_point (va_wsS RX7 36 yX7_in wsX7_in) := goodIn_app (goodIn_of _ (by decide +kernel)) ggX7_point_X7_in
set_option maxRecDepth 20000 in
theorem ggX7_point_X7_replays : GoodIn wsX7_point wsX7_replays := goodIn_r _ [12, 2, 13, 3, 4, 14, 15, 16, 17, 7, 18, 19, 20, 21, 22, 23, 24, 25, 26, 27, 28, 29, 30, 31, 32, 33, 34, 35, 36, 37] (by decide +kernel) (by decide +kernel)
set_option maxRecDepth 20000 in
theorem gX7_point_X7_replays : GoodIn wsX7_point (wsV RX7 29 RX7 yX7_replays wsX7_replays) := goodIn_app (goodIn_of _ (by decide +kernel)) ggX7_point_X7_replays
theorem dX7_point_0 : decode cX7_point 0 = .ok (.aload_n 0, 1) := by decide +kernel
theorem dX7_point_1 : decode cX7_point 1 = .ok (.iconst 0, 1) := by decide +kernel
theorem dX7_point_2 : decode cX7_point 2 = .ok (.putfield 32, 3) := by decide +kernel
theorem dX7_point_5 : decode cX7_point 5 = .ok (.iload_n 1, 1) := by decide +kernel
theorem dX7_point_6 : decode cX7_point 6 = .ok (.iconst 0, 1) := by decide +kernel
theorem dX7_point_7 : decode cX7_point 7 = .ok (.iconst 1, 1) := by decide +kernel
theorem dX7_point_8 : decode cX7_point 8 = .ok (.invokestatic 36, 3) := by decide +kernel
theorem dX7_point_11 : decode cX7_point 11 = .ok (.ifCond .ne 5, 3) := by decide +kernel
theorem dX7_point_14 : decode cX7_point 14 = .ok (.iconst (-1), 1) := by decide +kernel
theorem dX7_point_15 : decode cX7_point 15 = .ok (.ireturn, 1) := by decide +kernel
theorem dX7_point_16 : decode cX7_point 16 = .ok (.aload_n 0, 1) := by decide +kernel
theorem dX7_point_17 : decode cX7_point 17 = .ok (.getfield 26, 3) := by decide +kernel
theorem dX7_point_20 : decode cX7_point 20 = .ok (.bipush 12, 2) := by decide +kernel
theorem dX7_point_22 : decode cX7_point 22 = .ok (.iaload, 1) := by decide +kernel
theorem dX7_point_23 : decode cX7_point 23 = .ok (.bipush (-9), 2) := by decide +kernel
theorem dX7_point_25 : decode cX7_point 25 = .ok (.if_icmp .eq 6, 3) := by decide +kernel
theorem dX7_point_28 : decode cX7_point 28 = .ok (.bipush (-2), 2) := by decide +kernel
theorem dX7_point_30 : decode cX7_point 30 = .ok (.ireturn, 1) := by decide +kernel
theorem dX7_point_31 : decode cX7_point 31 = .ok (.aload_n 0, 1) := by decide +kernel
theorem dX7_point_32 : decode cX7_point 32 = .ok (.getfield 44, 3) := by decide +kernel
theorem dX7_point_35 : decode cX7_point 35 = .ok (.sipush 400, 3) := by decide +kernel
theorem dX7_point_38 : decode cX7_point 38 = .ok (.if_icmp .ne 6, 3) := by decide +kernel
theorem dX7_point_41 : decode cX7_point 41 = .ok (.bipush (-3), 2) := by decide +kernel
theorem dX7_point_43 : decode cX7_point 43 = .ok (.ireturn, 1) := by decide +kernel
theorem dX7_point_44 : decode cX7_point 44 = .ok (.aload_n 0, 1) := by decide +kernel
theorem dX7_point_45 : decode cX7_point 45 = .ok (.getfield 13, 3) := by decide +kernel
theorem dX7_point_48 : decode cX7_point 48 = .ok (.aload_n 0, 1) := by decide +kernel
theorem dX7_point_49 : decode cX7_point 49 = .ok (.getfield 44, 3) := by decide +kernel
theorem dX7_point_52 : decode cX7_point 52 = .ok (.iload_n 1, 1) := by decide +kernel
theorem dX7_point_53 : decode cX7_point 53 = .ok (.iastore, 1) := by decide +kernel
theorem dX7_point_54 : decode cX7_point 54 = .ok (.aload_n 0, 1) := by decide +kernel
theorem dX7_point_55 : decode cX7_point 55 = .ok (.dup, 1) := by decide +kernel
theorem dX7_point_56 : decode cX7_point 56 = .ok (.getfield 44, 3) := by decide +kernel
theorem dX7_point_59 : decode cX7_point 59 = .ok (.iconst 1, 1) := by decide +kernel
theorem dX7_point_60 : decode cX7_point 60 = .ok (.iadd, 1) := by decide +kernel
theorem dX7_point_61 : decode cX7_point 61 = .ok (.putfield 44, 3) := by decide +kernel
theorem dX7_point_64 : decode cX7_point 64 = .ok (.aload_n 0, 1) := by decide +kernel
theorem dX7_point_65 : decode cX7_point 65 = .ok (.invokevirtual 29, 3) := by decide +kernel
theorem dX7_point_68 : decode cX7_point 68 = .ok (.aload_n 0, 1) := by decide +kernel
theorem dX7_point_69 : decode cX7_point 69 = .ok (.getfield 44, 3) := by decide +kernel
theorem dX7_point_72 : decode cX7_point 72 = .ok (.ireturn, 1) := by decide +kernel
set_option maxRecDepth 20000 in
theorem ggX7_back_X7_in : GoodIn wsX7_back wsX7_in := goodIn_r _ [6] (by decide +kernel) (by decide +kernel)
set_option maxRecDepth 20000 in
theorem gX7_back_X7_in : GoodIn wsX7_back (va_wsS RX7 36 yX7_in wsX7_in) := goodIn_app (goodIn_of _ (by decide +kernel)) ggX7_back_X7_in
set_option maxRecDepth 20000 in
theorem ggX7_back_X7_replays : GoodIn wsX7_back wsX7_replays := goodIn_r _ [10, 11, 12, 2, 13, 14, 15, 16, 17, 5, 18, 19, 20, 21, 22, 23, 24, 25, 26, 27, 28, 29, 30, 31, 32, 33, 34, 35, 36, 37] (by decide +kernel) (by decide +kernel)
set_option maxRecDepth 20000 in
theorem gX7_back_X7_replays : GoodIn wsX7_back (wsV RX7 29 RX7 yX7_replays wsX7_replays) := goodIn_app (goodIn_of _ (by decide +kernel)) ggX7_back_X7_replays
theorem dX7_back_0 : decode cX7_back 0 = .ok (.aload_n 0, 1) := by decide +kernel
theorem dX7_back_1 : decode cX7_back 1 = .ok (.iconst 0, 1) := by decide +kernel
theorem dX7_back_2 : decode cX7_back 2 = .ok (.putfield 32, 3) := by decide +kernel
theorem dX7_back_5 : decode cX7_back 5 = .ok (.iload_n 1, 1) := by decide +kernel
theorem dX7_back_6 : decode cX7_back 6 = .ok (.iconst 1, 1) := by decide +kernel
theorem dX7_back_7 : decode cX7_back 7 = .ok (.sipush 400, 3) := by decide +kernel
theorem dX7_back_10 : decode cX7_back 10 = .ok (.invokestatic 36, 3) := by decide +kernel
theorem dX7_back_13 : decode cX7_back 13 = .ok (.ifCond .ne 5, 3) := by decide +kernel
theorem dX7_back_16 : decode cX7_back 16 = .ok (.iconst (-1), 1) := by decide +kernel
theorem dX7_back_17 : decode cX7_back 17 = .ok (.ireturn, 1) := by decide +kernel
theorem dX7_back_18 : decode cX7_back 18 = .ok (.iload_n 1, 1) := by decide +kernel
theorem dX7_back_19 : decode cX7_back 19 = .ok (.aload_n 0, 1) := by decide +kernel
theorem dX7_back_20 : decode cX7_back 20 = .ok (.getfield 44, 3) := by decide +kernel
theorem dX7_back_23 : decode cX7_back 23 = .ok (.if_icmp .ge 7, 3) := by decide +kernel
theorem dX7_back_26 : decode cX7_back 26 = .ok (.iload_n 1, 1) := by decide +kernel
theorem dX7_back_27 : decode cX7_back 27 = .ok (.goto 7, 3) := by decide +kernel
theorem dX7_back_30 : decode cX7_back 30 = .ok (.aload_n 0, 1) := by decide +kernel
theorem dX7_back_31 : decode cX7_back 31 = .ok (.getfield 44, 3) := by decide +kernel
theorem dX7_back_34 : decode cX7_back 34 = .ok (.istore_n 2, 1) := by decide +kernel
theorem dX7_back_35 : decode cX7_back 35 = .ok (.aload_n 0, 1) := by decide +kernel
theorem dX7_back_36 : decode cX7_back 36 = .ok (.dup, 1) := by decide +kernel
theorem dX7_back_37 : decode cX7_back 37 = .ok (.getfield 44, 3) := by decide +kernel
theorem dX7_back_40 : decode cX7_back 40 = .ok (.iload_n 2, 1) := by decide +kernel
theorem dX7_back_41 : decode cX7_back 41 = .ok (.isub, 1) := by decide +kernel
theorem dX7_back_42 : decode cX7_back 42 = .ok (.putfield 44, 3) := by decide +kernel
theorem dX7_back_45 : decode cX7_back 45 = .ok (.aload_n 0, 1) := by decide +kernel
theorem dX7_back_46 : decode cX7_back 46 = .ok (.invokevirtual 29, 3) := by decide +kernel
theorem dX7_back_49 : decode cX7_back 49 = .ok (.iload_n 2, 1) := by decide +kernel
theorem dX7_back_50 : decode cX7_back 50 = .ok (.ireturn, 1) := by decide +kernel
set_option maxRecDepth 20000 in
theorem ggX7_score_X7_in : GoodIn wsX7_score wsX7_in := goodIn_r _ [6] (by decide +kernel) (by decide +kernel)
set_option maxRecDepth 20000 in
theorem gX7_score_X7_in : GoodIn wsX7_score (va_wsS RX7 36 yX7_in wsX7_in) := goodIn_app (goodIn_of _ (by decide +kernel)) ggX7_score_X7_in
theorem dX7_score_0 : decode cX7_score 0 = .ok (.aload_n 0, 1) := by decide +kernel
theorem dX7_score_1 : decode cX7_score 1 = .ok (.iconst 0, 1) := by decide +kernel
theorem dX7_score_2 : decode cX7_score 2 = .ok (.putfield 32, 3) := by decide +kernel
theorem dX7_score_5 : decode cX7_score 5 = .ok (.iload_n 1, 1) := by decide +kernel
theorem dX7_score_6 : decode cX7_score 6 = .ok (.iconst 0, 1) := by decide +kernel
theorem dX7_score_7 : decode cX7_score 7 = .ok (.bipush 12, 2) := by decide +kernel
theorem dX7_score_9 : decode cX7_score 9 = .ok (.invokestatic 36, 3) := by decide +kernel
theorem dX7_score_12 : decode cX7_score 12 = .ok (.ifCond .eq 12, 3) := by decide +kernel
theorem dX7_score_15 : decode cX7_score 15 = .ok (.aload_n 0, 1) := by decide +kernel
theorem dX7_score_16 : decode cX7_score 16 = .ok (.getfield 26, 3) := by decide +kernel
theorem dX7_score_19 : decode cX7_score 19 = .ok (.iload_n 1, 1) := by decide +kernel
theorem dX7_score_20 : decode cX7_score 20 = .ok (.iaload, 1) := by decide +kernel
theorem dX7_score_21 : decode cX7_score 21 = .ok (.goto 4, 3) := by decide +kernel
theorem dX7_score_24 : decode cX7_score 24 = .ok (.iconst (-1), 1) := by decide +kernel
theorem dX7_score_25 : decode cX7_score 25 = .ok (.ireturn, 1) := by decide +kernel
set_option maxRecDepth 20000 in
theorem ggX7_likeliest_X7_in : GoodIn wsX7_likeliest wsX7_in := goodIn_r _ [5] (by decide +kernel) (by decide +kernel)
set_option maxRecDepth 20000 in
theorem gX7_likeliest_X7_in : GoodIn wsX7_likeliest (va_wsS RX7 36 yX7_in wsX7_in) := goodIn_app (goodIn_of _ (by decide +kernel)) ggX7_likeliest_X7_in
theorem dX7_likeliest_0 : decode cX7_likeliest 0 = .ok (.aload_n 0, 1) := by decide +kernel
theorem dX7_likeliest_1 : decode cX7_likeliest 1 = .ok (.iconst 0, 1) := by decide +kernel
theorem dX7_likeliest_2 : decode cX7_likeliest 2 = .ok (.putfield 32, 3) := by decide +kernel
theorem dX7_likeliest_5 : decode cX7_likeliest 5 = .ok (.iload_n 1, 1) := by decide +kernel
theorem dX7_likeliest_6 : decode cX7_likeliest 6 = .ok (.iconst 0, 1) := by decide +kernel
theorem dX7_likeliest_7 : decode cX7_likeliest 7 = .ok (.bipush 18, 2) := by decide +kernel
theorem dX7_likeliest_9 : decode cX7_likeliest 9 = .ok (.invokestatic 36, 3) := by decide +kernel
theorem dX7_likeliest_12 : decode cX7_likeliest 12 = .ok (.ifCond .eq 21, 3) := by decide +kernel
theorem dX7_likeliest_15 : decode cX7_likeliest 15 = .ok (.iload_n 2, 1) := by decide +kernel
theorem dX7_likeliest_16 : decode cX7_likeliest 16 = .ok (.iconst 0, 1) := by decide +kernel
theorem dX7_likeliest_17 : decode cX7_likeliest 17 = .ok (.bipush 18, 2) := by decide +kernel
theorem dX7_likeliest_19 : decode cX7_likeliest 19 = .ok (.invokestatic 36, 3) := by decide +kernel
theorem dX7_likeliest_22 : decode cX7_likeliest 22 = .ok (.ifCond .eq 11, 3) := by decide +kernel
theorem dX7_likeliest_25 : decode cX7_likeliest 25 = .ok (.iload_n 1, 1) := by decide +kernel
theorem dX7_likeliest_26 : decode cX7_likeliest 26 = .ok (.iload_n 2, 1) := by decide +kernel
theorem dX7_likeliest_27 : decode cX7_likeliest 27 = .ok (.iadd, 1) := by decide +kernel
theorem dX7_likeliest_28 : decode cX7_likeliest 28 = .ok (.bipush 18, 2) := by decide +kernel
theorem dX7_likeliest_30 : decode cX7_likeliest 30 = .ok (.if_icmp .le 5, 3) := by decide +kernel
theorem dX7_likeliest_33 : decode cX7_likeliest 33 = .ok (.iconst (-1), 1) := by decide +kernel
theorem dX7_likeliest_34 : decode cX7_likeliest 34 = .ok (.ireturn, 1) := by decide +kernel
theorem dX7_likeliest_35 : decode cX7_likeliest 35 = .ok (.iconst 0, 1) := by decide +kernel
theorem dX7_likeliest_36 : decode cX7_likeliest 36 = .ok (.istore_n 3, 1) := by decide +kernel
theorem dX7_likeliest_37 : decode cX7_likeliest 37 = .ok (.lconst 0, 1) := by decide +kernel
theorem dX7_likeliest_38 : decode cX7_likeliest 38 = .ok (.lstore 4, 2) := by decide +kernel
theorem dX7_likeliest_40 : decode cX7_likeliest 40 = .ok (.iconst 1, 1) := by decide +kernel
theorem dX7_likeliest_41 : decode cX7_likeliest 41 = .ok (.istore 6, 2) := by decide +kernel
theorem dX7_likeliest_43 : decode cX7_likeliest 43 = .ok (.iload 6, 2) := by decide +kernel
theorem dX7_likeliest_45 : decode cX7_likeliest 45 = .ok (.bipush 10, 2) := by decide +kernel
theorem dX7_likeliest_47 : decode cX7_likeliest 47 = .ok (.if_icmp .ge 76, 3) := by decide +kernel
theorem dX7_likeliest_50 : decode cX7_likeliest 50 = .ok (.lconst 1, 1) := by decide +kernel
theorem dX7_likeliest_51 : decode cX7_likeliest 51 = .ok (.lstore 7, 2) := by decide +kernel
theorem dX7_likeliest_53 : decode cX7_likeliest 53 = .ok (.iconst 0, 1) := by decide +kernel
theorem dX7_likeliest_54 : decode cX7_likeliest 54 = .ok (.istore 9, 2) := by decide +kernel
theorem dX7_likeliest_56 : decode cX7_likeliest 56 = .ok (.iload 9, 2) := by decide +kernel
theorem dX7_likeliest_58 : decode cX7_likeliest 58 = .ok (.iload_n 1, 1) := by decide +kernel
theorem dX7_likeliest_59 : decode cX7_likeliest 59 = .ok (.if_icmp .ge 17, 3) := by decide +kernel
theorem dX7_likeliest_62 : decode cX7_likeliest 62 = .ok (.lload 7, 2) := by decide +kernel
theorem dX7_likeliest_64 : decode cX7_likeliest 64 = .ok (.iload 6, 2) := by decide +kernel
theorem dX7_likeliest_66 : decode cX7_likeliest 66 = .ok (.i2l, 1) := by decide +kernel
theorem dX7_likeliest_67 : decode cX7_likeliest 67 = .ok (.lmul, 1) := by decide +kernel
theorem dX7_likeliest_68 : decode cX7_likeliest 68 = .ok (.lstore 7, 2) := by decide +kernel
theorem dX7_likeliest_70 : decode cX7_likeliest 70 = .ok (.iinc 9 1, 3) := by decide +kernel
theorem dX7_likeliest_73 : decode cX7_likeliest 73 = .ok (.goto (-17), 3) := by decide +kernel
theorem dX7_likeliest_76 : decode cX7_likeliest 76 = .ok (.iconst 0, 1) := by decide +kernel
theorem dX7_likeliest_77 : decode cX7_likeliest 77 = .ok (.istore 9, 2) := by decide +kernel
theorem dX7_likeliest_79 : decode cX7_likeliest 79 = .ok (.iload 9, 2) := by decide +kernel
theorem dX7_likeliest_81 : decode cX7_likeliest 81 = .ok (.iload_n 2, 1) := by decide +kernel
theorem dX7_likeliest_82 : decode cX7_likeliest 82 = .ok (.if_icmp .ge 20, 3) := by decide +kernel
theorem dX7_likeliest_85 : decode cX7_likeliest 85 = .ok (.lload 7, 2) := by decide +kernel
theorem dX7_likeliest_87 : decode cX7_likeliest 87 = .ok (.bipush 10, 2) := by decide +kernel
theorem dX7_likeliest_89 : decode cX7_likeliest 89 = .ok (.iload 6, 2) := by decide +kernel
theorem dX7_likeliest_91 : decode cX7_likeliest 91 = .ok (.isub, 1) := by decide +kernel
theorem dX7_likeliest_92 : decode cX7_likeliest 92 = .ok (.i2l, 1) := by decide +kernel
theorem dX7_likeliest_93 : decode cX7_likeliest 93 = .ok (.lmul, 1) := by decide +kernel
theorem dX7_likeliest_94 : decode cX7_likeliest 94 = .ok (.lstore 7, 2) := by decide +kernel
theorem dX7_likeliest_96 : decode cX7_likeliest 96 = .ok (.iinc 9 1, 3) := by decide +kernel
theorem dX7_likeliest_99 : decode cX7_likeliest 99 = .ok (.goto (-20), 3) := by decide +kernel
theorem dX7_likeliest_102 : decode cX7_likeliest 102 = .ok (.lload 7, 2) := by decide +kernel
theorem dX7_likeliest_104 : decode cX7_likeliest 104 = .ok (.lload 4, 2) := by decide +kernel
theorem dX7_likeliest_106 : decode cX7_likeliest 106 = .ok (.lcmp, 1) := by decide +kernel
theorem dX7_likeliest_107 : decode cX7_likeliest 107 = .ok (.ifCond .le 10, 3) := by decide +kernel
theorem dX7_likeliest_110 : decode cX7_likeliest 110 = .ok (.lload 7, 2) := by decide +kernel
theorem dX7_likeliest_112 : decode cX7_likeliest 112 = .ok (.lstore 4, 2) := by decide +kernel
theorem dX7_likeliest_114 : decode cX7_likeliest 114 = .ok (.iload 6, 2) := by decide +kernel
theorem dX7_likeliest_116 : decode cX7_likeliest 116 = .ok (.istore_n 3, 1) := by decide +kernel
theorem dX7_likeliest_117 : decode cX7_likeliest 117 = .ok (.iinc 6 1, 3) := by decide +kernel
theorem dX7_likeliest_120 : decode cX7_likeliest 120 = .ok (.goto (-77), 3) := by decide +kernel
theorem dX7_likeliest_123 : decode cX7_likeliest 123 = .ok (.iload_n 3, 1) := by decide +kernel
theorem dX7_likeliest_124 : decode cX7_likeliest 124 = .ok (.ireturn, 1) := by decide +kernel
set_option maxRecDepth 20000 in
theorem ggX7_count_X7_in : GoodIn wsX7_count wsX7_in := goodIn_r _ [6] (by decide +kernel) (by decide +kernel)
set_option maxRecDepth 20000 in
theorem gX7_count_X7_in : GoodIn wsX7_count (va_wsS RX7 36 yX7_in wsX7_in) := goodIn_app (goodIn_of _ (by decide +kernel)) ggX7_count_X7_in
theorem dX7_count_0 : decode cX7_count 0 = .ok (.aload_n 0, 1) := by decide +kernel
theorem dX7_count_1 : decode cX7_count 1 = .ok (.iconst 0, 1) := by decide +kernel
theorem dX7_count_2 : decode cX7_count 2 = .ok (.putfield 32, 3) := by decide +kernel
theorem dX7_count_5 : decode cX7_count 5 = .ok (.iload_n 1, 1) := by decide +kernel
theorem dX7_count_6 : decode cX7_count 6 = .ok (.iconst 0, 1) := by decide +kernel
theorem dX7_count_7 : decode cX7_count 7 = .ok (.bipush 6, 2) := by decide +kernel
theorem dX7_count_9 : decode cX7_count 9 = .ok (.invokestatic 36, 3) := by decide +kernel
theorem dX7_count_12 : decode cX7_count 12 = .ok (.ifCond .eq 12, 3) := by decide +kernel
theorem dX7_count_15 : decode cX7_count 15 = .ok (.aload_n 0, 1) := by decide +kernel
theorem dX7_count_16 : decode cX7_count 16 = .ok (.getfield 7, 3) := by decide +kernel
theorem dX7_count_19 : decode cX7_count 19 = .ok (.iload_n 1, 1) := by decide +kernel
theorem dX7_count_20 : decode cX7_count 20 = .ok (.iaload, 1) := by decide +kernel
theorem dX7_count_21 : decode cX7_count 21 = .ok (.goto 4, 3) := by decide +kernel
theorem dX7_count_24 : decode cX7_count 24 = .ok (.iconst (-1), 1) := by decide +kernel
theorem dX7_count_25 : decode cX7_count 25 = .ok (.ireturn, 1) := by decide +kernel
theorem dX7_trace_0 : decode cX7_trace 0 = .ok (.aload_n 0, 1) := by decide +kernel
theorem dX7_trace_1 : decode cX7_trace 1 = .ok (.iconst 0, 1) := by decide +kernel
theorem dX7_trace_2 : decode cX7_trace 2 = .ok (.putfield 32, 3) := by decide +kernel
theorem dX7_trace_5 : decode cX7_trace 5 = .ok (.aload_n 0, 1) := by decide +kernel
theorem dX7_trace_6 : decode cX7_trace 6 = .ok (.getfield 47, 3) := by decide +kernel
theorem dX7_trace_9 : decode cX7_trace 9 = .ok (.lreturn, 1) := by decide +kernel
theorem dJ9_abs_0f7a4_0 : decode cJ9_abs_0f7a4 0 = .ok (.iload_n 0, 1) := by decide +kernel
theorem dJ9_abs_0f7a4_1 : decode cJ9_abs_0f7a4 1 = .ok (.ifCond .ge 8, 3) := by decide +kernel
theorem dJ9_abs_0f7a4_4 : decode cJ9_abs_0f7a4 4 = .ok (.iload_n 0, 1) := by decide +kernel
theorem dJ9_abs_0f7a4_5 : decode cJ9_abs_0f7a4 5 = .ok (.ineg, 1) := by decide +kernel
theorem dJ9_abs_0f7a4_6 : decode cJ9_abs_0f7a4 6 = .ok (.goto 4, 3) := by decide +kernel
theorem dJ9_abs_0f7a4_9 : decode cJ9_abs_0f7a4 9 = .ok (.iload_n 0, 1) := by decide +kernel
theorem dJ9_abs_0f7a4_10 : decode cJ9_abs_0f7a4 10 = .ok (.ireturn, 1) := by decide +kernel
theorem dJ9_max_7cf53_0 : decode cJ9_max_7cf53 0 = .ok (.iload_n 0, 1) := by decide +kernel
theorem dJ9_max_7cf53_1 : decode cJ9_max_7cf53 1 = .ok (.iload_n 1, 1) := by decide +kernel
theorem dJ9_max_7cf53_2 : decode cJ9_max_7cf53 2 = .ok (.if_icmp .lt 7, 3) := by decide +kernel
theorem dJ9_max_7cf53_5 : decode cJ9_max_7cf53 5 = .ok (.iload_n 0, 1) := by decide +kernel
theorem dJ9_max_7cf53_6 : decode cJ9_max_7cf53 6 = .ok (.goto 4, 3) := by decide +kernel
theorem dJ9_max_7cf53_9 : decode cJ9_max_7cf53 9 = .ok (.iload_n 1, 1) := by decide +kernel
theorem dJ9_max_7cf53_10 : decode cJ9_max_7cf53 10 = .ok (.ireturn, 1) := by decide +kernel
theorem dJ9_min_7cf53_0 : decode cJ9_min_7cf53 0 = .ok (.iload_n 0, 1) := by decide +kernel
theorem dJ9_min_7cf53_1 : decode cJ9_min_7cf53 1 = .ok (.iload_n 1, 1) := by decide +kernel
theorem dJ9_min_7cf53_2 : decode cJ9_min_7cf53 2 = .ok (.if_icmp .gt 7, 3) := by decide +kernel
theorem dJ9_min_7cf53_5 : decode cJ9_min_7cf53 5 = .ok (.iload_n 0, 1) := by decide +kernel
theorem dJ9_min_7cf53_6 : decode cJ9_min_7cf53 6 = .ok (.goto 4, 3) := by decide +kernel
theorem dJ9_min_7cf53_9 : decode cJ9_min_7cf53 9 = .ok (.iload_n 1, 1) := by decide +kernel
theorem dJ9_min_7cf53_10 : decode cJ9_min_7cf53 10 = .ok (.ireturn, 1) := by decide +kernel
end
section
/-! ## RungPlay.within -/
abbrev rmX6_within : Room := { frames := 0, cells := 0, slots := 0, locals := 0 }
def b_X6_within_14  : Option (Int32) :=
  (some 0)
def f_X6_within (x0 : Int32) (x1 : Int32) (x2 : Int32) : Option (Int32) :=
  (if x0 < x1 then (b_X6_within_14 ) else (if x2 < x0 then (b_X6_within_14 ) else (some 1)))
set_option maxHeartbeats 4000000 in
set_option maxRecDepth 100000 in
theorem B_X6_within_14 {p : Program} {l : Launch} {e : Env} {s : State} {m : MethodId} {args : Array Value} {below : List Frame} {meth : Method} {c : Code} {A : Nat → Prop} {dC : Nat → ClassId} {dI : Nat → Nat → Nat} {cI cJ cZ : ClassId} (C0 : q_C p s m args meth c (dC, dI) (q_T cI cJ cZ) A RX6 wsX6_within cX6_within 3 (some .boolean))  {R : Int32} (hf : b_X6_within_14  = some R) : ∀ (H : Heap) (locs : List Loc) (ls : Array Slot), va_P (dC, dI) vwCl [] H → va_D A [] → va_S A s.heap H locs → lv_has ls 3 [] → W p l e rmX6_within s m args below meth c H locs 0 0 (MQ below (qI (dC, dI) (q_T cI cJ cZ) [] R A) args s 0 0 A) (F0 m 14 ls []) := by
  obtain ⟨hx, hb, hml, hown, hts, hrt, hlk, hK, hX, hA⟩ := id C0
  intro H locs ls hP hD hS hl
  refine lv_iconst (v := 0) hx hb dX6_within_14 (by decide) ?_
  obtain rfl := Option.some.inj hf
  exact q_retZ C0 (by rfl) hP hD hS dX6_within_15
set_option maxHeartbeats 4000000 in
set_option maxRecDepth 100000 in
theorem B_X6_within_0 {p : Program} {l : Launch} {e : Env} {s : State} {m : MethodId} {args : Array Value} {below : List Frame} {meth : Method} {c : Code} {A : Nat → Prop} {dC : Nat → ClassId} {dI : Nat → Nat → Nat} {cI cJ cZ : ClassId} (C0 : q_C p s m args meth c (dC, dI) (q_T cI cJ cZ) A RX6 wsX6_within cX6_within 3 (some .boolean)) {x0 : Int32} {x1 : Int32} {x2 : Int32} {R : Int32} (hf : f_X6_within x0 x1 x2 = some R) : ∀ (H : Heap) (locs : List Loc) (ls : Array Slot), va_P (dC, dI) vwCl [] H → va_D A [] → va_S A s.heap H locs → lv_has ls 3 [(0, .int x0), (1, .int x1), (2, .int x2)] → W p l e rmX6_within s m args below meth c H locs 0 0 (MQ below (qI (dC, dI) (q_T cI cJ cZ) [] R A) args s 0 0 A) (F0 m 0 ls []) := by
  obtain ⟨hx, hb, hml, hown, hts, hrt, hlk, hK, hX, hA⟩ := id C0
  intro H locs ls hP hD hS hl
  refine lv_iload_n hx hb dX6_within_0 rfl (lv_at hl 1 rfl) ?_
  refine lv_iload_n hx hb dX6_within_1 rfl (lv_at hl 0 rfl) ?_
  refine lv_icmp_gt (tgt := 14) hx hb dX6_within_2 (by decide) (fun hc1 => ?_) (fun hc1 => ?_)
  · have hf := q_if hf hc1
    exact B_X6_within_14 C0 hf H locs ls hP hD hS (lv_sub hl [] rfl)
  · have hf := q_nif hf hc1
    refine lv_iload_n hx hb dX6_within_5 rfl (lv_at hl 0 rfl) ?_
    refine lv_iload_n hx hb dX6_within_6 rfl (lv_at hl 2 rfl) ?_
    refine lv_icmp_gt (tgt := 14) hx hb dX6_within_7 (by decide) (fun hc2 => ?_) (fun hc2 => ?_)
    · have hf := q_if hf hc2
      exact B_X6_within_14 C0 hf H locs ls hP hD hS (lv_sub hl [] rfl)
    · have hf := q_nif hf hc2
      refine lv_iconst (v := 1) hx hb dX6_within_10 (by decide) ?_
      refine lv_goto (tgt := 15) hx hb dX6_within_11 (by decide) ?_
      obtain rfl := Option.some.inj hf
      exact q_retZ C0 (by rfl) hP hD hS dX6_within_15
set_option maxHeartbeats 4000000 in
set_option maxRecDepth 100000 in
theorem c_X6_within {l : Launch} {dC : Nat → ClassId} {dI : Nat → Nat → Nat} {cI cJ cZ : ClassId} {x0 : Int32} {x1 : Int32} {x2 : Int32} {R : Int32} (hf : f_X6_within x0 x1 x2 = some R) : q_M l yX6_within wsX6_within rmX6_within (dC, dI) (q_T cI cJ cZ) [.int x0, .int x1, .int x2] [] (qI (dC, dI) (q_T cI cJ cZ) [] R) := by
  refine q_body (cc := cX6_within) (maxL := 3) (ret := (some .boolean)) (by decide) rfl (Nat.le_of_ble_eq_true rfl) ?_
  intro p e s m args below meth c A C0 ls hP hD hS hl
  have hl : lv_has ls 3 [(0, .int x0), (1, .int x1), (2, .int x2)] := hl
  exact B_X6_within_0 C0 hf s.heap [] ls hP hD hS hl

/-! ## RungPlay$Rules.leader -/
abbrev rmX5_leader : Room := { frames := 0, cells := 0, slots := 0, locals := 0 }
def f_X5_leader (x0 : Int32) (x1 : Int32) : Option (Int32) :=
  (if x0 ≤ x1 then (if x1 ≤ x0 then (some 0) else (some 2)) else (some 1))
set_option maxHeartbeats 4000000 in
set_option maxRecDepth 100000 in
theorem B_X5_leader_0 {p : Program} {l : Launch} {e : Env} {s : State} {m : MethodId} {args : Array Value} {below : List Frame} {meth : Method} {c : Code} {A : Nat → Prop} {dC : Nat → ClassId} {dI : Nat → Nat → Nat} {cI cJ cZ : ClassId} (C0 : q_C p s m args meth c (dC, dI) (q_T cI cJ cZ) A RX5 wsX5_leader cX5_leader 2 (some .int)) {x0 : Int32} {x1 : Int32} {R : Int32} (hf : f_X5_leader x0 x1 = some R) : ∀ (H : Heap) (locs : List Loc) (ls : Array Slot), va_P (dC, dI) vwCl [] H → va_D A [] → va_S A s.heap H locs → lv_has ls 2 [(0, .int x0), (1, .int x1)] → W p l e rmX5_leader s m args below meth c H locs 0 0 (MQ below (qI (dC, dI) (q_T cI cJ cZ) [] R A) args s 0 0 A) (F0 m 0 ls []) := by
  obtain ⟨hx, hb, hml, hown, hts, hrt, hlk, hK, hX, hA⟩ := id C0
  intro H locs ls hP hD hS hl
  refine lv_iload_n hx hb dX5_leader_0 rfl (lv_at hl 0 rfl) ?_
  refine lv_iload_n hx hb dX5_leader_1 rfl (lv_at hl 1 rfl) ?_
  refine lv_icmp_le (tgt := 9) hx hb dX5_leader_2 (by decide) (fun hc1 => ?_) (fun hc1 => ?_)
  · have hf := q_if hf hc1
    refine lv_iload_n hx hb dX5_leader_9 rfl (lv_at hl 0 rfl) ?_
    refine lv_iload_n hx hb dX5_leader_10 rfl (lv_at hl 1 rfl) ?_
    refine lv_icmp_ge (tgt := 18) hx hb dX5_leader_11 (by decide) (fun hc2 => ?_) (fun hc2 => ?_)
    · have hf := q_if hf hc2
      refine lv_iconst (v := 0) hx hb dX5_leader_18 (by decide) ?_
      obtain rfl := Option.some.inj hf
      exact q_retI C0 hP hD hS dX5_leader_19
    · have hf := q_nif hf hc2
      refine lv_iconst (v := 2) hx hb dX5_leader_14 (by decide) ?_
      refine lv_goto (tgt := 19) hx hb dX5_leader_15 (by decide) ?_
      obtain rfl := Option.some.inj hf
      exact q_retI C0 hP hD hS dX5_leader_19
  · have hf := q_nif hf hc1
    refine lv_iconst (v := 1) hx hb dX5_leader_5 (by decide) ?_
    refine lv_goto (tgt := 19) hx hb dX5_leader_6 (by decide) ?_
    obtain rfl := Option.some.inj hf
    exact q_retI C0 hP hD hS dX5_leader_19
set_option maxHeartbeats 4000000 in
set_option maxRecDepth 100000 in
theorem c_X5_leader {l : Launch} {dC : Nat → ClassId} {dI : Nat → Nat → Nat} {cI cJ cZ : ClassId} {x0 : Int32} {x1 : Int32} {R : Int32} (hf : f_X5_leader x0 x1 = some R) : q_M l yX5_leader wsX5_leader rmX5_leader (dC, dI) (q_T cI cJ cZ) [.int x0, .int x1] [] (qI (dC, dI) (q_T cI cJ cZ) [] R) := by
  refine q_body (cc := cX5_leader) (maxL := 2) (ret := (some .int)) (by decide) rfl (Nat.le_of_ble_eq_true rfl) ?_
  intro p e s m args below meth c A C0 ls hP hD hS hl
  have hl : lv_has ls 2 [(0, .int x0), (1, .int x1)] := hl
  exact B_X5_leader_0 C0 hf s.heap [] ls hP hD hS hl

/-! ## RungPlay$Rules.tenthsOfA -/
abbrev rmX5_tenthsOfA : Room := { frames := 0, cells := 0, slots := 0, locals := 0 }
theorem m_X5_tenthsOfA_f15 : Cond.fieldLink RX5 15 RX5 "tenthsOnServeOfB" "I" ∈ wsX5_tenthsOfA := by decide +kernel
theorem in_X5_tenthsOfA_X5 : ∀ w ∈ wsX50, w ∈ wsX5_tenthsOfA := by decide +kernel
theorem m_X5_tenthsOfA_f9 : Cond.fieldLink RX5 9 RX5 "tenthsOnServeOfA" "I" ∈ wsX5_tenthsOfA := by decide +kernel
def f_X5_tenthsOfA (x1 : Int32) (r : (Nat → Int32)) : Option (Int32) :=
  (if x1 = 0 then (some (r 0)) else (some (r 1)))
set_option maxHeartbeats 4000000 in
set_option maxRecDepth 100000 in
theorem B_X5_tenthsOfA_0 {p : Program} {l : Launch} {e : Env} {s : State} {m : MethodId} {args : Array Value} {below : List Frame} {meth : Method} {c : Code} {A : Nat → Prop} {dC : Nat → ClassId} {dI : Nat → Nat → Nat} {cI cJ cZ : ClassId} {aR : Nat} (C0 : q_C p s m args meth c (dC, dI) (q_T cI cJ cZ) A RX5 wsX5_tenthsOfA cX5_tenthsOfA 2 (some .int)) {x1 : Int32} {r : (Nat → Int32)} {R : Int32} (hf : f_X5_tenthsOfA x1 r = some R) : ∀ (H : Heap) (locs : List Loc) (ls : Array Slot), va_P (dC, dI) vwCl [(aR, .inr (5, [.int (r 0), .int (r 1), .int (r 2), .int (r 3), .int (r 4), .int (r 5), .int (r 6)]))] H → va_D A [(aR, .inr (5, [.int (r 0), .int (r 1), .int (r 2), .int (r 3), .int (r 4), .int (r 5), .int (r 6)]))] → va_S A s.heap H locs → lv_has ls 2 [(0, .ref aR), (1, .int x1)] → W p l e rmX5_tenthsOfA s m args below meth c H locs 0 0 (MQ below (qI (dC, dI) (q_T cI cJ cZ) [(aR, .inr (5, [.int (r 0), .int (r 1), .int (r 2), .int (r 3), .int (r 4), .int (r 5), .int (r 6)]))] R A) args s 0 0 A) (F0 m 0 ls []) := by
  obtain ⟨hx, hb, hml, hown, hts, hrt, hlk, hK, hX, hA⟩ := id C0
  intro H locs ls hP hD hS hl
  refine lv_iload_n hx hb dX5_tenthsOfA_0 rfl (lv_at hl 1 rfl) ?_
  refine lv_if_ne (tgt := 11) hx hb dX5_tenthsOfA_1 (by decide) (fun hc1 => ?_) (fun hc1 => ?_)
  · have hf := q_nif hf hc1
    refine lv_aload_n hx hb dX5_tenthsOfA_11 rfl (lv_at hl 0 rfl) ?_
    refine q_get (TT := TX5) C0 in_X5_tenthsOfA_X5 1 m_X5_tenthsOfA_f15 hP 0 rfl rfl (by decide) rfl rfl dX5_tenthsOfA_12 ?_
    obtain rfl := Option.some.inj hf
    exact q_retI C0 hP hD hS dX5_tenthsOfA_15
  · have hf := q_if hf hc1
    refine lv_aload_n hx hb dX5_tenthsOfA_4 rfl (lv_at hl 0 rfl) ?_
    refine q_get (TT := TX5) C0 in_X5_tenthsOfA_X5 0 m_X5_tenthsOfA_f9 hP 0 rfl rfl (by decide) rfl rfl dX5_tenthsOfA_5 ?_
    refine lv_goto (tgt := 15) hx hb dX5_tenthsOfA_8 (by decide) ?_
    obtain rfl := Option.some.inj hf
    exact q_retI C0 hP hD hS dX5_tenthsOfA_15
set_option maxHeartbeats 4000000 in
set_option maxRecDepth 100000 in
theorem c_X5_tenthsOfA {l : Launch} {dC : Nat → ClassId} {dI : Nat → Nat → Nat} {cI cJ cZ : ClassId} {aR : Nat} {x1 : Int32} {r : (Nat → Int32)} {R : Int32} (hf : f_X5_tenthsOfA x1 r = some R) : q_M l yX5_tenthsOfA wsX5_tenthsOfA rmX5_tenthsOfA (dC, dI) (q_T cI cJ cZ) [.ref aR, .int x1] [(aR, .inr (5, [.int (r 0), .int (r 1), .int (r 2), .int (r 3), .int (r 4), .int (r 5), .int (r 6)]))] (qI (dC, dI) (q_T cI cJ cZ) [(aR, .inr (5, [.int (r 0), .int (r 1), .int (r 2), .int (r 3), .int (r 4), .int (r 5), .int (r 6)]))] R) := by
  refine q_body (cc := cX5_tenthsOfA) (maxL := 2) (ret := (some .int)) (by decide) rfl (Nat.le_of_ble_eq_true rfl) ?_
  intro p e s m args below meth c A C0 ls hP hD hS hl
  have hl : lv_has ls 2 [(0, .ref aR), (1, .int x1)] := hl
  exact B_X5_tenthsOfA_0 C0 hf s.heap [] ls hP hD hS hl

/-! ## RungPlay$Rules.headStartOfA -/
abbrev rmX5_headStartOfA : Room := { frames := 0, cells := 0, slots := 0, locals := 0 }
theorem m_X5_headStartOfA_f27 : Cond.fieldLink RX5 27 RX5 "headStart" "I" ∈ wsX5_headStartOfA := by decide +kernel
theorem in_X5_headStartOfA_X5 : ∀ w ∈ wsX50, w ∈ wsX5_headStartOfA := by decide +kernel
def f_X5_headStartOfA (x1 : Int32) (r : (Nat → Int32)) : Option (Int32) :=
  (if x1 = 0 then (some (r 5)) else (some 0))
set_option maxHeartbeats 4000000 in
set_option maxRecDepth 100000 in
theorem B_X5_headStartOfA_0 {p : Program} {l : Launch} {e : Env} {s : State} {m : MethodId} {args : Array Value} {below : List Frame} {meth : Method} {c : Code} {A : Nat → Prop} {dC : Nat → ClassId} {dI : Nat → Nat → Nat} {cI cJ cZ : ClassId} {aR : Nat} (C0 : q_C p s m args meth c (dC, dI) (q_T cI cJ cZ) A RX5 wsX5_headStartOfA cX5_headStartOfA 2 (some .int)) {x1 : Int32} {r : (Nat → Int32)} {R : Int32} (hf : f_X5_headStartOfA x1 r = some R) : ∀ (H : Heap) (locs : List Loc) (ls : Array Slot), va_P (dC, dI) vwCl [(aR, .inr (5, [.int (r 0), .int (r 1), .int (r 2), .int (r 3), .int (r 4), .int (r 5), .int (r 6)]))] H → va_D A [(aR, .inr (5, [.int (r 0), .int (r 1), .int (r 2), .int (r 3), .int (r 4), .int (r 5), .int (r 6)]))] → va_S A s.heap H locs → lv_has ls 2 [(0, .ref aR), (1, .int x1)] → W p l e rmX5_headStartOfA s m args below meth c H locs 0 0 (MQ below (qI (dC, dI) (q_T cI cJ cZ) [(aR, .inr (5, [.int (r 0), .int (r 1), .int (r 2), .int (r 3), .int (r 4), .int (r 5), .int (r 6)]))] R A) args s 0 0 A) (F0 m 0 ls []) := by
  obtain ⟨hx, hb, hml, hown, hts, hrt, hlk, hK, hX, hA⟩ := id C0
  intro H locs ls hP hD hS hl
  refine lv_iload_n hx hb dX5_headStartOfA_0 rfl (lv_at hl 1 rfl) ?_
  refine lv_if_ne (tgt := 11) hx hb dX5_headStartOfA_1 (by decide) (fun hc1 => ?_) (fun hc1 => ?_)
  · have hf := q_nif hf hc1
    refine lv_iconst (v := 0) hx hb dX5_headStartOfA_11 (by decide) ?_
    obtain rfl := Option.some.inj hf
    exact q_retI C0 hP hD hS dX5_headStartOfA_12
  · have hf := q_if hf hc1
    refine lv_aload_n hx hb dX5_headStartOfA_4 rfl (lv_at hl 0 rfl) ?_
    refine q_get (TT := TX5) C0 in_X5_headStartOfA_X5 5 m_X5_headStartOfA_f27 hP 0 rfl rfl (by decide) rfl rfl dX5_headStartOfA_5 ?_
    refine lv_goto (tgt := 12) hx hb dX5_headStartOfA_8 (by decide) ?_
    obtain rfl := Option.some.inj hf
    exact q_retI C0 hP hD hS dX5_headStartOfA_12
set_option maxHeartbeats 4000000 in
set_option maxRecDepth 100000 in
theorem c_X5_headStartOfA {l : Launch} {dC : Nat → ClassId} {dI : Nat → Nat → Nat} {cI cJ cZ : ClassId} {aR : Nat} {x1 : Int32} {r : (Nat → Int32)} {R : Int32} (hf : f_X5_headStartOfA x1 r = some R) : q_M l yX5_headStartOfA wsX5_headStartOfA rmX5_headStartOfA (dC, dI) (q_T cI cJ cZ) [.ref aR, .int x1] [(aR, .inr (5, [.int (r 0), .int (r 1), .int (r 2), .int (r 3), .int (r 4), .int (r 5), .int (r 6)]))] (qI (dC, dI) (q_T cI cJ cZ) [(aR, .inr (5, [.int (r 0), .int (r 1), .int (r 2), .int (r 3), .int (r 4), .int (r 5), .int (r 6)]))] R) := by
  refine q_body (cc := cX5_headStartOfA) (maxL := 2) (ret := (some .int)) (by decide) rfl (Nat.le_of_ble_eq_true rfl) ?_
  intro p e s m args below meth c A C0 ls hP hD hS hl
  have hl : lv_has ls 2 [(0, .ref aR), (1, .int x1)] := hl
  exact B_X5_headStartOfA_0 C0 hf s.heap [] ls hP hD hS hl

/-! ## RungPlay$Rules.told -/
abbrev rmX5_told : Room := { frames := 0, cells := 0, slots := 0, locals := 0 }
theorem m_X5_told_f9 : Cond.fieldLink RX5 9 RX5 "tenthsOnServeOfA" "I" ∈ wsX5_told := by decide +kernel
theorem in_X5_told_X5 : ∀ w ∈ wsX50, w ∈ wsX5_told := by decide +kernel
theorem m_X5_told_f15 : Cond.fieldLink RX5 15 RX5 "tenthsOnServeOfB" "I" ∈ wsX5_told := by decide +kernel
theorem m_X5_told_f18 : Cond.fieldLink RX5 18 RX5 "toPoints" "I" ∈ wsX5_told := by decide +kernel
theorem m_X5_told_f21 : Cond.fieldLink RX5 21 RX5 "toGames" "I" ∈ wsX5_told := by decide +kernel
theorem m_X5_told_f24 : Cond.fieldLink RX5 24 RX5 "toSets" "I" ∈ wsX5_told := by decide +kernel
theorem m_X5_told_f27 : Cond.fieldLink RX5 27 RX5 "headStart" "I" ∈ wsX5_told := by decide +kernel
theorem m_X5_told_f30 : Cond.fieldLink RX5 30 RX5 "kind" "I" ∈ wsX5_told := by decide +kernel
def f_X5_told (x1 : Int32) (r : (Nat → Int32)) : Option (Int32) :=
  (if x1 = 0 then (some (r 0)) else (if x1 = 1 then (some (r 1)) else (if x1 = 2 then (some (r 2)) else (if x1 = 3 then (some (r 3)) else (if x1 = 4 then (some (r 4)) else (if x1 = 5 then (some (r 5)) else (if x1 = 6 then (some (r 6)) else (some (-1)))))))))
set_option maxHeartbeats 4000000 in
set_option maxRecDepth 100000 in
theorem B_X5_told_0 {p : Program} {l : Launch} {e : Env} {s : State} {m : MethodId} {args : Array Value} {below : List Frame} {meth : Method} {c : Code} {A : Nat → Prop} {dC : Nat → ClassId} {dI : Nat → Nat → Nat} {cI cJ cZ : ClassId} {aR : Nat} (C0 : q_C p s m args meth c (dC, dI) (q_T cI cJ cZ) A RX5 wsX5_told cX5_told 2 (some .int)) {x1 : Int32} {r : (Nat → Int32)} {R : Int32} (hf : f_X5_told x1 r = some R) : ∀ (H : Heap) (locs : List Loc) (ls : Array Slot), va_P (dC, dI) vwCl [(aR, .inr (5, [.int (r 0), .int (r 1), .int (r 2), .int (r 3), .int (r 4), .int (r 5), .int (r 6)]))] H → va_D A [(aR, .inr (5, [.int (r 0), .int (r 1), .int (r 2), .int (r 3), .int (r 4), .int (r 5), .int (r 6)]))] → va_S A s.heap H locs → lv_has ls 2 [(0, .ref aR), (1, .int x1)] → W p l e rmX5_told s m args below meth c H locs 0 0 (MQ below (qI (dC, dI) (q_T cI cJ cZ) [(aR, .inr (5, [.int (r 0), .int (r 1), .int (r 2), .int (r 3), .int (r 4), .int (r 5), .int (r 6)]))] R A) args s 0 0 A) (F0 m 0 ls []) := by
  obtain ⟨hx, hb, hml, hown, hts, hrt, hlk, hK, hX, hA⟩ := id C0
  intro H locs ls hP hD hS hl
  refine lv_iload_n hx hb dX5_told_0 rfl (lv_at hl 1 rfl) ?_
  by_cases hs1 : x1 = 0
  · have hf := q_if hf hs1
    refine lv_tableIn (off := 43) (tgt := 44) hx hb dX5_told_1 (by rw [hs1]; decide) (by rw [hs1]; decide) (by rw [hs1]; rfl) (by decide) ?_
    refine lv_aload_n hx hb dX5_told_44 rfl (lv_at hl 0 rfl) ?_
    refine q_get (TT := TX5) C0 in_X5_told_X5 0 m_X5_told_f9 hP 0 rfl rfl (by decide) rfl rfl dX5_told_45 ?_
    obtain rfl := Option.some.inj hf
    exact q_retI C0 hP hD hS dX5_told_48
  have hf := q_nif hf hs1
  by_cases hs2 : x1 = 1
  · have hf := q_if hf hs2
    refine lv_tableIn (off := 48) (tgt := 49) hx hb dX5_told_1 (by rw [hs2]; decide) (by rw [hs2]; decide) (by rw [hs2]; rfl) (by decide) ?_
    refine lv_aload_n hx hb dX5_told_49 rfl (lv_at hl 0 rfl) ?_
    refine q_get (TT := TX5) C0 in_X5_told_X5 1 m_X5_told_f15 hP 0 rfl rfl (by decide) rfl rfl dX5_told_50 ?_
    obtain rfl := Option.some.inj hf
    exact q_retI C0 hP hD hS dX5_told_53
  have hf := q_nif hf hs2
  by_cases hs3 : x1 = 2
  · have hf := q_if hf hs3
    refine lv_tableIn (off := 53) (tgt := 54) hx hb dX5_told_1 (by rw [hs3]; decide) (by rw [hs3]; decide) (by rw [hs3]; rfl) (by decide) ?_
    refine lv_aload_n hx hb dX5_told_54 rfl (lv_at hl 0 rfl) ?_
    refine q_get (TT := TX5) C0 in_X5_told_X5 2 m_X5_told_f18 hP 0 rfl rfl (by decide) rfl rfl dX5_told_55 ?_
    obtain rfl := Option.some.inj hf
    exact q_retI C0 hP hD hS dX5_told_58
  have hf := q_nif hf hs3
  by_cases hs4 : x1 = 3
  · have hf := q_if hf hs4
    refine lv_tableIn (off := 58) (tgt := 59) hx hb dX5_told_1 (by rw [hs4]; decide) (by rw [hs4]; decide) (by rw [hs4]; rfl) (by decide) ?_
    refine lv_aload_n hx hb dX5_told_59 rfl (lv_at hl 0 rfl) ?_
    refine q_get (TT := TX5) C0 in_X5_told_X5 3 m_X5_told_f21 hP 0 rfl rfl (by decide) rfl rfl dX5_told_60 ?_
    obtain rfl := Option.some.inj hf
    exact q_retI C0 hP hD hS dX5_told_63
  have hf := q_nif hf hs4
  by_cases hs5 : x1 = 4
  · have hf := q_if hf hs5
    refine lv_tableIn (off := 63) (tgt := 64) hx hb dX5_told_1 (by rw [hs5]; decide) (by rw [hs5]; decide) (by rw [hs5]; rfl) (by decide) ?_
    refine lv_aload_n hx hb dX5_told_64 rfl (lv_at hl 0 rfl) ?_
    refine q_get (TT := TX5) C0 in_X5_told_X5 4 m_X5_told_f24 hP 0 rfl rfl (by decide) rfl rfl dX5_told_65 ?_
    obtain rfl := Option.some.inj hf
    exact q_retI C0 hP hD hS dX5_told_68
  have hf := q_nif hf hs5
  by_cases hs6 : x1 = 5
  · have hf := q_if hf hs6
    refine lv_tableIn (off := 68) (tgt := 69) hx hb dX5_told_1 (by rw [hs6]; decide) (by rw [hs6]; decide) (by rw [hs6]; rfl) (by decide) ?_
    refine lv_aload_n hx hb dX5_told_69 rfl (lv_at hl 0 rfl) ?_
    refine q_get (TT := TX5) C0 in_X5_told_X5 5 m_X5_told_f27 hP 0 rfl rfl (by decide) rfl rfl dX5_told_70 ?_
    obtain rfl := Option.some.inj hf
    exact q_retI C0 hP hD hS dX5_told_73
  have hf := q_nif hf hs6
  by_cases hs7 : x1 = 6
  · have hf := q_if hf hs7
    refine lv_tableIn (off := 73) (tgt := 74) hx hb dX5_told_1 (by rw [hs7]; decide) (by rw [hs7]; decide) (by rw [hs7]; rfl) (by decide) ?_
    refine lv_aload_n hx hb dX5_told_74 rfl (lv_at hl 0 rfl) ?_
    refine q_get (TT := TX5) C0 in_X5_told_X5 6 m_X5_told_f30 hP 0 rfl rfl (by decide) rfl rfl dX5_told_75 ?_
    obtain rfl := Option.some.inj hf
    exact q_retI C0 hP hD hS dX5_told_78
  have hf := q_nif hf hs7
  refine lv_tableOut (tgt := 79) hx hb dX5_told_1 (by have n0 := lv_neT (a := 0) hs1 rfl; have n1 := lv_neT (a := 1) hs2 rfl; have n2 := lv_neT (a := 2) hs3 rfl; have n3 := lv_neT (a := 3) hs4 rfl; have n4 := lv_neT (a := 4) hs5 rfl; have n5 := lv_neT (a := 5) hs6 rfl; have n6 := lv_neT (a := 6) hs7 rfl; omega) (by decide) ?_
  refine lv_iconst (v := (-1)) hx hb dX5_told_79 (by decide) ?_
  obtain rfl := Option.some.inj hf
  exact q_retI C0 hP hD hS dX5_told_80
set_option maxHeartbeats 4000000 in
set_option maxRecDepth 100000 in
theorem c_X5_told {l : Launch} {dC : Nat → ClassId} {dI : Nat → Nat → Nat} {cI cJ cZ : ClassId} {aR : Nat} {x1 : Int32} {r : (Nat → Int32)} {R : Int32} (hf : f_X5_told x1 r = some R) : q_M l yX5_told wsX5_told rmX5_told (dC, dI) (q_T cI cJ cZ) [.ref aR, .int x1] [(aR, .inr (5, [.int (r 0), .int (r 1), .int (r 2), .int (r 3), .int (r 4), .int (r 5), .int (r 6)]))] (qI (dC, dI) (q_T cI cJ cZ) [(aR, .inr (5, [.int (r 0), .int (r 1), .int (r 2), .int (r 3), .int (r 4), .int (r 5), .int (r 6)]))] R) := by
  refine q_body (cc := cX5_told) (maxL := 2) (ret := (some .int)) (by decide) rfl (Nat.le_of_ble_eq_true rfl) ?_
  intro p e s m args below meth c A C0 ls hP hD hS hl
  have hl : lv_has ls 2 [(0, .ref aR), (1, .int x1)] := hl
  exact B_X5_told_0 C0 hf s.heap [] ls hP hD hS hl

/-! ## RungPlay$Rules.tell -/
abbrev rmX5_tell : Room := { frames := 0, cells := 0, slots := 0, locals := 0 }
theorem m_X5_tell_f9 : Cond.fieldLink RX5 9 RX5 "tenthsOnServeOfA" "I" ∈ wsX5_tell := by decide +kernel
theorem in_X5_tell_X5 : ∀ w ∈ wsX50, w ∈ wsX5_tell := by decide +kernel
theorem m_X5_tell_f15 : Cond.fieldLink RX5 15 RX5 "tenthsOnServeOfB" "I" ∈ wsX5_tell := by decide +kernel
theorem m_X5_tell_f18 : Cond.fieldLink RX5 18 RX5 "toPoints" "I" ∈ wsX5_tell := by decide +kernel
theorem m_X5_tell_f27 : Cond.fieldLink RX5 27 RX5 "headStart" "I" ∈ wsX5_tell := by decide +kernel
theorem m_X5_tell_f21 : Cond.fieldLink RX5 21 RX5 "toGames" "I" ∈ wsX5_tell := by decide +kernel
theorem m_X5_tell_f24 : Cond.fieldLink RX5 24 RX5 "toSets" "I" ∈ wsX5_tell := by decide +kernel
theorem m_X5_tell_f30 : Cond.fieldLink RX5 30 RX5 "kind" "I" ∈ wsX5_tell := by decide +kernel
def f_X5_tell (x1 : Int32) (x2 : Int32) (r : (Nat → Int32)) : Option ((Nat → Int32)) :=
  (if x1 = 0 then (some (mk7 x2 (r 1) (r 2) (r 3) (r 4) (r 5) (r 6))) else (if x1 = 1 then (some (mk7 (r 0) x2 (r 2) (r 3) (r 4) (r 5) (r 6))) else (if x1 = 2 then (some (mk7 (r 0) (r 1) x2 (r 3) (r 4) 0 (r 6))) else (if x1 = 3 then (some (mk7 (r 0) (r 1) (r 2) x2 (r 4) (r 5) (r 6))) else (if x1 = 4 then (some (mk7 (r 0) (r 1) (r 2) (r 3) x2 (r 5) (r 6))) else (if x1 = 5 then (some (mk7 (r 0) (r 1) (r 2) (r 3) (r 4) x2 (r 6))) else (if x1 = 6 then (some (mk7 (r 0) (r 1) (r 2) (r 3) (r 4) (r 5) x2)) else (some r))))))))
set_option maxHeartbeats 4000000 in
set_option maxRecDepth 100000 in
theorem B_X5_tell_0 {p : Program} {l : Launch} {e : Env} {s : State} {m : MethodId} {args : Array Value} {below : List Frame} {meth : Method} {c : Code} {A : Nat → Prop} {dC : Nat → ClassId} {dI : Nat → Nat → Nat} {cI cJ cZ : ClassId} {aR : Nat} (C0 : q_C p s m args meth c (dC, dI) (q_T cI cJ cZ) A RX5 wsX5_tell cX5_tell 3 none) {x1 : Int32} {x2 : Int32} {r : (Nat → Int32)} {R : (Nat → Int32)} (hf : f_X5_tell x1 x2 r = some R) : ∀ (H : Heap) (locs : List Loc) (ls : Array Slot), va_P (dC, dI) vwCl [(aR, .inr (5, [.int (r 0), .int (r 1), .int (r 2), .int (r 3), .int (r 4), .int (r 5), .int (r 6)]))] H → va_D A [(aR, .inr (5, [.int (r 0), .int (r 1), .int (r 2), .int (r 3), .int (r 4), .int (r 5), .int (r 6)]))] → va_S A s.heap H locs → lv_has ls 3 [(0, .ref aR), (1, .int x1), (2, .int x2)] → W p l e rmX5_tell s m args below meth c H locs 0 0 (MQ below (qV (dC, dI) (q_T cI cJ cZ) [(aR, .inr (5, [.int (R 0), .int (R 1), .int (R 2), .int (R 3), .int (R 4), .int (R 5), .int (R 6)]))] A) args s 0 0 A) (F0 m 0 ls []) := by
  obtain ⟨hx, hb, hml, hown, hts, hrt, hlk, hK, hX, hA⟩ := id C0
  intro H locs ls hP hD hS hl
  refine lv_iload_n hx hb dX5_tell_0 rfl (lv_at hl 1 rfl) ?_
  by_cases hs1 : x1 = 0
  · have hf := q_if hf hs1
    refine lv_tableIn (off := 43) (tgt := 44) hx hb dX5_tell_1 (by rw [hs1]; decide) (by rw [hs1]; decide) (by rw [hs1]; rfl) (by decide) ?_
    refine lv_aload_n hx hb dX5_tell_44 rfl (lv_at hl 0 rfl) ?_
    refine lv_iload_n hx hb dX5_tell_45 rfl (lv_at hl 2 rfl) ?_
    refine q_put (ty := .int) (TT := TX5) C0 in_X5_tell_X5 tyX5 tyX5_ok nmX5 0 m_X5_tell_f9 hP hD hS 0 rfl rfl (by decide) rfl rfl (by decide +kernel) rfl rfl (Nat.le_of_ble_eq_true rfl) dX5_tell_46 (fun H locs hP hD hS => ?_)
    have hP : va_P (dC, dI) vwCl [(aR, .inr (5, [.int x2, .int (r 1), .int (r 2), .int (r 3), .int (r 4), .int (r 5), .int (r 6)]))] H := hP
    have hD : va_D A [(aR, .inr (5, [.int x2, .int (r 1), .int (r 2), .int (r 3), .int (r 4), .int (r 5), .int (r 6)]))] := hD
    refine lv_goto (tgt := 105) hx hb dX5_tell_49 (by decide) ?_
    obtain rfl := Option.some.inj hf
    exact q_retV C0 hP hD hS dX5_tell_105
  have hf := q_nif hf hs1
  by_cases hs2 : x1 = 1
  · have hf := q_if hf hs2
    refine lv_tableIn (off := 51) (tgt := 52) hx hb dX5_tell_1 (by rw [hs2]; decide) (by rw [hs2]; decide) (by rw [hs2]; rfl) (by decide) ?_
    refine lv_aload_n hx hb dX5_tell_52 rfl (lv_at hl 0 rfl) ?_
    refine lv_iload_n hx hb dX5_tell_53 rfl (lv_at hl 2 rfl) ?_
    refine q_put (ty := .int) (TT := TX5) C0 in_X5_tell_X5 tyX5 tyX5_ok nmX5 1 m_X5_tell_f15 hP hD hS 0 rfl rfl (by decide) rfl rfl (by decide +kernel) rfl rfl (Nat.le_of_ble_eq_true rfl) dX5_tell_54 (fun H locs hP hD hS => ?_)
    have hP : va_P (dC, dI) vwCl [(aR, .inr (5, [.int (r 0), .int x2, .int (r 2), .int (r 3), .int (r 4), .int (r 5), .int (r 6)]))] H := hP
    have hD : va_D A [(aR, .inr (5, [.int (r 0), .int x2, .int (r 2), .int (r 3), .int (r 4), .int (r 5), .int (r 6)]))] := hD
    refine lv_goto (tgt := 105) hx hb dX5_tell_57 (by decide) ?_
    obtain rfl := Option.some.inj hf
    exact q_retV C0 hP hD hS dX5_tell_105
  have hf := q_nif hf hs2
  by_cases hs3 : x1 = 2
  · have hf := q_if hf hs3
    refine lv_tableIn (off := 59) (tgt := 60) hx hb dX5_tell_1 (by rw [hs3]; decide) (by rw [hs3]; decide) (by rw [hs3]; rfl) (by decide) ?_
    refine lv_aload_n hx hb dX5_tell_60 rfl (lv_at hl 0 rfl) ?_
    refine lv_iload_n hx hb dX5_tell_61 rfl (lv_at hl 2 rfl) ?_
    refine q_put (ty := .int) (TT := TX5) C0 in_X5_tell_X5 tyX5 tyX5_ok nmX5 2 m_X5_tell_f18 hP hD hS 0 rfl rfl (by decide) rfl rfl (by decide +kernel) rfl rfl (Nat.le_of_ble_eq_true rfl) dX5_tell_62 (fun H locs hP hD hS => ?_)
    have hP : va_P (dC, dI) vwCl [(aR, .inr (5, [.int (r 0), .int (r 1), .int x2, .int (r 3), .int (r 4), .int (r 5), .int (r 6)]))] H := hP
    have hD : va_D A [(aR, .inr (5, [.int (r 0), .int (r 1), .int x2, .int (r 3), .int (r 4), .int (r 5), .int (r 6)]))] := hD
    refine lv_aload_n hx hb dX5_tell_65 rfl (lv_at hl 0 rfl) ?_
    refine lv_iconst (v := 0) hx hb dX5_tell_66 (by decide) ?_
    refine q_put (ty := .int) (TT := TX5) C0 in_X5_tell_X5 tyX5 tyX5_ok nmX5 5 m_X5_tell_f27 hP hD hS 0 rfl rfl (by decide) rfl rfl (by decide +kernel) rfl rfl (Nat.le_of_ble_eq_true rfl) dX5_tell_67 (fun H locs hP hD hS => ?_)
    have hP : va_P (dC, dI) vwCl [(aR, .inr (5, [.int (r 0), .int (r 1), .int x2, .int (r 3), .int (r 4), .int 0, .int (r 6)]))] H := hP
    have hD : va_D A [(aR, .inr (5, [.int (r 0), .int (r 1), .int x2, .int (r 3), .int (r 4), .int 0, .int (r 6)]))] := hD
    refine lv_goto (tgt := 105) hx hb dX5_tell_70 (by decide) ?_
    obtain rfl := Option.some.inj hf
    exact q_retV C0 hP hD hS dX5_tell_105
  have hf := q_nif hf hs3
  by_cases hs4 : x1 = 3
  · have hf := q_if hf hs4
    refine lv_tableIn (off := 72) (tgt := 73) hx hb dX5_tell_1 (by rw [hs4]; decide) (by rw [hs4]; decide) (by rw [hs4]; rfl) (by decide) ?_
    refine lv_aload_n hx hb dX5_tell_73 rfl (lv_at hl 0 rfl) ?_
    refine lv_iload_n hx hb dX5_tell_74 rfl (lv_at hl 2 rfl) ?_
    refine q_put (ty := .int) (TT := TX5) C0 in_X5_tell_X5 tyX5 tyX5_ok nmX5 3 m_X5_tell_f21 hP hD hS 0 rfl rfl (by decide) rfl rfl (by decide +kernel) rfl rfl (Nat.le_of_ble_eq_true rfl) dX5_tell_75 (fun H locs hP hD hS => ?_)
    have hP : va_P (dC, dI) vwCl [(aR, .inr (5, [.int (r 0), .int (r 1), .int (r 2), .int x2, .int (r 4), .int (r 5), .int (r 6)]))] H := hP
    have hD : va_D A [(aR, .inr (5, [.int (r 0), .int (r 1), .int (r 2), .int x2, .int (r 4), .int (r 5), .int (r 6)]))] := hD
    refine lv_goto (tgt := 105) hx hb dX5_tell_78 (by decide) ?_
    obtain rfl := Option.some.inj hf
    exact q_retV C0 hP hD hS dX5_tell_105
  have hf := q_nif hf hs4
  by_cases hs5 : x1 = 4
  · have hf := q_if hf hs5
    refine lv_tableIn (off := 80) (tgt := 81) hx hb dX5_tell_1 (by rw [hs5]; decide) (by rw [hs5]; decide) (by rw [hs5]; rfl) (by decide) ?_
    refine lv_aload_n hx hb dX5_tell_81 rfl (lv_at hl 0 rfl) ?_
    refine lv_iload_n hx hb dX5_tell_82 rfl (lv_at hl 2 rfl) ?_
    refine q_put (ty := .int) (TT := TX5) C0 in_X5_tell_X5 tyX5 tyX5_ok nmX5 4 m_X5_tell_f24 hP hD hS 0 rfl rfl (by decide) rfl rfl (by decide +kernel) rfl rfl (Nat.le_of_ble_eq_true rfl) dX5_tell_83 (fun H locs hP hD hS => ?_)
    have hP : va_P (dC, dI) vwCl [(aR, .inr (5, [.int (r 0), .int (r 1), .int (r 2), .int (r 3), .int x2, .int (r 5), .int (r 6)]))] H := hP
    have hD : va_D A [(aR, .inr (5, [.int (r 0), .int (r 1), .int (r 2), .int (r 3), .int x2, .int (r 5), .int (r 6)]))] := hD
    refine lv_goto (tgt := 105) hx hb dX5_tell_86 (by decide) ?_
    obtain rfl := Option.some.inj hf
    exact q_retV C0 hP hD hS dX5_tell_105
  have hf := q_nif hf hs5
  by_cases hs6 : x1 = 5
  · have hf := q_if hf hs6
    refine lv_tableIn (off := 88) (tgt := 89) hx hb dX5_tell_1 (by rw [hs6]; decide) (by rw [hs6]; decide) (by rw [hs6]; rfl) (by decide) ?_
    refine lv_aload_n hx hb dX5_tell_89 rfl (lv_at hl 0 rfl) ?_
    refine lv_iload_n hx hb dX5_tell_90 rfl (lv_at hl 2 rfl) ?_
    refine q_put (ty := .int) (TT := TX5) C0 in_X5_tell_X5 tyX5 tyX5_ok nmX5 5 m_X5_tell_f27 hP hD hS 0 rfl rfl (by decide) rfl rfl (by decide +kernel) rfl rfl (Nat.le_of_ble_eq_true rfl) dX5_tell_91 (fun H locs hP hD hS => ?_)
    have hP : va_P (dC, dI) vwCl [(aR, .inr (5, [.int (r 0), .int (r 1), .int (r 2), .int (r 3), .int (r 4), .int x2, .int (r 6)]))] H := hP
    have hD : va_D A [(aR, .inr (5, [.int (r 0), .int (r 1), .int (r 2), .int (r 3), .int (r 4), .int x2, .int (r 6)]))] := hD
    refine lv_goto (tgt := 105) hx hb dX5_tell_94 (by decide) ?_
    obtain rfl := Option.some.inj hf
    exact q_retV C0 hP hD hS dX5_tell_105
  have hf := q_nif hf hs6
  by_cases hs7 : x1 = 6
  · have hf := q_if hf hs7
    refine lv_tableIn (off := 96) (tgt := 97) hx hb dX5_tell_1 (by rw [hs7]; decide) (by rw [hs7]; decide) (by rw [hs7]; rfl) (by decide) ?_
    refine lv_aload_n hx hb dX5_tell_97 rfl (lv_at hl 0 rfl) ?_
    refine lv_iload_n hx hb dX5_tell_98 rfl (lv_at hl 2 rfl) ?_
    refine q_put (ty := .int) (TT := TX5) C0 in_X5_tell_X5 tyX5 tyX5_ok nmX5 6 m_X5_tell_f30 hP hD hS 0 rfl rfl (by decide) rfl rfl (by decide +kernel) rfl rfl (Nat.le_of_ble_eq_true rfl) dX5_tell_99 (fun H locs hP hD hS => ?_)
    have hP : va_P (dC, dI) vwCl [(aR, .inr (5, [.int (r 0), .int (r 1), .int (r 2), .int (r 3), .int (r 4), .int (r 5), .int x2]))] H := hP
    have hD : va_D A [(aR, .inr (5, [.int (r 0), .int (r 1), .int (r 2), .int (r 3), .int (r 4), .int (r 5), .int x2]))] := hD
    refine lv_goto (tgt := 105) hx hb dX5_tell_102 (by decide) ?_
    obtain rfl := Option.some.inj hf
    exact q_retV C0 hP hD hS dX5_tell_105
  have hf := q_nif hf hs7
  refine lv_tableOut (tgt := 105) hx hb dX5_tell_1 (by have n0 := lv_neT (a := 0) hs1 rfl; have n1 := lv_neT (a := 1) hs2 rfl; have n2 := lv_neT (a := 2) hs3 rfl; have n3 := lv_neT (a := 3) hs4 rfl; have n4 := lv_neT (a := 4) hs5 rfl; have n5 := lv_neT (a := 5) hs6 rfl; have n6 := lv_neT (a := 6) hs7 rfl; omega) (by decide) ?_
  obtain rfl := Option.some.inj hf
  exact q_retV C0 hP hD hS dX5_tell_105
set_option maxHeartbeats 4000000 in
set_option maxRecDepth 100000 in
theorem c_X5_tell {l : Launch} {dC : Nat → ClassId} {dI : Nat → Nat → Nat} {cI cJ cZ : ClassId} {aR : Nat} {x1 : Int32} {x2 : Int32} {r : (Nat → Int32)} {R : (Nat → Int32)} (hf : f_X5_tell x1 x2 r = some R) : q_M l yX5_tell wsX5_tell rmX5_tell (dC, dI) (q_T cI cJ cZ) [.ref aR, .int x1, .int x2] [(aR, .inr (5, [.int (r 0), .int (r 1), .int (r 2), .int (r 3), .int (r 4), .int (r 5), .int (r 6)]))] (qV (dC, dI) (q_T cI cJ cZ) [(aR, .inr (5, [.int (R 0), .int (R 1), .int (R 2), .int (R 3), .int (R 4), .int (R 5), .int (R 6)]))]) := by
  refine q_body (cc := cX5_tell) (maxL := 3) (ret := none) (by decide) rfl (Nat.le_of_ble_eq_true rfl) ?_
  intro p e s m args below meth c A C0 ls hP hD hS hl
  have hl : lv_has ls 3 [(0, .ref aR), (1, .int x1), (2, .int x2)] := hl
  exact B_X5_tell_0 C0 hf s.heap [] ls hP hD hS hl

/-! ## RungPlay$Rules.gameWinner -/
abbrev rmX5_gameWinner : Room := { frames := 1, cells := 0, slots := 0, locals := 21 }
theorem m_X5_gameWinner_f18 : Cond.fieldLink RX5 18 RX5 "toPoints" "I" ∈ wsX5_gameWinner := by decide +kernel
theorem in_X5_gameWinner_X5 : ∀ w ∈ wsX50, w ∈ wsX5_gameWinner := by decide +kernel
theorem m_X5_gameWinner_l37 : Cond.methodLink RX5 37 Lib.Math.max.name ∈ wsX5_gameWinner := by decide +kernel
theorem m_X5_gameWinner_stmax : Cond.static Lib.Math.max.name ∈ wsX5_gameWinner := by decide +kernel
theorem m_X5_gameWinner_imath : Cond.initialized "java/lang/Math" ∈ wsX5_gameWinner := by decide +kernel
theorem m_X5_gameWinner_cmax : Cond.code Lib.Math.max.name Lib.Math.max.code 2 (some .int) ∈ wsX5_gameWinner := by decide +kernel
theorem m_X5_gameWinner_l43 : Cond.methodLink RX5 43 Lib.Math.min.name ∈ wsX5_gameWinner := by decide +kernel
theorem m_X5_gameWinner_stmin : Cond.static Lib.Math.min.name ∈ wsX5_gameWinner := by decide +kernel
theorem m_X5_gameWinner_cmin : Cond.code Lib.Math.min.name Lib.Math.min.code 2 (some .int) ∈ wsX5_gameWinner := by decide +kernel
def b_X5_gameWinner_113 (x2 : Int32) (x3 : Int32) (x6 : Int32) (r : (Nat → Int32)) : Option (Int32) :=
  (if x6 = 0 then (some 0) else (q_b1 (f_X5_leader x2 x3) (fun r2 => (some r2))))
def b_X5_gameWinner_111 (x2 : Int32) (x3 : Int32) (s0 : Int32) (r : (Nat → Int32)) : Option (Int32) :=
  (b_X5_gameWinner_113 x2 x3 s0 r)
def b_X5_gameWinner_110 (x2 : Int32) (x3 : Int32) (r : (Nat → Int32)) : Option (Int32) :=
  (b_X5_gameWinner_111 x2 x3 0 r)
def b_X5_gameWinner_106 (x2 : Int32) (x3 : Int32) (r : (Nat → Int32)) : Option (Int32) :=
  (b_X5_gameWinner_111 x2 x3 1 r)
def b_X5_gameWinner_72 (x1 : Int32) (x2 : Int32) (x3 : Int32) (x4 : Int32) (x5 : Int32) (x6 : Int32) (r : (Nat → Int32)) : Option (Int32) :=
  (if x1 < 2 then (b_X5_gameWinner_113 x2 x3 x6 r) else (if (r 2) < 3 then (b_X5_gameWinner_113 x2 x3 x6 r) else (if x6 = 0 then (if x4 < ((r 2) - 1) then (b_X5_gameWinner_110 x2 x3 r) else (if x5 = 0 then (b_X5_gameWinner_106 x2 x3 r) else (b_X5_gameWinner_110 x2 x3 r))) else (b_X5_gameWinner_106 x2 x3 r))))
def b_X5_gameWinner_70 (x1 : Int32) (x2 : Int32) (x3 : Int32) (x4 : Int32) (x5 : Int32) (s0 : Int32) (r : (Nat → Int32)) : Option (Int32) :=
  (b_X5_gameWinner_72 x1 x2 x3 x4 x5 s0 r)
def b_X5_gameWinner_69 (x1 : Int32) (x2 : Int32) (x3 : Int32) (x4 : Int32) (x5 : Int32) (r : (Nat → Int32)) : Option (Int32) :=
  (b_X5_gameWinner_70 x1 x2 x3 x4 x5 0 r)
def b_X5_gameWinner_65 (x1 : Int32) (x2 : Int32) (x3 : Int32) (x4 : Int32) (x5 : Int32) (r : (Nat → Int32)) : Option (Int32) :=
  (b_X5_gameWinner_70 x1 x2 x3 x4 x5 1 r)
def b_X5_gameWinner_37 (x1 : Int32) (x2 : Int32) (x3 : Int32) (x4 : Int32) (x5 : Int32) (s0 : Int32) (r : (Nat → Int32)) : Option (Int32) :=
  (if x1 < 1 then (b_X5_gameWinner_72 x1 x2 x3 x4 x5 s0 r) else (if s0 = 0 then (if x4 < (r 2) then (b_X5_gameWinner_69 x1 x2 x3 x4 x5 r) else (if x4 ≤ x5 then (b_X5_gameWinner_69 x1 x2 x3 x4 x5 r) else (b_X5_gameWinner_65 x1 x2 x3 x4 x5 r))) else (b_X5_gameWinner_65 x1 x2 x3 x4 x5 r)))
def b_X5_gameWinner_36 (x1 : Int32) (x2 : Int32) (x3 : Int32) (x4 : Int32) (x5 : Int32) (r : (Nat → Int32)) : Option (Int32) :=
  (b_X5_gameWinner_37 x1 x2 x3 x4 x5 0 r)
def f_X5_gameWinner (x1 : Int32) (x2 : Int32) (x3 : Int32) (r : (Nat → Int32)) : Option (Int32) :=
  (if (if x2 < x3 then x3 else x2) < (r 2) then (b_X5_gameWinner_36 x1 x2 x3 (if x2 < x3 then x3 else x2) (if x3 < x2 then x3 else x2) r) else (if ((if x2 < x3 then x3 else x2) - (if x3 < x2 then x3 else x2)) < 2 then (b_X5_gameWinner_36 x1 x2 x3 (if x2 < x3 then x3 else x2) (if x3 < x2 then x3 else x2) r) else (b_X5_gameWinner_37 x1 x2 x3 (if x2 < x3 then x3 else x2) (if x3 < x2 then x3 else x2) 1 r)))
set_option maxHeartbeats 4000000 in
set_option maxRecDepth 100000 in
theorem B_X5_gameWinner_113 {p : Program} {l : Launch} {e : Env} {s : State} {m : MethodId} {args : Array Value} {below : List Frame} {meth : Method} {c : Code} {A : Nat → Prop} {dC : Nat → ClassId} {dI : Nat → Nat → Nat} {cI cJ cZ : ClassId} {aR : Nat} (C0 : q_C p s m args meth c (dC, dI) (q_T cI cJ cZ) A RX5 wsX5_gameWinner cX5_gameWinner 7 (some .int)) {x2 : Int32} {x3 : Int32} {x6 : Int32} {r : (Nat → Int32)} {R : Int32} (hf : b_X5_gameWinner_113 x2 x3 x6 r = some R) : ∀ (H : Heap) (locs : List Loc) (ls : Array Slot), va_P (dC, dI) vwCl [(aR, .inr (5, [.int (r 0), .int (r 1), .int (r 2), .int (r 3), .int (r 4), .int (r 5), .int (r 6)]))] H → va_D A [(aR, .inr (5, [.int (r 0), .int (r 1), .int (r 2), .int (r 3), .int (r 4), .int (r 5), .int (r 6)]))] → va_S A s.heap H locs → lv_has ls 7 [(2, .int x2), (3, .int x3), (6, .int x6)] → W p l e rmX5_gameWinner s m args below meth c H locs 0 0 (MQ below (qI (dC, dI) (q_T cI cJ cZ) [(aR, .inr (5, [.int (r 0), .int (r 1), .int (r 2), .int (r 3), .int (r 4), .int (r 5), .int (r 6)]))] R A) args s 0 0 A) (F0 m 113 ls []) := by
  obtain ⟨hx, hb, hml, hown, hts, hrt, hlk, hK, hX, hA⟩ := id C0
  intro H locs ls hP hD hS hl
  refine lv_iload hx hb dX5_gameWinner_113 (lv_at hl 2 rfl) ?_
  refine lv_if_eq (tgt := 126) hx hb dX5_gameWinner_115 (by decide) (fun hc1 => ?_) (fun hc1 => ?_)
  · have hf := q_if hf hc1
    refine lv_iconst (v := 0) hx hb dX5_gameWinner_126 (by decide) ?_
    obtain rfl := Option.some.inj hf
    exact q_retI C0 hP hD hS dX5_gameWinner_127
  · have hf := q_nif hf hc1
    refine lv_iload_n hx hb dX5_gameWinner_118 rfl (lv_at hl 0 rfl) ?_
    refine lv_iload_n hx hb dX5_gameWinner_119 rfl (lv_at hl 1 rfl) ?_
    obtain ⟨r2, hg3, hf⟩ := q_e1 hf
    refine q_endI (wc := []) (wr := [(aR, .inr (5, [.int (r 0), .int (r 1), .int (r 2), .int (r 3), .int (r 4), .int (r 5), .int (r 6)]))]) (w1 := []) (rv := r2) C0 hP hD hS [] [0] rfl rfl (by decide) (by decide) (q_runS C0 (c_X5_leader (l := l) hg3) (va_cwS 2 hts gX5_gameWinner_X5_leader rfl rfl rfl (by decide +kernel) ⟨Nat.le_of_ble_eq_true rfl, Nat.le_of_ble_eq_true rfl⟩) hP hD hS [] rfl (by decide) rfl rfl hl.1 (Nat.le_of_ble_eq_true rfl) dX5_gameWinner_120) (fun H locs hP hD hS => ?_)
    have hP : va_P (dC, dI) vwCl [(aR, .inr (5, [.int (r 0), .int (r 1), .int (r 2), .int (r 3), .int (r 4), .int (r 5), .int (r 6)]))] H := hP
    have hD : va_D A [(aR, .inr (5, [.int (r 0), .int (r 1), .int (r 2), .int (r 3), .int (r 4), .int (r 5), .int (r 6)]))] := hD
    refine lv_goto (tgt := 127) hx hb dX5_gameWinner_123 (by decide) ?_
    obtain rfl := Option.some.inj hf
    exact q_retI C0 hP hD hS dX5_gameWinner_127
set_option maxHeartbeats 4000000 in
set_option maxRecDepth 100000 in
theorem B_X5_gameWinner_111 {p : Program} {l : Launch} {e : Env} {s : State} {m : MethodId} {args : Array Value} {below : List Frame} {meth : Method} {c : Code} {A : Nat → Prop} {dC : Nat → ClassId} {dI : Nat → Nat → Nat} {cI cJ cZ : ClassId} {aR : Nat} (C0 : q_C p s m args meth c (dC, dI) (q_T cI cJ cZ) A RX5 wsX5_gameWinner cX5_gameWinner 7 (some .int)) {x2 : Int32} {x3 : Int32} {s0 : Int32} {r : (Nat → Int32)} {R : Int32} (hf : b_X5_gameWinner_111 x2 x3 s0 r = some R) : ∀ (H : Heap) (locs : List Loc) (ls : Array Slot), va_P (dC, dI) vwCl [(aR, .inr (5, [.int (r 0), .int (r 1), .int (r 2), .int (r 3), .int (r 4), .int (r 5), .int (r 6)]))] H → va_D A [(aR, .inr (5, [.int (r 0), .int (r 1), .int (r 2), .int (r 3), .int (r 4), .int (r 5), .int (r 6)]))] → va_S A s.heap H locs → lv_has ls 7 [(2, .int x2), (3, .int x3)] → W p l e rmX5_gameWinner s m args below meth c H locs 0 0 (MQ below (qI (dC, dI) (q_T cI cJ cZ) [(aR, .inr (5, [.int (r 0), .int (r 1), .int (r 2), .int (r 3), .int (r 4), .int (r 5), .int (r 6)]))] R A) args s 0 0 A) (F0 m 111 ls [.int s0]) := by
  obtain ⟨hx, hb, hml, hown, hts, hrt, hlk, hK, hX, hA⟩ := id C0
  intro H locs ls hP hD hS hl
  refine lv_istore (lv' := [(6, .int s0), (2, .int x2), (3, .int x3)]) hx hb dX5_gameWinner_111 hl (by decide) rfl (fun ls hl => ?_)
  exact B_X5_gameWinner_113 C0 hf H locs ls hP hD hS (lv_sub hl [1, 2, 0] rfl)
set_option maxHeartbeats 4000000 in
set_option maxRecDepth 100000 in
theorem B_X5_gameWinner_110 {p : Program} {l : Launch} {e : Env} {s : State} {m : MethodId} {args : Array Value} {below : List Frame} {meth : Method} {c : Code} {A : Nat → Prop} {dC : Nat → ClassId} {dI : Nat → Nat → Nat} {cI cJ cZ : ClassId} {aR : Nat} (C0 : q_C p s m args meth c (dC, dI) (q_T cI cJ cZ) A RX5 wsX5_gameWinner cX5_gameWinner 7 (some .int)) {x2 : Int32} {x3 : Int32} {r : (Nat → Int32)} {R : Int32} (hf : b_X5_gameWinner_110 x2 x3 r = some R) : ∀ (H : Heap) (locs : List Loc) (ls : Array Slot), va_P (dC, dI) vwCl [(aR, .inr (5, [.int (r 0), .int (r 1), .int (r 2), .int (r 3), .int (r 4), .int (r 5), .int (r 6)]))] H → va_D A [(aR, .inr (5, [.int (r 0), .int (r 1), .int (r 2), .int (r 3), .int (r 4), .int (r 5), .int (r 6)]))] → va_S A s.heap H locs → lv_has ls 7 [(2, .int x2), (3, .int x3)] → W p l e rmX5_gameWinner s m args below meth c H locs 0 0 (MQ below (qI (dC, dI) (q_T cI cJ cZ) [(aR, .inr (5, [.int (r 0), .int (r 1), .int (r 2), .int (r 3), .int (r 4), .int (r 5), .int (r 6)]))] R A) args s 0 0 A) (F0 m 110 ls []) := by
  obtain ⟨hx, hb, hml, hown, hts, hrt, hlk, hK, hX, hA⟩ := id C0
  intro H locs ls hP hD hS hl
  refine lv_iconst (v := 0) hx hb dX5_gameWinner_110 (by decide) ?_
  exact B_X5_gameWinner_111 C0 hf H locs ls hP hD hS hl
set_option maxHeartbeats 4000000 in
set_option maxRecDepth 100000 in
theorem B_X5_gameWinner_106 {p : Program} {l : Launch} {e : Env} {s : State} {m : MethodId} {args : Array Value} {below : List Frame} {meth : Method} {c : Code} {A : Nat → Prop} {dC : Nat → ClassId} {dI : Nat → Nat → Nat} {cI cJ cZ : ClassId} {aR : Nat} (C0 : q_C p s m args meth c (dC, dI) (q_T cI cJ cZ) A RX5 wsX5_gameWinner cX5_gameWinner 7 (some .int)) {x2 : Int32} {x3 : Int32} {r : (Nat → Int32)} {R : Int32} (hf : b_X5_gameWinner_106 x2 x3 r = some R) : ∀ (H : Heap) (locs : List Loc) (ls : Array Slot), va_P (dC, dI) vwCl [(aR, .inr (5, [.int (r 0), .int (r 1), .int (r 2), .int (r 3), .int (r 4), .int (r 5), .int (r 6)]))] H → va_D A [(aR, .inr (5, [.int (r 0), .int (r 1), .int (r 2), .int (r 3), .int (r 4), .int (r 5), .int (r 6)]))] → va_S A s.heap H locs → lv_has ls 7 [(2, .int x2), (3, .int x3)] → W p l e rmX5_gameWinner s m args below meth c H locs 0 0 (MQ below (qI (dC, dI) (q_T cI cJ cZ) [(aR, .inr (5, [.int (r 0), .int (r 1), .int (r 2), .int (r 3), .int (r 4), .int (r 5), .int (r 6)]))] R A) args s 0 0 A) (F0 m 106 ls []) := by
  obtain ⟨hx, hb, hml, hown, hts, hrt, hlk, hK, hX, hA⟩ := id C0
  intro H locs ls hP hD hS hl
  refine lv_iconst (v := 1) hx hb dX5_gameWinner_106 (by decide) ?_
  refine lv_goto (tgt := 111) hx hb dX5_gameWinner_107 (by decide) ?_
  exact B_X5_gameWinner_111 C0 hf H locs ls hP hD hS hl
set_option maxHeartbeats 4000000 in
set_option maxRecDepth 100000 in
theorem B_X5_gameWinner_72 {p : Program} {l : Launch} {e : Env} {s : State} {m : MethodId} {args : Array Value} {below : List Frame} {meth : Method} {c : Code} {A : Nat → Prop} {dC : Nat → ClassId} {dI : Nat → Nat → Nat} {cI cJ cZ : ClassId} {aR : Nat} (C0 : q_C p s m args meth c (dC, dI) (q_T cI cJ cZ) A RX5 wsX5_gameWinner cX5_gameWinner 7 (some .int)) {x1 : Int32} {x2 : Int32} {x3 : Int32} {x4 : Int32} {x5 : Int32} {x6 : Int32} {r : (Nat → Int32)} {R : Int32} (hf : b_X5_gameWinner_72 x1 x2 x3 x4 x5 x6 r = some R) : ∀ (H : Heap) (locs : List Loc) (ls : Array Slot), va_P (dC, dI) vwCl [(aR, .inr (5, [.int (r 0), .int (r 1), .int (r 2), .int (r 3), .int (r 4), .int (r 5), .int (r 6)]))] H → va_D A [(aR, .inr (5, [.int (r 0), .int (r 1), .int (r 2), .int (r 3), .int (r 4), .int (r 5), .int (r 6)]))] → va_S A s.heap H locs → lv_has ls 7 [(0, .ref aR), (1, .int x1), (2, .int x2), (3, .int x3), (4, .int x4), (5, .int x5), (6, .int x6)] → W p l e rmX5_gameWinner s m args below meth c H locs 0 0 (MQ below (qI (dC, dI) (q_T cI cJ cZ) [(aR, .inr (5, [.int (r 0), .int (r 1), .int (r 2), .int (r 3), .int (r 4), .int (r 5), .int (r 6)]))] R A) args s 0 0 A) (F0 m 72 ls []) := by
  obtain ⟨hx, hb, hml, hown, hts, hrt, hlk, hK, hX, hA⟩ := id C0
  intro H locs ls hP hD hS hl
  refine lv_iload_n hx hb dX5_gameWinner_72 rfl (lv_at hl 1 rfl) ?_
  refine lv_iconst (v := 2) hx hb dX5_gameWinner_73 (by decide) ?_
  refine lv_icmp_lt (tgt := 113) hx hb dX5_gameWinner_74 (by decide) (fun hc4 => ?_) (fun hc4 => ?_)
  · have hf := q_if hf hc4
    exact B_X5_gameWinner_113 C0 hf H locs ls hP hD hS (lv_sub hl [2, 3, 6] rfl)
  · have hf := q_nif hf hc4
    refine lv_aload_n hx hb dX5_gameWinner_77 rfl (lv_at hl 0 rfl) ?_
    refine q_get (TT := TX5) C0 in_X5_gameWinner_X5 2 m_X5_gameWinner_f18 hP 0 rfl rfl (by decide) rfl rfl dX5_gameWinner_78 ?_
    refine lv_iconst (v := 3) hx hb dX5_gameWinner_81 (by decide) ?_
    refine lv_icmp_lt (tgt := 113) hx hb dX5_gameWinner_82 (by decide) (fun hc5 => ?_) (fun hc5 => ?_)
    · have hf := q_if hf hc5
      exact B_X5_gameWinner_113 C0 hf H locs ls hP hD hS (lv_sub hl [2, 3, 6] rfl)
    · have hf := q_nif hf hc5
      refine lv_iload hx hb dX5_gameWinner_85 (lv_at hl 6 rfl) ?_
      refine lv_if_ne (tgt := 106) hx hb dX5_gameWinner_87 (by decide) (fun hc6 => ?_) (fun hc6 => ?_)
      · have hf := q_nif hf hc6
        exact B_X5_gameWinner_106 C0 hf H locs ls hP hD hS (lv_sub hl [2, 3] rfl)
      · have hf := q_if hf hc6
        refine lv_iload hx hb dX5_gameWinner_90 (lv_at hl 4 rfl) ?_
        refine lv_aload_n hx hb dX5_gameWinner_92 rfl (lv_at hl 0 rfl) ?_
        refine q_get (TT := TX5) C0 in_X5_gameWinner_X5 2 m_X5_gameWinner_f18 hP 0 rfl rfl (by decide) rfl rfl dX5_gameWinner_93 ?_
        refine lv_iconst (v := 1) hx hb dX5_gameWinner_96 (by decide) ?_
        refine lv_isub hx hb dX5_gameWinner_97 ?_
        refine lv_icmp_lt (tgt := 110) hx hb dX5_gameWinner_98 (by decide) (fun hc7 => ?_) (fun hc7 => ?_)
        · have hf := q_if hf hc7
          exact B_X5_gameWinner_110 C0 hf H locs ls hP hD hS (lv_sub hl [2, 3] rfl)
        · have hf := q_nif hf hc7
          refine lv_iload hx hb dX5_gameWinner_101 (lv_at hl 5 rfl) ?_
          refine lv_if_ne (tgt := 110) hx hb dX5_gameWinner_103 (by decide) (fun hc8 => ?_) (fun hc8 => ?_)
          · have hf := q_nif hf hc8
            exact B_X5_gameWinner_110 C0 hf H locs ls hP hD hS (lv_sub hl [2, 3] rfl)
          · have hf := q_if hf hc8
            exact B_X5_gameWinner_106 C0 hf H locs ls hP hD hS (lv_sub hl [2, 3] rfl)
set_option maxHeartbeats 4000000 in
set_option maxRecDepth 100000 in
theorem B_X5_gameWinner_70 {p : Program} {l : Launch} {e : Env} {s : State} {m : MethodId} {args : Array Value} {below : List Frame} {meth : Method} {c : Code} {A : Nat → Prop} {dC : Nat → ClassId} {dI : Nat → Nat → Nat} {cI cJ cZ : ClassId} {aR : Nat} (C0 : q_C p s m args meth c (dC, dI) (q_T cI cJ cZ) A RX5 wsX5_gameWinner cX5_gameWinner 7 (some .int)) {x1 : Int32} {x2 : Int32} {x3 : Int32} {x4 : Int32} {x5 : Int32} {s0 : Int32} {r : (Nat → Int32)} {R : Int32} (hf : b_X5_gameWinner_70 x1 x2 x3 x4 x5 s0 r = some R) : ∀ (H : Heap) (locs : List Loc) (ls : Array Slot), va_P (dC, dI) vwCl [(aR, .inr (5, [.int (r 0), .int (r 1), .int (r 2), .int (r 3), .int (r 4), .int (r 5), .int (r 6)]))] H → va_D A [(aR, .inr (5, [.int (r 0), .int (r 1), .int (r 2), .int (r 3), .int (r 4), .int (r 5), .int (r 6)]))] → va_S A s.heap H locs → lv_has ls 7 [(0, .ref aR), (1, .int x1), (2, .int x2), (3, .int x3), (4, .int x4), (5, .int x5)] → W p l e rmX5_gameWinner s m args below meth c H locs 0 0 (MQ below (qI (dC, dI) (q_T cI cJ cZ) [(aR, .inr (5, [.int (r 0), .int (r 1), .int (r 2), .int (r 3), .int (r 4), .int (r 5), .int (r 6)]))] R A) args s 0 0 A) (F0 m 70 ls [.int s0]) := by
  obtain ⟨hx, hb, hml, hown, hts, hrt, hlk, hK, hX, hA⟩ := id C0
  intro H locs ls hP hD hS hl
  refine lv_istore (lv' := [(6, .int s0), (0, .ref aR), (1, .int x1), (2, .int x2), (3, .int x3), (4, .int x4), (5, .int x5)]) hx hb dX5_gameWinner_70 hl (by decide) rfl (fun ls hl => ?_)
  exact B_X5_gameWinner_72 C0 hf H locs ls hP hD hS (lv_sub hl [1, 2, 3, 4, 5, 6, 0] rfl)
set_option maxHeartbeats 4000000 in
set_option maxRecDepth 100000 in
theorem B_X5_gameWinner_69 {p : Program} {l : Launch} {e : Env} {s : State} {m : MethodId} {args : Array Value} {below : List Frame} {meth : Method} {c : Code} {A : Nat → Prop} {dC : Nat → ClassId} {dI : Nat → Nat → Nat} {cI cJ cZ : ClassId} {aR : Nat} (C0 : q_C p s m args meth c (dC, dI) (q_T cI cJ cZ) A RX5 wsX5_gameWinner cX5_gameWinner 7 (some .int)) {x1 : Int32} {x2 : Int32} {x3 : Int32} {x4 : Int32} {x5 : Int32} {r : (Nat → Int32)} {R : Int32} (hf : b_X5_gameWinner_69 x1 x2 x3 x4 x5 r = some R) : ∀ (H : Heap) (locs : List Loc) (ls : Array Slot), va_P (dC, dI) vwCl [(aR, .inr (5, [.int (r 0), .int (r 1), .int (r 2), .int (r 3), .int (r 4), .int (r 5), .int (r 6)]))] H → va_D A [(aR, .inr (5, [.int (r 0), .int (r 1), .int (r 2), .int (r 3), .int (r 4), .int (r 5), .int (r 6)]))] → va_S A s.heap H locs → lv_has ls 7 [(0, .ref aR), (1, .int x1), (2, .int x2), (3, .int x3), (4, .int x4), (5, .int x5)] → W p l e rmX5_gameWinner s m args below meth c H locs 0 0 (MQ below (qI (dC, dI) (q_T cI cJ cZ) [(aR, .inr (5, [.int (r 0), .int (r 1), .int (r 2), .int (r 3), .int (r 4), .int (r 5), .int (r 6)]))] R A) args s 0 0 A) (F0 m 69 ls []) := by
  obtain ⟨hx, hb, hml, hown, hts, hrt, hlk, hK, hX, hA⟩ := id C0
  intro H locs ls hP hD hS hl
  refine lv_iconst (v := 0) hx hb dX5_gameWinner_69 (by decide) ?_
  exact B_X5_gameWinner_70 C0 hf H locs ls hP hD hS hl
set_option maxHeartbeats 4000000 in
set_option maxRecDepth 100000 in
theorem B_X5_gameWinner_65 {p : Program} {l : Launch} {e : Env} {s : State} {m : MethodId} {args : Array Value} {below : List Frame} {meth : Method} {c : Code} {A : Nat → Prop} {dC : Nat → ClassId} {dI : Nat → Nat → Nat} {cI cJ cZ : ClassId} {aR : Nat} (C0 : q_C p s m args meth c (dC, dI) (q_T cI cJ cZ) A RX5 wsX5_gameWinner cX5_gameWinner 7 (some .int)) {x1 : Int32} {x2 : Int32} {x3 : Int32} {x4 : Int32} {x5 : Int32} {r : (Nat → Int32)} {R : Int32} (hf : b_X5_gameWinner_65 x1 x2 x3 x4 x5 r = some R) : ∀ (H : Heap) (locs : List Loc) (ls : Array Slot), va_P (dC, dI) vwCl [(aR, .inr (5, [.int (r 0), .int (r 1), .int (r 2), .int (r 3), .int (r 4), .int (r 5), .int (r 6)]))] H → va_D A [(aR, .inr (5, [.int (r 0), .int (r 1), .int (r 2), .int (r 3), .int (r 4), .int (r 5), .int (r 6)]))] → va_S A s.heap H locs → lv_has ls 7 [(0, .ref aR), (1, .int x1), (2, .int x2), (3, .int x3), (4, .int x4), (5, .int x5)] → W p l e rmX5_gameWinner s m args below meth c H locs 0 0 (MQ below (qI (dC, dI) (q_T cI cJ cZ) [(aR, .inr (5, [.int (r 0), .int (r 1), .int (r 2), .int (r 3), .int (r 4), .int (r 5), .int (r 6)]))] R A) args s 0 0 A) (F0 m 65 ls []) := by
  obtain ⟨hx, hb, hml, hown, hts, hrt, hlk, hK, hX, hA⟩ := id C0
  intro H locs ls hP hD hS hl
  refine lv_iconst (v := 1) hx hb dX5_gameWinner_65 (by decide) ?_
  refine lv_goto (tgt := 70) hx hb dX5_gameWinner_66 (by decide) ?_
  exact B_X5_gameWinner_70 C0 hf H locs ls hP hD hS hl
set_option maxHeartbeats 4000000 in
set_option maxRecDepth 100000 in
theorem B_X5_gameWinner_37 {p : Program} {l : Launch} {e : Env} {s : State} {m : MethodId} {args : Array Value} {below : List Frame} {meth : Method} {c : Code} {A : Nat → Prop} {dC : Nat → ClassId} {dI : Nat → Nat → Nat} {cI cJ cZ : ClassId} {aR : Nat} (C0 : q_C p s m args meth c (dC, dI) (q_T cI cJ cZ) A RX5 wsX5_gameWinner cX5_gameWinner 7 (some .int)) {x1 : Int32} {x2 : Int32} {x3 : Int32} {x4 : Int32} {x5 : Int32} {s0 : Int32} {r : (Nat → Int32)} {R : Int32} (hf : b_X5_gameWinner_37 x1 x2 x3 x4 x5 s0 r = some R) : ∀ (H : Heap) (locs : List Loc) (ls : Array Slot), va_P (dC, dI) vwCl [(aR, .inr (5, [.int (r 0), .int (r 1), .int (r 2), .int (r 3), .int (r 4), .int (r 5), .int (r 6)]))] H → va_D A [(aR, .inr (5, [.int (r 0), .int (r 1), .int (r 2), .int (r 3), .int (r 4), .int (r 5), .int (r 6)]))] → va_S A s.heap H locs → lv_has ls 7 [(0, .ref aR), (1, .int x1), (2, .int x2), (3, .int x3), (4, .int x4), (5, .int x5)] → W p l e rmX5_gameWinner s m args below meth c H locs 0 0 (MQ below (qI (dC, dI) (q_T cI cJ cZ) [(aR, .inr (5, [.int (r 0), .int (r 1), .int (r 2), .int (r 3), .int (r 4), .int (r 5), .int (r 6)]))] R A) args s 0 0 A) (F0 m 37 ls [.int s0]) := by
  obtain ⟨hx, hb, hml, hown, hts, hrt, hlk, hK, hX, hA⟩ := id C0
  intro H locs ls hP hD hS hl
  refine lv_istore (lv' := [(6, .int s0), (0, .ref aR), (1, .int x1), (2, .int x2), (3, .int x3), (4, .int x4), (5, .int x5)]) hx hb dX5_gameWinner_37 hl (by decide) rfl (fun ls hl => ?_)
  refine lv_iload_n hx hb dX5_gameWinner_39 rfl (lv_at hl 2 rfl) ?_
  refine lv_iconst (v := 1) hx hb dX5_gameWinner_40 (by decide) ?_
  refine lv_icmp_lt (tgt := 72) hx hb dX5_gameWinner_41 (by decide) (fun hc9 => ?_) (fun hc9 => ?_)
  · have hf := q_if hf hc9
    exact B_X5_gameWinner_72 C0 hf H locs ls hP hD hS (lv_sub hl [1, 2, 3, 4, 5, 6, 0] rfl)
  · have hf := q_nif hf hc9
    refine lv_iload hx hb dX5_gameWinner_44 (lv_at hl 0 rfl) ?_
    refine lv_if_ne (tgt := 65) hx hb dX5_gameWinner_46 (by decide) (fun hc10 => ?_) (fun hc10 => ?_)
    · have hf := q_nif hf hc10
      exact B_X5_gameWinner_65 C0 hf H locs ls hP hD hS (lv_sub hl [1, 2, 3, 4, 5, 6] rfl)
    · have hf := q_if hf hc10
      refine lv_iload hx hb dX5_gameWinner_49 (lv_at hl 5 rfl) ?_
      refine lv_aload_n hx hb dX5_gameWinner_51 rfl (lv_at hl 1 rfl) ?_
      refine q_get (TT := TX5) C0 in_X5_gameWinner_X5 2 m_X5_gameWinner_f18 hP 0 rfl rfl (by decide) rfl rfl dX5_gameWinner_52 ?_
      refine lv_icmp_lt (tgt := 69) hx hb dX5_gameWinner_55 (by decide) (fun hc11 => ?_) (fun hc11 => ?_)
      · have hf := q_if hf hc11
        exact B_X5_gameWinner_69 C0 hf H locs ls hP hD hS (lv_sub hl [1, 2, 3, 4, 5, 6] rfl)
      · have hf := q_nif hf hc11
        refine lv_iload hx hb dX5_gameWinner_58 (lv_at hl 5 rfl) ?_
        refine lv_iload hx hb dX5_gameWinner_60 (lv_at hl 6 rfl) ?_
        refine lv_icmp_le (tgt := 69) hx hb dX5_gameWinner_62 (by decide) (fun hc12 => ?_) (fun hc12 => ?_)
        · have hf := q_if hf hc12
          exact B_X5_gameWinner_69 C0 hf H locs ls hP hD hS (lv_sub hl [1, 2, 3, 4, 5, 6] rfl)
        · have hf := q_nif hf hc12
          exact B_X5_gameWinner_65 C0 hf H locs ls hP hD hS (lv_sub hl [1, 2, 3, 4, 5, 6] rfl)
set_option maxHeartbeats 4000000 in
set_option maxRecDepth 100000 in
theorem B_X5_gameWinner_36 {p : Program} {l : Launch} {e : Env} {s : State} {m : MethodId} {args : Array Value} {below : List Frame} {meth : Method} {c : Code} {A : Nat → Prop} {dC : Nat → ClassId} {dI : Nat → Nat → Nat} {cI cJ cZ : ClassId} {aR : Nat} (C0 : q_C p s m args meth c (dC, dI) (q_T cI cJ cZ) A RX5 wsX5_gameWinner cX5_gameWinner 7 (some .int)) {x1 : Int32} {x2 : Int32} {x3 : Int32} {x4 : Int32} {x5 : Int32} {r : (Nat → Int32)} {R : Int32} (hf : b_X5_gameWinner_36 x1 x2 x3 x4 x5 r = some R) : ∀ (H : Heap) (locs : List Loc) (ls : Array Slot), va_P (dC, dI) vwCl [(aR, .inr (5, [.int (r 0), .int (r 1), .int (r 2), .int (r 3), .int (r 4), .int (r 5), .int (r 6)]))] H → va_D A [(aR, .inr (5, [.int (r 0), .int (r 1), .int (r 2), .int (r 3), .int (r 4), .int (r 5), .int (r 6)]))] → va_S A s.heap H locs → lv_has ls 7 [(0, .ref aR), (1, .int x1), (2, .int x2), (3, .int x3), (4, .int x4), (5, .int x5)] → W p l e rmX5_gameWinner s m args below meth c H locs 0 0 (MQ below (qI (dC, dI) (q_T cI cJ cZ) [(aR, .inr (5, [.int (r 0), .int (r 1), .int (r 2), .int (r 3), .int (r 4), .int (r 5), .int (r 6)]))] R A) args s 0 0 A) (F0 m 36 ls []) := by
  obtain ⟨hx, hb, hml, hown, hts, hrt, hlk, hK, hX, hA⟩ := id C0
  intro H locs ls hP hD hS hl
  refine lv_iconst (v := 0) hx hb dX5_gameWinner_36 (by decide) ?_
  exact B_X5_gameWinner_37 C0 hf H locs ls hP hD hS hl
set_option maxHeartbeats 4000000 in
set_option maxRecDepth 100000 in
theorem B_X5_gameWinner_0 {p : Program} {l : Launch} {e : Env} {s : State} {m : MethodId} {args : Array Value} {below : List Frame} {meth : Method} {c : Code} {A : Nat → Prop} {dC : Nat → ClassId} {dI : Nat → Nat → Nat} {cI cJ cZ : ClassId} {aR : Nat} (C0 : q_C p s m args meth c (dC, dI) (q_T cI cJ cZ) A RX5 wsX5_gameWinner cX5_gameWinner 7 (some .int)) {x1 : Int32} {x2 : Int32} {x3 : Int32} {r : (Nat → Int32)} {R : Int32} (hf : f_X5_gameWinner x1 x2 x3 r = some R) : ∀ (H : Heap) (locs : List Loc) (ls : Array Slot), va_P (dC, dI) vwCl [(aR, .inr (5, [.int (r 0), .int (r 1), .int (r 2), .int (r 3), .int (r 4), .int (r 5), .int (r 6)]))] H → va_D A [(aR, .inr (5, [.int (r 0), .int (r 1), .int (r 2), .int (r 3), .int (r 4), .int (r 5), .int (r 6)]))] → va_S A s.heap H locs → lv_has ls 7 [(0, .ref aR), (1, .int x1), (2, .int x2), (3, .int x3)] → W p l e rmX5_gameWinner s m args below meth c H locs 0 0 (MQ below (qI (dC, dI) (q_T cI cJ cZ) [(aR, .inr (5, [.int (r 0), .int (r 1), .int (r 2), .int (r 3), .int (r 4), .int (r 5), .int (r 6)]))] R A) args s 0 0 A) (F0 m 0 ls []) := by
  obtain ⟨hx, hb, hml, hown, hts, hrt, hlk, hK, hX, hA⟩ := id C0
  intro H locs ls hP hD hS hl
  refine lv_iload_n hx hb dX5_gameWinner_0 rfl (lv_at hl 2 rfl) ?_
  refine lv_iload_n hx hb dX5_gameWinner_1 rfl (lv_at hl 3 rfl) ?_
  refine q_max C0 hl.1 m_X5_gameWinner_l37 m_X5_gameWinner_stmax m_X5_gameWinner_imath m_X5_gameWinner_cmax (Nat.le_of_ble_eq_true rfl) (Nat.le_of_ble_eq_true rfl) dX5_gameWinner_2 ?_
  refine lv_istore (lv' := [(4, .int (if x2 < x3 then x3 else x2)), (0, .ref aR), (1, .int x1), (2, .int x2), (3, .int x3)]) hx hb dX5_gameWinner_5 hl (by decide) rfl (fun ls hl => ?_)
  refine lv_iload_n hx hb dX5_gameWinner_7 rfl (lv_at hl 3 rfl) ?_
  refine lv_iload_n hx hb dX5_gameWinner_8 rfl (lv_at hl 4 rfl) ?_
  refine q_min C0 hl.1 m_X5_gameWinner_l43 m_X5_gameWinner_stmin m_X5_gameWinner_imath m_X5_gameWinner_cmin (Nat.le_of_ble_eq_true rfl) (Nat.le_of_ble_eq_true rfl) dX5_gameWinner_9 ?_
  refine lv_istore (lv' := [(5, .int (if x3 < x2 then x3 else x2)), (4, .int (if x2 < x3 then x3 else x2)), (0, .ref aR), (1, .int x1), (2, .int x2), (3, .int x3)]) hx hb dX5_gameWinner_12 hl (by decide) rfl (fun ls hl => ?_)
  refine lv_iload hx hb dX5_gameWinner_14 (lv_at hl 1 rfl) ?_
  refine lv_aload_n hx hb dX5_gameWinner_16 rfl (lv_at hl 2 rfl) ?_
  refine q_get (TT := TX5) C0 in_X5_gameWinner_X5 2 m_X5_gameWinner_f18 hP 0 rfl rfl (by decide) rfl rfl dX5_gameWinner_17 ?_
  refine lv_icmp_lt (tgt := 36) hx hb dX5_gameWinner_20 (by decide) (fun hc13 => ?_) (fun hc13 => ?_)
  · have hf := q_if hf hc13
    exact B_X5_gameWinner_36 C0 hf H locs ls hP hD hS (lv_sub hl [2, 3, 4, 5, 1, 0] rfl)
  · have hf := q_nif hf hc13
    refine lv_iload hx hb dX5_gameWinner_23 (lv_at hl 1 rfl) ?_
    refine lv_iload hx hb dX5_gameWinner_25 (lv_at hl 0 rfl) ?_
    refine lv_isub hx hb dX5_gameWinner_27 ?_
    refine lv_iconst (v := 2) hx hb dX5_gameWinner_28 (by decide) ?_
    refine lv_icmp_lt (tgt := 36) hx hb dX5_gameWinner_29 (by decide) (fun hc14 => ?_) (fun hc14 => ?_)
    · have hf := q_if hf hc14
      exact B_X5_gameWinner_36 C0 hf H locs ls hP hD hS (lv_sub hl [2, 3, 4, 5, 1, 0] rfl)
    · have hf := q_nif hf hc14
      refine lv_iconst (v := 1) hx hb dX5_gameWinner_32 (by decide) ?_
      refine lv_goto (tgt := 37) hx hb dX5_gameWinner_33 (by decide) ?_
      exact B_X5_gameWinner_37 C0 hf H locs ls hP hD hS (lv_sub hl [2, 3, 4, 5, 1, 0] rfl)
set_option maxHeartbeats 4000000 in
set_option maxRecDepth 100000 in
theorem c_X5_gameWinner {l : Launch} {dC : Nat → ClassId} {dI : Nat → Nat → Nat} {cI cJ cZ : ClassId} {aR : Nat} {x1 : Int32} {x2 : Int32} {x3 : Int32} {r : (Nat → Int32)} {R : Int32} (hf : f_X5_gameWinner x1 x2 x3 r = some R) : q_M l yX5_gameWinner wsX5_gameWinner rmX5_gameWinner (dC, dI) (q_T cI cJ cZ) [.ref aR, .int x1, .int x2, .int x3] [(aR, .inr (5, [.int (r 0), .int (r 1), .int (r 2), .int (r 3), .int (r 4), .int (r 5), .int (r 6)]))] (qI (dC, dI) (q_T cI cJ cZ) [(aR, .inr (5, [.int (r 0), .int (r 1), .int (r 2), .int (r 3), .int (r 4), .int (r 5), .int (r 6)]))] R) := by
  refine q_body (cc := cX5_gameWinner) (maxL := 7) (ret := (some .int)) (by decide) rfl (Nat.le_of_ble_eq_true rfl) ?_
  intro p e s m args below meth c A C0 ls hP hD hS hl
  have hl : lv_has ls 7 [(0, .ref aR), (1, .int x1), (2, .int x2), (3, .int x3)] := hl
  exact B_X5_gameWinner_0 C0 hf s.heap [] ls hP hD hS hl

/-! ## RungPlay$Rules.setWinner -/
abbrev rmX5_setWinner : Room := { frames := 1, cells := 0, slots := 0, locals := 21 }
theorem m_X5_setWinner_f21 : Cond.fieldLink RX5 21 RX5 "toGames" "I" ∈ wsX5_setWinner := by decide +kernel
theorem in_X5_setWinner_X5 : ∀ w ∈ wsX50, w ∈ wsX5_setWinner := by decide +kernel
theorem m_X5_setWinner_l37 : Cond.methodLink RX5 37 Lib.Math.max.name ∈ wsX5_setWinner := by decide +kernel
theorem m_X5_setWinner_stmax : Cond.static Lib.Math.max.name ∈ wsX5_setWinner := by decide +kernel
theorem m_X5_setWinner_imath : Cond.initialized "java/lang/Math" ∈ wsX5_setWinner := by decide +kernel
theorem m_X5_setWinner_cmax : Cond.code Lib.Math.max.name Lib.Math.max.code 2 (some .int) ∈ wsX5_setWinner := by decide +kernel
theorem m_X5_setWinner_l49 : Cond.methodLink RX5 49 Lib.Math.abs.name ∈ wsX5_setWinner := by decide +kernel
theorem m_X5_setWinner_stabs : Cond.static Lib.Math.abs.name ∈ wsX5_setWinner := by decide +kernel
theorem m_X5_setWinner_cabs : Cond.code Lib.Math.abs.name Lib.Math.abs.code 1 (some .int) ∈ wsX5_setWinner := by decide +kernel
def b_X5_setWinner_56 (x1 : Int32) (x2 : Int32) (r : (Nat → Int32)) : Option (Int32) :=
  (q_b1 (f_X5_leader x1 x2) (fun r1 => (some r1)))
def b_X5_setWinner_45 (x1 : Int32) (x2 : Int32) (x3 : Int32) (s0 : Int32) (r : (Nat → Int32)) : Option (Int32) :=
  (if x3 = 0 then (if s0 = 0 then (some 0) else (b_X5_setWinner_56 x1 x2 r)) else (b_X5_setWinner_56 x1 x2 r))
def b_X5_setWinner_27 (x1 : Int32) (x2 : Int32) (s0 : Int32) (r : (Nat → Int32)) : Option (Int32) :=
  (if (x1 + x2) ≤ (2 * (r 3)) then (b_X5_setWinner_45 x1 x2 s0 0 r) else (b_X5_setWinner_45 x1 x2 s0 1 r))
def b_X5_setWinner_26 (x1 : Int32) (x2 : Int32) (r : (Nat → Int32)) : Option (Int32) :=
  (b_X5_setWinner_27 x1 x2 0 r)
def f_X5_setWinner (x1 : Int32) (x2 : Int32) (r : (Nat → Int32)) : Option (Int32) :=
  (if (if x1 < x2 then x2 else x1) < (r 3) then (b_X5_setWinner_26 x1 x2 r) else (if (if 0 ≤ (x1 - x2) then (x1 - x2) else 0 - (x1 - x2)) < 2 then (b_X5_setWinner_26 x1 x2 r) else (b_X5_setWinner_27 x1 x2 1 r)))
set_option maxHeartbeats 4000000 in
set_option maxRecDepth 100000 in
theorem B_X5_setWinner_56 {p : Program} {l : Launch} {e : Env} {s : State} {m : MethodId} {args : Array Value} {below : List Frame} {meth : Method} {c : Code} {A : Nat → Prop} {dC : Nat → ClassId} {dI : Nat → Nat → Nat} {cI cJ cZ : ClassId} {aR : Nat} (C0 : q_C p s m args meth c (dC, dI) (q_T cI cJ cZ) A RX5 wsX5_setWinner cX5_setWinner 5 (some .int)) {x1 : Int32} {x2 : Int32} {r : (Nat → Int32)} {R : Int32} (hf : b_X5_setWinner_56 x1 x2 r = some R) : ∀ (H : Heap) (locs : List Loc) (ls : Array Slot), va_P (dC, dI) vwCl [(aR, .inr (5, [.int (r 0), .int (r 1), .int (r 2), .int (r 3), .int (r 4), .int (r 5), .int (r 6)]))] H → va_D A [(aR, .inr (5, [.int (r 0), .int (r 1), .int (r 2), .int (r 3), .int (r 4), .int (r 5), .int (r 6)]))] → va_S A s.heap H locs → lv_has ls 5 [(1, .int x1), (2, .int x2)] → W p l e rmX5_setWinner s m args below meth c H locs 0 0 (MQ below (qI (dC, dI) (q_T cI cJ cZ) [(aR, .inr (5, [.int (r 0), .int (r 1), .int (r 2), .int (r 3), .int (r 4), .int (r 5), .int (r 6)]))] R A) args s 0 0 A) (F0 m 56 ls []) := by
  obtain ⟨hx, hb, hml, hown, hts, hrt, hlk, hK, hX, hA⟩ := id C0
  intro H locs ls hP hD hS hl
  refine lv_iload_n hx hb dX5_setWinner_56 rfl (lv_at hl 0 rfl) ?_
  refine lv_iload_n hx hb dX5_setWinner_57 rfl (lv_at hl 1 rfl) ?_
  obtain ⟨r1, hg2, hf⟩ := q_e1 hf
  refine q_endI (wc := []) (wr := [(aR, .inr (5, [.int (r 0), .int (r 1), .int (r 2), .int (r 3), .int (r 4), .int (r 5), .int (r 6)]))]) (w1 := []) (rv := r1) C0 hP hD hS [] [0] rfl rfl (by decide) (by decide) (q_runS C0 (c_X5_leader (l := l) hg2) (va_cwS 2 hts gX5_setWinner_X5_leader rfl rfl rfl (by decide +kernel) ⟨Nat.le_of_ble_eq_true rfl, Nat.le_of_ble_eq_true rfl⟩) hP hD hS [] rfl (by decide) rfl rfl hl.1 (Nat.le_of_ble_eq_true rfl) dX5_setWinner_58) (fun H locs hP hD hS => ?_)
  have hP : va_P (dC, dI) vwCl [(aR, .inr (5, [.int (r 0), .int (r 1), .int (r 2), .int (r 3), .int (r 4), .int (r 5), .int (r 6)]))] H := hP
  have hD : va_D A [(aR, .inr (5, [.int (r 0), .int (r 1), .int (r 2), .int (r 3), .int (r 4), .int (r 5), .int (r 6)]))] := hD
  refine lv_goto (tgt := 65) hx hb dX5_setWinner_61 (by decide) ?_
  obtain rfl := Option.some.inj hf
  exact q_retI C0 hP hD hS dX5_setWinner_65
set_option maxHeartbeats 4000000 in
set_option maxRecDepth 100000 in
theorem B_X5_setWinner_45 {p : Program} {l : Launch} {e : Env} {s : State} {m : MethodId} {args : Array Value} {below : List Frame} {meth : Method} {c : Code} {A : Nat → Prop} {dC : Nat → ClassId} {dI : Nat → Nat → Nat} {cI cJ cZ : ClassId} {aR : Nat} (C0 : q_C p s m args meth c (dC, dI) (q_T cI cJ cZ) A RX5 wsX5_setWinner cX5_setWinner 5 (some .int)) {x1 : Int32} {x2 : Int32} {x3 : Int32} {s0 : Int32} {r : (Nat → Int32)} {R : Int32} (hf : b_X5_setWinner_45 x1 x2 x3 s0 r = some R) : ∀ (H : Heap) (locs : List Loc) (ls : Array Slot), va_P (dC, dI) vwCl [(aR, .inr (5, [.int (r 0), .int (r 1), .int (r 2), .int (r 3), .int (r 4), .int (r 5), .int (r 6)]))] H → va_D A [(aR, .inr (5, [.int (r 0), .int (r 1), .int (r 2), .int (r 3), .int (r 4), .int (r 5), .int (r 6)]))] → va_S A s.heap H locs → lv_has ls 5 [(1, .int x1), (2, .int x2), (3, .int x3)] → W p l e rmX5_setWinner s m args below meth c H locs 0 0 (MQ below (qI (dC, dI) (q_T cI cJ cZ) [(aR, .inr (5, [.int (r 0), .int (r 1), .int (r 2), .int (r 3), .int (r 4), .int (r 5), .int (r 6)]))] R A) args s 0 0 A) (F0 m 45 ls [.int s0]) := by
  obtain ⟨hx, hb, hml, hown, hts, hrt, hlk, hK, hX, hA⟩ := id C0
  intro H locs ls hP hD hS hl
  refine lv_istore (lv' := [(4, .int s0), (1, .int x1), (2, .int x2), (3, .int x3)]) hx hb dX5_setWinner_45 hl (by decide) rfl (fun ls hl => ?_)
  refine lv_iload_n hx hb dX5_setWinner_47 rfl (lv_at hl 3 rfl) ?_
  refine lv_if_ne (tgt := 56) hx hb dX5_setWinner_48 (by decide) (fun hc3 => ?_) (fun hc3 => ?_)
  · have hf := q_nif hf hc3
    exact B_X5_setWinner_56 C0 hf H locs ls hP hD hS (lv_sub hl [1, 2] rfl)
  · have hf := q_if hf hc3
    refine lv_iload hx hb dX5_setWinner_51 (lv_at hl 0 rfl) ?_
    refine lv_if_eq (tgt := 64) hx hb dX5_setWinner_53 (by decide) (fun hc4 => ?_) (fun hc4 => ?_)
    · have hf := q_if hf hc4
      refine lv_iconst (v := 0) hx hb dX5_setWinner_64 (by decide) ?_
      obtain rfl := Option.some.inj hf
      exact q_retI C0 hP hD hS dX5_setWinner_65
    · have hf := q_nif hf hc4
      exact B_X5_setWinner_56 C0 hf H locs ls hP hD hS (lv_sub hl [1, 2] rfl)
set_option maxHeartbeats 4000000 in
set_option maxRecDepth 100000 in
theorem B_X5_setWinner_27 {p : Program} {l : Launch} {e : Env} {s : State} {m : MethodId} {args : Array Value} {below : List Frame} {meth : Method} {c : Code} {A : Nat → Prop} {dC : Nat → ClassId} {dI : Nat → Nat → Nat} {cI cJ cZ : ClassId} {aR : Nat} (C0 : q_C p s m args meth c (dC, dI) (q_T cI cJ cZ) A RX5 wsX5_setWinner cX5_setWinner 5 (some .int)) {x1 : Int32} {x2 : Int32} {s0 : Int32} {r : (Nat → Int32)} {R : Int32} (hf : b_X5_setWinner_27 x1 x2 s0 r = some R) : ∀ (H : Heap) (locs : List Loc) (ls : Array Slot), va_P (dC, dI) vwCl [(aR, .inr (5, [.int (r 0), .int (r 1), .int (r 2), .int (r 3), .int (r 4), .int (r 5), .int (r 6)]))] H → va_D A [(aR, .inr (5, [.int (r 0), .int (r 1), .int (r 2), .int (r 3), .int (r 4), .int (r 5), .int (r 6)]))] → va_S A s.heap H locs → lv_has ls 5 [(0, .ref aR), (1, .int x1), (2, .int x2)] → W p l e rmX5_setWinner s m args below meth c H locs 0 0 (MQ below (qI (dC, dI) (q_T cI cJ cZ) [(aR, .inr (5, [.int (r 0), .int (r 1), .int (r 2), .int (r 3), .int (r 4), .int (r 5), .int (r 6)]))] R A) args s 0 0 A) (F0 m 27 ls [.int s0]) := by
  obtain ⟨hx, hb, hml, hown, hts, hrt, hlk, hK, hX, hA⟩ := id C0
  intro H locs ls hP hD hS hl
  refine lv_istore_n (lv' := [(3, .int s0), (0, .ref aR), (1, .int x1), (2, .int x2)]) hx hb dX5_setWinner_27 rfl hl (by decide) rfl (fun ls hl => ?_)
  refine lv_iload_n hx hb dX5_setWinner_28 rfl (lv_at hl 2 rfl) ?_
  refine lv_iload_n hx hb dX5_setWinner_29 rfl (lv_at hl 3 rfl) ?_
  refine lv_iadd hx hb dX5_setWinner_30 ?_
  refine lv_iconst (v := 2) hx hb dX5_setWinner_31 (by decide) ?_
  refine lv_aload_n hx hb dX5_setWinner_32 rfl (lv_at hl 1 rfl) ?_
  refine q_get (TT := TX5) C0 in_X5_setWinner_X5 3 m_X5_setWinner_f21 hP 0 rfl rfl (by decide) rfl rfl dX5_setWinner_33 ?_
  refine lv_imul hx hb dX5_setWinner_36 ?_
  refine lv_icmp_le (tgt := 44) hx hb dX5_setWinner_37 (by decide) (fun hc5 => ?_) (fun hc5 => ?_)
  · have hf := q_if hf hc5
    refine lv_iconst (v := 0) hx hb dX5_setWinner_44 (by decide) ?_
    exact B_X5_setWinner_45 C0 hf H locs ls hP hD hS (lv_sub hl [2, 3, 0] rfl)
  · have hf := q_nif hf hc5
    refine lv_iconst (v := 1) hx hb dX5_setWinner_40 (by decide) ?_
    refine lv_goto (tgt := 45) hx hb dX5_setWinner_41 (by decide) ?_
    exact B_X5_setWinner_45 C0 hf H locs ls hP hD hS (lv_sub hl [2, 3, 0] rfl)
set_option maxHeartbeats 4000000 in
set_option maxRecDepth 100000 in
theorem B_X5_setWinner_26 {p : Program} {l : Launch} {e : Env} {s : State} {m : MethodId} {args : Array Value} {below : List Frame} {meth : Method} {c : Code} {A : Nat → Prop} {dC : Nat → ClassId} {dI : Nat → Nat → Nat} {cI cJ cZ : ClassId} {aR : Nat} (C0 : q_C p s m args meth c (dC, dI) (q_T cI cJ cZ) A RX5 wsX5_setWinner cX5_setWinner 5 (some .int)) {x1 : Int32} {x2 : Int32} {r : (Nat → Int32)} {R : Int32} (hf : b_X5_setWinner_26 x1 x2 r = some R) : ∀ (H : Heap) (locs : List Loc) (ls : Array Slot), va_P (dC, dI) vwCl [(aR, .inr (5, [.int (r 0), .int (r 1), .int (r 2), .int (r 3), .int (r 4), .int (r 5), .int (r 6)]))] H → va_D A [(aR, .inr (5, [.int (r 0), .int (r 1), .int (r 2), .int (r 3), .int (r 4), .int (r 5), .int (r 6)]))] → va_S A s.heap H locs → lv_has ls 5 [(0, .ref aR), (1, .int x1), (2, .int x2)] → W p l e rmX5_setWinner s m args below meth c H locs 0 0 (MQ below (qI (dC, dI) (q_T cI cJ cZ) [(aR, .inr (5, [.int (r 0), .int (r 1), .int (r 2), .int (r 3), .int (r 4), .int (r 5), .int (r 6)]))] R A) args s 0 0 A) (F0 m 26 ls []) := by
  obtain ⟨hx, hb, hml, hown, hts, hrt, hlk, hK, hX, hA⟩ := id C0
  intro H locs ls hP hD hS hl
  refine lv_iconst (v := 0) hx hb dX5_setWinner_26 (by decide) ?_
  exact B_X5_setWinner_27 C0 hf H locs ls hP hD hS hl
set_option maxHeartbeats 4000000 in
set_option maxRecDepth 100000 in
theorem B_X5_setWinner_0 {p : Program} {l : Launch} {e : Env} {s : State} {m : MethodId} {args : Array Value} {below : List Frame} {meth : Method} {c : Code} {A : Nat → Prop} {dC : Nat → ClassId} {dI : Nat → Nat → Nat} {cI cJ cZ : ClassId} {aR : Nat} (C0 : q_C p s m args meth c (dC, dI) (q_T cI cJ cZ) A RX5 wsX5_setWinner cX5_setWinner 5 (some .int)) {x1 : Int32} {x2 : Int32} {r : (Nat → Int32)} {R : Int32} (hf : f_X5_setWinner x1 x2 r = some R) : ∀ (H : Heap) (locs : List Loc) (ls : Array Slot), va_P (dC, dI) vwCl [(aR, .inr (5, [.int (r 0), .int (r 1), .int (r 2), .int (r 3), .int (r 4), .int (r 5), .int (r 6)]))] H → va_D A [(aR, .inr (5, [.int (r 0), .int (r 1), .int (r 2), .int (r 3), .int (r 4), .int (r 5), .int (r 6)]))] → va_S A s.heap H locs → lv_has ls 5 [(0, .ref aR), (1, .int x1), (2, .int x2)] → W p l e rmX5_setWinner s m args below meth c H locs 0 0 (MQ below (qI (dC, dI) (q_T cI cJ cZ) [(aR, .inr (5, [.int (r 0), .int (r 1), .int (r 2), .int (r 3), .int (r 4), .int (r 5), .int (r 6)]))] R A) args s 0 0 A) (F0 m 0 ls []) := by
  obtain ⟨hx, hb, hml, hown, hts, hrt, hlk, hK, hX, hA⟩ := id C0
  intro H locs ls hP hD hS hl
  refine lv_iload_n hx hb dX5_setWinner_0 rfl (lv_at hl 1 rfl) ?_
  refine lv_iload_n hx hb dX5_setWinner_1 rfl (lv_at hl 2 rfl) ?_
  refine q_max C0 hl.1 m_X5_setWinner_l37 m_X5_setWinner_stmax m_X5_setWinner_imath m_X5_setWinner_cmax (Nat.le_of_ble_eq_true rfl) (Nat.le_of_ble_eq_true rfl) dX5_setWinner_2 ?_
  refine lv_aload_n hx hb dX5_setWinner_5 rfl (lv_at hl 0 rfl) ?_
  refine q_get (TT := TX5) C0 in_X5_setWinner_X5 3 m_X5_setWinner_f21 hP 0 rfl rfl (by decide) rfl rfl dX5_setWinner_6 ?_
  refine lv_icmp_lt (tgt := 26) hx hb dX5_setWinner_9 (by decide) (fun hc6 => ?_) (fun hc6 => ?_)
  · have hf := q_if hf hc6
    exact B_X5_setWinner_26 C0 hf H locs ls hP hD hS hl
  · have hf := q_nif hf hc6
    refine lv_iload_n hx hb dX5_setWinner_12 rfl (lv_at hl 1 rfl) ?_
    refine lv_iload_n hx hb dX5_setWinner_13 rfl (lv_at hl 2 rfl) ?_
    refine lv_isub hx hb dX5_setWinner_14 ?_
    refine q_abs C0 hl.1 m_X5_setWinner_l49 m_X5_setWinner_stabs m_X5_setWinner_imath m_X5_setWinner_cabs (Nat.le_of_ble_eq_true rfl) (Nat.le_of_ble_eq_true rfl) dX5_setWinner_15 ?_
    refine lv_iconst (v := 2) hx hb dX5_setWinner_18 (by decide) ?_
    refine lv_icmp_lt (tgt := 26) hx hb dX5_setWinner_19 (by decide) (fun hc7 => ?_) (fun hc7 => ?_)
    · have hf := q_if hf hc7
      exact B_X5_setWinner_26 C0 hf H locs ls hP hD hS hl
    · have hf := q_nif hf hc7
      refine lv_iconst (v := 1) hx hb dX5_setWinner_22 (by decide) ?_
      refine lv_goto (tgt := 27) hx hb dX5_setWinner_23 (by decide) ?_
      exact B_X5_setWinner_27 C0 hf H locs ls hP hD hS hl
set_option maxHeartbeats 4000000 in
set_option maxRecDepth 100000 in
theorem c_X5_setWinner {l : Launch} {dC : Nat → ClassId} {dI : Nat → Nat → Nat} {cI cJ cZ : ClassId} {aR : Nat} {x1 : Int32} {x2 : Int32} {r : (Nat → Int32)} {R : Int32} (hf : f_X5_setWinner x1 x2 r = some R) : q_M l yX5_setWinner wsX5_setWinner rmX5_setWinner (dC, dI) (q_T cI cJ cZ) [.ref aR, .int x1, .int x2] [(aR, .inr (5, [.int (r 0), .int (r 1), .int (r 2), .int (r 3), .int (r 4), .int (r 5), .int (r 6)]))] (qI (dC, dI) (q_T cI cJ cZ) [(aR, .inr (5, [.int (r 0), .int (r 1), .int (r 2), .int (r 3), .int (r 4), .int (r 5), .int (r 6)]))] R) := by
  refine q_body (cc := cX5_setWinner) (maxL := 5) (ret := (some .int)) (by decide) rfl (Nat.le_of_ble_eq_true rfl) ?_
  intro p e s m args below meth c A C0 ls hP hD hS hl
  have hl : lv_has ls 5 [(0, .ref aR), (1, .int x1), (2, .int x2)] := hl
  exact B_X5_setWinner_0 C0 hf s.heap [] ls hP hD hS hl

/-! ## RungPlay$Rules.matchWinner -/
abbrev rmX5_matchWinner : Room := { frames := 1, cells := 0, slots := 0, locals := 21 }
theorem m_X5_matchWinner_f24 : Cond.fieldLink RX5 24 RX5 "toSets" "I" ∈ wsX5_matchWinner := by decide +kernel
theorem in_X5_matchWinner_X5 : ∀ w ∈ wsX50, w ∈ wsX5_matchWinner := by decide +kernel
def b_X5_matchWinner_16 (x1 : Int32) (x2 : Int32) (r : (Nat → Int32)) : Option (Int32) :=
  (q_b1 (f_X5_leader x1 x2) (fun r1 => (some r1)))
def f_X5_matchWinner (x1 : Int32) (x2 : Int32) (r : (Nat → Int32)) : Option (Int32) :=
  (if (r 4) ≤ x1 then (b_X5_matchWinner_16 x1 x2 r) else (if x2 < (r 4) then (some 0) else (b_X5_matchWinner_16 x1 x2 r)))
set_option maxHeartbeats 4000000 in
set_option maxRecDepth 100000 in
theorem B_X5_matchWinner_16 {p : Program} {l : Launch} {e : Env} {s : State} {m : MethodId} {args : Array Value} {below : List Frame} {meth : Method} {c : Code} {A : Nat → Prop} {dC : Nat → ClassId} {dI : Nat → Nat → Nat} {cI cJ cZ : ClassId} {aR : Nat} (C0 : q_C p s m args meth c (dC, dI) (q_T cI cJ cZ) A RX5 wsX5_matchWinner cX5_matchWinner 3 (some .int)) {x1 : Int32} {x2 : Int32} {r : (Nat → Int32)} {R : Int32} (hf : b_X5_matchWinner_16 x1 x2 r = some R) : ∀ (H : Heap) (locs : List Loc) (ls : Array Slot), va_P (dC, dI) vwCl [(aR, .inr (5, [.int (r 0), .int (r 1), .int (r 2), .int (r 3), .int (r 4), .int (r 5), .int (r 6)]))] H → va_D A [(aR, .inr (5, [.int (r 0), .int (r 1), .int (r 2), .int (r 3), .int (r 4), .int (r 5), .int (r 6)]))] → va_S A s.heap H locs → lv_has ls 3 [(1, .int x1), (2, .int x2)] → W p l e rmX5_matchWinner s m args below meth c H locs 0 0 (MQ below (qI (dC, dI) (q_T cI cJ cZ) [(aR, .inr (5, [.int (r 0), .int (r 1), .int (r 2), .int (r 3), .int (r 4), .int (r 5), .int (r 6)]))] R A) args s 0 0 A) (F0 m 16 ls []) := by
  obtain ⟨hx, hb, hml, hown, hts, hrt, hlk, hK, hX, hA⟩ := id C0
  intro H locs ls hP hD hS hl
  refine lv_iload_n hx hb dX5_matchWinner_16 rfl (lv_at hl 0 rfl) ?_
  refine lv_iload_n hx hb dX5_matchWinner_17 rfl (lv_at hl 1 rfl) ?_
  obtain ⟨r1, hg2, hf⟩ := q_e1 hf
  refine q_endI (wc := []) (wr := [(aR, .inr (5, [.int (r 0), .int (r 1), .int (r 2), .int (r 3), .int (r 4), .int (r 5), .int (r 6)]))]) (w1 := []) (rv := r1) C0 hP hD hS [] [0] rfl rfl (by decide) (by decide) (q_runS C0 (c_X5_leader (l := l) hg2) (va_cwS 2 hts gX5_matchWinner_X5_leader rfl rfl rfl (by decide +kernel) ⟨Nat.le_of_ble_eq_true rfl, Nat.le_of_ble_eq_true rfl⟩) hP hD hS [] rfl (by decide) rfl rfl hl.1 (Nat.le_of_ble_eq_true rfl) dX5_matchWinner_18) (fun H locs hP hD hS => ?_)
  have hP : va_P (dC, dI) vwCl [(aR, .inr (5, [.int (r 0), .int (r 1), .int (r 2), .int (r 3), .int (r 4), .int (r 5), .int (r 6)]))] H := hP
  have hD : va_D A [(aR, .inr (5, [.int (r 0), .int (r 1), .int (r 2), .int (r 3), .int (r 4), .int (r 5), .int (r 6)]))] := hD
  refine lv_goto (tgt := 25) hx hb dX5_matchWinner_21 (by decide) ?_
  obtain rfl := Option.some.inj hf
  exact q_retI C0 hP hD hS dX5_matchWinner_25
set_option maxHeartbeats 4000000 in
set_option maxRecDepth 100000 in
theorem B_X5_matchWinner_0 {p : Program} {l : Launch} {e : Env} {s : State} {m : MethodId} {args : Array Value} {below : List Frame} {meth : Method} {c : Code} {A : Nat → Prop} {dC : Nat → ClassId} {dI : Nat → Nat → Nat} {cI cJ cZ : ClassId} {aR : Nat} (C0 : q_C p s m args meth c (dC, dI) (q_T cI cJ cZ) A RX5 wsX5_matchWinner cX5_matchWinner 3 (some .int)) {x1 : Int32} {x2 : Int32} {r : (Nat → Int32)} {R : Int32} (hf : f_X5_matchWinner x1 x2 r = some R) : ∀ (H : Heap) (locs : List Loc) (ls : Array Slot), va_P (dC, dI) vwCl [(aR, .inr (5, [.int (r 0), .int (r 1), .int (r 2), .int (r 3), .int (r 4), .int (r 5), .int (r 6)]))] H → va_D A [(aR, .inr (5, [.int (r 0), .int (r 1), .int (r 2), .int (r 3), .int (r 4), .int (r 5), .int (r 6)]))] → va_S A s.heap H locs → lv_has ls 3 [(0, .ref aR), (1, .int x1), (2, .int x2)] → W p l e rmX5_matchWinner s m args below meth c H locs 0 0 (MQ below (qI (dC, dI) (q_T cI cJ cZ) [(aR, .inr (5, [.int (r 0), .int (r 1), .int (r 2), .int (r 3), .int (r 4), .int (r 5), .int (r 6)]))] R A) args s 0 0 A) (F0 m 0 ls []) := by
  obtain ⟨hx, hb, hml, hown, hts, hrt, hlk, hK, hX, hA⟩ := id C0
  intro H locs ls hP hD hS hl
  refine lv_iload_n hx hb dX5_matchWinner_0 rfl (lv_at hl 1 rfl) ?_
  refine lv_aload_n hx hb dX5_matchWinner_1 rfl (lv_at hl 0 rfl) ?_
  refine q_get (TT := TX5) C0 in_X5_matchWinner_X5 4 m_X5_matchWinner_f24 hP 0 rfl rfl (by decide) rfl rfl dX5_matchWinner_2 ?_
  refine lv_icmp_ge (tgt := 16) hx hb dX5_matchWinner_5 (by decide) (fun hc3 => ?_) (fun hc3 => ?_)
  · have hf := q_if hf hc3
    exact B_X5_matchWinner_16 C0 hf H locs ls hP hD hS (lv_sub hl [1, 2] rfl)
  · have hf := q_nif hf hc3
    refine lv_iload_n hx hb dX5_matchWinner_8 rfl (lv_at hl 2 rfl) ?_
    refine lv_aload_n hx hb dX5_matchWinner_9 rfl (lv_at hl 0 rfl) ?_
    refine q_get (TT := TX5) C0 in_X5_matchWinner_X5 4 m_X5_matchWinner_f24 hP 0 rfl rfl (by decide) rfl rfl dX5_matchWinner_10 ?_
    refine lv_icmp_lt (tgt := 24) hx hb dX5_matchWinner_13 (by decide) (fun hc4 => ?_) (fun hc4 => ?_)
    · have hf := q_if hf hc4
      refine lv_iconst (v := 0) hx hb dX5_matchWinner_24 (by decide) ?_
      obtain rfl := Option.some.inj hf
      exact q_retI C0 hP hD hS dX5_matchWinner_25
    · have hf := q_nif hf hc4
      exact B_X5_matchWinner_16 C0 hf H locs ls hP hD hS (lv_sub hl [1, 2] rfl)
set_option maxHeartbeats 4000000 in
set_option maxRecDepth 100000 in
theorem c_X5_matchWinner {l : Launch} {dC : Nat → ClassId} {dI : Nat → Nat → Nat} {cI cJ cZ : ClassId} {aR : Nat} {x1 : Int32} {x2 : Int32} {r : (Nat → Int32)} {R : Int32} (hf : f_X5_matchWinner x1 x2 r = some R) : q_M l yX5_matchWinner wsX5_matchWinner rmX5_matchWinner (dC, dI) (q_T cI cJ cZ) [.ref aR, .int x1, .int x2] [(aR, .inr (5, [.int (r 0), .int (r 1), .int (r 2), .int (r 3), .int (r 4), .int (r 5), .int (r 6)]))] (qI (dC, dI) (q_T cI cJ cZ) [(aR, .inr (5, [.int (r 0), .int (r 1), .int (r 2), .int (r 3), .int (r 4), .int (r 5), .int (r 6)]))] R) := by
  refine q_body (cc := cX5_matchWinner) (maxL := 3) (ret := (some .int)) (by decide) rfl (Nat.le_of_ble_eq_true rfl) ?_
  intro p e s m args below meth c A C0 ls hP hD hS hl
  have hl : lv_has ls 3 [(0, .ref aR), (1, .int x1), (2, .int x2)] := hl
  exact B_X5_matchWinner_0 C0 hf s.heap [] ls hP hD hS hl

/-! ## RungPlay$Pair.clear -/
abbrev rmX3_clear : Room := { frames := 0, cells := 0, slots := 0, locals := 0 }
theorem m_X3_clear_f9 : Cond.fieldLink RX3 9 RX3 "ofA" "I" ∈ wsX3_clear := by decide +kernel
theorem in_X3_clear_X3 : ∀ w ∈ wsX30, w ∈ wsX3_clear := by decide +kernel
theorem m_X3_clear_f15 : Cond.fieldLink RX3 15 RX3 "ofB" "I" ∈ wsX3_clear := by decide +kernel
def f_X3_clear (pa : Int32) (pb : Int32) : Option (Int32 × Int32) :=
  (some (0, 0))
set_option maxHeartbeats 4000000 in
set_option maxRecDepth 100000 in
theorem B_X3_clear_0 {p : Program} {l : Launch} {e : Env} {s : State} {m : MethodId} {args : Array Value} {below : List Frame} {meth : Method} {c : Code} {A : Nat → Prop} {dC : Nat → ClassId} {dI : Nat → Nat → Nat} {cI cJ cZ : ClassId} {aP : Nat} (C0 : q_C p s m args meth c (dC, dI) (q_T cI cJ cZ) A RX3 wsX3_clear cX3_clear 1 none) {pa : Int32} {pb : Int32} {R : Int32 × Int32} (hf : f_X3_clear pa pb = some R) : ∀ (H : Heap) (locs : List Loc) (ls : Array Slot), va_P (dC, dI) vwCl [(aP, .inr (3, [.int pa, .int pb]))] H → va_D A [(aP, .inr (3, [.int pa, .int pb]))] → va_S A s.heap H locs → lv_has ls 1 [(0, .ref aP)] → W p l e rmX3_clear s m args below meth c H locs 0 0 (MQ below (qV (dC, dI) (q_T cI cJ cZ) [(aP, .inr (3, [.int R.1, .int R.2]))] A) args s 0 0 A) (F0 m 0 ls []) := by
  obtain ⟨hx, hb, hml, hown, hts, hrt, hlk, hK, hX, hA⟩ := id C0
  intro H locs ls hP hD hS hl
  refine lv_aload_n hx hb dX3_clear_0 rfl (lv_at hl 0 rfl) ?_
  refine lv_iconst (v := 0) hx hb dX3_clear_1 (by decide) ?_
  refine q_put (ty := .int) (TT := TX3) C0 in_X3_clear_X3 tyX3 tyX3_ok nmX3 0 m_X3_clear_f9 hP hD hS 0 rfl rfl (by decide) rfl rfl (by decide +kernel) rfl rfl (Nat.le_of_ble_eq_true rfl) dX3_clear_2 (fun H locs hP hD hS => ?_)
  have hP : va_P (dC, dI) vwCl [(aP, .inr (3, [.int 0, .int pb]))] H := hP
  have hD : va_D A [(aP, .inr (3, [.int 0, .int pb]))] := hD
  refine lv_aload_n hx hb dX3_clear_5 rfl (lv_at hl 0 rfl) ?_
  refine lv_iconst (v := 0) hx hb dX3_clear_6 (by decide) ?_
  refine q_put (ty := .int) (TT := TX3) C0 in_X3_clear_X3 tyX3 tyX3_ok nmX3 1 m_X3_clear_f15 hP hD hS 0 rfl rfl (by decide) rfl rfl (by decide +kernel) rfl rfl (Nat.le_of_ble_eq_true rfl) dX3_clear_7 (fun H locs hP hD hS => ?_)
  have hP : va_P (dC, dI) vwCl [(aP, .inr (3, [.int 0, .int 0]))] H := hP
  have hD : va_D A [(aP, .inr (3, [.int 0, .int 0]))] := hD
  obtain rfl := Option.some.inj hf
  exact q_retV C0 hP hD hS dX3_clear_10
set_option maxHeartbeats 4000000 in
set_option maxRecDepth 100000 in
theorem c_X3_clear {l : Launch} {dC : Nat → ClassId} {dI : Nat → Nat → Nat} {cI cJ cZ : ClassId} {aP : Nat} {pa : Int32} {pb : Int32} {R : Int32 × Int32} (hf : f_X3_clear pa pb = some R) : q_M l yX3_clear wsX3_clear rmX3_clear (dC, dI) (q_T cI cJ cZ) [.ref aP] [(aP, .inr (3, [.int pa, .int pb]))] (qV (dC, dI) (q_T cI cJ cZ) [(aP, .inr (3, [.int R.1, .int R.2]))]) := by
  refine q_body (cc := cX3_clear) (maxL := 1) (ret := none) (by decide) rfl (Nat.le_of_ble_eq_true rfl) ?_
  intro p e s m args below meth c A C0 ls hP hD hS hl
  have hl : lv_has ls 1 [(0, .ref aP)] := hl
  exact B_X3_clear_0 C0 hf s.heap [] ls hP hD hS hl

/-! ## RungPlay$Pair.oneMore -/
abbrev rmX3_oneMore : Room := { frames := 0, cells := 0, slots := 0, locals := 0 }
theorem m_X3_oneMore_f15 : Cond.fieldLink RX3 15 RX3 "ofB" "I" ∈ wsX3_oneMore := by decide +kernel
theorem in_X3_oneMore_X3 : ∀ w ∈ wsX30, w ∈ wsX3_oneMore := by decide +kernel
theorem m_X3_oneMore_f9 : Cond.fieldLink RX3 9 RX3 "ofA" "I" ∈ wsX3_oneMore := by decide +kernel
def f_X3_oneMore (x1 : Int32) (pa : Int32) (pb : Int32) : Option (Int32 × Int32) :=
  (if x1 = 0 then (some (pa + 1, pb)) else (some (pa, pb + 1)))
set_option maxHeartbeats 4000000 in
set_option maxRecDepth 100000 in
theorem B_X3_oneMore_0 {p : Program} {l : Launch} {e : Env} {s : State} {m : MethodId} {args : Array Value} {below : List Frame} {meth : Method} {c : Code} {A : Nat → Prop} {dC : Nat → ClassId} {dI : Nat → Nat → Nat} {cI cJ cZ : ClassId} {aP : Nat} (C0 : q_C p s m args meth c (dC, dI) (q_T cI cJ cZ) A RX3 wsX3_oneMore cX3_oneMore 2 none) {x1 : Int32} {pa : Int32} {pb : Int32} {R : Int32 × Int32} (hf : f_X3_oneMore x1 pa pb = some R) : ∀ (H : Heap) (locs : List Loc) (ls : Array Slot), va_P (dC, dI) vwCl [(aP, .inr (3, [.int pa, .int pb]))] H → va_D A [(aP, .inr (3, [.int pa, .int pb]))] → va_S A s.heap H locs → lv_has ls 2 [(0, .ref aP), (1, .int x1)] → W p l e rmX3_oneMore s m args below meth c H locs 0 0 (MQ below (qV (dC, dI) (q_T cI cJ cZ) [(aP, .inr (3, [.int R.1, .int R.2]))] A) args s 0 0 A) (F0 m 0 ls []) := by
  obtain ⟨hx, hb, hml, hown, hts, hrt, hlk, hK, hX, hA⟩ := id C0
  intro H locs ls hP hD hS hl
  refine lv_iload_n hx hb dX3_oneMore_0 rfl (lv_at hl 1 rfl) ?_
  refine lv_if_ne (tgt := 17) hx hb dX3_oneMore_1 (by decide) (fun hc1 => ?_) (fun hc1 => ?_)
  · have hf := q_nif hf hc1
    refine lv_aload_n hx hb dX3_oneMore_17 rfl (lv_at hl 0 rfl) ?_
    refine lv_dup hx hb dX3_oneMore_18 rfl ?_
    refine q_get (TT := TX3) C0 in_X3_oneMore_X3 1 m_X3_oneMore_f15 hP 0 rfl rfl (by decide) rfl rfl dX3_oneMore_19 ?_
    refine lv_iconst (v := 1) hx hb dX3_oneMore_22 (by decide) ?_
    refine lv_iadd hx hb dX3_oneMore_23 ?_
    refine q_put (ty := .int) (TT := TX3) C0 in_X3_oneMore_X3 tyX3 tyX3_ok nmX3 1 m_X3_oneMore_f15 hP hD hS 0 rfl rfl (by decide) rfl rfl (by decide +kernel) rfl rfl (Nat.le_of_ble_eq_true rfl) dX3_oneMore_24 (fun H locs hP hD hS => ?_)
    have hP : va_P (dC, dI) vwCl [(aP, .inr (3, [.int pa, .int (pb + 1)]))] H := hP
    have hD : va_D A [(aP, .inr (3, [.int pa, .int (pb + 1)]))] := hD
    obtain rfl := Option.some.inj hf
    exact q_retV C0 hP hD hS dX3_oneMore_27
  · have hf := q_if hf hc1
    refine lv_aload_n hx hb dX3_oneMore_4 rfl (lv_at hl 0 rfl) ?_
    refine lv_dup hx hb dX3_oneMore_5 rfl ?_
    refine q_get (TT := TX3) C0 in_X3_oneMore_X3 0 m_X3_oneMore_f9 hP 0 rfl rfl (by decide) rfl rfl dX3_oneMore_6 ?_
    refine lv_iconst (v := 1) hx hb dX3_oneMore_9 (by decide) ?_
    refine lv_iadd hx hb dX3_oneMore_10 ?_
    refine q_put (ty := .int) (TT := TX3) C0 in_X3_oneMore_X3 tyX3 tyX3_ok nmX3 0 m_X3_oneMore_f9 hP hD hS 0 rfl rfl (by decide) rfl rfl (by decide +kernel) rfl rfl (Nat.le_of_ble_eq_true rfl) dX3_oneMore_11 (fun H locs hP hD hS => ?_)
    have hP : va_P (dC, dI) vwCl [(aP, .inr (3, [.int (pa + 1), .int pb]))] H := hP
    have hD : va_D A [(aP, .inr (3, [.int (pa + 1), .int pb]))] := hD
    refine lv_goto (tgt := 27) hx hb dX3_oneMore_14 (by decide) ?_
    obtain rfl := Option.some.inj hf
    exact q_retV C0 hP hD hS dX3_oneMore_27
set_option maxHeartbeats 4000000 in
set_option maxRecDepth 100000 in
theorem c_X3_oneMore {l : Launch} {dC : Nat → ClassId} {dI : Nat → Nat → Nat} {cI cJ cZ : ClassId} {aP : Nat} {x1 : Int32} {pa : Int32} {pb : Int32} {R : Int32 × Int32} (hf : f_X3_oneMore x1 pa pb = some R) : q_M l yX3_oneMore wsX3_oneMore rmX3_oneMore (dC, dI) (q_T cI cJ cZ) [.ref aP, .int x1] [(aP, .inr (3, [.int pa, .int pb]))] (qV (dC, dI) (q_T cI cJ cZ) [(aP, .inr (3, [.int R.1, .int R.2]))]) := by
  refine q_body (cc := cX3_oneMore) (maxL := 2) (ret := none) (by decide) rfl (Nat.le_of_ble_eq_true rfl) ?_
  intro p e s m args below meth c A C0 ls hP hD hS hl
  have hl : lv_has ls 2 [(0, .ref aP), (1, .int x1)] := hl
  exact B_X3_oneMore_0 C0 hf s.heap [] ls hP hD hS hl

/-! ## RungPlay$Grid.holds -/
abbrev rmX1_holds : Room := { frames := 0, cells := 0, slots := 0, locals := 0 }
theorem m_X1_holds_f13 : Cond.fieldLink RX1 13 RX1 "side" "I" ∈ wsX1_holds := by decide +kernel
theorem in_X1_holds_X1 : ∀ w ∈ wsX10, w ∈ wsX1_holds := by decide +kernel
def b_X1_holds_30 (sd : Int32) (gn : Nat) (f : (Nat → Int64)) : Option (Int32) :=
  (some 0)
def f_X1_holds (x1 : Int32) (x2 : Int32) (sd : Int32) (gn : Nat) (f : (Nat → Int64)) : Option (Int32) :=
  (if x1 < 0 then (b_X1_holds_30 sd gn f) else (if sd ≤ x1 then (b_X1_holds_30 sd gn f) else (if x2 < 0 then (b_X1_holds_30 sd gn f) else (if sd ≤ x2 then (b_X1_holds_30 sd gn f) else (some 1)))))
set_option maxHeartbeats 4000000 in
set_option maxRecDepth 100000 in
theorem B_X1_holds_30 {p : Program} {l : Launch} {e : Env} {s : State} {m : MethodId} {args : Array Value} {below : List Frame} {meth : Method} {c : Code} {A : Nat → Prop} {dC : Nat → ClassId} {dI : Nat → Nat → Nat} {cI cJ cZ : ClassId} {aG aC : Nat} (C0 : q_C p s m args meth c (dC, dI) (q_T cI cJ cZ) A RX1 wsX1_holds cX1_holds 3 (some .boolean)) {sd : Int32} {gn : Nat} {f : (Nat → Int64)} {R : Int32} (hf : b_X1_holds_30 sd gn f = some R) : ∀ (H : Heap) (locs : List Loc) (ls : Array Slot), va_P (dC, dI) vwCl [(aG, .inr (1, [.int sd, .ref aC])), (aC, .inl (cJ, gn, .inr (.inl f)))] H → va_D A [(aG, .inr (1, [.int sd, .ref aC])), (aC, .inl (cJ, gn, .inr (.inl f)))] → va_S A s.heap H locs → lv_has ls 3 [] → W p l e rmX1_holds s m args below meth c H locs 0 0 (MQ below (qI (dC, dI) (q_T cI cJ cZ) [(aG, .inr (1, [.int sd, .ref aC])), (aC, .inl (cJ, gn, .inr (.inl f)))] R A) args s 0 0 A) (F0 m 30 ls []) := by
  obtain ⟨hx, hb, hml, hown, hts, hrt, hlk, hK, hX, hA⟩ := id C0
  intro H locs ls hP hD hS hl
  refine lv_iconst (v := 0) hx hb dX1_holds_30 (by decide) ?_
  obtain rfl := Option.some.inj hf
  exact q_retZ C0 (by rfl) hP hD hS dX1_holds_31
set_option maxHeartbeats 4000000 in
set_option maxRecDepth 100000 in
theorem B_X1_holds_0 {p : Program} {l : Launch} {e : Env} {s : State} {m : MethodId} {args : Array Value} {below : List Frame} {meth : Method} {c : Code} {A : Nat → Prop} {dC : Nat → ClassId} {dI : Nat → Nat → Nat} {cI cJ cZ : ClassId} {aG aC : Nat} (C0 : q_C p s m args meth c (dC, dI) (q_T cI cJ cZ) A RX1 wsX1_holds cX1_holds 3 (some .boolean)) {x1 : Int32} {x2 : Int32} {sd : Int32} {gn : Nat} {f : (Nat → Int64)} {R : Int32} (hf : f_X1_holds x1 x2 sd gn f = some R) : ∀ (H : Heap) (locs : List Loc) (ls : Array Slot), va_P (dC, dI) vwCl [(aG, .inr (1, [.int sd, .ref aC])), (aC, .inl (cJ, gn, .inr (.inl f)))] H → va_D A [(aG, .inr (1, [.int sd, .ref aC])), (aC, .inl (cJ, gn, .inr (.inl f)))] → va_S A s.heap H locs → lv_has ls 3 [(0, .ref aG), (1, .int x1), (2, .int x2)] → W p l e rmX1_holds s m args below meth c H locs 0 0 (MQ below (qI (dC, dI) (q_T cI cJ cZ) [(aG, .inr (1, [.int sd, .ref aC])), (aC, .inl (cJ, gn, .inr (.inl f)))] R A) args s 0 0 A) (F0 m 0 ls []) := by
  obtain ⟨hx, hb, hml, hown, hts, hrt, hlk, hK, hX, hA⟩ := id C0
  intro H locs ls hP hD hS hl
  refine lv_iconst (v := 0) hx hb dX1_holds_0 (by decide) ?_
  refine lv_iload_n hx hb dX1_holds_1 rfl (lv_at hl 1 rfl) ?_
  refine lv_icmp_gt (tgt := 30) hx hb dX1_holds_2 (by decide) (fun hc1 => ?_) (fun hc1 => ?_)
  · have hf := q_if hf hc1
    exact B_X1_holds_30 C0 hf H locs ls hP hD hS (lv_sub hl [] rfl)
  · have hf := q_nif hf hc1
    refine lv_iload_n hx hb dX1_holds_5 rfl (lv_at hl 1 rfl) ?_
    refine lv_aload_n hx hb dX1_holds_6 rfl (lv_at hl 0 rfl) ?_
    refine q_get (TT := TX1) C0 in_X1_holds_X1 0 m_X1_holds_f13 hP 0 rfl rfl (by decide) rfl rfl dX1_holds_7 ?_
    refine lv_icmp_ge (tgt := 30) hx hb dX1_holds_10 (by decide) (fun hc2 => ?_) (fun hc2 => ?_)
    · have hf := q_if hf hc2
      exact B_X1_holds_30 C0 hf H locs ls hP hD hS (lv_sub hl [] rfl)
    · have hf := q_nif hf hc2
      refine lv_iconst (v := 0) hx hb dX1_holds_13 (by decide) ?_
      refine lv_iload_n hx hb dX1_holds_14 rfl (lv_at hl 2 rfl) ?_
      refine lv_icmp_gt (tgt := 30) hx hb dX1_holds_15 (by decide) (fun hc3 => ?_) (fun hc3 => ?_)
      · have hf := q_if hf hc3
        exact B_X1_holds_30 C0 hf H locs ls hP hD hS (lv_sub hl [] rfl)
      · have hf := q_nif hf hc3
        refine lv_iload_n hx hb dX1_holds_18 rfl (lv_at hl 2 rfl) ?_
        refine lv_aload_n hx hb dX1_holds_19 rfl (lv_at hl 0 rfl) ?_
        refine q_get (TT := TX1) C0 in_X1_holds_X1 0 m_X1_holds_f13 hP 0 rfl rfl (by decide) rfl rfl dX1_holds_20 ?_
        refine lv_icmp_ge (tgt := 30) hx hb dX1_holds_23 (by decide) (fun hc4 => ?_) (fun hc4 => ?_)
        · have hf := q_if hf hc4
          exact B_X1_holds_30 C0 hf H locs ls hP hD hS (lv_sub hl [] rfl)
        · have hf := q_nif hf hc4
          refine lv_iconst (v := 1) hx hb dX1_holds_26 (by decide) ?_
          refine lv_goto (tgt := 31) hx hb dX1_holds_27 (by decide) ?_
          obtain rfl := Option.some.inj hf
          exact q_retZ C0 (by rfl) hP hD hS dX1_holds_31
set_option maxHeartbeats 4000000 in
set_option maxRecDepth 100000 in
theorem c_X1_holds {l : Launch} {dC : Nat → ClassId} {dI : Nat → Nat → Nat} {cI cJ cZ : ClassId} {aG aC : Nat} {x1 : Int32} {x2 : Int32} {sd : Int32} {gn : Nat} {f : (Nat → Int64)} {R : Int32} (hf : f_X1_holds x1 x2 sd gn f = some R) : q_M l yX1_holds wsX1_holds rmX1_holds (dC, dI) (q_T cI cJ cZ) [.ref aG, .int x1, .int x2] [(aG, .inr (1, [.int sd, .ref aC])), (aC, .inl (cJ, gn, .inr (.inl f)))] (qI (dC, dI) (q_T cI cJ cZ) [(aG, .inr (1, [.int sd, .ref aC])), (aC, .inl (cJ, gn, .inr (.inl f)))] R) := by
  refine q_body (cc := cX1_holds) (maxL := 3) (ret := (some .boolean)) (by decide) rfl (Nat.le_of_ble_eq_true rfl) ?_
  intro p e s m args below meth c A C0 ls hP hD hS hl
  have hl : lv_has ls 3 [(0, .ref aG), (1, .int x1), (2, .int x2)] := hl
  exact B_X1_holds_0 C0 hf s.heap [] ls hP hD hS hl

/-! ## RungPlay$Grid.at -/
abbrev rmX1_at : Room := { frames := 1, cells := 0, slots := 0, locals := 22 }
theorem m_X1_at_f19 : Cond.fieldLink RX1 19 RX1 "cells" "[J" ∈ wsX1_at := by decide +kernel
theorem in_X1_at_X1 : ∀ w ∈ wsX10, w ∈ wsX1_at := by decide +kernel
theorem m_X1_at_f13 : Cond.fieldLink RX1 13 RX1 "side" "I" ∈ wsX1_at := by decide +kernel
def f_X1_at (x1 : Int32) (x2 : Int32) (sd : Int32) (gn : Nat) (f : (Nat → Int64)) : Option (Int64) :=
  (q_b1 (f_X1_holds x1 x2 sd gn f) (fun r1 => (if r1 = 0 then (some (0 : Int64)) else (if (x1 * sd) + x2 < 0 ∨ gn ≤ Int32.toNatClampNeg ((x1 * sd) + x2) then none else (some (f (Int32.toNatClampNeg ((x1 * sd) + x2))))))))
set_option maxHeartbeats 4000000 in
set_option maxRecDepth 100000 in
theorem B_X1_at_0 {p : Program} {l : Launch} {e : Env} {s : State} {m : MethodId} {args : Array Value} {below : List Frame} {meth : Method} {c : Code} {A : Nat → Prop} {dC : Nat → ClassId} {dI : Nat → Nat → Nat} {cI cJ cZ : ClassId} {aG aC : Nat} (C0 : q_C p s m args meth c (dC, dI) (q_T cI cJ cZ) A RX1 wsX1_at cX1_at 3 (some .long)) {x1 : Int32} {x2 : Int32} {sd : Int32} {gn : Nat} {f : (Nat → Int64)} {R : Int64} (hf : f_X1_at x1 x2 sd gn f = some R) : ∀ (H : Heap) (locs : List Loc) (ls : Array Slot), va_P (dC, dI) vwCl [(aG, .inr (1, [.int sd, .ref aC])), (aC, .inl (cJ, gn, .inr (.inl f)))] H → va_D A [(aG, .inr (1, [.int sd, .ref aC])), (aC, .inl (cJ, gn, .inr (.inl f)))] → va_S A s.heap H locs → lv_has ls 3 [(0, .ref aG), (1, .int x1), (2, .int x2)] → W p l e rmX1_at s m args below meth c H locs 0 0 (MQ below (qL (dC, dI) (q_T cI cJ cZ) [(aG, .inr (1, [.int sd, .ref aC])), (aC, .inl (cJ, gn, .inr (.inl f)))] R A) args s 0 0 A) (F0 m 0 ls []) := by
  obtain ⟨hx, hb, hml, hown, hts, hrt, hlk, hK, hX, hA⟩ := id C0
  intro H locs ls hP hD hS hl
  refine lv_aload_n hx hb dX1_at_0 rfl (lv_at hl 0 rfl) ?_
  refine lv_iload_n hx hb dX1_at_1 rfl (lv_at hl 1 rfl) ?_
  refine lv_iload_n hx hb dX1_at_2 rfl (lv_at hl 2 rfl) ?_
  obtain ⟨r1, hg2, hf⟩ := q_e1 hf
  refine q_endI (wc := [(aG, .inr (1, [.int sd, .ref aC])), (aC, .inl (cJ, gn, .inr (.inl f)))]) (wr := []) (w1 := [(aG, .inr (1, [.int sd, .ref aC])), (aC, .inl (cJ, gn, .inr (.inl f)))]) (rv := r1) C0 hP hD hS [0, 1] [] rfl rfl (by decide) (by decide) (q_runV (TT := TX1) (N := 2) (ci := 1) (q0 := 0) C0 (c_X1_holds (l := l) hg2) (cwV 2 hts gX1_at_X1_holds rfl rfl rfl (by decide +kernel) ⟨Nat.le_of_ble_eq_true rfl, Nat.le_of_ble_eq_true rfl⟩) hP hD hS [0, 1] rfl (by decide) rfl rfl rfl rfl hl.1 (Nat.le_of_ble_eq_true rfl) dX1_at_3) (fun H locs hP hD hS => ?_)
  have hP : va_P (dC, dI) vwCl [(aG, .inr (1, [.int sd, .ref aC])), (aC, .inl (cJ, gn, .inr (.inl f)))] H := hP
  have hD : va_D A [(aG, .inr (1, [.int sd, .ref aC])), (aC, .inl (cJ, gn, .inr (.inl f)))] := hD
  refine lv_if_eq (tgt := 25) hx hb dX1_at_6 (by decide) (fun hc3 => ?_) (fun hc3 => ?_)
  · have hf := q_if hf hc3
    refine lv_lconst (v := 0) hx hb dX1_at_25 (by decide) ?_
    obtain rfl := Option.some.inj hf
    exact q_retL C0 hP hD hS dX1_at_26
  · have hf := q_nif hf hc3
    refine lv_aload_n hx hb dX1_at_9 rfl (lv_at hl 0 rfl) ?_
    refine q_get (TT := TX1) C0 in_X1_at_X1 1 m_X1_at_f19 hP 0 rfl rfl (by decide) rfl rfl dX1_at_10 ?_
    refine lv_iload_n hx hb dX1_at_13 rfl (lv_at hl 1 rfl) ?_
    refine lv_aload_n hx hb dX1_at_14 rfl (lv_at hl 0 rfl) ?_
    refine q_get (TT := TX1) C0 in_X1_at_X1 0 m_X1_at_f13 hP 0 rfl rfl (by decide) rfl rfl dX1_at_15 ?_
    refine lv_imul hx hb dX1_at_18 ?_
    refine lv_iload_n hx hb dX1_at_19 rfl (lv_at hl 2 rfl) ?_
    refine lv_iadd hx hb dX1_at_20 ?_
    obtain ⟨hin4, hf⟩ := q_gd hf
    refine q_lald (v := f (Int32.toNatClampNeg ((x1 * sd) + x2))) C0 hP 1 1 rfl rfl hin4 rfl dX1_at_21 ?_
    refine lv_goto (tgt := 26) hx hb dX1_at_22 (by decide) ?_
    obtain rfl := Option.some.inj hf
    exact q_retL C0 hP hD hS dX1_at_26
set_option maxHeartbeats 4000000 in
set_option maxRecDepth 100000 in
theorem c_X1_at {l : Launch} {dC : Nat → ClassId} {dI : Nat → Nat → Nat} {cI cJ cZ : ClassId} {aG aC : Nat} {x1 : Int32} {x2 : Int32} {sd : Int32} {gn : Nat} {f : (Nat → Int64)} {R : Int64} (hf : f_X1_at x1 x2 sd gn f = some R) : q_M l yX1_at wsX1_at rmX1_at (dC, dI) (q_T cI cJ cZ) [.ref aG, .int x1, .int x2] [(aG, .inr (1, [.int sd, .ref aC])), (aC, .inl (cJ, gn, .inr (.inl f)))] (qL (dC, dI) (q_T cI cJ cZ) [(aG, .inr (1, [.int sd, .ref aC])), (aC, .inl (cJ, gn, .inr (.inl f)))] R) := by
  refine q_body (cc := cX1_at) (maxL := 3) (ret := (some .long)) (by decide) rfl (Nat.le_of_ble_eq_true rfl) ?_
  intro p e s m args below meth c A C0 ls hP hD hS hl
  have hl : lv_has ls 3 [(0, .ref aG), (1, .int x1), (2, .int x2)] := hl
  exact B_X1_at_0 C0 hf s.heap [] ls hP hD hS hl

/-! ## RungPlay$Grid.put -/
abbrev rmX1_put : Room := { frames := 1, cells := 0, slots := 0, locals := 22 }
theorem m_X1_put_f19 : Cond.fieldLink RX1 19 RX1 "cells" "[J" ∈ wsX1_put := by decide +kernel
theorem in_X1_put_X1 : ∀ w ∈ wsX10, w ∈ wsX1_put := by decide +kernel
theorem m_X1_put_f13 : Cond.fieldLink RX1 13 RX1 "side" "I" ∈ wsX1_put := by decide +kernel
def f_X1_put (x1 : Int32) (x2 : Int32) (x3 : Int64) (sd : Int32) (gn : Nat) (f : (Nat → Int64)) : Option ((Nat → Int64)) :=
  (q_b1 (f_X1_holds x1 x2 sd gn f) (fun r1 => (if r1 = 0 then (some f) else (if (x1 * sd) + x2 < 0 ∨ gn ≤ Int32.toNatClampNeg ((x1 * sd) + x2) then none else (some (vp_updL f (Int32.toNatClampNeg ((x1 * sd) + x2)) x3))))))
set_option maxHeartbeats 4000000 in
set_option maxRecDepth 100000 in
theorem B_X1_put_0 {p : Program} {l : Launch} {e : Env} {s : State} {m : MethodId} {args : Array Value} {below : List Frame} {meth : Method} {c : Code} {A : Nat → Prop} {dC : Nat → ClassId} {dI : Nat → Nat → Nat} {cI cJ cZ : ClassId} {aG aC : Nat} (C0 : q_C p s m args meth c (dC, dI) (q_T cI cJ cZ) A RX1 wsX1_put cX1_put 5 none) {x1 : Int32} {x2 : Int32} {x3 : Int64} {sd : Int32} {gn : Nat} {f : (Nat → Int64)} {R : (Nat → Int64)} (hf : f_X1_put x1 x2 x3 sd gn f = some R) : ∀ (H : Heap) (locs : List Loc) (ls : Array Slot), va_P (dC, dI) vwCl [(aG, .inr (1, [.int sd, .ref aC])), (aC, .inl (cJ, gn, .inr (.inl f)))] H → va_D A [(aG, .inr (1, [.int sd, .ref aC])), (aC, .inl (cJ, gn, .inr (.inl f)))] → va_S A s.heap H locs → lv_has ls 5 [(0, .ref aG), (1, .int x1), (2, .int x2), (3, .long x3)] → W p l e rmX1_put s m args below meth c H locs 0 0 (MQ below (qV (dC, dI) (q_T cI cJ cZ) [(aG, .inr (1, [.int sd, .ref aC])), (aC, .inl (cJ, gn, .inr (.inl R)))] A) args s 0 0 A) (F0 m 0 ls []) := by
  obtain ⟨hx, hb, hml, hown, hts, hrt, hlk, hK, hX, hA⟩ := id C0
  intro H locs ls hP hD hS hl
  refine lv_aload_n hx hb dX1_put_0 rfl (lv_at hl 0 rfl) ?_
  refine lv_iload_n hx hb dX1_put_1 rfl (lv_at hl 1 rfl) ?_
  refine lv_iload_n hx hb dX1_put_2 rfl (lv_at hl 2 rfl) ?_
  obtain ⟨r1, hg2, hf⟩ := q_e1 hf
  refine q_endI (wc := [(aG, .inr (1, [.int sd, .ref aC])), (aC, .inl (cJ, gn, .inr (.inl f)))]) (wr := []) (w1 := [(aG, .inr (1, [.int sd, .ref aC])), (aC, .inl (cJ, gn, .inr (.inl f)))]) (rv := r1) C0 hP hD hS [0, 1] [] rfl rfl (by decide) (by decide) (q_runV (TT := TX1) (N := 2) (ci := 1) (q0 := 0) C0 (c_X1_holds (l := l) hg2) (cwV 2 hts gX1_put_X1_holds rfl rfl rfl (by decide +kernel) ⟨Nat.le_of_ble_eq_true rfl, Nat.le_of_ble_eq_true rfl⟩) hP hD hS [0, 1] rfl (by decide) rfl rfl rfl rfl hl.1 (Nat.le_of_ble_eq_true rfl) dX1_put_3) (fun H locs hP hD hS => ?_)
  have hP : va_P (dC, dI) vwCl [(aG, .inr (1, [.int sd, .ref aC])), (aC, .inl (cJ, gn, .inr (.inl f)))] H := hP
  have hD : va_D A [(aG, .inr (1, [.int sd, .ref aC])), (aC, .inl (cJ, gn, .inr (.inl f)))] := hD
  refine lv_if_eq (tgt := 23) hx hb dX1_put_6 (by decide) (fun hc3 => ?_) (fun hc3 => ?_)
  · have hf := q_if hf hc3
    obtain rfl := Option.some.inj hf
    exact q_retV C0 hP hD hS dX1_put_23
  · have hf := q_nif hf hc3
    refine lv_aload_n hx hb dX1_put_9 rfl (lv_at hl 0 rfl) ?_
    refine q_get (TT := TX1) C0 in_X1_put_X1 1 m_X1_put_f19 hP 0 rfl rfl (by decide) rfl rfl dX1_put_10 ?_
    refine lv_iload_n hx hb dX1_put_13 rfl (lv_at hl 1 rfl) ?_
    refine lv_aload_n hx hb dX1_put_14 rfl (lv_at hl 0 rfl) ?_
    refine q_get (TT := TX1) C0 in_X1_put_X1 0 m_X1_put_f13 hP 0 rfl rfl (by decide) rfl rfl dX1_put_15 ?_
    refine lv_imul hx hb dX1_put_18 ?_
    refine lv_iload_n hx hb dX1_put_19 rfl (lv_at hl 2 rfl) ?_
    refine lv_iadd hx hb dX1_put_20 ?_
    refine lv_lload_n hx hb dX1_put_21 rfl (lv_at hl 3 rfl) ?_
    obtain ⟨hin4, hf⟩ := q_gd hf
    refine q_last (g := vp_updL f (Int32.toNatClampNeg ((x1 * sd) + x2)) x3) C0 hP hD hS 1 1 rfl rfl hin4 rfl dX1_put_22 (fun H locs hP hD hS => ?_)
    have hP : va_P (dC, dI) vwCl [(aG, .inr (1, [.int sd, .ref aC])), (aC, .inl (cJ, gn, .inr (.inl (vp_updL f (Int32.toNatClampNeg ((x1 * sd) + x2)) x3))))] H := hP
    have hD : va_D A [(aG, .inr (1, [.int sd, .ref aC])), (aC, .inl (cJ, gn, .inr (.inl (vp_updL f (Int32.toNatClampNeg ((x1 * sd) + x2)) x3))))] := hD
    obtain rfl := Option.some.inj hf
    exact q_retV C0 hP hD hS dX1_put_23
set_option maxHeartbeats 4000000 in
set_option maxRecDepth 100000 in
theorem c_X1_put {l : Launch} {dC : Nat → ClassId} {dI : Nat → Nat → Nat} {cI cJ cZ : ClassId} {aG aC : Nat} {x1 : Int32} {x2 : Int32} {x3 : Int64} {sd : Int32} {gn : Nat} {f : (Nat → Int64)} {R : (Nat → Int64)} (hf : f_X1_put x1 x2 x3 sd gn f = some R) : q_M l yX1_put wsX1_put rmX1_put (dC, dI) (q_T cI cJ cZ) [.ref aG, .int x1, .int x2, .long x3] [(aG, .inr (1, [.int sd, .ref aC])), (aC, .inl (cJ, gn, .inr (.inl f)))] (qV (dC, dI) (q_T cI cJ cZ) [(aG, .inr (1, [.int sd, .ref aC])), (aC, .inl (cJ, gn, .inr (.inl R)))]) := by
  refine q_body (cc := cX1_put) (maxL := 5) (ret := none) (by decide) rfl (Nat.le_of_ble_eq_true rfl) ?_
  intro p e s m args below meth c A C0 ls hP hD hS hl
  have hl : lv_has ls 5 [(0, .ref aG), (1, .int x1), (2, .int x2), (3, .long x3)] := hl
  exact B_X1_put_0 C0 hf s.heap [] ls hP hD hS hl

/-! ## RungPlay$GameOdds.tens -/
abbrev rmX0_tens : Room := { frames := 0, cells := 0, slots := 0, locals := 0 }
def b_X0_tens_21  : Option (Int64) :=
  (some (1 : Int64))
def f_X0_tens (x0 : Int32) : Option (Int64) :=
  (if x0 < 0 then (b_X0_tens_21 ) else (if 11 ≤ x0 then (b_X0_tens_21 ) else (if x0 < 0 ∨ 11 ≤ Int32.toNatClampNeg x0 then none else (some (q_ten (Int32.toNatClampNeg x0))))))
set_option maxHeartbeats 4000000 in
set_option maxRecDepth 100000 in
theorem B_X0_tens_21 {p : Program} {l : Launch} {e : Env} {s : State} {m : MethodId} {args : Array Value} {below : List Frame} {meth : Method} {c : Code} {A : Nat → Prop} {dC : Nat → ClassId} {dI : Nat → Nat → Nat} {cI cJ cZ : ClassId} (C0 : q_C p s m args meth c (dC, dI) (q_T cI cJ cZ) A RX0 wsX0_tens cX0_tens 1 (some .long))  {R : Int64} (hf : b_X0_tens_21  = some R) : ∀ (H : Heap) (locs : List Loc) (ls : Array Slot), va_P (dC, dI) vwCl [] H → va_D A [] → va_S A s.heap H locs → lv_has ls 1 [] → W p l e rmX0_tens s m args below meth c H locs 0 0 (MQ below (qL (dC, dI) (q_T cI cJ cZ) [] R A) args s 0 0 A) (F0 m 21 ls []) := by
  obtain ⟨hx, hb, hml, hown, hts, hrt, hlk, hK, hX, hA⟩ := id C0
  obtain ⟨⟨t0, hZ, hT⟩, hN, hNest, hN6, hN4⟩ := hX
  intro H locs ls hP hD hS hl
  refine lv_lconst (v := 1) hx hb dX0_tens_21 (by decide) ?_
  obtain rfl := Option.some.inj hf
  exact q_retL C0 hP hD hS dX0_tens_22
set_option maxHeartbeats 4000000 in
set_option maxRecDepth 100000 in
theorem B_X0_tens_0 {p : Program} {l : Launch} {e : Env} {s : State} {m : MethodId} {args : Array Value} {below : List Frame} {meth : Method} {c : Code} {A : Nat → Prop} {dC : Nat → ClassId} {dI : Nat → Nat → Nat} {cI cJ cZ : ClassId} (C0 : q_C p s m args meth c (dC, dI) (q_T cI cJ cZ) A RX0 wsX0_tens cX0_tens 1 (some .long)) {x0 : Int32} {R : Int64} (hf : f_X0_tens x0 = some R) : ∀ (H : Heap) (locs : List Loc) (ls : Array Slot), va_P (dC, dI) vwCl [] H → va_D A [] → va_S A s.heap H locs → lv_has ls 1 [(0, .int x0)] → W p l e rmX0_tens s m args below meth c H locs 0 0 (MQ below (qL (dC, dI) (q_T cI cJ cZ) [] R A) args s 0 0 A) (F0 m 0 ls []) := by
  obtain ⟨hx, hb, hml, hown, hts, hrt, hlk, hK, hX, hA⟩ := id C0
  obtain ⟨⟨t0, hZ, hT⟩, hN, hNest, hN6, hN4⟩ := hX
  intro H locs ls hP hD hS hl
  refine lv_iconst (v := 0) hx hb dX0_tens_0 (by decide) ?_
  refine lv_iload_n hx hb dX0_tens_1 rfl (lv_at hl 0 rfl) ?_
  refine lv_icmp_gt (tgt := 21) hx hb dX0_tens_2 (by decide) (fun hc1 => ?_) (fun hc1 => ?_)
  · have hf := q_if hf hc1
    exact B_X0_tens_21 C0 hf H locs ls hP hD hS (lv_sub hl [] rfl)
  · have hf := q_nif hf hc1
    refine lv_iload_n hx hb dX0_tens_5 rfl (lv_at hl 0 rfl) ?_
    refine va_getsN hx hb hZ hS hown (va_Nw.use rfl hN) (fun _ h9 => h9) dX0_tens_6 ?_
    refine va_tlen (v := 11) hx hb hT hS rfl dX0_tens_9 ?_
    refine lv_icmp_ge (tgt := 21) hx hb dX0_tens_10 (by decide) (fun hc2 => ?_) (fun hc2 => ?_)
    · have hf := q_if hf hc2
      exact B_X0_tens_21 C0 hf H locs ls hP hD hS (lv_sub hl [] rfl)
    · have hf := q_nif hf hc2
      refine va_getsN hx hb hZ hS hown (va_Nw.use rfl hN) (fun _ h9 => h9) dX0_tens_13 ?_
      refine lv_iload_n hx hb dX0_tens_16 rfl (lv_at hl 0 rfl) ?_
      obtain ⟨hin3, hf⟩ := q_gd hf
      refine va_tl (v := .long (q_ten (Int32.toNatClampNeg x0))) hx hb hT hS hin3 rfl dX0_tens_17 ?_
      refine lv_goto (tgt := 22) hx hb dX0_tens_18 (by decide) ?_
      obtain rfl := Option.some.inj hf
      exact q_retL C0 hP hD hS dX0_tens_22
set_option maxHeartbeats 4000000 in
set_option maxRecDepth 100000 in
theorem c_X0_tens {l : Launch} {dC : Nat → ClassId} {dI : Nat → Nat → Nat} {cI cJ cZ : ClassId} {x0 : Int32} {R : Int64} (hf : f_X0_tens x0 = some R) : q_M l yX0_tens wsX0_tens rmX0_tens (dC, dI) (q_T cI cJ cZ) [.int x0] [] (qL (dC, dI) (q_T cI cJ cZ) [] R) := by
  refine q_body (cc := cX0_tens) (maxL := 1) (ret := (some .long)) (by decide) rfl (Nat.le_of_ble_eq_true rfl) ?_
  intro p e s m args below meth c A C0 ls hP hD hS hl
  have hl : lv_has ls 1 [(0, .int x0)] := hl
  exact B_X0_tens_0 C0 hf s.heap [] ls hP hD hS hl

/-! ## RungPlay$GameOdds.bottom -/
abbrev rmX0_bottom : Room := { frames := 1, cells := 0, slots := 0, locals := 20 }
theorem m_X0_bottom_f36 : Cond.fieldLink RX0 36 RX0 "unit" "J" ∈ wsX0_bottom := by decide +kernel
theorem in_X0_bottom_X0 : ∀ w ∈ wsX00, w ∈ wsX0_bottom := by decide +kernel
theorem m_X0_bottom_f33 : Cond.fieldLink RX0 33 RX0 "to" "I" ∈ wsX0_bottom := by decide +kernel
def f_X0_bottom (x1 : Int32) (x2 : Int32) (r : (Nat → Int32)) (to : Int32) (un : Int64) (fc : (Nat → Int64)) (fl : (Nat → Int64)) : Option (Int64) :=
  (q_b1 (f_X0_tens (((2 * to) - x1) - x2)) (fun r1 => (some (un * r1))))
set_option maxHeartbeats 4000000 in
set_option maxRecDepth 100000 in
theorem B_X0_bottom_0 {p : Program} {l : Launch} {e : Env} {s : State} {m : MethodId} {args : Array Value} {below : List Frame} {meth : Method} {c : Code} {A : Nat → Prop} {dC : Nat → ClassId} {dI : Nat → Nat → Nat} {cI cJ cZ : ClassId} {aO aR gC gCc gL gLc : Nat} (C0 : q_C p s m args meth c (dC, dI) (q_T cI cJ cZ) A RX0 wsX0_bottom cX0_bottom 3 (some .long)) {x1 : Int32} {x2 : Int32} {r : (Nat → Int32)} {to : Int32} {un : Int64} {fc : (Nat → Int64)} {fl : (Nat → Int64)} {R : Int64} (hf : f_X0_bottom x1 x2 r to un fc fl = some R) : ∀ (H : Heap) (locs : List Loc) (ls : Array Slot), va_P (dC, dI) vwCl [(aO, .inr (0, [.ref aR, .ref gC, .ref gL, .int to, .long un])), (aR, .inr (5, [.int (r 0), .int (r 1), .int (r 2), .int (r 3), .int (r 4), .int (r 5), .int (r 6)])), (gC, .inr (1, [.int 7, .ref gCc])), (gCc, .inl (cJ, 49, .inr (.inl fc))), (gL, .inr (1, [.int 7, .ref gLc])), (gLc, .inl (cJ, 49, .inr (.inl fl)))] H → va_D A [(aO, .inr (0, [.ref aR, .ref gC, .ref gL, .int to, .long un])), (aR, .inr (5, [.int (r 0), .int (r 1), .int (r 2), .int (r 3), .int (r 4), .int (r 5), .int (r 6)])), (gC, .inr (1, [.int 7, .ref gCc])), (gCc, .inl (cJ, 49, .inr (.inl fc))), (gL, .inr (1, [.int 7, .ref gLc])), (gLc, .inl (cJ, 49, .inr (.inl fl)))] → va_S A s.heap H locs → lv_has ls 3 [(0, .ref aO), (1, .int x1), (2, .int x2)] → W p l e rmX0_bottom s m args below meth c H locs 0 0 (MQ below (qL (dC, dI) (q_T cI cJ cZ) [(aO, .inr (0, [.ref aR, .ref gC, .ref gL, .int to, .long un])), (aR, .inr (5, [.int (r 0), .int (r 1), .int (r 2), .int (r 3), .int (r 4), .int (r 5), .int (r 6)])), (gC, .inr (1, [.int 7, .ref gCc])), (gCc, .inl (cJ, 49, .inr (.inl fc))), (gL, .inr (1, [.int 7, .ref gLc])), (gLc, .inl (cJ, 49, .inr (.inl fl)))] R A) args s 0 0 A) (F0 m 0 ls []) := by
  obtain ⟨hx, hb, hml, hown, hts, hrt, hlk, hK, hX, hA⟩ := id C0
  intro H locs ls hP hD hS hl
  refine lv_aload_n hx hb dX0_bottom_0 rfl (lv_at hl 0 rfl) ?_
  refine q_get (TT := TX0) C0 in_X0_bottom_X0 4 m_X0_bottom_f36 hP 0 rfl rfl (by decide) rfl rfl dX0_bottom_1 ?_
  refine lv_iconst (v := 2) hx hb dX0_bottom_4 (by decide) ?_
  refine lv_aload_n hx hb dX0_bottom_5 rfl (lv_at hl 0 rfl) ?_
  refine q_get (TT := TX0) C0 in_X0_bottom_X0 3 m_X0_bottom_f33 hP 0 rfl rfl (by decide) rfl rfl dX0_bottom_6 ?_
  refine lv_imul hx hb dX0_bottom_9 ?_
  refine lv_iload_n hx hb dX0_bottom_10 rfl (lv_at hl 1 rfl) ?_
  refine lv_isub hx hb dX0_bottom_11 ?_
  refine lv_iload_n hx hb dX0_bottom_12 rfl (lv_at hl 2 rfl) ?_
  refine lv_isub hx hb dX0_bottom_13 ?_
  obtain ⟨r1, hg2, hf⟩ := q_e1 hf
  refine q_endL (wc := []) (wr := [(aO, .inr (0, [.ref aR, .ref gC, .ref gL, .int to, .long un])), (aR, .inr (5, [.int (r 0), .int (r 1), .int (r 2), .int (r 3), .int (r 4), .int (r 5), .int (r 6)])), (gC, .inr (1, [.int 7, .ref gCc])), (gCc, .inl (cJ, 49, .inr (.inl fc))), (gL, .inr (1, [.int 7, .ref gLc])), (gLc, .inl (cJ, 49, .inr (.inl fl)))]) (w1 := []) (rv := r1) C0 hP hD hS [] [0, 1, 2, 3, 4, 5] rfl rfl (by decide) (by decide) (q_runS C0 (c_X0_tens (l := l) hg2) (va_cwS 1 hts gX0_bottom_X0_tens rfl rfl rfl (by decide +kernel) ⟨Nat.le_of_ble_eq_true rfl, Nat.le_of_ble_eq_true rfl⟩) hP hD hS [] rfl (by decide) rfl rfl hl.1 (Nat.le_of_ble_eq_true rfl) dX0_bottom_14) (fun H locs hP hD hS => ?_)
  have hP : va_P (dC, dI) vwCl [(aO, .inr (0, [.ref aR, .ref gC, .ref gL, .int to, .long un])), (aR, .inr (5, [.int (r 0), .int (r 1), .int (r 2), .int (r 3), .int (r 4), .int (r 5), .int (r 6)])), (gC, .inr (1, [.int 7, .ref gCc])), (gCc, .inl (cJ, 49, .inr (.inl fc))), (gL, .inr (1, [.int 7, .ref gLc])), (gLc, .inl (cJ, 49, .inr (.inl fl)))] H := hP
  have hD : va_D A [(aO, .inr (0, [.ref aR, .ref gC, .ref gL, .int to, .long un])), (aR, .inr (5, [.int (r 0), .int (r 1), .int (r 2), .int (r 3), .int (r 4), .int (r 5), .int (r 6)])), (gC, .inr (1, [.int 7, .ref gCc])), (gCc, .inl (cJ, 49, .inr (.inl fc))), (gL, .inr (1, [.int 7, .ref gLc])), (gLc, .inl (cJ, 49, .inr (.inl fl)))] := hD
  refine lv_lmul hx hb dX0_bottom_17 ?_
  obtain rfl := Option.some.inj hf
  exact q_retL C0 hP hD hS dX0_bottom_18
set_option maxHeartbeats 4000000 in
set_option maxRecDepth 100000 in
theorem c_X0_bottom {l : Launch} {dC : Nat → ClassId} {dI : Nat → Nat → Nat} {cI cJ cZ : ClassId} {aO aR gC gCc gL gLc : Nat} {x1 : Int32} {x2 : Int32} {r : (Nat → Int32)} {to : Int32} {un : Int64} {fc : (Nat → Int64)} {fl : (Nat → Int64)} {R : Int64} (hf : f_X0_bottom x1 x2 r to un fc fl = some R) : q_M l yX0_bottom wsX0_bottom rmX0_bottom (dC, dI) (q_T cI cJ cZ) [.ref aO, .int x1, .int x2] [(aO, .inr (0, [.ref aR, .ref gC, .ref gL, .int to, .long un])), (aR, .inr (5, [.int (r 0), .int (r 1), .int (r 2), .int (r 3), .int (r 4), .int (r 5), .int (r 6)])), (gC, .inr (1, [.int 7, .ref gCc])), (gCc, .inl (cJ, 49, .inr (.inl fc))), (gL, .inr (1, [.int 7, .ref gLc])), (gLc, .inl (cJ, 49, .inr (.inl fl)))] (qL (dC, dI) (q_T cI cJ cZ) [(aO, .inr (0, [.ref aR, .ref gC, .ref gL, .int to, .long un])), (aR, .inr (5, [.int (r 0), .int (r 1), .int (r 2), .int (r 3), .int (r 4), .int (r 5), .int (r 6)])), (gC, .inr (1, [.int 7, .ref gCc])), (gCc, .inl (cJ, 49, .inr (.inl fc))), (gL, .inr (1, [.int 7, .ref gLc])), (gLc, .inl (cJ, 49, .inr (.inl fl)))] R) := by
  refine q_body (cc := cX0_bottom) (maxL := 3) (ret := (some .long)) (by decide) rfl (Nat.le_of_ble_eq_true rfl) ?_
  intro p e s m args below meth c A C0 ls hP hD hS hl
  have hl : lv_has ls 3 [(0, .ref aO), (1, .int x1), (2, .int x2)] := hl
  exact B_X0_bottom_0 C0 hf s.heap [] ls hP hD hS hl

/-! ## RungPlay$GameOdds.reckonScore -/
abbrev rmX0_reckonScore : Room := { frames := 2, cells := 0, slots := 0, locals := 47 }
theorem m_X0_reckonScore_f20 : Cond.fieldLink RX0 20 RX0 "lengths" "LRungPlay$Grid;" ∈ wsX0_reckonScore := by decide +kernel
theorem in_X0_reckonScore_X0 : ∀ w ∈ wsX00, w ∈ wsX0_reckonScore := by decide +kernel
theorem m_X0_reckonScore_f23 : Cond.fieldLink RX0 23 RX0 "rules" "LRungPlay$Rules;" ∈ wsX0_reckonScore := by decide +kernel
theorem m_X0_reckonScore_f48 : Cond.fieldLink RX0 48 RX5 "kind" "I" ∈ wsX0_reckonScore := by decide +kernel
theorem in_X0_reckonScore_X5 : ∀ w ∈ wsX50, w ∈ wsX0_reckonScore := by decide +kernel
theorem m_X0_reckonScore_f33 : Cond.fieldLink RX0 33 RX0 "to" "I" ∈ wsX0_reckonScore := by decide +kernel
theorem m_X0_reckonScore_f14 : Cond.fieldLink RX0 14 RX0 "chances" "LRungPlay$Grid;" ∈ wsX0_reckonScore := by decide +kernel
theorem m_X0_reckonScore_k73 : Cond.constantLong RX0 73 (200) ∈ wsX0_reckonScore := by decide +kernel
def b_X0_reckonScore_45 (x1 : Int32) (x2 : Int32) (s0 : Int64) (s1 : Int32) (s2 : Int32) (r : (Nat → Int32)) (to : Int32) (un : Int64) (fc : (Nat → Int64)) (fl : (Nat → Int64)) : Option ((Nat → Int64) × (Nat → Int64)) :=
  (q_b1 (f_X1_put s2 s1 s0 7 49 fc) (fun f1 => (q_b1 (f_X1_put x1 x2 (0 : Int64) 7 49 fl) (fun f3 => (some (f1, f3))))))
def f_X0_reckonScore (x1 : Int32) (x2 : Int32) (x3 : Int32) (x4 : Int32) (r : (Nat → Int32)) (to : Int32) (un : Int64) (fc : (Nat → Int64)) (fl : (Nat → Int64)) : Option ((Nat → Int64) × (Nat → Int64)) :=
  (q_b1 (f_X5_gameWinner (r 6) x1 x2 r) (fun r5 => (if r5 = 0 then (if (x1 + x2) = (2 * to) then (q_b1 (f_X1_put x1 x2 (Int32.toInt64 (x3 * x3)) 7 49 fc) (fun f23 => (q_b1 (f_X1_put x1 x2 (200 : Int64) 7 49 fl) (fun f25 => (some (f23, f25)))))) else (q_b1 (f_X1_at (x1 + 1) x2 7 49 fc) (fun r9 => (q_b1 (f_X1_at x1 (x2 + 1) 7 49 fc) (fun r11 => (q_b1 (f_X1_put x1 x2 (((Int32.toInt64 x3) * r9) + ((Int32.toInt64 x4) * r11)) 7 49 fc) (fun f13 => (q_b1 (f_X0_bottom x1 x2 r to un f13 fl) (fun r15 => (q_b1 (f_X1_at (x1 + 1) x2 7 49 fl) (fun r17 => (q_b1 (f_X1_at x1 (x2 + 1) 7 49 fl) (fun r19 => (q_b1 (f_X1_put x1 x2 ((r15 + ((Int32.toInt64 x3) * r17)) + ((Int32.toInt64 x4) * r19)) 7 49 fl) (fun f21 => (some (f13, f21))))))))))))))))) else (if r5 = 1 then (q_b1 (f_X0_bottom x1 x2 r to un fc fl) (fun r28 => (b_X0_reckonScore_45 x1 x2 r28 x2 x1 r to un fc fl))) else (b_X0_reckonScore_45 x1 x2 (0 : Int64) x2 x1 r to un fc fl)))))
set_option maxHeartbeats 4000000 in
set_option maxRecDepth 100000 in
theorem B_X0_reckonScore_45 {p : Program} {l : Launch} {e : Env} {s : State} {m : MethodId} {args : Array Value} {below : List Frame} {meth : Method} {c : Code} {A : Nat → Prop} {dC : Nat → ClassId} {dI : Nat → Nat → Nat} {cI cJ cZ : ClassId} {aO aR gC gCc gL gLc : Nat} (C0 : q_C p s m args meth c (dC, dI) (q_T cI cJ cZ) A RX0 wsX0_reckonScore cX0_reckonScore 6 none) {x1 : Int32} {x2 : Int32} {s0 : Int64} {s1 : Int32} {s2 : Int32} {r : (Nat → Int32)} {to : Int32} {un : Int64} {fc : (Nat → Int64)} {fl : (Nat → Int64)} {R : (Nat → Int64) × (Nat → Int64)} (hf : b_X0_reckonScore_45 x1 x2 s0 s1 s2 r to un fc fl = some R) : ∀ (H : Heap) (locs : List Loc) (ls : Array Slot), va_P (dC, dI) vwCl [(aO, .inr (0, [.ref aR, .ref gC, .ref gL, .int to, .long un])), (aR, .inr (5, [.int (r 0), .int (r 1), .int (r 2), .int (r 3), .int (r 4), .int (r 5), .int (r 6)])), (gC, .inr (1, [.int 7, .ref gCc])), (gCc, .inl (cJ, 49, .inr (.inl fc))), (gL, .inr (1, [.int 7, .ref gLc])), (gLc, .inl (cJ, 49, .inr (.inl fl)))] H → va_D A [(aO, .inr (0, [.ref aR, .ref gC, .ref gL, .int to, .long un])), (aR, .inr (5, [.int (r 0), .int (r 1), .int (r 2), .int (r 3), .int (r 4), .int (r 5), .int (r 6)])), (gC, .inr (1, [.int 7, .ref gCc])), (gCc, .inl (cJ, 49, .inr (.inl fc))), (gL, .inr (1, [.int 7, .ref gLc])), (gLc, .inl (cJ, 49, .inr (.inl fl)))] → va_S A s.heap H locs → lv_has ls 6 [(0, .ref aO), (1, .int x1), (2, .int x2)] → W p l e rmX0_reckonScore s m args below meth c H locs 0 0 (MQ below (qV (dC, dI) (q_T cI cJ cZ) [(aO, .inr (0, [.ref aR, .ref gC, .ref gL, .int to, .long un])), (aR, .inr (5, [.int (r 0), .int (r 1), .int (r 2), .int (r 3), .int (r 4), .int (r 5), .int (r 6)])), (gC, .inr (1, [.int 7, .ref gCc])), (gCc, .inl (cJ, 49, .inr (.inl R.1))), (gL, .inr (1, [.int 7, .ref gLc])), (gLc, .inl (cJ, 49, .inr (.inl R.2)))] A) args s 0 0 A) (F0 m 45 ls [.long s0, .int s1, .int s2, .ref gC]) := by
  obtain ⟨hx, hb, hml, hown, hts, hrt, hlk, hK, hX, hA⟩ := id C0
  intro H locs ls hP hD hS hl
  obtain ⟨f1, hg2, hf⟩ := q_e1 hf
  refine q_endV (wc := [(gC, .inr (1, [.int 7, .ref gCc])), (gCc, .inl (cJ, 49, .inr (.inl fc)))]) (wr := [(aO, .inr (0, [.ref aR, .ref gC, .ref gL, .int to, .long un])), (aR, .inr (5, [.int (r 0), .int (r 1), .int (r 2), .int (r 3), .int (r 4), .int (r 5), .int (r 6)])), (gL, .inr (1, [.int 7, .ref gLc])), (gLc, .inl (cJ, 49, .inr (.inl fl)))]) (w1 := [(gC, .inr (1, [.int 7, .ref gCc])), (gCc, .inl (cJ, 49, .inr (.inl f1)))]) C0 hP hD hS [2, 3] [0, 1, 4, 5] rfl rfl (by decide) (by decide) (q_runV (TT := TX1) (N := 2) (ci := 1) (q0 := 0) C0 (c_X1_put (l := l) hg2) (cwV 3 hts gX0_reckonScore_X1_put rfl rfl rfl (by decide +kernel) ⟨Nat.le_of_ble_eq_true rfl, Nat.le_of_ble_eq_true rfl⟩) hP hD hS [2, 3] rfl (by decide) rfl rfl rfl rfl hl.1 (Nat.le_of_ble_eq_true rfl) dX0_reckonScore_45) (fun H locs hP hD hS => ?_)
  have hP : va_P (dC, dI) vwCl [(aO, .inr (0, [.ref aR, .ref gC, .ref gL, .int to, .long un])), (aR, .inr (5, [.int (r 0), .int (r 1), .int (r 2), .int (r 3), .int (r 4), .int (r 5), .int (r 6)])), (gL, .inr (1, [.int 7, .ref gLc])), (gLc, .inl (cJ, 49, .inr (.inl fl))), (gC, .inr (1, [.int 7, .ref gCc])), (gCc, .inl (cJ, 49, .inr (.inl f1)))] H := hP
  have hD : va_D A [(aO, .inr (0, [.ref aR, .ref gC, .ref gL, .int to, .long un])), (aR, .inr (5, [.int (r 0), .int (r 1), .int (r 2), .int (r 3), .int (r 4), .int (r 5), .int (r 6)])), (gL, .inr (1, [.int 7, .ref gLc])), (gLc, .inl (cJ, 49, .inr (.inl fl))), (gC, .inr (1, [.int 7, .ref gCc])), (gCc, .inl (cJ, 49, .inr (.inl f1)))] := hD
  refine lv_aload_n hx hb dX0_reckonScore_48 rfl (lv_at hl 0 rfl) ?_
  refine q_get (TT := TX0) C0 in_X0_reckonScore_X0 2 m_X0_reckonScore_f20 hP 0 rfl rfl (by decide) rfl rfl dX0_reckonScore_49 ?_
  refine lv_iload_n hx hb dX0_reckonScore_52 rfl (lv_at hl 1 rfl) ?_
  refine lv_iload_n hx hb dX0_reckonScore_53 rfl (lv_at hl 2 rfl) ?_
  refine lv_lconst (v := 0) hx hb dX0_reckonScore_54 (by decide) ?_
  obtain ⟨f3, hg4, hf⟩ := q_e1 hf
  refine q_endV (wc := [(gL, .inr (1, [.int 7, .ref gLc])), (gLc, .inl (cJ, 49, .inr (.inl fl)))]) (wr := [(aO, .inr (0, [.ref aR, .ref gC, .ref gL, .int to, .long un])), (aR, .inr (5, [.int (r 0), .int (r 1), .int (r 2), .int (r 3), .int (r 4), .int (r 5), .int (r 6)])), (gC, .inr (1, [.int 7, .ref gCc])), (gCc, .inl (cJ, 49, .inr (.inl f1)))]) (w1 := [(gL, .inr (1, [.int 7, .ref gLc])), (gLc, .inl (cJ, 49, .inr (.inl f3)))]) C0 hP hD hS [2, 3] [0, 1, 4, 5] rfl rfl (by decide) (by decide) (q_runV (TT := TX1) (N := 2) (ci := 1) (q0 := 0) C0 (c_X1_put (l := l) hg4) (cwV 3 hts gX0_reckonScore_X1_put rfl rfl rfl (by decide +kernel) ⟨Nat.le_of_ble_eq_true rfl, Nat.le_of_ble_eq_true rfl⟩) hP hD hS [2, 3] rfl (by decide) rfl rfl rfl rfl hl.1 (Nat.le_of_ble_eq_true rfl) dX0_reckonScore_55) (fun H locs hP hD hS => ?_)
  have hP : va_P (dC, dI) vwCl [(aO, .inr (0, [.ref aR, .ref gC, .ref gL, .int to, .long un])), (aR, .inr (5, [.int (r 0), .int (r 1), .int (r 2), .int (r 3), .int (r 4), .int (r 5), .int (r 6)])), (gC, .inr (1, [.int 7, .ref gCc])), (gCc, .inl (cJ, 49, .inr (.inl f1))), (gL, .inr (1, [.int 7, .ref gLc])), (gLc, .inl (cJ, 49, .inr (.inl f3)))] H := hP
  have hD : va_D A [(aO, .inr (0, [.ref aR, .ref gC, .ref gL, .int to, .long un])), (aR, .inr (5, [.int (r 0), .int (r 1), .int (r 2), .int (r 3), .int (r 4), .int (r 5), .int (r 6)])), (gC, .inr (1, [.int 7, .ref gCc])), (gCc, .inl (cJ, 49, .inr (.inl f1))), (gL, .inr (1, [.int 7, .ref gLc])), (gLc, .inl (cJ, 49, .inr (.inl f3)))] := hD
  refine lv_goto (tgt := 186) hx hb dX0_reckonScore_58 (by decide) ?_
  obtain rfl := Option.some.inj hf
  exact q_retV C0 hP hD hS dX0_reckonScore_186
set_option maxHeartbeats 4000000 in
set_option maxRecDepth 100000 in
theorem B_X0_reckonScore_0 {p : Program} {l : Launch} {e : Env} {s : State} {m : MethodId} {args : Array Value} {below : List Frame} {meth : Method} {c : Code} {A : Nat → Prop} {dC : Nat → ClassId} {dI : Nat → Nat → Nat} {cI cJ cZ : ClassId} {aO aR gC gCc gL gLc : Nat} (C0 : q_C p s m args meth c (dC, dI) (q_T cI cJ cZ) A RX0 wsX0_reckonScore cX0_reckonScore 6 none) {x1 : Int32} {x2 : Int32} {x3 : Int32} {x4 : Int32} {r : (Nat → Int32)} {to : Int32} {un : Int64} {fc : (Nat → Int64)} {fl : (Nat → Int64)} {R : (Nat → Int64) × (Nat → Int64)} (hf : f_X0_reckonScore x1 x2 x3 x4 r to un fc fl = some R) : ∀ (H : Heap) (locs : List Loc) (ls : Array Slot), va_P (dC, dI) vwCl [(aO, .inr (0, [.ref aR, .ref gC, .ref gL, .int to, .long un])), (aR, .inr (5, [.int (r 0), .int (r 1), .int (r 2), .int (r 3), .int (r 4), .int (r 5), .int (r 6)])), (gC, .inr (1, [.int 7, .ref gCc])), (gCc, .inl (cJ, 49, .inr (.inl fc))), (gL, .inr (1, [.int 7, .ref gLc])), (gLc, .inl (cJ, 49, .inr (.inl fl)))] H → va_D A [(aO, .inr (0, [.ref aR, .ref gC, .ref gL, .int to, .long un])), (aR, .inr (5, [.int (r 0), .int (r 1), .int (r 2), .int (r 3), .int (r 4), .int (r 5), .int (r 6)])), (gC, .inr (1, [.int 7, .ref gCc])), (gCc, .inl (cJ, 49, .inr (.inl fc))), (gL, .inr (1, [.int 7, .ref gLc])), (gLc, .inl (cJ, 49, .inr (.inl fl)))] → va_S A s.heap H locs → lv_has ls 6 [(0, .ref aO), (1, .int x1), (2, .int x2), (3, .int x3), (4, .int x4)] → W p l e rmX0_reckonScore s m args below meth c H locs 0 0 (MQ below (qV (dC, dI) (q_T cI cJ cZ) [(aO, .inr (0, [.ref aR, .ref gC, .ref gL, .int to, .long un])), (aR, .inr (5, [.int (r 0), .int (r 1), .int (r 2), .int (r 3), .int (r 4), .int (r 5), .int (r 6)])), (gC, .inr (1, [.int 7, .ref gCc])), (gCc, .inl (cJ, 49, .inr (.inl R.1))), (gL, .inr (1, [.int 7, .ref gLc])), (gLc, .inl (cJ, 49, .inr (.inl R.2)))] A) args s 0 0 A) (F0 m 0 ls []) := by
  obtain ⟨hx, hb, hml, hown, hts, hrt, hlk, hK, hX, hA⟩ := id C0
  intro H locs ls hP hD hS hl
  refine lv_aload_n hx hb dX0_reckonScore_0 rfl (lv_at hl 0 rfl) ?_
  refine q_get (TT := TX0) C0 in_X0_reckonScore_X0 0 m_X0_reckonScore_f23 hP 0 rfl rfl (by decide) rfl rfl dX0_reckonScore_1 ?_
  refine lv_aload_n hx hb dX0_reckonScore_4 rfl (lv_at hl 0 rfl) ?_
  refine q_get (TT := TX0) C0 in_X0_reckonScore_X0 0 m_X0_reckonScore_f23 hP 0 rfl rfl (by decide) rfl rfl dX0_reckonScore_5 ?_
  refine q_get (TT := TX5) C0 in_X0_reckonScore_X5 6 m_X0_reckonScore_f48 hP 1 rfl rfl (by decide) rfl rfl dX0_reckonScore_8 ?_
  refine lv_iload_n hx hb dX0_reckonScore_11 rfl (lv_at hl 1 rfl) ?_
  refine lv_iload_n hx hb dX0_reckonScore_12 rfl (lv_at hl 2 rfl) ?_
  obtain ⟨r5, hg6, hf⟩ := q_e1 hf
  refine q_endI (wc := [(aR, .inr (5, [.int (r 0), .int (r 1), .int (r 2), .int (r 3), .int (r 4), .int (r 5), .int (r 6)]))]) (wr := [(aO, .inr (0, [.ref aR, .ref gC, .ref gL, .int to, .long un])), (gC, .inr (1, [.int 7, .ref gCc])), (gCc, .inl (cJ, 49, .inr (.inl fc))), (gL, .inr (1, [.int 7, .ref gLc])), (gLc, .inl (cJ, 49, .inr (.inl fl)))]) (w1 := [(aR, .inr (5, [.int (r 0), .int (r 1), .int (r 2), .int (r 3), .int (r 4), .int (r 5), .int (r 6)]))]) (rv := r5) C0 hP hD hS [1] [0, 2, 3, 4, 5] rfl rfl (by decide) (by decide) (q_runV (TT := TX5) (N := 7) (ci := 5) (q0 := 0) C0 (c_X5_gameWinner (l := l) hg6) (cwV 3 hts gX0_reckonScore_X5_gameWinner rfl rfl rfl (by decide +kernel) ⟨Nat.le_of_ble_eq_true rfl, Nat.le_of_ble_eq_true rfl⟩) hP hD hS [1] rfl (by decide) rfl rfl rfl rfl hl.1 (Nat.le_of_ble_eq_true rfl) dX0_reckonScore_13) (fun H locs hP hD hS => ?_)
  have hP : va_P (dC, dI) vwCl [(aO, .inr (0, [.ref aR, .ref gC, .ref gL, .int to, .long un])), (gC, .inr (1, [.int 7, .ref gCc])), (gCc, .inl (cJ, 49, .inr (.inl fc))), (gL, .inr (1, [.int 7, .ref gLc])), (gLc, .inl (cJ, 49, .inr (.inl fl))), (aR, .inr (5, [.int (r 0), .int (r 1), .int (r 2), .int (r 3), .int (r 4), .int (r 5), .int (r 6)]))] H := hP
  have hD : va_D A [(aO, .inr (0, [.ref aR, .ref gC, .ref gL, .int to, .long un])), (gC, .inr (1, [.int 7, .ref gCc])), (gCc, .inl (cJ, 49, .inr (.inl fc))), (gL, .inr (1, [.int 7, .ref gLc])), (gLc, .inl (cJ, 49, .inr (.inl fl))), (aR, .inr (5, [.int (r 0), .int (r 1), .int (r 2), .int (r 3), .int (r 4), .int (r 5), .int (r 6)]))] := hD
  refine lv_istore (lv' := [(5, .int r5), (0, .ref aO), (1, .int x1), (2, .int x2), (3, .int x3), (4, .int x4)]) hx hb dX0_reckonScore_16 hl (by decide) rfl (fun ls hl => ?_)
  refine lv_iload hx hb dX0_reckonScore_18 (lv_at hl 0 rfl) ?_
  refine lv_if_eq (tgt := 61) hx hb dX0_reckonScore_20 (by decide) (fun hc7 => ?_) (fun hc7 => ?_)
  · have hf := q_if hf hc7
    refine lv_iload_n hx hb dX0_reckonScore_61 rfl (lv_at hl 2 rfl) ?_
    refine lv_iload_n hx hb dX0_reckonScore_62 rfl (lv_at hl 3 rfl) ?_
    refine lv_iadd hx hb dX0_reckonScore_63 ?_
    refine lv_iconst (v := 2) hx hb dX0_reckonScore_64 (by decide) ?_
    refine lv_aload_n hx hb dX0_reckonScore_65 rfl (lv_at hl 1 rfl) ?_
    refine q_get (TT := TX0) C0 in_X0_reckonScore_X0 3 m_X0_reckonScore_f33 hP 0 rfl rfl (by decide) rfl rfl dX0_reckonScore_66 ?_
    refine lv_imul hx hb dX0_reckonScore_69 ?_
    refine lv_icmp_ne (tgt := 101) hx hb dX0_reckonScore_70 (by decide) (fun hc8 => ?_) (fun hc8 => ?_)
    · have hf := q_nif hf hc8
      refine lv_aload_n hx hb dX0_reckonScore_101 rfl (lv_at hl 1 rfl) ?_
      refine q_get (TT := TX0) C0 in_X0_reckonScore_X0 1 m_X0_reckonScore_f14 hP 0 rfl rfl (by decide) rfl rfl dX0_reckonScore_102 ?_
      refine lv_iload_n hx hb dX0_reckonScore_105 rfl (lv_at hl 2 rfl) ?_
      refine lv_iload_n hx hb dX0_reckonScore_106 rfl (lv_at hl 3 rfl) ?_
      refine lv_iload_n hx hb dX0_reckonScore_107 rfl (lv_at hl 4 rfl) ?_
      refine lv_i2l (v := Int32.toInt64 x3) hx hb dX0_reckonScore_108 rfl ?_
      refine lv_aload_n hx hb dX0_reckonScore_109 rfl (lv_at hl 1 rfl) ?_
      refine q_get (TT := TX0) C0 in_X0_reckonScore_X0 1 m_X0_reckonScore_f14 hP 0 rfl rfl (by decide) rfl rfl dX0_reckonScore_110 ?_
      refine lv_iload_n hx hb dX0_reckonScore_113 rfl (lv_at hl 2 rfl) ?_
      refine lv_iconst (v := 1) hx hb dX0_reckonScore_114 (by decide) ?_
      refine lv_iadd hx hb dX0_reckonScore_115 ?_
      refine lv_iload_n hx hb dX0_reckonScore_116 rfl (lv_at hl 3 rfl) ?_
      obtain ⟨r9, hg10, hf⟩ := q_e1 hf
      refine q_endL (wc := [(gC, .inr (1, [.int 7, .ref gCc])), (gCc, .inl (cJ, 49, .inr (.inl fc)))]) (wr := [(aO, .inr (0, [.ref aR, .ref gC, .ref gL, .int to, .long un])), (gL, .inr (1, [.int 7, .ref gLc])), (gLc, .inl (cJ, 49, .inr (.inl fl))), (aR, .inr (5, [.int (r 0), .int (r 1), .int (r 2), .int (r 3), .int (r 4), .int (r 5), .int (r 6)]))]) (w1 := [(gC, .inr (1, [.int 7, .ref gCc])), (gCc, .inl (cJ, 49, .inr (.inl fc)))]) (rv := r9) C0 hP hD hS [1, 2] [0, 3, 4, 5] rfl rfl (by decide) (by decide) (q_runV (TT := TX1) (N := 2) (ci := 1) (q0 := 0) C0 (c_X1_at (l := l) hg10) (cwV 2 hts gX0_reckonScore_X1_at rfl rfl rfl (by decide +kernel) ⟨Nat.le_of_ble_eq_true rfl, Nat.le_of_ble_eq_true rfl⟩) hP hD hS [1, 2] rfl (by decide) rfl rfl rfl rfl hl.1 (Nat.le_of_ble_eq_true rfl) dX0_reckonScore_117) (fun H locs hP hD hS => ?_)
      have hP : va_P (dC, dI) vwCl [(aO, .inr (0, [.ref aR, .ref gC, .ref gL, .int to, .long un])), (gL, .inr (1, [.int 7, .ref gLc])), (gLc, .inl (cJ, 49, .inr (.inl fl))), (aR, .inr (5, [.int (r 0), .int (r 1), .int (r 2), .int (r 3), .int (r 4), .int (r 5), .int (r 6)])), (gC, .inr (1, [.int 7, .ref gCc])), (gCc, .inl (cJ, 49, .inr (.inl fc)))] H := hP
      have hD : va_D A [(aO, .inr (0, [.ref aR, .ref gC, .ref gL, .int to, .long un])), (gL, .inr (1, [.int 7, .ref gLc])), (gLc, .inl (cJ, 49, .inr (.inl fl))), (aR, .inr (5, [.int (r 0), .int (r 1), .int (r 2), .int (r 3), .int (r 4), .int (r 5), .int (r 6)])), (gC, .inr (1, [.int 7, .ref gCc])), (gCc, .inl (cJ, 49, .inr (.inl fc)))] := hD
      refine lv_lmul hx hb dX0_reckonScore_120 ?_
      refine lv_iload hx hb dX0_reckonScore_121 (lv_at hl 5 rfl) ?_
      refine lv_i2l (v := Int32.toInt64 x4) hx hb dX0_reckonScore_123 rfl ?_
      refine lv_aload_n hx hb dX0_reckonScore_124 rfl (lv_at hl 1 rfl) ?_
      refine q_get (TT := TX0) C0 in_X0_reckonScore_X0 1 m_X0_reckonScore_f14 hP 0 rfl rfl (by decide) rfl rfl dX0_reckonScore_125 ?_
      refine lv_iload_n hx hb dX0_reckonScore_128 rfl (lv_at hl 2 rfl) ?_
      refine lv_iload_n hx hb dX0_reckonScore_129 rfl (lv_at hl 3 rfl) ?_
      refine lv_iconst (v := 1) hx hb dX0_reckonScore_130 (by decide) ?_
      refine lv_iadd hx hb dX0_reckonScore_131 ?_
      obtain ⟨r11, hg12, hf⟩ := q_e1 hf
      refine q_endL (wc := [(gC, .inr (1, [.int 7, .ref gCc])), (gCc, .inl (cJ, 49, .inr (.inl fc)))]) (wr := [(aO, .inr (0, [.ref aR, .ref gC, .ref gL, .int to, .long un])), (gL, .inr (1, [.int 7, .ref gLc])), (gLc, .inl (cJ, 49, .inr (.inl fl))), (aR, .inr (5, [.int (r 0), .int (r 1), .int (r 2), .int (r 3), .int (r 4), .int (r 5), .int (r 6)]))]) (w1 := [(gC, .inr (1, [.int 7, .ref gCc])), (gCc, .inl (cJ, 49, .inr (.inl fc)))]) (rv := r11) C0 hP hD hS [4, 5] [0, 1, 2, 3] rfl rfl (by decide) (by decide) (q_runV (TT := TX1) (N := 2) (ci := 1) (q0 := 0) C0 (c_X1_at (l := l) hg12) (cwV 2 hts gX0_reckonScore_X1_at rfl rfl rfl (by decide +kernel) ⟨Nat.le_of_ble_eq_true rfl, Nat.le_of_ble_eq_true rfl⟩) hP hD hS [4, 5] rfl (by decide) rfl rfl rfl rfl hl.1 (Nat.le_of_ble_eq_true rfl) dX0_reckonScore_132) (fun H locs hP hD hS => ?_)
      have hP : va_P (dC, dI) vwCl [(aO, .inr (0, [.ref aR, .ref gC, .ref gL, .int to, .long un])), (gL, .inr (1, [.int 7, .ref gLc])), (gLc, .inl (cJ, 49, .inr (.inl fl))), (aR, .inr (5, [.int (r 0), .int (r 1), .int (r 2), .int (r 3), .int (r 4), .int (r 5), .int (r 6)])), (gC, .inr (1, [.int 7, .ref gCc])), (gCc, .inl (cJ, 49, .inr (.inl fc)))] H := hP
      have hD : va_D A [(aO, .inr (0, [.ref aR, .ref gC, .ref gL, .int to, .long un])), (gL, .inr (1, [.int 7, .ref gLc])), (gLc, .inl (cJ, 49, .inr (.inl fl))), (aR, .inr (5, [.int (r 0), .int (r 1), .int (r 2), .int (r 3), .int (r 4), .int (r 5), .int (r 6)])), (gC, .inr (1, [.int 7, .ref gCc])), (gCc, .inl (cJ, 49, .inr (.inl fc)))] := hD
      refine lv_lmul hx hb dX0_reckonScore_135 ?_
      refine lv_ladd hx hb dX0_reckonScore_136 ?_
      obtain ⟨f13, hg14, hf⟩ := q_e1 hf
      refine q_endV (wc := [(gC, .inr (1, [.int 7, .ref gCc])), (gCc, .inl (cJ, 49, .inr (.inl fc)))]) (wr := [(aO, .inr (0, [.ref aR, .ref gC, .ref gL, .int to, .long un])), (gL, .inr (1, [.int 7, .ref gLc])), (gLc, .inl (cJ, 49, .inr (.inl fl))), (aR, .inr (5, [.int (r 0), .int (r 1), .int (r 2), .int (r 3), .int (r 4), .int (r 5), .int (r 6)]))]) (w1 := [(gC, .inr (1, [.int 7, .ref gCc])), (gCc, .inl (cJ, 49, .inr (.inl f13)))]) C0 hP hD hS [4, 5] [0, 1, 2, 3] rfl rfl (by decide) (by decide) (q_runV (TT := TX1) (N := 2) (ci := 1) (q0 := 0) C0 (c_X1_put (l := l) hg14) (cwV 3 hts gX0_reckonScore_X1_put rfl rfl rfl (by decide +kernel) ⟨Nat.le_of_ble_eq_true rfl, Nat.le_of_ble_eq_true rfl⟩) hP hD hS [4, 5] rfl (by decide) rfl rfl rfl rfl hl.1 (Nat.le_of_ble_eq_true rfl) dX0_reckonScore_137) (fun H locs hP hD hS => ?_)
      have hP : va_P (dC, dI) vwCl [(aO, .inr (0, [.ref aR, .ref gC, .ref gL, .int to, .long un])), (gL, .inr (1, [.int 7, .ref gLc])), (gLc, .inl (cJ, 49, .inr (.inl fl))), (aR, .inr (5, [.int (r 0), .int (r 1), .int (r 2), .int (r 3), .int (r 4), .int (r 5), .int (r 6)])), (gC, .inr (1, [.int 7, .ref gCc])), (gCc, .inl (cJ, 49, .inr (.inl f13)))] H := hP
      have hD : va_D A [(aO, .inr (0, [.ref aR, .ref gC, .ref gL, .int to, .long un])), (gL, .inr (1, [.int 7, .ref gLc])), (gLc, .inl (cJ, 49, .inr (.inl fl))), (aR, .inr (5, [.int (r 0), .int (r 1), .int (r 2), .int (r 3), .int (r 4), .int (r 5), .int (r 6)])), (gC, .inr (1, [.int 7, .ref gCc])), (gCc, .inl (cJ, 49, .inr (.inl f13)))] := hD
      refine lv_aload_n hx hb dX0_reckonScore_140 rfl (lv_at hl 1 rfl) ?_
      refine q_get (TT := TX0) C0 in_X0_reckonScore_X0 2 m_X0_reckonScore_f20 hP 0 rfl rfl (by decide) rfl rfl dX0_reckonScore_141 ?_
      refine lv_iload_n hx hb dX0_reckonScore_144 rfl (lv_at hl 2 rfl) ?_
      refine lv_iload_n hx hb dX0_reckonScore_145 rfl (lv_at hl 3 rfl) ?_
      refine lv_aload_n hx hb dX0_reckonScore_146 rfl (lv_at hl 1 rfl) ?_
      refine lv_iload_n hx hb dX0_reckonScore_147 rfl (lv_at hl 2 rfl) ?_
      refine lv_iload_n hx hb dX0_reckonScore_148 rfl (lv_at hl 3 rfl) ?_
      obtain ⟨r15, hg16, hf⟩ := q_e1 hf
      refine q_endL (wc := [(aO, .inr (0, [.ref aR, .ref gC, .ref gL, .int to, .long un])), (aR, .inr (5, [.int (r 0), .int (r 1), .int (r 2), .int (r 3), .int (r 4), .int (r 5), .int (r 6)])), (gC, .inr (1, [.int 7, .ref gCc])), (gCc, .inl (cJ, 49, .inr (.inl f13))), (gL, .inr (1, [.int 7, .ref gLc])), (gLc, .inl (cJ, 49, .inr (.inl fl)))]) (wr := []) (w1 := [(aO, .inr (0, [.ref aR, .ref gC, .ref gL, .int to, .long un])), (aR, .inr (5, [.int (r 0), .int (r 1), .int (r 2), .int (r 3), .int (r 4), .int (r 5), .int (r 6)])), (gC, .inr (1, [.int 7, .ref gCc])), (gCc, .inl (cJ, 49, .inr (.inl f13))), (gL, .inr (1, [.int 7, .ref gLc])), (gLc, .inl (cJ, 49, .inr (.inl fl)))]) (rv := r15) C0 hP hD hS [0, 3, 4, 5, 1, 2] [] rfl rfl (by decide) (by decide) (q_runV (TT := TX0) (N := 5) (ci := 0) (q0 := 0) C0 (c_X0_bottom (l := l) hg16) (cwV 2 hts gX0_reckonScore_X0_bottom rfl rfl rfl (by decide +kernel) ⟨Nat.le_of_ble_eq_true rfl, Nat.le_of_ble_eq_true rfl⟩) hP hD hS [0, 3, 4, 5, 1, 2] rfl (by decide) rfl rfl rfl rfl hl.1 (Nat.le_of_ble_eq_true rfl) dX0_reckonScore_149) (fun H locs hP hD hS => ?_)
      have hP : va_P (dC, dI) vwCl [(aO, .inr (0, [.ref aR, .ref gC, .ref gL, .int to, .long un])), (aR, .inr (5, [.int (r 0), .int (r 1), .int (r 2), .int (r 3), .int (r 4), .int (r 5), .int (r 6)])), (gC, .inr (1, [.int 7, .ref gCc])), (gCc, .inl (cJ, 49, .inr (.inl f13))), (gL, .inr (1, [.int 7, .ref gLc])), (gLc, .inl (cJ, 49, .inr (.inl fl)))] H := hP
      have hD : va_D A [(aO, .inr (0, [.ref aR, .ref gC, .ref gL, .int to, .long un])), (aR, .inr (5, [.int (r 0), .int (r 1), .int (r 2), .int (r 3), .int (r 4), .int (r 5), .int (r 6)])), (gC, .inr (1, [.int 7, .ref gCc])), (gCc, .inl (cJ, 49, .inr (.inl f13))), (gL, .inr (1, [.int 7, .ref gLc])), (gLc, .inl (cJ, 49, .inr (.inl fl)))] := hD
      refine lv_iload_n hx hb dX0_reckonScore_152 rfl (lv_at hl 4 rfl) ?_
      refine lv_i2l (v := Int32.toInt64 x3) hx hb dX0_reckonScore_153 rfl ?_
      refine lv_aload_n hx hb dX0_reckonScore_154 rfl (lv_at hl 1 rfl) ?_
      refine q_get (TT := TX0) C0 in_X0_reckonScore_X0 2 m_X0_reckonScore_f20 hP 0 rfl rfl (by decide) rfl rfl dX0_reckonScore_155 ?_
      refine lv_iload_n hx hb dX0_reckonScore_158 rfl (lv_at hl 2 rfl) ?_
      refine lv_iconst (v := 1) hx hb dX0_reckonScore_159 (by decide) ?_
      refine lv_iadd hx hb dX0_reckonScore_160 ?_
      refine lv_iload_n hx hb dX0_reckonScore_161 rfl (lv_at hl 3 rfl) ?_
      obtain ⟨r17, hg18, hf⟩ := q_e1 hf
      refine q_endL (wc := [(gL, .inr (1, [.int 7, .ref gLc])), (gLc, .inl (cJ, 49, .inr (.inl fl)))]) (wr := [(aO, .inr (0, [.ref aR, .ref gC, .ref gL, .int to, .long un])), (aR, .inr (5, [.int (r 0), .int (r 1), .int (r 2), .int (r 3), .int (r 4), .int (r 5), .int (r 6)])), (gC, .inr (1, [.int 7, .ref gCc])), (gCc, .inl (cJ, 49, .inr (.inl f13)))]) (w1 := [(gL, .inr (1, [.int 7, .ref gLc])), (gLc, .inl (cJ, 49, .inr (.inl fl)))]) (rv := r17) C0 hP hD hS [4, 5] [0, 1, 2, 3] rfl rfl (by decide) (by decide) (q_runV (TT := TX1) (N := 2) (ci := 1) (q0 := 0) C0 (c_X1_at (l := l) hg18) (cwV 2 hts gX0_reckonScore_X1_at rfl rfl rfl (by decide +kernel) ⟨Nat.le_of_ble_eq_true rfl, Nat.le_of_ble_eq_true rfl⟩) hP hD hS [4, 5] rfl (by decide) rfl rfl rfl rfl hl.1 (Nat.le_of_ble_eq_true rfl) dX0_reckonScore_162) (fun H locs hP hD hS => ?_)
      have hP : va_P (dC, dI) vwCl [(aO, .inr (0, [.ref aR, .ref gC, .ref gL, .int to, .long un])), (aR, .inr (5, [.int (r 0), .int (r 1), .int (r 2), .int (r 3), .int (r 4), .int (r 5), .int (r 6)])), (gC, .inr (1, [.int 7, .ref gCc])), (gCc, .inl (cJ, 49, .inr (.inl f13))), (gL, .inr (1, [.int 7, .ref gLc])), (gLc, .inl (cJ, 49, .inr (.inl fl)))] H := hP
      have hD : va_D A [(aO, .inr (0, [.ref aR, .ref gC, .ref gL, .int to, .long un])), (aR, .inr (5, [.int (r 0), .int (r 1), .int (r 2), .int (r 3), .int (r 4), .int (r 5), .int (r 6)])), (gC, .inr (1, [.int 7, .ref gCc])), (gCc, .inl (cJ, 49, .inr (.inl f13))), (gL, .inr (1, [.int 7, .ref gLc])), (gLc, .inl (cJ, 49, .inr (.inl fl)))] := hD
      refine lv_lmul hx hb dX0_reckonScore_165 ?_
      refine lv_ladd hx hb dX0_reckonScore_166 ?_
      refine lv_iload hx hb dX0_reckonScore_167 (lv_at hl 5 rfl) ?_
      refine lv_i2l (v := Int32.toInt64 x4) hx hb dX0_reckonScore_169 rfl ?_
      refine lv_aload_n hx hb dX0_reckonScore_170 rfl (lv_at hl 1 rfl) ?_
      refine q_get (TT := TX0) C0 in_X0_reckonScore_X0 2 m_X0_reckonScore_f20 hP 0 rfl rfl (by decide) rfl rfl dX0_reckonScore_171 ?_
      refine lv_iload_n hx hb dX0_reckonScore_174 rfl (lv_at hl 2 rfl) ?_
      refine lv_iload_n hx hb dX0_reckonScore_175 rfl (lv_at hl 3 rfl) ?_
      refine lv_iconst (v := 1) hx hb dX0_reckonScore_176 (by decide) ?_
      refine lv_iadd hx hb dX0_reckonScore_177 ?_
      obtain ⟨r19, hg20, hf⟩ := q_e1 hf
      refine q_endL (wc := [(gL, .inr (1, [.int 7, .ref gLc])), (gLc, .inl (cJ, 49, .inr (.inl fl)))]) (wr := [(aO, .inr (0, [.ref aR, .ref gC, .ref gL, .int to, .long un])), (aR, .inr (5, [.int (r 0), .int (r 1), .int (r 2), .int (r 3), .int (r 4), .int (r 5), .int (r 6)])), (gC, .inr (1, [.int 7, .ref gCc])), (gCc, .inl (cJ, 49, .inr (.inl f13)))]) (w1 := [(gL, .inr (1, [.int 7, .ref gLc])), (gLc, .inl (cJ, 49, .inr (.inl fl)))]) (rv := r19) C0 hP hD hS [4, 5] [0, 1, 2, 3] rfl rfl (by decide) (by decide) (q_runV (TT := TX1) (N := 2) (ci := 1) (q0 := 0) C0 (c_X1_at (l := l) hg20) (cwV 2 hts gX0_reckonScore_X1_at rfl rfl rfl (by decide +kernel) ⟨Nat.le_of_ble_eq_true rfl, Nat.le_of_ble_eq_true rfl⟩) hP hD hS [4, 5] rfl (by decide) rfl rfl rfl rfl hl.1 (Nat.le_of_ble_eq_true rfl) dX0_reckonScore_178) (fun H locs hP hD hS => ?_)
      have hP : va_P (dC, dI) vwCl [(aO, .inr (0, [.ref aR, .ref gC, .ref gL, .int to, .long un])), (aR, .inr (5, [.int (r 0), .int (r 1), .int (r 2), .int (r 3), .int (r 4), .int (r 5), .int (r 6)])), (gC, .inr (1, [.int 7, .ref gCc])), (gCc, .inl (cJ, 49, .inr (.inl f13))), (gL, .inr (1, [.int 7, .ref gLc])), (gLc, .inl (cJ, 49, .inr (.inl fl)))] H := hP
      have hD : va_D A [(aO, .inr (0, [.ref aR, .ref gC, .ref gL, .int to, .long un])), (aR, .inr (5, [.int (r 0), .int (r 1), .int (r 2), .int (r 3), .int (r 4), .int (r 5), .int (r 6)])), (gC, .inr (1, [.int 7, .ref gCc])), (gCc, .inl (cJ, 49, .inr (.inl f13))), (gL, .inr (1, [.int 7, .ref gLc])), (gLc, .inl (cJ, 49, .inr (.inl fl)))] := hD
      refine lv_lmul hx hb dX0_reckonScore_181 ?_
      refine lv_ladd hx hb dX0_reckonScore_182 ?_
      obtain ⟨f21, hg22, hf⟩ := q_e1 hf
      refine q_endV (wc := [(gL, .inr (1, [.int 7, .ref gLc])), (gLc, .inl (cJ, 49, .inr (.inl fl)))]) (wr := [(aO, .inr (0, [.ref aR, .ref gC, .ref gL, .int to, .long un])), (aR, .inr (5, [.int (r 0), .int (r 1), .int (r 2), .int (r 3), .int (r 4), .int (r 5), .int (r 6)])), (gC, .inr (1, [.int 7, .ref gCc])), (gCc, .inl (cJ, 49, .inr (.inl f13)))]) (w1 := [(gL, .inr (1, [.int 7, .ref gLc])), (gLc, .inl (cJ, 49, .inr (.inl f21)))]) C0 hP hD hS [4, 5] [0, 1, 2, 3] rfl rfl (by decide) (by decide) (q_runV (TT := TX1) (N := 2) (ci := 1) (q0 := 0) C0 (c_X1_put (l := l) hg22) (cwV 3 hts gX0_reckonScore_X1_put rfl rfl rfl (by decide +kernel) ⟨Nat.le_of_ble_eq_true rfl, Nat.le_of_ble_eq_true rfl⟩) hP hD hS [4, 5] rfl (by decide) rfl rfl rfl rfl hl.1 (Nat.le_of_ble_eq_true rfl) dX0_reckonScore_183) (fun H locs hP hD hS => ?_)
      have hP : va_P (dC, dI) vwCl [(aO, .inr (0, [.ref aR, .ref gC, .ref gL, .int to, .long un])), (aR, .inr (5, [.int (r 0), .int (r 1), .int (r 2), .int (r 3), .int (r 4), .int (r 5), .int (r 6)])), (gC, .inr (1, [.int 7, .ref gCc])), (gCc, .inl (cJ, 49, .inr (.inl f13))), (gL, .inr (1, [.int 7, .ref gLc])), (gLc, .inl (cJ, 49, .inr (.inl f21)))] H := hP
      have hD : va_D A [(aO, .inr (0, [.ref aR, .ref gC, .ref gL, .int to, .long un])), (aR, .inr (5, [.int (r 0), .int (r 1), .int (r 2), .int (r 3), .int (r 4), .int (r 5), .int (r 6)])), (gC, .inr (1, [.int 7, .ref gCc])), (gCc, .inl (cJ, 49, .inr (.inl f13))), (gL, .inr (1, [.int 7, .ref gLc])), (gLc, .inl (cJ, 49, .inr (.inl f21)))] := hD
      obtain rfl := Option.some.inj hf
      exact q_retV C0 hP hD hS dX0_reckonScore_186
    · have hf := q_if hf hc8
      refine lv_aload_n hx hb dX0_reckonScore_73 rfl (lv_at hl 1 rfl) ?_
      refine q_get (TT := TX0) C0 in_X0_reckonScore_X0 1 m_X0_reckonScore_f14 hP 0 rfl rfl (by decide) rfl rfl dX0_reckonScore_74 ?_
      refine lv_iload_n hx hb dX0_reckonScore_77 rfl (lv_at hl 2 rfl) ?_
      refine lv_iload_n hx hb dX0_reckonScore_78 rfl (lv_at hl 3 rfl) ?_
      refine lv_iload_n hx hb dX0_reckonScore_79 rfl (lv_at hl 4 rfl) ?_
      refine lv_iload_n hx hb dX0_reckonScore_80 rfl (lv_at hl 4 rfl) ?_
      refine lv_imul hx hb dX0_reckonScore_81 ?_
      refine lv_i2l (v := Int32.toInt64 (x3 * x3)) hx hb dX0_reckonScore_82 rfl ?_
      obtain ⟨f23, hg24, hf⟩ := q_e1 hf
      refine q_endV (wc := [(gC, .inr (1, [.int 7, .ref gCc])), (gCc, .inl (cJ, 49, .inr (.inl fc)))]) (wr := [(aO, .inr (0, [.ref aR, .ref gC, .ref gL, .int to, .long un])), (gL, .inr (1, [.int 7, .ref gLc])), (gLc, .inl (cJ, 49, .inr (.inl fl))), (aR, .inr (5, [.int (r 0), .int (r 1), .int (r 2), .int (r 3), .int (r 4), .int (r 5), .int (r 6)]))]) (w1 := [(gC, .inr (1, [.int 7, .ref gCc])), (gCc, .inl (cJ, 49, .inr (.inl f23)))]) C0 hP hD hS [1, 2] [0, 3, 4, 5] rfl rfl (by decide) (by decide) (q_runV (TT := TX1) (N := 2) (ci := 1) (q0 := 0) C0 (c_X1_put (l := l) hg24) (cwV 3 hts gX0_reckonScore_X1_put rfl rfl rfl (by decide +kernel) ⟨Nat.le_of_ble_eq_true rfl, Nat.le_of_ble_eq_true rfl⟩) hP hD hS [1, 2] rfl (by decide) rfl rfl rfl rfl hl.1 (Nat.le_of_ble_eq_true rfl) dX0_reckonScore_83) (fun H locs hP hD hS => ?_)
      have hP : va_P (dC, dI) vwCl [(aO, .inr (0, [.ref aR, .ref gC, .ref gL, .int to, .long un])), (gL, .inr (1, [.int 7, .ref gLc])), (gLc, .inl (cJ, 49, .inr (.inl fl))), (aR, .inr (5, [.int (r 0), .int (r 1), .int (r 2), .int (r 3), .int (r 4), .int (r 5), .int (r 6)])), (gC, .inr (1, [.int 7, .ref gCc])), (gCc, .inl (cJ, 49, .inr (.inl f23)))] H := hP
      have hD : va_D A [(aO, .inr (0, [.ref aR, .ref gC, .ref gL, .int to, .long un])), (gL, .inr (1, [.int 7, .ref gLc])), (gLc, .inl (cJ, 49, .inr (.inl fl))), (aR, .inr (5, [.int (r 0), .int (r 1), .int (r 2), .int (r 3), .int (r 4), .int (r 5), .int (r 6)])), (gC, .inr (1, [.int 7, .ref gCc])), (gCc, .inl (cJ, 49, .inr (.inl f23)))] := hD
      refine lv_aload_n hx hb dX0_reckonScore_86 rfl (lv_at hl 1 rfl) ?_
      refine q_get (TT := TX0) C0 in_X0_reckonScore_X0 2 m_X0_reckonScore_f20 hP 0 rfl rfl (by decide) rfl rfl dX0_reckonScore_87 ?_
      refine lv_iload_n hx hb dX0_reckonScore_90 rfl (lv_at hl 2 rfl) ?_
      refine lv_iload_n hx hb dX0_reckonScore_91 rfl (lv_at hl 3 rfl) ?_
      refine lv_ldc2 hx hb hown (hts _ m_X0_reckonScore_k73) dX0_reckonScore_92 ?_
      obtain ⟨f25, hg26, hf⟩ := q_e1 hf
      refine q_endV (wc := [(gL, .inr (1, [.int 7, .ref gLc])), (gLc, .inl (cJ, 49, .inr (.inl fl)))]) (wr := [(aO, .inr (0, [.ref aR, .ref gC, .ref gL, .int to, .long un])), (aR, .inr (5, [.int (r 0), .int (r 1), .int (r 2), .int (r 3), .int (r 4), .int (r 5), .int (r 6)])), (gC, .inr (1, [.int 7, .ref gCc])), (gCc, .inl (cJ, 49, .inr (.inl f23)))]) (w1 := [(gL, .inr (1, [.int 7, .ref gLc])), (gLc, .inl (cJ, 49, .inr (.inl f25)))]) C0 hP hD hS [1, 2] [0, 3, 4, 5] rfl rfl (by decide) (by decide) (q_runV (TT := TX1) (N := 2) (ci := 1) (q0 := 0) C0 (c_X1_put (l := l) hg26) (cwV 3 hts gX0_reckonScore_X1_put rfl rfl rfl (by decide +kernel) ⟨Nat.le_of_ble_eq_true rfl, Nat.le_of_ble_eq_true rfl⟩) hP hD hS [1, 2] rfl (by decide) rfl rfl rfl rfl hl.1 (Nat.le_of_ble_eq_true rfl) dX0_reckonScore_95) (fun H locs hP hD hS => ?_)
      have hP : va_P (dC, dI) vwCl [(aO, .inr (0, [.ref aR, .ref gC, .ref gL, .int to, .long un])), (aR, .inr (5, [.int (r 0), .int (r 1), .int (r 2), .int (r 3), .int (r 4), .int (r 5), .int (r 6)])), (gC, .inr (1, [.int 7, .ref gCc])), (gCc, .inl (cJ, 49, .inr (.inl f23))), (gL, .inr (1, [.int 7, .ref gLc])), (gLc, .inl (cJ, 49, .inr (.inl f25)))] H := hP
      have hD : va_D A [(aO, .inr (0, [.ref aR, .ref gC, .ref gL, .int to, .long un])), (aR, .inr (5, [.int (r 0), .int (r 1), .int (r 2), .int (r 3), .int (r 4), .int (r 5), .int (r 6)])), (gC, .inr (1, [.int 7, .ref gCc])), (gCc, .inl (cJ, 49, .inr (.inl f23))), (gL, .inr (1, [.int 7, .ref gLc])), (gLc, .inl (cJ, 49, .inr (.inl f25)))] := hD
      refine lv_goto (tgt := 186) hx hb dX0_reckonScore_98 (by decide) ?_
      obtain rfl := Option.some.inj hf
      exact q_retV C0 hP hD hS dX0_reckonScore_186
  · have hf := q_nif hf hc7
    refine lv_aload_n hx hb dX0_reckonScore_23 rfl (lv_at hl 1 rfl) ?_
    refine q_get (TT := TX0) C0 in_X0_reckonScore_X0 1 m_X0_reckonScore_f14 hP 0 rfl rfl (by decide) rfl rfl dX0_reckonScore_24 ?_
    refine lv_iload_n hx hb dX0_reckonScore_27 rfl (lv_at hl 2 rfl) ?_
    refine lv_iload_n hx hb dX0_reckonScore_28 rfl (lv_at hl 3 rfl) ?_
    refine lv_iload hx hb dX0_reckonScore_29 (lv_at hl 0 rfl) ?_
    refine lv_iconst (v := 1) hx hb dX0_reckonScore_31 (by decide) ?_
    refine lv_icmp_ne (tgt := 44) hx hb dX0_reckonScore_32 (by decide) (fun hc27 => ?_) (fun hc27 => ?_)
    · have hf := q_nif hf hc27
      refine lv_lconst (v := 0) hx hb dX0_reckonScore_44 (by decide) ?_
      exact B_X0_reckonScore_45 C0 hf H locs ls (q_sub (wc := [(aO, .inr (0, [.ref aR, .ref gC, .ref gL, .int to, .long un])), (aR, .inr (5, [.int (r 0), .int (r 1), .int (r 2), .int (r 3), .int (r 4), .int (r 5), .int (r 6)])), (gC, .inr (1, [.int 7, .ref gCc])), (gCc, .inl (cJ, 49, .inr (.inl fc))), (gL, .inr (1, [.int 7, .ref gLc])), (gLc, .inl (cJ, 49, .inr (.inl fl)))]) (is := [0, 5, 1, 2, 3, 4]) hP rfl) (hD.sub (ws' := [(aO, .inr (0, [.ref aR, .ref gC, .ref gL, .int to, .long un])), (aR, .inr (5, [.int (r 0), .int (r 1), .int (r 2), .int (r 3), .int (r 4), .int (r 5), .int (r 6)])), (gC, .inr (1, [.int 7, .ref gCc])), (gCc, .inl (cJ, 49, .inr (.inl fc))), (gL, .inr (1, [.int 7, .ref gLc])), (gLc, .inl (cJ, 49, .inr (.inl fl)))]) [0, 5, 1, 2, 3, 4] (by decide) rfl) hS (lv_sub hl [1, 2, 3] rfl)
    · have hf := q_if hf hc27
      refine lv_aload_n hx hb dX0_reckonScore_35 rfl (lv_at hl 1 rfl) ?_
      refine lv_iload_n hx hb dX0_reckonScore_36 rfl (lv_at hl 2 rfl) ?_
      refine lv_iload_n hx hb dX0_reckonScore_37 rfl (lv_at hl 3 rfl) ?_
      obtain ⟨r28, hg29, hf⟩ := q_e1 hf
      refine q_endL (wc := [(aO, .inr (0, [.ref aR, .ref gC, .ref gL, .int to, .long un])), (aR, .inr (5, [.int (r 0), .int (r 1), .int (r 2), .int (r 3), .int (r 4), .int (r 5), .int (r 6)])), (gC, .inr (1, [.int 7, .ref gCc])), (gCc, .inl (cJ, 49, .inr (.inl fc))), (gL, .inr (1, [.int 7, .ref gLc])), (gLc, .inl (cJ, 49, .inr (.inl fl)))]) (wr := []) (w1 := [(aO, .inr (0, [.ref aR, .ref gC, .ref gL, .int to, .long un])), (aR, .inr (5, [.int (r 0), .int (r 1), .int (r 2), .int (r 3), .int (r 4), .int (r 5), .int (r 6)])), (gC, .inr (1, [.int 7, .ref gCc])), (gCc, .inl (cJ, 49, .inr (.inl fc))), (gL, .inr (1, [.int 7, .ref gLc])), (gLc, .inl (cJ, 49, .inr (.inl fl)))]) (rv := r28) C0 hP hD hS [0, 5, 1, 2, 3, 4] [] rfl rfl (by decide) (by decide) (q_runV (TT := TX0) (N := 5) (ci := 0) (q0 := 0) C0 (c_X0_bottom (l := l) hg29) (cwV 2 hts gX0_reckonScore_X0_bottom rfl rfl rfl (by decide +kernel) ⟨Nat.le_of_ble_eq_true rfl, Nat.le_of_ble_eq_true rfl⟩) hP hD hS [0, 5, 1, 2, 3, 4] rfl (by decide) rfl rfl rfl rfl hl.1 (Nat.le_of_ble_eq_true rfl) dX0_reckonScore_38) (fun H locs hP hD hS => ?_)
      have hP : va_P (dC, dI) vwCl [(aO, .inr (0, [.ref aR, .ref gC, .ref gL, .int to, .long un])), (aR, .inr (5, [.int (r 0), .int (r 1), .int (r 2), .int (r 3), .int (r 4), .int (r 5), .int (r 6)])), (gC, .inr (1, [.int 7, .ref gCc])), (gCc, .inl (cJ, 49, .inr (.inl fc))), (gL, .inr (1, [.int 7, .ref gLc])), (gLc, .inl (cJ, 49, .inr (.inl fl)))] H := hP
      have hD : va_D A [(aO, .inr (0, [.ref aR, .ref gC, .ref gL, .int to, .long un])), (aR, .inr (5, [.int (r 0), .int (r 1), .int (r 2), .int (r 3), .int (r 4), .int (r 5), .int (r 6)])), (gC, .inr (1, [.int 7, .ref gCc])), (gCc, .inl (cJ, 49, .inr (.inl fc))), (gL, .inr (1, [.int 7, .ref gLc])), (gLc, .inl (cJ, 49, .inr (.inl fl)))] := hD
      refine lv_goto (tgt := 45) hx hb dX0_reckonScore_41 (by decide) ?_
      exact B_X0_reckonScore_45 C0 hf H locs ls hP hD hS (lv_sub hl [1, 2, 3] rfl)
set_option maxHeartbeats 4000000 in
set_option maxRecDepth 100000 in
theorem c_X0_reckonScore {l : Launch} {dC : Nat → ClassId} {dI : Nat → Nat → Nat} {cI cJ cZ : ClassId} {aO aR gC gCc gL gLc : Nat} {x1 : Int32} {x2 : Int32} {x3 : Int32} {x4 : Int32} {r : (Nat → Int32)} {to : Int32} {un : Int64} {fc : (Nat → Int64)} {fl : (Nat → Int64)} {R : (Nat → Int64) × (Nat → Int64)} (hf : f_X0_reckonScore x1 x2 x3 x4 r to un fc fl = some R) : q_M l yX0_reckonScore wsX0_reckonScore rmX0_reckonScore (dC, dI) (q_T cI cJ cZ) [.ref aO, .int x1, .int x2, .int x3, .int x4] [(aO, .inr (0, [.ref aR, .ref gC, .ref gL, .int to, .long un])), (aR, .inr (5, [.int (r 0), .int (r 1), .int (r 2), .int (r 3), .int (r 4), .int (r 5), .int (r 6)])), (gC, .inr (1, [.int 7, .ref gCc])), (gCc, .inl (cJ, 49, .inr (.inl fc))), (gL, .inr (1, [.int 7, .ref gLc])), (gLc, .inl (cJ, 49, .inr (.inl fl)))] (qV (dC, dI) (q_T cI cJ cZ) [(aO, .inr (0, [.ref aR, .ref gC, .ref gL, .int to, .long un])), (aR, .inr (5, [.int (r 0), .int (r 1), .int (r 2), .int (r 3), .int (r 4), .int (r 5), .int (r 6)])), (gC, .inr (1, [.int 7, .ref gCc])), (gCc, .inl (cJ, 49, .inr (.inl R.1))), (gL, .inr (1, [.int 7, .ref gLc])), (gLc, .inl (cJ, 49, .inr (.inl R.2)))]) := by
  refine q_body (cc := cX0_reckonScore) (maxL := 6) (ret := none) (by decide) rfl (Nat.le_of_ble_eq_true rfl) ?_
  intro p e s m args below meth c A C0 ls hP hD hS hl
  have hl : lv_has ls 6 [(0, .ref aO), (1, .int x1), (2, .int x2), (3, .int x3), (4, .int x4)] := hl
  exact B_X0_reckonScore_0 C0 hf s.heap [] ls hP hD hS hl

/-! ## RungPlay$GameOdds.reckon -/
abbrev rmX0_reckon : Room := { frames := 3, cells := 0, slots := 0, locals := 72 }
theorem m_X0_reckon_f33 : Cond.fieldLink RX0 33 RX0 "to" "I" ∈ wsX0_reckon := by decide +kernel
theorem in_X0_reckon_X0 : ∀ w ∈ wsX00, w ∈ wsX0_reckon := by decide +kernel
theorem m_X0_reckon_l51 : Cond.methodLink RX0 51 Lib.Math.min.name ∈ wsX0_reckon := by decide +kernel
theorem m_X0_reckon_stmin : Cond.static Lib.Math.min.name ∈ wsX0_reckon := by decide +kernel
theorem m_X0_reckon_imath : Cond.initialized "java/lang/Math" ∈ wsX0_reckon := by decide +kernel
theorem m_X0_reckon_cmin : Cond.code Lib.Math.min.name Lib.Math.min.code 2 (some .int) ∈ wsX0_reckon := by decide +kernel
theorem m_X0_reckon_f36 : Cond.fieldLink RX0 36 RX0 "unit" "J" ∈ wsX0_reckon := by decide +kernel
theorem m_X0_reckon_f23 : Cond.fieldLink RX0 23 RX0 "rules" "LRungPlay$Rules;" ∈ wsX0_reckon := by decide +kernel
theorem m_X0_reckon_f27 : Cond.fieldLink RX0 27 RX5 "toPoints" "I" ∈ wsX0_reckon := by decide +kernel
theorem in_X0_reckon_X5 : ∀ w ∈ wsX50, w ∈ wsX0_reckon := by decide +kernel
theorem m_X0_reckon_f48 : Cond.fieldLink RX0 48 RX5 "kind" "I" ∈ wsX0_reckon := by decide +kernel
def b_X0_reckon_84 (k : (Int32 × (Nat → Int64) × (Nat → Int64)) → Option (Int32 × (Nat → Int64) × (Nat → Int64))) (x2 : Int32) (x3 : Int32) (x4 : Int32) (x5 : Int32) (r : (Nat → Int32)) (to : Int32) (un : Int64) (fc : (Nat → Int64)) (fl : (Nat → Int64)) : Option (Int32 × (Nat → Int64) × (Nat → Int64)) :=
  (if x5 < 0 then (some (x5, fc, fl)) else (q_b2 (f_X0_reckonScore x4 x5 x2 x3 r to un fc fl) (fun fc2 fl3 => (k (x5 + (-1), fc2, fl3)))))
noncomputable def l_X0_reckon_84 (x2 : Int32) (x3 : Int32) (x4 : Int32) (r : (Nat → Int32)) (to : Int32) (un : Int64) (n : Nat) : (Int32 × (Nat → Int64) × (Nat → Int64)) → Option (Int32 × (Nat → Int64) × (Nat → Int64)) :=
  Nat.rec (fun _ => none) (fun _ k q => b_X0_reckon_84 k x2 x3 x4 q.1 r to un q.2.1 q.2.2) n
def b_X0_reckon_59 (k : (Int32 × (Nat → Int64) × (Nat → Int64)) → Option (Int32 × (Nat → Int64) × (Nat → Int64))) (x2 : Int32) (x3 : Int32) (x4 : Int32) (r : (Nat → Int32)) (to : Int32) (un : Int64) (fc : (Nat → Int64)) (fl : (Nat → Int64)) : Option (Int32 × (Nat → Int64) × (Nat → Int64)) :=
  (if x4 < 0 then (some (x4, fc, fl)) else (q_b3 (l_X0_reckon_84 x2 x3 x4 r to un 1000 ((if ((2 * to) - x4) < (to + 1) then ((2 * to) - x4) else (to + 1)), fc, fl)) (fun y6 y7 y8 => (k (x4 + (-1), y7, y8)))))
noncomputable def l_X0_reckon_59 (x2 : Int32) (x3 : Int32) (r : (Nat → Int32)) (to : Int32) (un : Int64) (n : Nat) : (Int32 × (Nat → Int64) × (Nat → Int64)) → Option (Int32 × (Nat → Int64) × (Nat → Int64)) :=
  Nat.rec (fun _ => none) (fun _ k q => b_X0_reckon_59 k x2 x3 q.1 r to un q.2.1 q.2.2) n
def b_X0_reckon_48 (x2 : Int32) (x3 : Int32) (s0 : Int64) (r : (Nat → Int32)) (to : Int32) (un : Int64) (fc : (Nat → Int64)) (fl : (Nat → Int64)) : Option (Int32 × Int64 × (Nat → Int64) × (Nat → Int64)) :=
  (q_b3 (l_X0_reckon_59 x2 x3 r to s0 1000 (to + 1, fc, fl)) (fun y10 y11 y12 => (some (to, s0, y11, y12))))
def f_X0_reckon (x1 : Int32) (r : (Nat → Int32)) (to : Int32) (un : Int64) (fc : (Nat → Int64)) (fl : (Nat → Int64)) : Option (Int32 × Int64 × (Nat → Int64) × (Nat → Int64)) :=
  (q_b1 (f_X5_tenthsOfA x1 r) (fun r14 => (if (r 6) = 0 then (b_X0_reckon_48 r14 (10 - r14) (Int32.toInt64 ((r14 * r14) + ((10 - r14) * (10 - r14)))) r (r 2) un fc fl) else (b_X0_reckon_48 r14 (10 - r14) (1 : Int64) r (r 2) un fc fl))))
set_option maxHeartbeats 4000000 in
set_option maxRecDepth 100000 in
theorem B_X0_reckon_84 {p : Program} {l : Launch} {e : Env} {s : State} {m : MethodId} {args : Array Value} {below : List Frame} {meth : Method} {c : Code} {A : Nat → Prop} {dC : Nat → ClassId} {dI : Nat → Nat → Nat} {cI cJ cZ : ClassId} {aO aR gC gCc gL gLc : Nat} (C0 : q_C p s m args meth c (dC, dI) (q_T cI cJ cZ) A RX0 wsX0_reckon cX0_reckon 6 none) {Q : State → Prop} {k : (Int32 × (Nat → Int64) × (Nat → Int64)) → Option (Int32 × (Nat → Int64) × (Nat → Int64))} {x2 : Int32} {x3 : Int32} {x4 : Int32} {x5 : Int32} {r : (Nat → Int32)} {to : Int32} {un : Int64} {fc : (Nat → Int64)} {fl : (Nat → Int64)} {R : Int32 × (Nat → Int64) × (Nat → Int64)} (hk : ∀ (v0 : Int32) (v1 : (Nat → Int64)) (v2 : (Nat → Int64)), k (v0, v1, v2) = some R → ∀ (H : Heap) (locs : List Loc) (ls : Array Slot), va_P (dC, dI) vwCl [(aO, .inr (0, [.ref aR, .ref gC, .ref gL, .int to, .long un])), (aR, .inr (5, [.int (r 0), .int (r 1), .int (r 2), .int (r 3), .int (r 4), .int (r 5), .int (r 6)])), (gC, .inr (1, [.int 7, .ref gCc])), (gCc, .inl (cJ, 49, .inr (.inl v1))), (gL, .inr (1, [.int 7, .ref gLc])), (gLc, .inl (cJ, 49, .inr (.inl v2)))] H → va_D A [(aO, .inr (0, [.ref aR, .ref gC, .ref gL, .int to, .long un])), (aR, .inr (5, [.int (r 0), .int (r 1), .int (r 2), .int (r 3), .int (r 4), .int (r 5), .int (r 6)])), (gC, .inr (1, [.int 7, .ref gCc])), (gCc, .inl (cJ, 49, .inr (.inl v1))), (gL, .inr (1, [.int 7, .ref gLc])), (gLc, .inl (cJ, 49, .inr (.inl v2)))] → va_S A s.heap H locs → lv_has ls 6 [(0, .ref aO), (2, .int x2), (3, .int x3), (4, .int x4), (5, .int v0)] → W p l e rmX0_reckon s m args below meth c H locs 0 0 Q (F0 m 84 ls [])) (hq : ∀ (H : Heap) (locs : List Loc) (ls : Array Slot), va_P (dC, dI) vwCl [(aO, .inr (0, [.ref aR, .ref gC, .ref gL, .int to, .long un])), (aR, .inr (5, [.int (r 0), .int (r 1), .int (r 2), .int (r 3), .int (r 4), .int (r 5), .int (r 6)])), (gC, .inr (1, [.int 7, .ref gCc])), (gCc, .inl (cJ, 49, .inr (.inl R.2.1))), (gL, .inr (1, [.int 7, .ref gLc])), (gLc, .inl (cJ, 49, .inr (.inl R.2.2)))] H → va_D A [(aO, .inr (0, [.ref aR, .ref gC, .ref gL, .int to, .long un])), (aR, .inr (5, [.int (r 0), .int (r 1), .int (r 2), .int (r 3), .int (r 4), .int (r 5), .int (r 6)])), (gC, .inr (1, [.int 7, .ref gCc])), (gCc, .inl (cJ, 49, .inr (.inl R.2.1))), (gL, .inr (1, [.int 7, .ref gLc])), (gLc, .inl (cJ, 49, .inr (.inl R.2.2)))] → va_S A s.heap H locs → lv_has ls 6 [(0, .ref aO), (2, .int x2), (3, .int x3), (4, .int x4)] → W p l e rmX0_reckon s m args below meth c H locs 0 0 Q (F0 m 105 ls [])) (hf : b_X0_reckon_84 k x2 x3 x4 x5 r to un fc fl = some R) : ∀ (H : Heap) (locs : List Loc) (ls : Array Slot), va_P (dC, dI) vwCl [(aO, .inr (0, [.ref aR, .ref gC, .ref gL, .int to, .long un])), (aR, .inr (5, [.int (r 0), .int (r 1), .int (r 2), .int (r 3), .int (r 4), .int (r 5), .int (r 6)])), (gC, .inr (1, [.int 7, .ref gCc])), (gCc, .inl (cJ, 49, .inr (.inl fc))), (gL, .inr (1, [.int 7, .ref gLc])), (gLc, .inl (cJ, 49, .inr (.inl fl)))] H → va_D A [(aO, .inr (0, [.ref aR, .ref gC, .ref gL, .int to, .long un])), (aR, .inr (5, [.int (r 0), .int (r 1), .int (r 2), .int (r 3), .int (r 4), .int (r 5), .int (r 6)])), (gC, .inr (1, [.int 7, .ref gCc])), (gCc, .inl (cJ, 49, .inr (.inl fc))), (gL, .inr (1, [.int 7, .ref gLc])), (gLc, .inl (cJ, 49, .inr (.inl fl)))] → va_S A s.heap H locs → lv_has ls 6 [(0, .ref aO), (2, .int x2), (3, .int x3), (4, .int x4), (5, .int x5)] → W p l e rmX0_reckon s m args below meth c H locs 0 0 Q (F0 m 84 ls []) := by
  obtain ⟨hx, hb, hml, hown, hts, hrt, hlk, hK, hX, hA⟩ := id C0
  intro H locs ls hP hD hS hl
  refine lv_iload hx hb dX0_reckon_84 (lv_at hl 4 rfl) ?_
  refine lv_if_lt (tgt := 105) hx hb dX0_reckon_86 (by decide) (fun hc1 => ?_) (fun hc1 => ?_)
  · have hf := q_if hf hc1
    obtain rfl := Option.some.inj hf
    exact hq H locs ls hP hD hS (lv_sub hl [0, 1, 2, 3] rfl)
  · have hf := q_nif hf hc1
    refine lv_aload_n hx hb dX0_reckon_89 rfl (lv_at hl 0 rfl) ?_
    refine lv_iload hx hb dX0_reckon_90 (lv_at hl 3 rfl) ?_
    refine lv_iload hx hb dX0_reckon_92 (lv_at hl 4 rfl) ?_
    refine lv_iload_n hx hb dX0_reckon_94 rfl (lv_at hl 1 rfl) ?_
    refine lv_iload_n hx hb dX0_reckon_95 rfl (lv_at hl 2 rfl) ?_
    obtain ⟨fc2, fl3, hg4, hf⟩ := q_e2 hf
    refine q_endV (wc := [(aO, .inr (0, [.ref aR, .ref gC, .ref gL, .int to, .long un])), (aR, .inr (5, [.int (r 0), .int (r 1), .int (r 2), .int (r 3), .int (r 4), .int (r 5), .int (r 6)])), (gC, .inr (1, [.int 7, .ref gCc])), (gCc, .inl (cJ, 49, .inr (.inl fc))), (gL, .inr (1, [.int 7, .ref gLc])), (gLc, .inl (cJ, 49, .inr (.inl fl)))]) (wr := []) (w1 := [(aO, .inr (0, [.ref aR, .ref gC, .ref gL, .int to, .long un])), (aR, .inr (5, [.int (r 0), .int (r 1), .int (r 2), .int (r 3), .int (r 4), .int (r 5), .int (r 6)])), (gC, .inr (1, [.int 7, .ref gCc])), (gCc, .inl (cJ, 49, .inr (.inl fc2))), (gL, .inr (1, [.int 7, .ref gLc])), (gLc, .inl (cJ, 49, .inr (.inl fl3)))]) C0 hP hD hS [0, 1, 2, 3, 4, 5] [] rfl rfl (by decide) (by decide) (q_runV (TT := TX0) (N := 5) (ci := 0) (q0 := 0) C0 (c_X0_reckonScore (l := l) hg4) (cwV 4 hts gX0_reckon_X0_reckonScore rfl rfl rfl (by decide +kernel) ⟨Nat.le_of_ble_eq_true rfl, Nat.le_of_ble_eq_true rfl⟩) hP hD hS [0, 1, 2, 3, 4, 5] rfl (by decide) rfl rfl rfl rfl hl.1 (Nat.le_of_ble_eq_true rfl) dX0_reckon_96) (fun H locs hP hD hS => ?_)
    have hP : va_P (dC, dI) vwCl [(aO, .inr (0, [.ref aR, .ref gC, .ref gL, .int to, .long un])), (aR, .inr (5, [.int (r 0), .int (r 1), .int (r 2), .int (r 3), .int (r 4), .int (r 5), .int (r 6)])), (gC, .inr (1, [.int 7, .ref gCc])), (gCc, .inl (cJ, 49, .inr (.inl fc2))), (gL, .inr (1, [.int 7, .ref gLc])), (gLc, .inl (cJ, 49, .inr (.inl fl3)))] H := hP
    have hD : va_D A [(aO, .inr (0, [.ref aR, .ref gC, .ref gL, .int to, .long un])), (aR, .inr (5, [.int (r 0), .int (r 1), .int (r 2), .int (r 3), .int (r 4), .int (r 5), .int (r 6)])), (gC, .inr (1, [.int 7, .ref gCc])), (gCc, .inl (cJ, 49, .inr (.inl fc2))), (gL, .inr (1, [.int 7, .ref gLc])), (gLc, .inl (cJ, 49, .inr (.inl fl3)))] := hD
    refine lv_iinc (v := x5 + (-1)) (lv' := [(5, .int (x5 + (-1))), (0, .ref aO), (2, .int x2), (3, .int x3), (4, .int x4)]) hx hb dX0_reckon_99 hl (k := 4) rfl rfl (by decide) rfl (fun ls hl => ?_)
    refine lv_goto (tgt := 84) hx hb dX0_reckon_102 (by decide) ?_
    exact hk _ _ _ hf H locs ls hP hD hS (lv_sub hl [1, 2, 3, 4, 0] rfl)
set_option maxHeartbeats 4000000 in
set_option maxRecDepth 100000 in
theorem L_X0_reckon_84 {p : Program} {l : Launch} {e : Env} {s : State} {m : MethodId} {args : Array Value} {below : List Frame} {meth : Method} {c : Code} {A : Nat → Prop} {dC : Nat → ClassId} {dI : Nat → Nat → Nat} {cI cJ cZ : ClassId} {aO aR gC gCc gL gLc : Nat} (C0 : q_C p s m args meth c (dC, dI) (q_T cI cJ cZ) A RX0 wsX0_reckon cX0_reckon 6 none) {Q : State → Prop} {x2 : Int32} {x3 : Int32} {x4 : Int32} {r : (Nat → Int32)} {to : Int32} {un : Int64} : ∀ (n : Nat) (v0 : Int32) (v1 : (Nat → Int64)) (v2 : (Nat → Int64)) (R : Int32 × (Nat → Int64) × (Nat → Int64)), l_X0_reckon_84 x2 x3 x4 r to un n (v0, v1, v2) = some R → (∀ (H : Heap) (locs : List Loc) (ls : Array Slot), va_P (dC, dI) vwCl [(aO, .inr (0, [.ref aR, .ref gC, .ref gL, .int to, .long un])), (aR, .inr (5, [.int (r 0), .int (r 1), .int (r 2), .int (r 3), .int (r 4), .int (r 5), .int (r 6)])), (gC, .inr (1, [.int 7, .ref gCc])), (gCc, .inl (cJ, 49, .inr (.inl R.2.1))), (gL, .inr (1, [.int 7, .ref gLc])), (gLc, .inl (cJ, 49, .inr (.inl R.2.2)))] H → va_D A [(aO, .inr (0, [.ref aR, .ref gC, .ref gL, .int to, .long un])), (aR, .inr (5, [.int (r 0), .int (r 1), .int (r 2), .int (r 3), .int (r 4), .int (r 5), .int (r 6)])), (gC, .inr (1, [.int 7, .ref gCc])), (gCc, .inl (cJ, 49, .inr (.inl R.2.1))), (gL, .inr (1, [.int 7, .ref gLc])), (gLc, .inl (cJ, 49, .inr (.inl R.2.2)))] → va_S A s.heap H locs → lv_has ls 6 [(0, .ref aO), (2, .int x2), (3, .int x3), (4, .int x4)] → W p l e rmX0_reckon s m args below meth c H locs 0 0 Q (F0 m 105 ls [])) → ∀ (H : Heap) (locs : List Loc) (ls : Array Slot), va_P (dC, dI) vwCl [(aO, .inr (0, [.ref aR, .ref gC, .ref gL, .int to, .long un])), (aR, .inr (5, [.int (r 0), .int (r 1), .int (r 2), .int (r 3), .int (r 4), .int (r 5), .int (r 6)])), (gC, .inr (1, [.int 7, .ref gCc])), (gCc, .inl (cJ, 49, .inr (.inl v1))), (gL, .inr (1, [.int 7, .ref gLc])), (gLc, .inl (cJ, 49, .inr (.inl v2)))] H → va_D A [(aO, .inr (0, [.ref aR, .ref gC, .ref gL, .int to, .long un])), (aR, .inr (5, [.int (r 0), .int (r 1), .int (r 2), .int (r 3), .int (r 4), .int (r 5), .int (r 6)])), (gC, .inr (1, [.int 7, .ref gCc])), (gCc, .inl (cJ, 49, .inr (.inl v1))), (gL, .inr (1, [.int 7, .ref gLc])), (gLc, .inl (cJ, 49, .inr (.inl v2)))] → va_S A s.heap H locs → lv_has ls 6 [(0, .ref aO), (2, .int x2), (3, .int x3), (4, .int x4), (5, .int v0)] → W p l e rmX0_reckon s m args below meth c H locs 0 0 Q (F0 m 84 ls []) := by
  intro n
  induction n with
  | zero =>
    intro v0 v1 v2 R hf
    have hf : (none : Option (Int32 × (Nat → Int64) × (Nat → Int64))) = some R := hf
    cases hf
  | succ n ih =>
    intro v0 v1 v2 R hf hq
    have hf : b_X0_reckon_84 (l_X0_reckon_84 x2 x3 x4 r to un n) x2 x3 x4 v0 r to un v1 v2 = some R := hf
    exact B_X0_reckon_84 C0 (fun v0 v1 v2 h => ih v0 v1 v2 R h hq) hq hf
set_option maxHeartbeats 4000000 in
set_option maxRecDepth 100000 in
theorem B_X0_reckon_59 {p : Program} {l : Launch} {e : Env} {s : State} {m : MethodId} {args : Array Value} {below : List Frame} {meth : Method} {c : Code} {A : Nat → Prop} {dC : Nat → ClassId} {dI : Nat → Nat → Nat} {cI cJ cZ : ClassId} {aO aR gC gCc gL gLc : Nat} (C0 : q_C p s m args meth c (dC, dI) (q_T cI cJ cZ) A RX0 wsX0_reckon cX0_reckon 6 none) {Q : State → Prop} {k : (Int32 × (Nat → Int64) × (Nat → Int64)) → Option (Int32 × (Nat → Int64) × (Nat → Int64))} {x2 : Int32} {x3 : Int32} {x4 : Int32} {r : (Nat → Int32)} {to : Int32} {un : Int64} {fc : (Nat → Int64)} {fl : (Nat → Int64)} {R : Int32 × (Nat → Int64) × (Nat → Int64)} (hk : ∀ (v0 : Int32) (v1 : (Nat → Int64)) (v2 : (Nat → Int64)), k (v0, v1, v2) = some R → ∀ (H : Heap) (locs : List Loc) (ls : Array Slot), va_P (dC, dI) vwCl [(aO, .inr (0, [.ref aR, .ref gC, .ref gL, .int to, .long un])), (aR, .inr (5, [.int (r 0), .int (r 1), .int (r 2), .int (r 3), .int (r 4), .int (r 5), .int (r 6)])), (gC, .inr (1, [.int 7, .ref gCc])), (gCc, .inl (cJ, 49, .inr (.inl v1))), (gL, .inr (1, [.int 7, .ref gLc])), (gLc, .inl (cJ, 49, .inr (.inl v2)))] H → va_D A [(aO, .inr (0, [.ref aR, .ref gC, .ref gL, .int to, .long un])), (aR, .inr (5, [.int (r 0), .int (r 1), .int (r 2), .int (r 3), .int (r 4), .int (r 5), .int (r 6)])), (gC, .inr (1, [.int 7, .ref gCc])), (gCc, .inl (cJ, 49, .inr (.inl v1))), (gL, .inr (1, [.int 7, .ref gLc])), (gLc, .inl (cJ, 49, .inr (.inl v2)))] → va_S A s.heap H locs → lv_has ls 6 [(0, .ref aO), (2, .int x2), (3, .int x3), (4, .int v0)] → W p l e rmX0_reckon s m args below meth c H locs 0 0 Q (F0 m 59 ls [])) (hq : ∀ (H : Heap) (locs : List Loc) (ls : Array Slot), va_P (dC, dI) vwCl [(aO, .inr (0, [.ref aR, .ref gC, .ref gL, .int to, .long un])), (aR, .inr (5, [.int (r 0), .int (r 1), .int (r 2), .int (r 3), .int (r 4), .int (r 5), .int (r 6)])), (gC, .inr (1, [.int 7, .ref gCc])), (gCc, .inl (cJ, 49, .inr (.inl R.2.1))), (gL, .inr (1, [.int 7, .ref gLc])), (gLc, .inl (cJ, 49, .inr (.inl R.2.2)))] H → va_D A [(aO, .inr (0, [.ref aR, .ref gC, .ref gL, .int to, .long un])), (aR, .inr (5, [.int (r 0), .int (r 1), .int (r 2), .int (r 3), .int (r 4), .int (r 5), .int (r 6)])), (gC, .inr (1, [.int 7, .ref gCc])), (gCc, .inl (cJ, 49, .inr (.inl R.2.1))), (gL, .inr (1, [.int 7, .ref gLc])), (gLc, .inl (cJ, 49, .inr (.inl R.2.2)))] → va_S A s.heap H locs → lv_has ls 6 [] → W p l e rmX0_reckon s m args below meth c H locs 0 0 Q (F0 m 111 ls [])) (hf : b_X0_reckon_59 k x2 x3 x4 r to un fc fl = some R) : ∀ (H : Heap) (locs : List Loc) (ls : Array Slot), va_P (dC, dI) vwCl [(aO, .inr (0, [.ref aR, .ref gC, .ref gL, .int to, .long un])), (aR, .inr (5, [.int (r 0), .int (r 1), .int (r 2), .int (r 3), .int (r 4), .int (r 5), .int (r 6)])), (gC, .inr (1, [.int 7, .ref gCc])), (gCc, .inl (cJ, 49, .inr (.inl fc))), (gL, .inr (1, [.int 7, .ref gLc])), (gLc, .inl (cJ, 49, .inr (.inl fl)))] H → va_D A [(aO, .inr (0, [.ref aR, .ref gC, .ref gL, .int to, .long un])), (aR, .inr (5, [.int (r 0), .int (r 1), .int (r 2), .int (r 3), .int (r 4), .int (r 5), .int (r 6)])), (gC, .inr (1, [.int 7, .ref gCc])), (gCc, .inl (cJ, 49, .inr (.inl fc))), (gL, .inr (1, [.int 7, .ref gLc])), (gLc, .inl (cJ, 49, .inr (.inl fl)))] → va_S A s.heap H locs → lv_has ls 6 [(0, .ref aO), (2, .int x2), (3, .int x3), (4, .int x4)] → W p l e rmX0_reckon s m args below meth c H locs 0 0 Q (F0 m 59 ls []) := by
  obtain ⟨hx, hb, hml, hown, hts, hrt, hlk, hK, hX, hA⟩ := id C0
  intro H locs ls hP hD hS hl
  refine lv_iload hx hb dX0_reckon_59 (lv_at hl 3 rfl) ?_
  refine lv_if_lt (tgt := 111) hx hb dX0_reckon_61 (by decide) (fun hc5 => ?_) (fun hc5 => ?_)
  · have hf := q_if hf hc5
    obtain rfl := Option.some.inj hf
    exact hq H locs ls hP hD hS (lv_sub hl [] rfl)
  · have hf := q_nif hf hc5
    refine lv_aload_n hx hb dX0_reckon_64 rfl (lv_at hl 0 rfl) ?_
    refine q_get (TT := TX0) C0 in_X0_reckon_X0 3 m_X0_reckon_f33 hP 0 rfl rfl (by decide) rfl rfl dX0_reckon_65 ?_
    refine lv_iconst (v := 1) hx hb dX0_reckon_68 (by decide) ?_
    refine lv_iadd hx hb dX0_reckon_69 ?_
    refine lv_iconst (v := 2) hx hb dX0_reckon_70 (by decide) ?_
    refine lv_aload_n hx hb dX0_reckon_71 rfl (lv_at hl 0 rfl) ?_
    refine q_get (TT := TX0) C0 in_X0_reckon_X0 3 m_X0_reckon_f33 hP 0 rfl rfl (by decide) rfl rfl dX0_reckon_72 ?_
    refine lv_imul hx hb dX0_reckon_75 ?_
    refine lv_iload hx hb dX0_reckon_76 (lv_at hl 3 rfl) ?_
    refine lv_isub hx hb dX0_reckon_78 ?_
    refine q_min C0 hl.1 m_X0_reckon_l51 m_X0_reckon_stmin m_X0_reckon_imath m_X0_reckon_cmin (Nat.le_of_ble_eq_true rfl) (Nat.le_of_ble_eq_true rfl) dX0_reckon_79 ?_
    refine lv_istore (lv' := [(5, .int (if ((2 * to) - x4) < (to + 1) then ((2 * to) - x4) else (to + 1))), (0, .ref aO), (2, .int x2), (3, .int x3), (4, .int x4)]) hx hb dX0_reckon_82 hl (by decide) rfl (fun ls hl => ?_)
    obtain ⟨y6, y7, y8, hg9, hf⟩ := q_e3 hf
    refine L_X0_reckon_84 C0 1000 _ _ _ _ _ hg9 ?_ H locs ls hP hD hS (lv_sub hl [1, 2, 3, 4, 0] rfl)
    intro H locs ls hP hD hS hl
    have hP : va_P (dC, dI) vwCl [(aO, .inr (0, [.ref aR, .ref gC, .ref gL, .int to, .long un])), (aR, .inr (5, [.int (r 0), .int (r 1), .int (r 2), .int (r 3), .int (r 4), .int (r 5), .int (r 6)])), (gC, .inr (1, [.int 7, .ref gCc])), (gCc, .inl (cJ, 49, .inr (.inl y7))), (gL, .inr (1, [.int 7, .ref gLc])), (gLc, .inl (cJ, 49, .inr (.inl y8)))] H := hP
    have hD : va_D A [(aO, .inr (0, [.ref aR, .ref gC, .ref gL, .int to, .long un])), (aR, .inr (5, [.int (r 0), .int (r 1), .int (r 2), .int (r 3), .int (r 4), .int (r 5), .int (r 6)])), (gC, .inr (1, [.int 7, .ref gCc])), (gCc, .inl (cJ, 49, .inr (.inl y7))), (gL, .inr (1, [.int 7, .ref gLc])), (gLc, .inl (cJ, 49, .inr (.inl y8)))] := hD
    have hl : lv_has ls 6 [(0, .ref aO), (2, .int x2), (3, .int x3), (4, .int x4)] := hl
    refine lv_iinc (v := x4 + (-1)) (lv' := [(4, .int (x4 + (-1))), (0, .ref aO), (2, .int x2), (3, .int x3)]) hx hb dX0_reckon_105 hl (k := 3) rfl rfl (by decide) rfl (fun ls hl => ?_)
    refine lv_goto (tgt := 59) hx hb dX0_reckon_108 (by decide) ?_
    exact hk _ _ _ hf H locs ls hP hD hS (lv_sub hl [1, 2, 3, 0] rfl)
set_option maxHeartbeats 4000000 in
set_option maxRecDepth 100000 in
theorem L_X0_reckon_59 {p : Program} {l : Launch} {e : Env} {s : State} {m : MethodId} {args : Array Value} {below : List Frame} {meth : Method} {c : Code} {A : Nat → Prop} {dC : Nat → ClassId} {dI : Nat → Nat → Nat} {cI cJ cZ : ClassId} {aO aR gC gCc gL gLc : Nat} (C0 : q_C p s m args meth c (dC, dI) (q_T cI cJ cZ) A RX0 wsX0_reckon cX0_reckon 6 none) {Q : State → Prop} {x2 : Int32} {x3 : Int32} {r : (Nat → Int32)} {to : Int32} {un : Int64} : ∀ (n : Nat) (v0 : Int32) (v1 : (Nat → Int64)) (v2 : (Nat → Int64)) (R : Int32 × (Nat → Int64) × (Nat → Int64)), l_X0_reckon_59 x2 x3 r to un n (v0, v1, v2) = some R → (∀ (H : Heap) (locs : List Loc) (ls : Array Slot), va_P (dC, dI) vwCl [(aO, .inr (0, [.ref aR, .ref gC, .ref gL, .int to, .long un])), (aR, .inr (5, [.int (r 0), .int (r 1), .int (r 2), .int (r 3), .int (r 4), .int (r 5), .int (r 6)])), (gC, .inr (1, [.int 7, .ref gCc])), (gCc, .inl (cJ, 49, .inr (.inl R.2.1))), (gL, .inr (1, [.int 7, .ref gLc])), (gLc, .inl (cJ, 49, .inr (.inl R.2.2)))] H → va_D A [(aO, .inr (0, [.ref aR, .ref gC, .ref gL, .int to, .long un])), (aR, .inr (5, [.int (r 0), .int (r 1), .int (r 2), .int (r 3), .int (r 4), .int (r 5), .int (r 6)])), (gC, .inr (1, [.int 7, .ref gCc])), (gCc, .inl (cJ, 49, .inr (.inl R.2.1))), (gL, .inr (1, [.int 7, .ref gLc])), (gLc, .inl (cJ, 49, .inr (.inl R.2.2)))] → va_S A s.heap H locs → lv_has ls 6 [] → W p l e rmX0_reckon s m args below meth c H locs 0 0 Q (F0 m 111 ls [])) → ∀ (H : Heap) (locs : List Loc) (ls : Array Slot), va_P (dC, dI) vwCl [(aO, .inr (0, [.ref aR, .ref gC, .ref gL, .int to, .long un])), (aR, .inr (5, [.int (r 0), .int (r 1), .int (r 2), .int (r 3), .int (r 4), .int (r 5), .int (r 6)])), (gC, .inr (1, [.int 7, .ref gCc])), (gCc, .inl (cJ, 49, .inr (.inl v1))), (gL, .inr (1, [.int 7, .ref gLc])), (gLc, .inl (cJ, 49, .inr (.inl v2)))] H → va_D A [(aO, .inr (0, [.ref aR, .ref gC, .ref gL, .int to, .long un])), (aR, .inr (5, [.int (r 0), .int (r 1), .int (r 2), .int (r 3), .int (r 4), .int (r 5), .int (r 6)])), (gC, .inr (1, [.int 7, .ref gCc])), (gCc, .inl (cJ, 49, .inr (.inl v1))), (gL, .inr (1, [.int 7, .ref gLc])), (gLc, .inl (cJ, 49, .inr (.inl v2)))] → va_S A s.heap H locs → lv_has ls 6 [(0, .ref aO), (2, .int x2), (3, .int x3), (4, .int v0)] → W p l e rmX0_reckon s m args below meth c H locs 0 0 Q (F0 m 59 ls []) := by
  intro n
  induction n with
  | zero =>
    intro v0 v1 v2 R hf
    have hf : (none : Option (Int32 × (Nat → Int64) × (Nat → Int64))) = some R := hf
    cases hf
  | succ n ih =>
    intro v0 v1 v2 R hf hq
    have hf : b_X0_reckon_59 (l_X0_reckon_59 x2 x3 r to un n) x2 x3 v0 r to un v1 v2 = some R := hf
    exact B_X0_reckon_59 C0 (fun v0 v1 v2 h => ih v0 v1 v2 R h hq) hq hf
set_option maxHeartbeats 4000000 in
set_option maxRecDepth 100000 in
theorem B_X0_reckon_48 {p : Program} {l : Launch} {e : Env} {s : State} {m : MethodId} {args : Array Value} {below : List Frame} {meth : Method} {c : Code} {A : Nat → Prop} {dC : Nat → ClassId} {dI : Nat → Nat → Nat} {cI cJ cZ : ClassId} {aO aR gC gCc gL gLc : Nat} (C0 : q_C p s m args meth c (dC, dI) (q_T cI cJ cZ) A RX0 wsX0_reckon cX0_reckon 6 none) {x2 : Int32} {x3 : Int32} {s0 : Int64} {r : (Nat → Int32)} {to : Int32} {un : Int64} {fc : (Nat → Int64)} {fl : (Nat → Int64)} {R : Int32 × Int64 × (Nat → Int64) × (Nat → Int64)} (hf : b_X0_reckon_48 x2 x3 s0 r to un fc fl = some R) : ∀ (H : Heap) (locs : List Loc) (ls : Array Slot), va_P (dC, dI) vwCl [(aO, .inr (0, [.ref aR, .ref gC, .ref gL, .int to, .long un])), (aR, .inr (5, [.int (r 0), .int (r 1), .int (r 2), .int (r 3), .int (r 4), .int (r 5), .int (r 6)])), (gC, .inr (1, [.int 7, .ref gCc])), (gCc, .inl (cJ, 49, .inr (.inl fc))), (gL, .inr (1, [.int 7, .ref gLc])), (gLc, .inl (cJ, 49, .inr (.inl fl)))] H → va_D A [(aO, .inr (0, [.ref aR, .ref gC, .ref gL, .int to, .long un])), (aR, .inr (5, [.int (r 0), .int (r 1), .int (r 2), .int (r 3), .int (r 4), .int (r 5), .int (r 6)])), (gC, .inr (1, [.int 7, .ref gCc])), (gCc, .inl (cJ, 49, .inr (.inl fc))), (gL, .inr (1, [.int 7, .ref gLc])), (gLc, .inl (cJ, 49, .inr (.inl fl)))] → va_S A s.heap H locs → lv_has ls 6 [(0, .ref aO), (2, .int x2), (3, .int x3)] → W p l e rmX0_reckon s m args below meth c H locs 0 0 (MQ below (qV (dC, dI) (q_T cI cJ cZ) [(aO, .inr (0, [.ref aR, .ref gC, .ref gL, .int R.1, .long R.2.1])), (aR, .inr (5, [.int (r 0), .int (r 1), .int (r 2), .int (r 3), .int (r 4), .int (r 5), .int (r 6)])), (gC, .inr (1, [.int 7, .ref gCc])), (gCc, .inl (cJ, 49, .inr (.inl R.2.2.1))), (gL, .inr (1, [.int 7, .ref gLc])), (gLc, .inl (cJ, 49, .inr (.inl R.2.2.2)))] A) args s 0 0 A) (F0 m 48 ls [.long s0, .ref aO]) := by
  obtain ⟨hx, hb, hml, hown, hts, hrt, hlk, hK, hX, hA⟩ := id C0
  intro H locs ls hP hD hS hl
  refine q_put (ty := .long) (TT := TX0) C0 in_X0_reckon_X0 tyX0 tyX0_ok nmX0 4 m_X0_reckon_f36 hP hD hS 0 rfl rfl (by decide) rfl rfl (by decide +kernel) rfl rfl (Nat.le_of_ble_eq_true rfl) dX0_reckon_48 (fun H locs hP hD hS => ?_)
  have hP : va_P (dC, dI) vwCl [(aO, .inr (0, [.ref aR, .ref gC, .ref gL, .int to, .long s0])), (aR, .inr (5, [.int (r 0), .int (r 1), .int (r 2), .int (r 3), .int (r 4), .int (r 5), .int (r 6)])), (gC, .inr (1, [.int 7, .ref gCc])), (gCc, .inl (cJ, 49, .inr (.inl fc))), (gL, .inr (1, [.int 7, .ref gLc])), (gLc, .inl (cJ, 49, .inr (.inl fl)))] H := hP
  have hD : va_D A [(aO, .inr (0, [.ref aR, .ref gC, .ref gL, .int to, .long s0])), (aR, .inr (5, [.int (r 0), .int (r 1), .int (r 2), .int (r 3), .int (r 4), .int (r 5), .int (r 6)])), (gC, .inr (1, [.int 7, .ref gCc])), (gCc, .inl (cJ, 49, .inr (.inl fc))), (gL, .inr (1, [.int 7, .ref gLc])), (gLc, .inl (cJ, 49, .inr (.inl fl)))] := hD
  refine lv_aload_n hx hb dX0_reckon_51 rfl (lv_at hl 0 rfl) ?_
  refine q_get (TT := TX0) C0 in_X0_reckon_X0 3 m_X0_reckon_f33 hP 0 rfl rfl (by decide) rfl rfl dX0_reckon_52 ?_
  refine lv_iconst (v := 1) hx hb dX0_reckon_55 (by decide) ?_
  refine lv_iadd hx hb dX0_reckon_56 ?_
  refine lv_istore (lv' := [(4, .int (to + 1)), (0, .ref aO), (2, .int x2), (3, .int x3)]) hx hb dX0_reckon_57 hl (by decide) rfl (fun ls hl => ?_)
  obtain ⟨y10, y11, y12, hg13, hf⟩ := q_e3 hf
  refine L_X0_reckon_59 C0 1000 _ _ _ _ _ hg13 ?_ H locs ls hP hD hS (lv_sub hl [1, 2, 3, 0] rfl)
  intro H locs ls hP hD hS hl
  have hP : va_P (dC, dI) vwCl [(aO, .inr (0, [.ref aR, .ref gC, .ref gL, .int to, .long s0])), (aR, .inr (5, [.int (r 0), .int (r 1), .int (r 2), .int (r 3), .int (r 4), .int (r 5), .int (r 6)])), (gC, .inr (1, [.int 7, .ref gCc])), (gCc, .inl (cJ, 49, .inr (.inl y11))), (gL, .inr (1, [.int 7, .ref gLc])), (gLc, .inl (cJ, 49, .inr (.inl y12)))] H := hP
  have hD : va_D A [(aO, .inr (0, [.ref aR, .ref gC, .ref gL, .int to, .long s0])), (aR, .inr (5, [.int (r 0), .int (r 1), .int (r 2), .int (r 3), .int (r 4), .int (r 5), .int (r 6)])), (gC, .inr (1, [.int 7, .ref gCc])), (gCc, .inl (cJ, 49, .inr (.inl y11))), (gL, .inr (1, [.int 7, .ref gLc])), (gLc, .inl (cJ, 49, .inr (.inl y12)))] := hD
  have hl : lv_has ls 6 [] := hl
  obtain rfl := Option.some.inj hf
  exact q_retV C0 hP hD hS dX0_reckon_111
set_option maxHeartbeats 4000000 in
set_option maxRecDepth 100000 in
theorem B_X0_reckon_0 {p : Program} {l : Launch} {e : Env} {s : State} {m : MethodId} {args : Array Value} {below : List Frame} {meth : Method} {c : Code} {A : Nat → Prop} {dC : Nat → ClassId} {dI : Nat → Nat → Nat} {cI cJ cZ : ClassId} {aO aR gC gCc gL gLc : Nat} (C0 : q_C p s m args meth c (dC, dI) (q_T cI cJ cZ) A RX0 wsX0_reckon cX0_reckon 6 none) {x1 : Int32} {r : (Nat → Int32)} {to : Int32} {un : Int64} {fc : (Nat → Int64)} {fl : (Nat → Int64)} {R : Int32 × Int64 × (Nat → Int64) × (Nat → Int64)} (hf : f_X0_reckon x1 r to un fc fl = some R) : ∀ (H : Heap) (locs : List Loc) (ls : Array Slot), va_P (dC, dI) vwCl [(aO, .inr (0, [.ref aR, .ref gC, .ref gL, .int to, .long un])), (aR, .inr (5, [.int (r 0), .int (r 1), .int (r 2), .int (r 3), .int (r 4), .int (r 5), .int (r 6)])), (gC, .inr (1, [.int 7, .ref gCc])), (gCc, .inl (cJ, 49, .inr (.inl fc))), (gL, .inr (1, [.int 7, .ref gLc])), (gLc, .inl (cJ, 49, .inr (.inl fl)))] H → va_D A [(aO, .inr (0, [.ref aR, .ref gC, .ref gL, .int to, .long un])), (aR, .inr (5, [.int (r 0), .int (r 1), .int (r 2), .int (r 3), .int (r 4), .int (r 5), .int (r 6)])), (gC, .inr (1, [.int 7, .ref gCc])), (gCc, .inl (cJ, 49, .inr (.inl fc))), (gL, .inr (1, [.int 7, .ref gLc])), (gLc, .inl (cJ, 49, .inr (.inl fl)))] → va_S A s.heap H locs → lv_has ls 6 [(0, .ref aO), (1, .int x1)] → W p l e rmX0_reckon s m args below meth c H locs 0 0 (MQ below (qV (dC, dI) (q_T cI cJ cZ) [(aO, .inr (0, [.ref aR, .ref gC, .ref gL, .int R.1, .long R.2.1])), (aR, .inr (5, [.int (r 0), .int (r 1), .int (r 2), .int (r 3), .int (r 4), .int (r 5), .int (r 6)])), (gC, .inr (1, [.int 7, .ref gCc])), (gCc, .inl (cJ, 49, .inr (.inl R.2.2.1))), (gL, .inr (1, [.int 7, .ref gLc])), (gLc, .inl (cJ, 49, .inr (.inl R.2.2.2)))] A) args s 0 0 A) (F0 m 0 ls []) := by
  obtain ⟨hx, hb, hml, hown, hts, hrt, hlk, hK, hX, hA⟩ := id C0
  intro H locs ls hP hD hS hl
  refine lv_aload_n hx hb dX0_reckon_0 rfl (lv_at hl 0 rfl) ?_
  refine q_get (TT := TX0) C0 in_X0_reckon_X0 0 m_X0_reckon_f23 hP 0 rfl rfl (by decide) rfl rfl dX0_reckon_1 ?_
  refine lv_iload_n hx hb dX0_reckon_4 rfl (lv_at hl 1 rfl) ?_
  obtain ⟨r14, hg15, hf⟩ := q_e1 hf
  refine q_endI (wc := [(aR, .inr (5, [.int (r 0), .int (r 1), .int (r 2), .int (r 3), .int (r 4), .int (r 5), .int (r 6)]))]) (wr := [(aO, .inr (0, [.ref aR, .ref gC, .ref gL, .int to, .long un])), (gC, .inr (1, [.int 7, .ref gCc])), (gCc, .inl (cJ, 49, .inr (.inl fc))), (gL, .inr (1, [.int 7, .ref gLc])), (gLc, .inl (cJ, 49, .inr (.inl fl)))]) (w1 := [(aR, .inr (5, [.int (r 0), .int (r 1), .int (r 2), .int (r 3), .int (r 4), .int (r 5), .int (r 6)]))]) (rv := r14) C0 hP hD hS [1] [0, 2, 3, 4, 5] rfl rfl (by decide) (by decide) (q_runV (TT := TX5) (N := 7) (ci := 5) (q0 := 0) C0 (c_X5_tenthsOfA (l := l) hg15) (cwV 1 hts gX0_reckon_X5_tenthsOfA rfl rfl rfl (by decide +kernel) ⟨Nat.le_of_ble_eq_true rfl, Nat.le_of_ble_eq_true rfl⟩) hP hD hS [1] rfl (by decide) rfl rfl rfl rfl hl.1 (Nat.le_of_ble_eq_true rfl) dX0_reckon_5) (fun H locs hP hD hS => ?_)
  have hP : va_P (dC, dI) vwCl [(aO, .inr (0, [.ref aR, .ref gC, .ref gL, .int to, .long un])), (gC, .inr (1, [.int 7, .ref gCc])), (gCc, .inl (cJ, 49, .inr (.inl fc))), (gL, .inr (1, [.int 7, .ref gLc])), (gLc, .inl (cJ, 49, .inr (.inl fl))), (aR, .inr (5, [.int (r 0), .int (r 1), .int (r 2), .int (r 3), .int (r 4), .int (r 5), .int (r 6)]))] H := hP
  have hD : va_D A [(aO, .inr (0, [.ref aR, .ref gC, .ref gL, .int to, .long un])), (gC, .inr (1, [.int 7, .ref gCc])), (gCc, .inl (cJ, 49, .inr (.inl fc))), (gL, .inr (1, [.int 7, .ref gLc])), (gLc, .inl (cJ, 49, .inr (.inl fl))), (aR, .inr (5, [.int (r 0), .int (r 1), .int (r 2), .int (r 3), .int (r 4), .int (r 5), .int (r 6)]))] := hD
  refine lv_istore_n (lv' := [(2, .int r14), (0, .ref aO), (1, .int x1)]) hx hb dX0_reckon_8 rfl hl (by decide) rfl (fun ls hl => ?_)
  refine lv_bipush (v := 10) hx hb dX0_reckon_9 (by decide) ?_
  refine lv_iload_n hx hb dX0_reckon_11 rfl (lv_at hl 0 rfl) ?_
  refine lv_isub hx hb dX0_reckon_12 ?_
  refine lv_istore_n (lv' := [(3, .int (10 - r14)), (2, .int r14), (0, .ref aO), (1, .int x1)]) hx hb dX0_reckon_13 rfl hl (by decide) rfl (fun ls hl => ?_)
  refine lv_aload_n hx hb dX0_reckon_14 rfl (lv_at hl 2 rfl) ?_
  refine lv_aload_n hx hb dX0_reckon_15 rfl (lv_at hl 2 rfl) ?_
  refine q_get (TT := TX0) C0 in_X0_reckon_X0 0 m_X0_reckon_f23 hP 0 rfl rfl (by decide) rfl rfl dX0_reckon_16 ?_
  refine q_get (TT := TX5) C0 in_X0_reckon_X5 2 m_X0_reckon_f27 hP 5 rfl rfl (by decide) rfl rfl dX0_reckon_19 ?_
  refine q_put (ty := .int) (TT := TX0) C0 in_X0_reckon_X0 tyX0 tyX0_ok nmX0 3 m_X0_reckon_f33 hP hD hS 0 rfl rfl (by decide) rfl rfl (by decide +kernel) rfl rfl (Nat.le_of_ble_eq_true rfl) dX0_reckon_22 (fun H locs hP hD hS => ?_)
  have hP : va_P (dC, dI) vwCl [(aO, .inr (0, [.ref aR, .ref gC, .ref gL, .int (r 2), .long un])), (gC, .inr (1, [.int 7, .ref gCc])), (gCc, .inl (cJ, 49, .inr (.inl fc))), (gL, .inr (1, [.int 7, .ref gLc])), (gLc, .inl (cJ, 49, .inr (.inl fl))), (aR, .inr (5, [.int (r 0), .int (r 1), .int (r 2), .int (r 3), .int (r 4), .int (r 5), .int (r 6)]))] H := hP
  have hD : va_D A [(aO, .inr (0, [.ref aR, .ref gC, .ref gL, .int (r 2), .long un])), (gC, .inr (1, [.int 7, .ref gCc])), (gCc, .inl (cJ, 49, .inr (.inl fc))), (gL, .inr (1, [.int 7, .ref gLc])), (gLc, .inl (cJ, 49, .inr (.inl fl))), (aR, .inr (5, [.int (r 0), .int (r 1), .int (r 2), .int (r 3), .int (r 4), .int (r 5), .int (r 6)]))] := hD
  refine lv_aload_n hx hb dX0_reckon_25 rfl (lv_at hl 2 rfl) ?_
  refine lv_aload_n hx hb dX0_reckon_26 rfl (lv_at hl 2 rfl) ?_
  refine q_get (TT := TX0) C0 in_X0_reckon_X0 0 m_X0_reckon_f23 hP 0 rfl rfl (by decide) rfl rfl dX0_reckon_27 ?_
  refine q_get (TT := TX5) C0 in_X0_reckon_X5 6 m_X0_reckon_f48 hP 5 rfl rfl (by decide) rfl rfl dX0_reckon_30 ?_
  refine lv_if_ne (tgt := 47) hx hb dX0_reckon_33 (by decide) (fun hc16 => ?_) (fun hc16 => ?_)
  · have hf := q_nif hf hc16
    refine lv_lconst (v := 1) hx hb dX0_reckon_47 (by decide) ?_
    exact B_X0_reckon_48 C0 hf H locs ls (q_sub (wc := [(aO, .inr (0, [.ref aR, .ref gC, .ref gL, .int (r 2), .long un])), (aR, .inr (5, [.int (r 0), .int (r 1), .int (r 2), .int (r 3), .int (r 4), .int (r 5), .int (r 6)])), (gC, .inr (1, [.int 7, .ref gCc])), (gCc, .inl (cJ, 49, .inr (.inl fc))), (gL, .inr (1, [.int 7, .ref gLc])), (gLc, .inl (cJ, 49, .inr (.inl fl)))]) (is := [0, 5, 1, 2, 3, 4]) hP rfl) (hD.sub (ws' := [(aO, .inr (0, [.ref aR, .ref gC, .ref gL, .int (r 2), .long un])), (aR, .inr (5, [.int (r 0), .int (r 1), .int (r 2), .int (r 3), .int (r 4), .int (r 5), .int (r 6)])), (gC, .inr (1, [.int 7, .ref gCc])), (gCc, .inl (cJ, 49, .inr (.inl fc))), (gL, .inr (1, [.int 7, .ref gLc])), (gLc, .inl (cJ, 49, .inr (.inl fl)))]) [0, 5, 1, 2, 3, 4] (by decide) rfl) hS (lv_sub hl [2, 1, 0] rfl)
  · have hf := q_if hf hc16
    refine lv_iload_n hx hb dX0_reckon_36 rfl (lv_at hl 1 rfl) ?_
    refine lv_iload_n hx hb dX0_reckon_37 rfl (lv_at hl 1 rfl) ?_
    refine lv_imul hx hb dX0_reckon_38 ?_
    refine lv_iload_n hx hb dX0_reckon_39 rfl (lv_at hl 0 rfl) ?_
    refine lv_iload_n hx hb dX0_reckon_40 rfl (lv_at hl 0 rfl) ?_
    refine lv_imul hx hb dX0_reckon_41 ?_
    refine lv_iadd hx hb dX0_reckon_42 ?_
    refine lv_i2l (v := Int32.toInt64 ((r14 * r14) + ((10 - r14) * (10 - r14)))) hx hb dX0_reckon_43 rfl ?_
    refine lv_goto (tgt := 48) hx hb dX0_reckon_44 (by decide) ?_
    exact B_X0_reckon_48 C0 hf H locs ls (q_sub (wc := [(aO, .inr (0, [.ref aR, .ref gC, .ref gL, .int (r 2), .long un])), (aR, .inr (5, [.int (r 0), .int (r 1), .int (r 2), .int (r 3), .int (r 4), .int (r 5), .int (r 6)])), (gC, .inr (1, [.int 7, .ref gCc])), (gCc, .inl (cJ, 49, .inr (.inl fc))), (gL, .inr (1, [.int 7, .ref gLc])), (gLc, .inl (cJ, 49, .inr (.inl fl)))]) (is := [0, 5, 1, 2, 3, 4]) hP rfl) (hD.sub (ws' := [(aO, .inr (0, [.ref aR, .ref gC, .ref gL, .int (r 2), .long un])), (aR, .inr (5, [.int (r 0), .int (r 1), .int (r 2), .int (r 3), .int (r 4), .int (r 5), .int (r 6)])), (gC, .inr (1, [.int 7, .ref gCc])), (gCc, .inl (cJ, 49, .inr (.inl fc))), (gL, .inr (1, [.int 7, .ref gLc])), (gLc, .inl (cJ, 49, .inr (.inl fl)))]) [0, 5, 1, 2, 3, 4] (by decide) rfl) hS (lv_sub hl [2, 1, 0] rfl)
set_option maxHeartbeats 4000000 in
set_option maxRecDepth 100000 in
theorem c_X0_reckon {l : Launch} {dC : Nat → ClassId} {dI : Nat → Nat → Nat} {cI cJ cZ : ClassId} {aO aR gC gCc gL gLc : Nat} {x1 : Int32} {r : (Nat → Int32)} {to : Int32} {un : Int64} {fc : (Nat → Int64)} {fl : (Nat → Int64)} {R : Int32 × Int64 × (Nat → Int64) × (Nat → Int64)} (hf : f_X0_reckon x1 r to un fc fl = some R) : q_M l yX0_reckon wsX0_reckon rmX0_reckon (dC, dI) (q_T cI cJ cZ) [.ref aO, .int x1] [(aO, .inr (0, [.ref aR, .ref gC, .ref gL, .int to, .long un])), (aR, .inr (5, [.int (r 0), .int (r 1), .int (r 2), .int (r 3), .int (r 4), .int (r 5), .int (r 6)])), (gC, .inr (1, [.int 7, .ref gCc])), (gCc, .inl (cJ, 49, .inr (.inl fc))), (gL, .inr (1, [.int 7, .ref gLc])), (gLc, .inl (cJ, 49, .inr (.inl fl)))] (qV (dC, dI) (q_T cI cJ cZ) [(aO, .inr (0, [.ref aR, .ref gC, .ref gL, .int R.1, .long R.2.1])), (aR, .inr (5, [.int (r 0), .int (r 1), .int (r 2), .int (r 3), .int (r 4), .int (r 5), .int (r 6)])), (gC, .inr (1, [.int 7, .ref gCc])), (gCc, .inl (cJ, 49, .inr (.inl R.2.2.1))), (gL, .inr (1, [.int 7, .ref gLc])), (gLc, .inl (cJ, 49, .inr (.inl R.2.2.2)))]) := by
  refine q_body (cc := cX0_reckon) (maxL := 6) (ret := none) (by decide) rfl (Nat.le_of_ble_eq_true rfl) ?_
  intro p e s m args below meth c A C0 ls hP hD hS hl
  have hl : lv_has ls 6 [(0, .ref aO), (1, .int x1)] := hl
  exact B_X0_reckon_0 C0 hf s.heap [] ls hP hD hS hl
end
