/-! The tables of the abstract machine, its rules at these tables (printed by wip/p67/gen12.py). -/
def z_at {α : Type} (d : α) : List α → Nat → α
  | [], _ => d
  | a :: _, 0 => a
  | _ :: l, n + 1 => z_at d l n
theorem z_at_in {α : Type} (d : α) (l : List α) (n : Nat) : z_at d l n = d ∨ z_at d l n ∈ l := by
  induction l generalizing n with
  | nil => exact Or.inl rfl
  | cons a l ih =>
    cases n with
    | zero => exact Or.inr List.mem_cons_self
    | succ n => exact (ih n).elim Or.inl fun h => Or.inr (List.mem_cons_of_mem _ h)
abbrev zRec : Type := MethodName × ByteArray × Nat × Option FieldType × Nat × Nat × Nat × List Nat × List (Nat × Nat × Nat × Nat) × List Nat × List (String × Int32)
def zR0 : zRec := (⟨"FalseLightMarsh", "", ""⟩, .empty, 0, none, 0, 0, 99, [], [], [], [])
def zMT0 : List zRec := [zR0,
  zR0,
  zR0,
  zR0,
  zR0,
  zR0,
  zR0,
  zR0,
  zR0,
  zR0,
  zR0,
  zR0,
  zR0,
  zR0,
  zR0,
  zR0,
  zR0,
  zR0,
  zR0]
def zMT1 : List zRec := [zR0,
  zR0,
  zR0,
  zR0,
  zR0,
  zR0,
  zR0,
  zR0,
  zR0,
  zR0,
  zR0,
  zR0,
  zR0,
  zR0,
  zR0,
  zR0,
  zR0,
  zR0,
  zR0]
def zMT2 : List zRec := [zR0,
  zR0,
  zR0,
  zR0,
  zR0,
  zR0,
  zR0,
  zR0,
  zR0,
  zR0,
  zR0,
  zR0,
  zR0,
  zR0,
  zR0,
  zR0,
  zR0,
  zR0,
  zR0]
def zMT3 : List zRec := [zR0,
  zR0,
  zR0,
  zR0,
  zR0,
  zR0,
  zR0,
  zR0,
  zR0,
  zR0,
  zR0,
  zR0,
  zR0,
  zR0,
  zR0,
  zR0,
  zR0,
  zR0,
  zR0]
def zMT4 : List zRec := [zR0,
  zR0,
  zR0,
  zR0,
  zR0,
  zR0,
  zR0,
  zR0,
  zR0,
  zR0,
  zR0,
  zR0,
  zR0,
  zR0,
  zR0,
  zR0,
  zR0,
  zR0,
  zR0]
def zMT5 : List zRec := [zR0,
  zR0,
  zR0,
  zR0,
  zR0,
  zR0,
  zR0,
  zR0,
  zR0,
  zR0,
  zR0,
  zR0,
  zR0,
  zR0,
  zR0,
  zR0,
  zR0,
  zR0,
  zR0]
def zMT6 : List zRec := [zR0,
  zR0,
  zR0,
  zR0,
  zR0,
  zR0,
  zR0,
  zR0,
  zR0,
  zR0,
  zR0,
  zR0,
  zR0,
  zR0,
  zR0,
  zR0,
  zR0,
  zR0,
  zR0]
def zMT7 : List zRec := [zR0,
  zR0,
  (yX1_copyFrom, cX1_copyFrom, 2, none, 2, 61, 1, [0, 1, 2, 5, 8, 9, 10, 13, 16, 17, 20, 21, 24, 27], [], [], []),
  (yX1_contains, cX1_contains, 3, (some .boolean), 0, 0, 1, [0, 1, 4, 5, 6, 9, 12, 13, 16, 17, 18, 21, 24, 25, 28, 29], [], [], []),
  (yX1_holdsPlank, cX1_holdsPlank, 2, (some .boolean), 0, 0, 1, [0, 1, 4, 5, 6, 9, 10, 13, 14, 15, 17, 20, 21, 24, 25], [], [], []),
  (yX1_takesTraveller, cX1_takesTraveller, 2, (some .boolean), 0, 0, 1, [0, 1, 4, 5, 6, 9, 10, 13, 14, 15, 17, 20, 21, 24, 25], [], [], []),
  (yX1_countPlanks, cX1_countPlanks, 4, (some .int), 1, 21, 1, [0, 1, 2, 3, 4, 5, 6, 9, 12, 13, 14, 15, 16, 19, 22, 23, 24, 25, 28, 31, 34, 37, 40, 43, 46, 49, 50], [], [], []),
  (yX1_neighbour, cX1_neighbour, 6, (some .int), 0, 0, 1, [0, 1, 3, 4, 7, 8, 9, 10, 11, 12, 14, 15, 18, 19, 20, 21, 23, 24, 27, 28, 29, 32, 35, 37, 40, 42, 43, 46, 49, 50, 53, 54, 56, 58, 61, 63, 65, 66, 67, 68, 71, 72], [], [], []),
  (yX1_wear, cX1_wear, 2, (some .boolean), 1, 21, 1, [0, 1, 2, 5, 8, 9, 10, 11, 14, 15, 16, 17, 18, 19, 20, 21, 24, 25, 26, 29, 30, 33, 34], [], [], []),
  zR0,
  (yX3_copyFrom, cX3_copyFrom, 2, none, 2, 61, 3, [0, 1, 2, 5, 8, 9, 10, 13, 16, 17, 20, 21, 24, 27, 28, 31, 32, 35, 38, 39, 42, 43, 46, 49], [], [], []),
  (yX3_removeAll, cX3_removeAll, 1, none, 0, 0, 3, [0, 1, 2, 5, 6, 7, 10], [], [], []),
  (yX3_contains, cX3_contains, 2, (some .boolean), 0, 0, 3, [0, 1, 4, 5, 6, 9, 12, 13, 16, 17], [], [], []),
  (yX3_onCell, cX3_onCell, 3, (some .int), 0, 0, 3, [0, 1, 2, 3, 4, 7, 10, 11, 14, 15, 16, 17, 20, 21, 22, 25, 28, 29], [], [], []),
  (yX3_put, cX3_put, 5, (some .int), 0, 0, 3, [0, 1, 4, 6, 9, 10, 11, 12, 15, 17, 18, 21, 23, 24, 25, 26, 29, 31, 32, 33, 34, 37, 39, 40, 41, 42, 45, 46, 47, 50, 51, 53, 54, 55, 58, 59, 60, 63, 64, 65, 68, 70], [], [], []),
  (yX3_goesWrong, cX3_goesWrong, 5, (some .boolean), 1, 21, 3, [0, 1, 2, 3, 4, 5, 7, 9, 11, 14, 15, 16, 19, 22, 23, 24, 27, 30, 31, 34, 35, 38, 41, 42, 43, 44, 45, 46, 47, 48, 49, 50, 53, 54, 55, 56, 59, 62, 63], [], [], []),
  (yX3_countWrong, cX3_countWrong, 3, (some .int), 2, 45, 3, [0, 1, 2, 3, 4, 5, 6, 9, 12, 13, 14, 17, 20, 23, 26, 29, 30], [], [], []),
  (yX6_copyFrom, cX6_copyFrom, 2, none, 2, 61, 6, [0, 1, 2, 5, 8, 9, 12, 13, 16, 19, 20, 23, 24, 27, 30, 31, 34, 35, 38, 41, 42, 45, 46, 49, 52, 53, 56, 57, 60, 63, 64, 67, 68, 71, 74, 75, 78, 79, 82, 85], [], [], []),
  (yX6_put, cX6_put, 3, (some .int), 0, 0, 6, [0, 1, 4, 6, 9, 10, 11, 12, 15, 16, 17, 20, 21, 22, 23, 24, 27, 28, 29, 30, 31, 34, 35, 36, 37, 38, 41, 42, 43, 44, 45, 48, 49, 50, 51, 52, 55, 56, 57, 58, 59, 60, 63, 64, 65, 68, 69], [], [], [])]
def zMT8 : List zRec := [(yX6_finish, cX6_finish, 4, none, 0, 0, 6, [0, 1, 4, 5, 6, 7, 8, 11, 12, 13, 14, 15, 18, 19, 20, 21], [], [], []),
  (yX6_shuns, cX6_shuns, 3, (some .boolean), 1, 21, 6, [0, 1, 4, 5, 6, 7, 10, 11, 12, 13, 14, 17], [], [], []),
  (yX6_countIn, cX6_countIn, 4, (some .int), 0, 0, 6, [0, 1, 2, 3, 4, 5, 6, 9, 12, 13, 16, 17, 18, 19, 22, 25, 28, 31, 32], [], [], []),
  (yX6_countFollowing, cX6_countFollowing, 4, (some .int), 0, 0, 6, [0, 1, 2, 3, 4, 5, 6, 9, 12, 13, 16, 17, 18, 21, 22, 25, 26, 27, 28, 31, 34, 37, 40, 41], [], [], []),
  (yX6_sumOfSteps, cX6_sumOfSteps, 3, (some .int), 0, 0, 6, [0, 1, 2, 3, 4, 5, 6, 9, 12, 13, 14, 17, 18, 19, 20, 21, 24, 27, 28], [], [], []),
  zR0,
  (yX7_copyFrom, cX7_copyFrom, 2, none, 3, 82, 7, [0, 1, 4, 5, 8, 11, 12, 15, 16, 19, 22, 23, 26, 27, 30, 33, 34, 37, 38, 41, 44, 45, 46, 49, 52, 53, 54, 57, 60], [], [], []),
  (yX7_startAnew, cX7_startAnew, 3, none, 1, 23, 7, [0, 1, 4, 5, 8, 9, 12, 13, 16, 17, 20, 23, 24, 27, 28, 31, 32, 35, 36, 39, 40, 41, 44], [], [], []),
  (yX7_sightNow, cX7_sightNow, 1, (some .int), 1, 21, 7, [0, 1, 2, 5, 6, 9, 10, 13, 15, 16, 17, 18, 21], [], [], []),
  (yX7_distanceTo, cX7_distanceTo, 5, (some .int), 1, 21, 7, [0, 1, 4, 7, 8, 9, 10, 11, 14, 17, 18, 19, 21, 22, 24, 25, 27, 29, 30, 31, 34, 35, 37, 38, 40, 42, 43, 44, 47, 48], [], [], []),
  (yX7_nearestAcceptable, cX7_nearestAcceptable, 7, (some .int), 2, 45, 7, [0, 1, 4, 5, 6, 7, 8, 10, 11, 13, 15, 16, 19, 22, 25, 26, 29, 30, 32, 35, 38, 39, 40, 42, 45, 47, 49, 50, 51, 54, 57, 59, 60, 61, 64, 65, 66, 69, 71, 73, 76, 78, 79, 81, 83, 86, 89, 90], [], [], []),
  (yX7_takesLight, cX7_takesLight, 2, (some .boolean), 1, 22, 7, [0, 1, 4, 7, 8, 9, 12, 13, 16, 17, 20, 21, 24, 25, 28, 29], [], [], []),
  zR0,
  (yX0_measureToCell, cX0_measureToCell, 3, none, 2, 50, 0, [0, 1, 4, 5, 6, 7, 8, 11, 12, 13, 16], [], [], []),
  (yX0_measureToHuts, cX0_measureToHuts, 5, none, 2, 50, 0, [0, 1, 4, 5, 6, 7, 8, 11, 14, 15, 16, 17, 18, 21, 24, 25, 26, 29, 31, 32, 35, 37, 38, 40, 43, 44, 45, 47, 48, 51, 54, 57, 60, 63, 64, 65, 68], [], [], []),
  (yX0_forgetPaths, cX0_forgetPaths, 1, none, 1, 23, 0, [0, 1, 4, 5, 8, 9, 10, 13], [], [], []),
  (yX0_spread, cX0_spread, 6, none, 1, 25, 0, [0, 1, 2, 3, 6, 9, 10, 11, 14, 17, 18, 21, 22, 23, 24, 25, 27, 29, 30, 33, 34, 35, 37, 40, 42, 44, 45, 48, 49, 50, 52, 53, 56, 57, 58, 59, 60, 63, 66, 69, 72, 75, 76, 77, 80], [], [], []),
  (yX0_reach, cX0_reach, 4, none, 0, 0, 0, [0, 1, 4, 5, 6, 7, 10, 11, 12, 15, 16, 17, 18, 19, 22, 23, 24, 27, 28, 31, 34, 37, 38, 41, 42, 45, 46, 47, 48, 49, 52, 53, 54, 57], [], [], []),
  (yX0_nextCell, cX0_nextCell, 5, (some .int), 1, 25, 0, [0, 1, 4, 5, 6, 7, 10, 11, 12, 13, 14, 15, 16, 19, 20, 21, 22, 25, 27, 29, 30, 33, 34, 37, 39, 40, 43, 44, 47, 49, 50, 51, 54, 55, 56, 57, 58, 61, 63, 64, 67, 70, 71], [], [], [])]
def zMT9 : List zRec := [(yX4_run, cX4_run, 7, none, 5, 122, 4, [0, 1, 4, 5, 6, 7, 8, 10, 11, 14, 15, 17, 19, 20, 23, 25, 27, 30, 31, 32, 35, 36, 37, 40, 43, 44, 46, 48, 49, 52, 55, 58, 59, 62, 65, 67, 68, 71, 72, 73, 75, 78, 81, 82, 84, 87, 90, 93, 96, 97, 98, 101], [], [], []),
  (yX4_forgetWays, cX4_forgetWays, 2, none, 0, 0, 4, [0, 1, 2, 3, 5, 8, 9, 12, 13, 14, 15, 18, 21, 24], [], [], []),
  (yX4_act, cX4_act, 5, (some .boolean), 4, 98, 4, [0, 1, 4, 5, 6, 9, 10, 11, 12, 15, 16, 19, 20, 21, 22, 25, 26, 27, 30, 31, 32, 34, 35, 38, 40, 43, 46, 47, 48, 49, 52, 53, 54, 55, 58, 61, 63, 64, 67, 68, 69, 70, 72, 75, 78, 79, 80, 81, 83, 86, 89, 90, 93, 94, 95, 96, 97, 99, 100, 101, 102, 103, 106, 107, 108, 109, 110], [], [], []),
  (yX4_move, cX4_move, 7, (some .boolean), 3, 72, 4, [0, 1, 4, 5, 6, 8, 10, 13, 16, 18, 19, 22, 23, 26, 29, 30, 31, 34, 35, 38, 41, 42, 43, 45, 47, 48, 51, 53, 56, 58, 60, 61, 64, 65, 66, 67, 70, 73, 74, 76, 77, 78, 81, 84, 85, 86, 87, 88, 89, 90, 91, 94, 96, 99, 102, 103, 106, 107], [], [], []),
  (yX4_settle, cX4_settle, 6, none, 3, 70, 4, [0, 1, 4, 6, 8, 11, 12, 13, 15, 16, 19, 22, 24, 25, 27, 30, 32, 33, 34, 35, 38, 41, 44, 46, 47, 50, 53, 54, 55, 58, 59, 62, 65, 66, 69, 72, 73, 74, 75, 76, 79, 82, 84, 85, 86, 87, 90, 93, 94, 95, 96, 99], [], [], []),
  (yX4_passLight, cX4_passLight, 7, none, 2, 43, 4, [0, 1, 4, 6, 8, 11, 12, 13, 14, 15, 16, 17, 18, 19, 20, 23, 26, 27, 28, 30, 31, 34, 36, 39, 42, 44, 45, 47, 50, 53, 54, 57, 58, 60, 62, 65, 66, 68, 71, 73, 76, 77, 78], [], [], []),
  (yX4_warnOthers, cX4_warnOthers, 6, none, 2, 45, 4, [0, 1, 4, 5, 6, 9, 11, 12, 14, 16, 17, 20, 23, 24, 27, 29, 30, 33, 34, 36, 37, 40, 42, 45, 46, 49, 51, 52, 53, 54, 55, 56, 57, 58, 59, 62, 64, 65, 66, 69, 70, 73, 75, 76, 77, 80, 83], [], [], []),
  (yX2_forgetAll, cX2_forgetAll, 1, none, 0, 0, 2, [0, 1, 2, 5], [], [], []),
  (yX2_remember, cX2_remember, 2, none, 4, 103, 2, [0, 1, 2, 5, 6, 7, 9, 10, 13, 14, 17, 18, 21, 22, 23, 26, 27, 28, 31, 32, 33, 35, 38, 41], [], [], []),
  (yX2_restoreLatest, cX2_restoreLatest, 2, none, 4, 103, 2, [0, 1, 4, 7, 8, 9, 10, 13, 14, 17, 18, 21, 22, 23, 26, 28, 29, 30, 31, 33, 34, 37, 38, 39, 42, 43, 44, 47], [], [], []),
  (yX5_putInt, cX5_putInt, 3, none, 1, 21, 5, [0, 2, 3, 4, 7, 8, 9, 10, 11, 12, 15, 18, 21], [], [], []),
  (yX5_putText, cX5_putText, 3, none, 4, 85, 5, [0, 1, 2, 3, 4, 7, 10, 11, 12, 13, 16, 17, 20, 23, 26], [], [], []),
  (yX5_putByte, cX5_putByte, 2, none, 0, 0, 5, [0, 1, 4, 7, 10, 11, 14, 15, 18, 19, 20, 21, 22, 25, 26, 27, 30], [], [], []),
  (yX5_cutTo, cX5_cutTo, 2, none, 0, 0, 5, [0, 1, 2, 5], [], [], []),
  (yX5_readInto, cX5_readInto, 3, (some .int), 7, 155, 5, [0, 1, 2, 5, 6, 9, 10, 11, 14, 17, 18, 19, 22, 25, 28, 29, 30, 33, 36, 37, 38, 41, 44, 45, 46, 49, 52, 53, 56, 59, 60, 63, 64, 65, 66, 69, 70, 73, 74, 77], [], [], []),
  (yX5_readHead, cX5_readHead, 3, (some .boolean), 5, 107, 5, [0, 1, 3, 6, 9, 10, 11, 13, 16, 19, 20, 21, 22, 25, 26, 27, 28, 30, 33, 36, 37, 38, 39, 40, 41, 44, 47, 48, 50, 53, 56, 57, 58, 60, 63, 66, 67, 68, 69, 70, 73, 76, 77, 80], [], [], []),
  (yX5_readRows, cX5_readRows, 3, (some .boolean), 5, 107, 5, [0, 1, 2, 3, 4, 7, 10, 11, 13, 16, 19, 20, 21, 22, 25, 28, 29, 32, 35, 36, 37, 40, 43, 44], [], [], []),
  (yX5_readFogs, cX5_readFogs, 4, (some .boolean), 5, 107, 5, [0, 1, 2, 3, 6, 9, 10, 12, 15, 18, 19, 20, 22, 25, 28, 29, 30, 31, 34, 35, 36, 37, 39, 42, 45, 46, 47, 48, 51, 52, 53, 56, 57, 58, 61, 64, 65, 66, 69, 72, 73], [], [], []),
  (yX5_readLights, cX5_readLights, 3, (some .boolean), 6, 133, 5, [0, 1, 2, 3, 5, 8, 9, 11, 14, 17, 18, 19, 22, 25, 26, 27, 30, 33, 34], [], [], [])]
def zMT10 : List zRec := [(yX5_readLight, cX5_readLight, 7, (some .boolean), 5, 107, 5, [0, 1, 2, 3, 6, 9, 10, 11, 14, 17, 18, 19, 20, 23, 24, 25, 26, 27, 30, 33, 34, 35, 38, 41, 42, 43, 44, 47, 50, 53, 56, 57, 58, 59, 60, 63, 66, 67, 68, 71, 72, 73, 75, 78, 81, 82, 83, 84, 87, 89, 90, 92, 95, 97, 99, 102, 103, 105, 108, 111, 112, 113, 114, 117, 118, 120, 122, 125, 127, 129, 130, 133, 134, 136, 139, 142, 143, 144, 146, 147, 148, 151, 154, 155, 156, 157, 160, 163, 165, 166, 169, 170, 171, 174], [], [], []),
  (yX5_readTravellers, cX5_readTravellers, 4, (some .boolean), 5, 107, 5, [0, 1, 2, 3, 5, 8, 9, 11, 14, 17, 18, 19, 20, 23, 26, 27, 28, 31, 34, 35, 36, 37, 40, 41, 42, 43, 44, 47, 50, 51, 52, 55, 58, 59, 62, 63, 64, 67, 70, 73, 76, 77, 78, 79, 82, 83, 84, 87, 90, 93, 94, 95, 98, 99, 102, 105, 106, 107, 110, 113, 114], [], [], []),
  (yX5_takeWord, cX5_takeWord, 3, (some .boolean), 4, 85, 5, [0, 1, 4, 5, 8, 9, 12, 13, 16, 17, 18, 21, 24, 25, 26, 27, 28, 29, 30, 33, 36, 37, 40, 41, 44, 45, 46, 47, 48, 49, 52, 55, 56, 57, 60, 63, 64, 67, 68], [], [], []),
  (yX5_isNumber, cX5_isNumber, 3, (some .boolean), 0, 0, 5, [0, 1, 4, 5, 8, 9, 12, 13, 16, 17, 20, 21, 24, 25, 28, 29], [], [], []),
  (yX5_takeNumber, cX5_takeNumber, 3, (some .boolean), 2, 41, 5, [0, 1, 2, 3, 6, 9, 10, 11, 12, 13, 16, 19, 20, 23, 24], [], [], []),
  (yX5_takeSemicolon, cX5_takeSemicolon, 1, (some .boolean), 2, 41, 5, [0, 1, 4, 5, 8, 9, 10, 11, 14, 15], [], [], []),
  (yX5_takeCells, cX5_takeCells, 5, (some .boolean), 2, 41, 5, [0, 1, 4, 5, 8, 9, 12, 13, 16, 17, 18, 21, 24, 25, 26, 27, 28, 29, 30, 33, 36, 37, 40, 41, 44, 45, 46, 47, 50, 52, 54, 55, 58, 59, 60, 61, 64, 65, 66, 69, 71, 72, 75, 78, 79, 82, 83], [], [], []),
  (yX5_groundOf, cX5_groundOf, 1, (some .int), 0, 0, 5, [0, 1, 44, 46, 47, 48, 49, 51, 52, 53, 54, 55], [], [], []),
  (yX5_scan, cX5_scan, 1, none, 1, 21, 5, [0, 1, 2, 5, 8, 9, 12, 13, 16, 19, 20, 23, 24, 27, 28, 31, 32, 35, 36, 37, 40, 41, 42, 45, 48, 49, 50, 53, 56, 57, 60, 61, 64, 67, 68, 69, 72, 73, 74, 75, 78, 79, 82, 83, 86, 89, 90, 91, 94, 95, 96, 99, 100, 103, 104, 107, 108, 111, 112, 115, 116, 119, 120, 123, 126, 127, 130, 131, 134, 135, 138, 139, 142, 145, 146, 147, 150, 151, 152, 155, 158, 159, 162, 163, 166, 167, 170], [], [], []),
  (yX5_readNumber, cX5_readNumber, 2, none, 0, 0, 5, [0, 1, 4, 5, 8, 9, 10, 13, 14, 15, 18, 19, 20, 21, 24, 25, 28, 29, 30, 31, 34, 37, 38, 39, 42, 44, 45, 46, 49, 50, 51, 52, 54, 55, 58, 61, 64], [], [], []),
  (yX5_kindOf, cX5_kindOf, 1, (some .int), 0, 0, 5, [0, 1, 3, 6, 7, 9, 12, 13, 14, 15, 17, 20, 21, 23, 26, 27, 28, 29, 64, 65, 66, 67, 68, 69], [], [], []),
  (yX8_append, cX8_append, 6, (some .int), 6, 90, 8, [0, 1, 4, 7, 9, 10, 13, 16, 19, 20, 22, 25, 26, 27, 30, 31, 34, 35, 38, 39, 42, 43, 46, 47, 50, 51, 54, 56, 59, 60, 63, 65, 68, 69, 72, 75], [], [], []),
  (yX8_shorten, cX8_shorten, 2, (some .int), 6, 90, 8, [0, 1, 4, 5, 6, 9, 12, 15, 18, 19, 21, 24, 25, 26, 29, 30, 33, 34], [], [], []),
  (yX8_load, cX8_load, 2, (some .int), 8, 177, 8, [0, 1, 2, 5, 6, 9, 12, 15, 16, 19, 20, 23, 24, 27, 28, 31, 34, 35, 37, 40, 41, 42, 45, 46, 49, 52, 53, 56, 59, 60, 61, 62, 63, 66, 67, 70, 71, 72, 73, 76, 79, 80, 83, 86, 89], [], [], []),
  (yX8_hasError, cX8_hasError, 1, (some .boolean), 0, 0, 8, [0, 1, 4, 5, 8, 9, 12, 13], [], [], []),
  (yX8_errorOffset, cX8_errorOffset, 1, (some .int), 6, 90, 8, [0, 1, 4, 5, 8, 11, 12, 14, 17, 18, 19, 22], [], [], []),
  (yX8_width, cX8_width, 1, (some .int), 0, 0, 8, [0, 1, 4, 7, 10], [], [], []),
  (yX8_height, cX8_height, 1, (some .int), 0, 0, 8, [0, 1, 4, 7, 10], [], [], []),
  (yX8_isWater, cX8_isWater, 3, (some .boolean), 7, 112, 8, [0, 1, 4, 7, 10, 11, 12, 13, 16, 17, 20, 21, 24, 25], [], [], [])]
def zMT11 : List zRec := [(yX8_isHut, cX8_isHut, 3, (some .boolean), 7, 112, 8, [0, 1, 4, 7, 10, 11, 12, 13, 16, 17, 19, 22, 23, 26, 27], [], [], []),
  (yX8_isPlank, cX8_isPlank, 3, (some .boolean), 7, 112, 8, [0, 1, 4, 7, 8, 9, 10, 13, 16], [], [], []),
  (yX8_plankStrength, cX8_plankStrength, 4, (some .int), 7, 112, 8, [0, 1, 2, 3, 6, 7, 8, 11, 14, 15, 18, 21, 24, 25, 27, 30, 31, 32, 35, 38, 41, 42, 43], [], [], []),
  (yX8_plankCount, cX8_plankCount, 1, (some .int), 2, 44, 8, [0, 1, 4, 7, 10], [], [], []),
  (yX8_pathLength, cX8_pathLength, 7, (some .int), 7, 112, 8, [0, 1, 2, 3, 6, 8, 9, 10, 12, 15, 17, 18, 21, 22, 25, 28, 30, 33, 34, 37, 40, 42, 43, 46], [], [], []),
  (yX8_stepsToHut, cX8_stepsToHut, 4, (some .int), 7, 112, 8, [0, 1, 2, 3, 6, 7, 8, 11, 12, 15, 18, 21, 22, 25, 28, 29, 30, 33], [], [], []),
  (yX8_time, cX8_time, 1, (some .int), 0, 0, 8, [0, 1, 4, 7], [], [], []),
  (yX8_clearness, cX8_clearness, 1, (some .int), 0, 0, 8, [0, 1, 4, 7], [], [], []),
  (yX8_fog, cX8_fog, 2, (some .int), 7, 111, 8, [0, 1, 2, 5, 6, 9, 12, 13, 14], [], [], []),
  (yX8_sight, cX8_sight, 1, (some .int), 2, 41, 8, [0, 1, 4, 7], [], [], []),
  (yX8_lightCount, cX8_lightCount, 1, (some .int), 0, 0, 8, [0, 1, 4, 7, 10], [], [], []),
  (yX8_lightColumn, cX8_lightColumn, 2, (some .int), 7, 111, 8, [0, 1, 2, 5, 6, 9, 12, 15, 16, 17, 20], [], [], []),
  (yX8_lightRow, cX8_lightRow, 2, (some .int), 7, 111, 8, [0, 1, 2, 5, 6, 9, 12, 15, 16, 17, 20], [], [], []),
  (yX8_brightness, cX8_brightness, 2, (some .int), 7, 111, 8, [0, 1, 2, 5, 6, 9, 12, 15, 16, 17], [], [], []),
  (yX8_isTrueLight, cX8_isTrueLight, 2, (some .boolean), 7, 111, 8, [0, 1, 2, 5, 6, 9, 12, 15, 16, 19], [], [], []),
  (yX8_hasSuccessor, cX8_hasSuccessor, 2, (some .boolean), 7, 111, 8, [0, 1, 2, 5, 6, 9, 12, 15, 16, 17, 18, 21, 22, 25, 26], [], [], []),
  (yX8_successor, cX8_successor, 2, (some .int), 7, 112, 8, [0, 1, 2, 5, 6, 7, 10], [], [], []),
  (yX8_followers, cX8_followers, 2, (some .int), 7, 111, 8, [0, 1, 2, 5, 6, 9, 12, 13, 16], [], [], []),
  (yX8_leadsAstray, cX8_leadsAstray, 2, (some .boolean), 7, 111, 8, [0, 1, 2, 5, 6, 9, 12, 13, 16], [], [], [])]
def zMT12 : List zRec := [(yX8_travellerCount, cX8_travellerCount, 1, (some .int), 0, 0, 8, [0, 1, 4, 7, 10], [], [], []),
  (yX8_travellerColumn, cX8_travellerColumn, 2, (some .int), 7, 111, 8, [0, 1, 2, 5, 6, 9, 12, 15, 16, 17, 20], [], [], []),
  (yX8_travellerRow, cX8_travellerRow, 2, (some .int), 7, 111, 8, [0, 1, 2, 5, 6, 9, 12, 15, 16, 17, 20], [], [], []),
  (yX8_isWalking, cX8_isWalking, 2, (some .boolean), 7, 111, 8, [0, 1, 2, 5, 6, 9, 12, 15, 16, 17, 20, 21, 24, 25], [], [], []),
  (yX8_hasArrived, cX8_hasArrived, 2, (some .boolean), 7, 111, 8, [0, 1, 2, 5, 6, 9, 12, 15, 16, 17, 18, 21, 22, 25, 26], [], [], []),
  (yX8_hasSunk, cX8_hasSunk, 2, (some .boolean), 7, 111, 8, [0, 1, 2, 5, 6, 9, 12, 15, 16, 17, 18, 21, 22, 25, 26], [], [], []),
  (yX8_stepsTaken, cX8_stepsTaken, 2, (some .int), 7, 111, 8, [0, 1, 2, 5, 6, 9, 12, 15, 16, 17], [], [], []),
  (yX8_hasTarget, cX8_hasTarget, 2, (some .boolean), 7, 111, 8, [0, 1, 2, 5, 6, 9, 12, 15, 16, 17, 18, 21, 22, 25, 26], [], [], []),
  (yX8_target, cX8_target, 3, (some .int), 7, 111, 8, [0, 1, 2, 5, 6, 9, 12, 15, 16, 17, 18, 19, 20, 23, 26, 27, 29, 32, 33, 34], [], [], []),
  (yX8_hasPassed, cX8_hasPassed, 3, (some .boolean), 7, 111, 8, [0, 1, 2, 5, 6, 7, 10, 11, 14, 17, 20, 21, 22, 23, 26], [], [], []),
  (yX8_distrusts, cX8_distrusts, 3, (some .boolean), 7, 111, 8, [0, 1, 2, 5, 6, 7, 10, 11, 14, 17, 20, 21, 22, 23, 26], [], [], []),
  (yX8_sees, cX8_sees, 3, (some .boolean), 7, 111, 8, [0, 1, 2, 5, 6, 7, 10, 11, 14, 15, 16, 19, 20, 23, 26, 27, 30, 33, 36, 37, 38, 39, 42, 43, 46, 47], [], [], []),
  (yX8_nearestLight, cX8_nearestLight, 3, (some .int), 7, 111, 8, [0, 1, 2, 5, 6, 9, 10, 13, 14, 15, 16, 19, 22, 23, 25, 28, 29, 30], [], [], []),
  (yX8_walkingCount, cX8_walkingCount, 1, (some .int), 1, 23, 8, [0, 1, 4, 7, 8, 11], [], [], []),
  (yX8_arrivedCount, cX8_arrivedCount, 1, (some .int), 1, 23, 8, [0, 1, 4, 7, 8, 11], [], [], []),
  (yX8_sunkCount, cX8_sunkCount, 1, (some .int), 1, 23, 8, [0, 1, 4, 7, 8, 11], [], [], []),
  (yX8_arrivedShare, cX8_arrivedShare, 2, (some .float), 1, 23, 8, [0, 1, 4, 7, 10, 11, 12, 15, 16, 17, 18, 21, 24, 25, 28, 29, 30, 31, 32], [], [], []),
  (yX8_meanSteps, cX8_meanSteps, 2, (some .double), 1, 22, 8, [0, 1, 4, 7, 10, 11, 12, 15, 16, 17, 18, 21, 24, 27, 28, 29, 30, 31], [], [], []),
  (yX8_ticksUntilDone, cX8_ticksUntilDone, 2, (some .int), 7, 148, 8, [0, 1, 2, 5, 6, 7, 10, 11, 14, 15, 18, 21, 22, 25, 26, 29, 32, 35, 36, 39, 42, 45, 46, 47, 50, 53, 54, 57, 60, 61, 62, 65, 68, 71, 72, 73, 74, 77, 80, 81], [], [], [])]
def zMT13 : List zRec := [(yX8_willArrive, cX8_willArrive, 2, (some .boolean), 7, 148, 8, [0, 1, 2, 5, 6, 9, 10, 13, 16, 17, 20, 21, 24, 27, 30, 31, 34, 37, 40, 41, 42, 43, 46, 47, 50, 51], [], [], []),
  (yX8_arrivedAfter, cX8_arrivedAfter, 2, (some .int), 7, 148, 8, [0, 1, 4, 5, 8, 9, 12, 15, 16, 19, 20, 23, 24, 27, 28, 31, 34, 35, 38], [], [], []),
  (yX8_sunkAfter, cX8_sunkAfter, 2, (some .int), 7, 148, 8, [0, 1, 4, 5, 8, 9, 12, 15, 16, 19, 20, 23, 24, 27, 28, 31, 34, 35, 38], [], [], []),
  (yX8_bestClearness, cX8_bestClearness, 5, (some .int), 6, 148, 8, [0, 1, 2, 3, 4, 5, 6, 7, 9, 12, 13, 16, 17, 20, 23, 24, 27, 28, 31, 32, 35, 36, 39, 42, 45, 46, 49, 52, 53, 56, 58, 60, 61, 64, 66, 67, 68, 69, 72, 75, 76], [], [], []),
  (yX8_tick, cX8_tick, 3, (some .int), 6, 148, 8, [0, 1, 2, 5, 6, 8, 11, 14, 15, 18, 21, 22, 23, 26, 29, 30, 31, 34, 37, 40, 41, 44, 47, 48, 49, 52, 53, 56, 59, 60, 63, 66, 67, 70, 71, 72, 75, 76, 79, 80, 83, 84, 87, 90, 91, 94, 95, 96], [], [], []),
  (yX8_addLight, cX8_addLight, 6, (some .int), 7, 124, 8, [0, 1, 2, 3, 6, 8, 9, 12, 13, 15, 18, 21, 22, 25, 28, 29, 30, 33, 36, 39, 41, 44, 45, 48, 50, 53, 56, 59, 60, 63, 66, 67, 68, 71, 72, 75, 78, 79, 82, 85, 87, 88, 90, 93], [], [], []),
  (yX8_addTraveller, cX8_addTraveller, 4, (some .int), 7, 124, 8, [0, 1, 2, 3, 6, 7, 8, 11, 14, 17, 19, 22, 23, 26, 29, 30, 33, 36, 39, 40, 43, 46, 47, 48, 51, 52, 55, 58, 59, 62, 65, 66, 69], [], [], []),
  (yX8_setSuccessor, cX8_setSuccessor, 3, (some .int), 7, 124, 8, [0, 1, 2, 5, 6, 7, 10, 11, 12, 15, 18, 19, 22, 25, 26, 27, 30, 31, 34, 37, 38, 41, 44, 47, 48, 49, 50, 51, 54, 57, 60], [], [], []),
  (yX8_clearSuccessor, cX8_clearSuccessor, 3, (some .int), 7, 124, 8, [0, 1, 2, 5, 6, 7, 10, 11, 12, 15, 16, 19, 22, 23, 26, 29, 32, 33, 34, 35, 36], [], [], []),
  (yX8_layPlank, cX8_layPlank, 5, (some .int), 7, 124, 8, [0, 1, 2, 3, 6, 8, 9, 10, 13, 14, 16, 19, 22, 23, 26, 29, 30, 31, 34, 37, 40, 42, 43, 45, 48, 49, 52, 55, 58, 60, 61, 63, 66, 69, 70, 73, 76, 77, 78, 81, 82, 85, 88, 89, 92, 95, 98, 100, 101, 102, 103, 106, 109, 112], [], [], []),
  (yX8_setClearness, cX8_setClearness, 3, (some .int), 6, 124, 8, [0, 1, 4, 5, 7, 10, 13, 14, 17, 20, 21, 22, 25, 26, 29, 32, 33, 36, 39, 40, 41, 44, 45, 48, 49], [], [], []),
  (yX8_setFog, cX8_setFog, 4, (some .int), 7, 124, 8, [0, 1, 2, 5, 6, 9, 10, 12, 15, 18, 19, 22, 25, 26, 27, 30, 31, 34, 37, 38, 41, 44, 45, 46, 47, 48, 51, 54, 55, 56, 57, 58], [], [], []),
  (yX8_setTarget, cX8_setTarget, 3, (some .int), 7, 124, 8, [0, 1, 2, 5, 6, 7, 10, 11, 12, 15, 16, 19, 20, 23, 26, 27, 30, 33, 36, 37, 38, 39, 40, 43, 44, 45, 48], [], [], []),
  (yX8_undo, cX8_undo, 1, (some .int), 6, 124, 8, [0, 1, 4, 7, 10, 13, 14, 17, 20, 21, 22, 25, 26, 29, 32, 33, 36, 39], [], [], []),
  (yX8_saveSnapshot, cX8_saveSnapshot, 2, (some .int), 7, 111, 8, [0, 1, 2, 5, 6, 9, 10, 11, 12, 15, 18, 19, 22, 23, 24, 25, 26, 29, 32], [], [], []),
  (yX8_restoreSnapshot, cX8_restoreSnapshot, 2, (some .int), 7, 124, 8, [0, 1, 2, 5, 6, 9, 10, 11, 14, 17, 18, 21, 24, 25, 26, 29, 30, 33, 36, 37, 40, 41, 44, 45, 46, 49, 50, 53, 56], [], [], []),
  zR0,
  (yX8_printedByte, cX8_printedByte, 2, (some .int), 6, 90, 8, [0, 1, 4, 5, 6, 9, 12, 15, 16, 19, 22, 23, 24, 27, 28, 29], [], [], []),
  (yX8_requireCell, cX8_requireCell, 3, (some .int), 6, 90, 8, [0, 1, 4, 7, 8, 9, 12, 15, 18, 19, 22, 25, 26, 27, 28, 31], [], [], [])]
def zMT14 : List zRec := [(yX8_requireHour, cX8_requireHour, 2, none, 6, 90, 8, [0, 1, 4, 5, 7, 10, 13, 14, 17, 20, 21], [], [], []),
  (yX8_requireLight, cX8_requireLight, 2, none, 6, 90, 8, [0, 1, 4, 7, 8, 11, 14, 17, 18, 21, 24, 25], [], [], []),
  (yX8_requireTraveller, cX8_requireTraveller, 2, none, 6, 90, 8, [0, 1, 4, 5, 6, 9, 12, 15, 18, 21, 22, 25, 28, 29], [], [], []),
  (yX8_requireSlot, cX8_requireSlot, 2, none, 6, 90, 8, [0, 1, 4, 5, 6, 9, 12, 13, 16, 19, 20], [], [], []),
  (yX8_requireWalking, cX8_requireWalking, 2, none, 6, 90, 8, [0, 1, 4, 7, 10, 11, 12, 15, 18, 19, 22, 25, 26], [], [], []),
  (yX8_requireSuccessor, cX8_requireSuccessor, 3, (some .int), 6, 90, 8, [0, 1, 4, 7, 10, 11, 12, 13, 14, 15, 18, 21, 22, 25, 28, 29, 30], [], [], []),
  (yX8_requirePath, cX8_requirePath, 1, (some .int), 6, 90, 8, [0, 1, 2, 5, 8, 9, 12, 15, 16, 17], [], [], []),
  (yX8_requireFuture, cX8_requireFuture, 1, none, 6, 90, 8, [0, 1, 4, 5, 8, 11, 14, 15, 18, 21, 22], [], [], []),
  (yX8_cellAt, cX8_cellAt, 2, (some .int), 0, 0, 8, [0, 1, 3, 4, 5, 6], [], [], []),
  (yX8_columnOf, cX8_columnOf, 1, (some .int), 0, 0, 8, [0, 1, 3, 4], [], [], []),
  (yX8_rowOf, cX8_rowOf, 1, (some .int), 0, 0, 8, [0, 1, 3, 4], [], [], []),
  (yX8_holds, cX8_holds, 2, (some .boolean), 0, 0, 8, [0, 1, 2, 3, 4, 5, 8, 9, 12, 13], [], [], []),
  (yX8_copyNumbers, cX8_copyNumbers, 2, none, 1, 40, 8, [0, 1, 2, 3, 4, 5, 6, 7, 8, 11, 14], [], [], []),
  (yJ7_fill_53178, cJ7_fill_53178, 4, none, 0, 0, 99, [0, 1, 2, 3, 4, 5, 6, 7, 10, 11, 12, 13, 14, 17, 20], [], [], []),
  (yJ0_length_8abf5, cJ0_length_8abf5, 1, (some .int), 1, 20, 99, [0, 1, 4, 5, 6, 9, 10], [], [], []),
  (yJ0_charAt_5068e, cJ0_charAt_5068e, 2, (some .char), 3, 64, 99, [0, 1, 4, 7, 8, 11, 12, 15, 16, 17, 20, 21, 24], [], [], []),
  (yJ0_coder_7d493, cJ0_coder_7d493, 1, (some .byte), 0, 0, 99, [0, 3, 6, 7, 10, 13, 14], [], [], []),
  (yJ0_isLatin1_aae02, cJ0_isLatin1_aae02, 1, (some .boolean), 0, 0, 99, [0, 3, 6, 7, 10, 13, 14, 17, 18], [], [], []),
  (yJ0_checkIndex_df160, cJ0_checkIndex_df160, 2, none, 1, 22, 99, [0, 1, 2, 5, 8, 9], [], [], [])]
def zMT15 : List zRec := [(yJ1_charAt_3b067, cJ1_charAt_3b067, 2, (some .char), 2, 43, 99, [0, 1, 2, 3, 6, 7, 8, 9, 12, 13, 14], [], [], []),
  zR0,
  zR0,
  zR0,
  zR0,
  zR0,
  zR0,
  zR0,
  zR0,
  zR0,
  zR0,
  zR0,
  zR0,
  zR0,
  zR0,
  zR0,
  zR0,
  zR0,
  zR0]
def zMT16 : List zRec := [zR0,
  zR0,
  zR0,
  zR0,
  zR0,
  zR0,
  zR0,
  zR0,
  zR0,
  zR0,
  zR0,
  zR0,
  zR0,
  zR0,
  zR0,
  zR0,
  zR0,
  zR0,
  zR0]
def zMT17 : List zRec := [zR0,
  zR0,
  zR0,
  zR0,
  zR0,
  zR0,
  zR0,
  zR0,
  zR0,
  zR0,
  zR0,
  (yL_call, cL_call, 8, (some .int), 9, 198, 99, [0, 1, 204, 205, 206, 209, 210, 211, 212, 213, 215, 217, 218, 221, 222, 225, 226, 229, 230, 231, 232, 233, 236, 237, 238, 239, 240, 243, 244, 245, 246, 249, 250, 251, 252, 253, 255, 258, 259, 260, 261, 264, 265, 266, 267, 268, 271, 272, 273, 274, 275, 278, 279, 280, 283, 284, 285, 286, 289, 290, 291, 292, 295, 296, 297, 300, 301, 302, 303, 304, 306, 308, 310, 313, 314, 315, 316, 319, 320, 321, 324, 325, 326, 327, 328, 331, 334, 335, 338, 339, 340, 341, 342, 343, 346, 349, 350, 353, 354, 355, 356, 357, 358, 361, 364, 365, 368, 369, 370, 371, 372, 373, 376, 377, 378, 379, 380, 382, 384, 387, 388, 389, 390, 391, 394, 395, 396, 397, 400, 401, 402, 403, 406, 407, 408, 409, 412, 413, 414, 415, 418, 419, 420, 421, 424, 427, 428, 431, 432, 433, 434, 435, 438, 441, 442, 445, 446, 447, 448, 449, 452, 453, 454, 455, 458, 459, 460, 461, 464, 467, 468, 471, 472, 473, 474, 475, 478, 479, 480, 481, 484, 485, 486, 487, 490, 493, 494, 497, 498, 499, 500, 501, 504, 507, 508, 511, 512, 513, 514, 515, 518, 521, 522, 525, 526, 527, 528, 529, 532, 533, 534, 535, 538, 541, 542, 545, 546, 547, 548, 549, 552, 553, 554, 555, 556, 559, 562, 563, 566, 567, 568, 569, 570, 571, 574, 577, 578, 581, 582, 583, 584, 585, 586, 589, 592, 593, 596, 597, 598, 599, 600, 603, 604, 605, 606, 609, 610, 611, 612, 615, 618, 619, 622, 623, 624, 625, 626, 629, 630, 631, 632, 635, 636, 637, 638, 641, 642, 644, 646, 647, 649, 651, 652, 654, 656, 657, 659, 661], [(0, 209, 642, 162), (210, 229, 642, 162), (230, 236, 642, 162), (237, 243, 642, 162), (244, 249, 642, 162), (250, 258, 642, 162), (259, 264, 642, 162), (265, 271, 642, 162), (272, 278, 642, 162), (279, 283, 642, 162), (284, 289, 642, 162), (290, 295, 642, 162), (296, 300, 642, 162), (301, 313, 642, 162), (314, 319, 642, 162), (320, 324, 642, 162), (325, 339, 642, 162), (340, 354, 642, 162), (355, 369, 642, 162), (370, 376, 642, 162), (377, 387, 642, 162), (388, 394, 642, 162), (395, 400, 642, 162), (401, 406, 642, 162), (407, 412, 642, 162), (413, 418, 642, 162), (419, 432, 642, 162), (433, 446, 642, 162), (447, 452, 642, 162), (453, 458, 642, 162), (459, 472, 642, 162), (473, 478, 642, 162), (479, 484, 642, 162), (485, 498, 642, 162), (499, 512, 642, 162), (513, 526, 642, 162), (527, 532, 642, 162), (533, 546, 642, 162), (547, 552, 642, 162), (553, 567, 642, 162), (568, 582, 642, 162), (583, 597, 642, 162), (598, 603, 642, 162), (604, 609, 642, 162), (610, 623, 642, 162), (624, 629, 642, 162), (630, 635, 642, 162), (636, 641, 642, 162), (0, 209, 647, 166), (210, 229, 647, 166), (230, 236, 647, 166), (237, 243, 647, 166), (244, 249, 647, 166), (250, 258, 647, 166), (259, 264, 647, 166), (265, 271, 647, 166), (272, 278, 647, 166), (279, 283, 647, 166), (284, 289, 647, 166), (290, 295, 647, 166), (296, 300, 647, 166), (301, 313, 647, 166), (314, 319, 647, 166), (320, 324, 647, 166), (325, 339, 647, 166), (340, 354, 647, 166), (355, 369, 647, 166), (370, 376, 647, 166), (377, 387, 647, 166), (388, 394, 647, 166), (395, 400, 647, 166), (401, 406, 647, 166), (407, 412, 647, 166), (413, 418, 647, 166), (419, 432, 647, 166), (433, 446, 647, 166), (447, 452, 647, 166), (453, 458, 647, 166), (459, 472, 647, 166), (473, 478, 647, 166), (479, 484, 647, 166), (485, 498, 647, 166), (499, 512, 647, 166), (513, 526, 647, 166), (527, 532, 647, 166), (533, 546, 647, 166), (547, 552, 647, 166), (553, 567, 647, 166), (568, 582, 647, 166), (583, 597, 647, 166), (598, 603, 647, 166), (604, 609, 647, 166), (610, 623, 647, 166), (624, 629, 647, 166), (630, 635, 647, 166), (636, 641, 647, 166), (0, 209, 652, 168), (210, 229, 652, 168), (230, 236, 652, 168), (237, 243, 652, 168), (244, 249, 652, 168), (250, 258, 652, 168), (259, 264, 652, 168), (265, 271, 652, 168), (272, 278, 652, 168), (279, 283, 652, 168), (284, 289, 652, 168), (290, 295, 652, 168), (296, 300, 652, 168), (301, 313, 652, 168), (314, 319, 652, 168), (320, 324, 652, 168), (325, 339, 652, 168), (340, 354, 652, 168), (355, 369, 652, 168), (370, 376, 652, 168), (377, 387, 652, 168), (388, 394, 652, 168), (395, 400, 652, 168), (401, 406, 652, 168), (407, 412, 652, 168), (413, 418, 652, 168), (419, 432, 652, 168), (433, 446, 652, 168), (447, 452, 652, 168), (453, 458, 652, 168), (459, 472, 652, 168), (473, 478, 652, 168), (479, 484, 652, 168), (485, 498, 652, 168), (499, 512, 652, 168), (513, 526, 652, 168), (527, 532, 652, 168), (533, 546, 652, 168), (547, 552, 652, 168), (553, 567, 652, 168), (568, 582, 652, 168), (583, 597, 652, 168), (598, 603, 652, 168), (604, 609, 652, 168), (610, 623, 652, 168), (624, 629, 652, 168), (630, 635, 652, 168), (636, 641, 652, 168), (0, 209, 657, 170), (210, 229, 657, 170), (230, 236, 657, 170), (237, 243, 657, 170), (244, 249, 657, 170), (250, 258, 657, 170), (259, 264, 657, 170), (265, 271, 657, 170), (272, 278, 657, 170), (279, 283, 657, 170), (284, 289, 657, 170), (290, 295, 657, 170), (296, 300, 657, 170), (301, 313, 657, 170), (314, 319, 657, 170), (320, 324, 657, 170), (325, 339, 657, 170), (340, 354, 657, 170), (355, 369, 657, 170), (370, 376, 657, 170), (377, 387, 657, 170), (388, 394, 657, 170), (395, 400, 657, 170), (401, 406, 657, 170), (407, 412, 657, 170), (413, 418, 657, 170), (419, 432, 657, 170), (433, 446, 657, 170), (447, 452, 657, 170), (453, 458, 657, 170), (459, 472, 657, 170), (473, 478, 657, 170), (479, 484, 657, 170), (485, 498, 657, 170), (499, 512, 657, 170), (513, 526, 657, 170), (527, 532, 657, 170), (533, 546, 657, 170), (547, 552, 657, 170), (553, 567, 657, 170), (568, 582, 657, 170), (583, 597, 657, 170), (598, 603, 657, 170), (604, 609, 657, 170), (610, 623, 657, 170), (624, 629, 657, 170), (630, 635, 657, 170), (636, 641, 657, 170)], [], [("java/util/NoSuchElementException", (-101)), ("java/lang/IllegalStateException", (-102)), ("java/lang/IllegalArgumentException", (-103)), ("java/lang/IndexOutOfBoundsException", (-104))]),
  (yL_call_, cL_call_, 4, (some .int), 10, 225, 99, [0, 1, 2, 3, 4, 5, 6, 7, 10], [], [], []),
  (yL_call__, cL_call__, 3, (some .int), 10, 225, 99, [0, 1, 2, 3, 4, 5, 6, 7, 10], [], [], []),
  (yL_feeds, cL_feeds, 5, (some .boolean), 11, 247, 99, [], [], [], []),
  (yL_marsh, cL_marsh, 12, (some (.object "java/lang/String")), 14, 299, 99, [], [], [], []),
  (yL_state, cL_state, 5, (some .long), 11, 248, 99, [], [], [1], []),
  (yL_steps, cL_steps, 12, (some (.array (.array .int))), 11, 248, 99, [], [], [], []),
  (yL_paths, cL_paths, 13, (some .boolean), 12, 279, 99, [], [], [], [])]
def zMT18 : List zRec := [(yL_lights, cL_lights, 9, (some .boolean), 11, 247, 99, [], [], [], []),
  (yL_travellers, cL_travellers, 17, (some .boolean), 11, 248, 99, [], [], [], []),
  (yL_ticks, cL_ticks, 15, (some .boolean), 12, 272, 99, [], [], [2], []),
  (yL_does, cL_does, 10, (some .boolean), 12, 272, 99, [], [], [3], []),
  (yJ4_init_a7421, cJ4_init_a7421, 2, none, 13, 278, 99, [], [], [], []),
  (yJ5_init_a7421, cJ5_init_a7421, 5, none, 12, 254, 99, [], [], [], []),
  (yJ4_append_15ec4, cJ4_append_15ec4, 2, (some (.object "java/lang/StringBuilder")), 10, 212, 99, [], [], [], []),
  (yJ5_append_cf1ce, cJ5_append_cf1ce, 3, (some (.object "java/lang/AbstractStringBuilder")), 9, 190, 99, [], [], [], []),
  (yJ4_append_cf468, cJ4_append_cf468, 2, (some (.object "java/lang/StringBuilder")), 10, 211, 99, [], [], [], []),
  (yJ5_append_3fe6f, cJ5_append_3fe6f, 2, (some (.object "java/lang/AbstractStringBuilder")), 9, 190, 99, [], [], [], []),
  (yJ4_append_bf812, cJ4_append_bf812, 2, (some (.object "java/lang/StringBuilder")), 10, 213, 99, [], [], [], []),
  (yJ5_append_c97b9, cJ5_append_c97b9, 4, (some (.object "java/lang/AbstractStringBuilder")), 9, 190, 99, [], [], [], []),
  (yJ4_toString_0e30d, cJ4_toString_0e30d, 1, (some (.object "java/lang/String")), 11, 232, 99, [], [], [], []),
  (yJ0_init_81219, cJ0_init_81219, 2, none, 10, 211, 99, [], [], [], []),
  (yJ0_init_db425, cJ0_init_db425, 5, none, 9, 187, 99, [], [], [], []),
  (yJ5_ensureCapacityInternal_d00df, cJ5_ensureCapacityInternal_d00df, 3, none, 8, 168, 99, [], [], [], []),
  (yJ5_newCapacity_0f7a4, cJ5_newCapacity_0f7a4, 6, (some .int), 7, 143, 99, [], [], [], []),
  (yJ8_newLength_cabcc, cJ8_newLength_cabcc, 4, (some .int), 6, 120, 99, [], [], [], []),
  (yJ7_copyOf_9075b, cJ7_copyOf_9075b, 3, (some (.array .byte)), 6, 120, 99, [], [], [], [])]
def zMT19 : List zRec := [(yJ7_copyOfRange_39247, cJ7_copyOfRange_39247, 3, (some (.array .byte)), 8, 165, 99, [], [], [], []),
  (yJ5_putStringAt_47b60, cJ5_putStringAt_47b60, 3, none, 7, 143, 99, [], [], [], []),
  (yJ5_inflateIfNeededFor_a7421, cJ5_inflateIfNeededFor_a7421, 2, none, 6, 120, 99, [], [], [], []),
  (yJ5_getValue_6d5f1, cJ5_getValue_6d5f1, 1, (some (.array .byte)), 6, 120, 99, [], [], [], []),
  (yJ5_isLatin1_aae02, cJ5_isLatin1_aae02, 1, (some .boolean), 6, 120, 99, [], [], [], []),
  (yJ5_length_8abf5, cJ5_length_8abf5, 1, (some .int), 6, 120, 99, [], [], [], []),
  (yJ0_getBytes_840e7, cJ0_getBytes_840e7, 4, none, 6, 120, 99, [], [], [], []),
  (yJ6_stringSize_0f7a4, cJ6_stringSize_0f7a4, 4, (some .int), 6, 120, 99, [], [], [], []),
  (yJ6_getChars_ba4f3, cJ6_getChars_ba4f3, 7, (some .int), 6, 120, 99, [], [], [], []),
  (yJ1_canEncode_fc78d, cJ1_canEncode_fc78d, 1, (some .boolean), 6, 120, 99, [], [], [], []),
  (yJ4_append_cf1ce, cJ4_append_cf1ce, 2, (some (.object "java/lang/AbstractStringBuilder")), 11, 233, 99, [], [], [], []),
  (yJ4_length_8abf5, cJ4_length_8abf5, 1, (some .int), 7, 140, 99, [], [], [], []),
  (yJ7_copyOfRangeByte_39247, cJ7_copyOfRangeByte_39247, 5, (some (.array .byte)), 7, 141, 99, [], [], [], []),
  (yJ7_checkLength_df160, cJ7_checkLength_df160, 2, none, 6, 120, 99, [], [], [], []),
  (yL_law, cL_law, 7, (some .boolean), 2048, 84000, 99, [], [], [5], [])]
def zMT : List (List zRec) := [zMT0, zMT1, zMT2, zMT3, zMT4, zMT5, zMT6, zMT7, zMT8, zMT9, zMT10, zMT11, zMT12, zMT13, zMT14, zMT15, zMT16, zMT17, zMT18, zMT19]
def zM (y : Nat) : zRec := z_at zR0 (z_at [] zMT (y / 19)) (y % 19)
def zyn (y : Nat) : MethodName := (zM y).1
def zbc (y : Nat) : ByteArray := (zM y).2.1
def znl (y : Nat) : Nat := (zM y).2.2.1
def zrt (y : Nat) : Option FieldType := (zM y).2.2.2.1
def zfr (y : Nat) : Nat := (zM y).2.2.2.2.1
def zlo (y : Nat) : Nat := (zM y).2.2.2.2.2.1
def zcl (y : Nat) : Nat := (zM y).2.2.2.2.2.2.1
def zP (y ip : Nat) : Nat := z_at 0 (zM y).2.2.2.2.2.2.2.1 ip
def ztb (y : Nat) : List (Nat × Nat × Nat × Nat) := (zM y).2.2.2.2.2.2.2.2.1
def zc2 (y i : Nat) : Bool := (zM y).2.2.2.2.2.2.2.2.2.1.elem i
def zhl (y : Nat) : List (String × Int32) := (zM y).2.2.2.2.2.2.2.2.2.2
def zexn (k : Nat) : String := z_at "java/lang/IndexOutOfBoundsException" ["java/lang/IllegalStateException", "java/lang/IllegalArgumentException", "java/util/NoSuchElementException"] k
def zhnd (y k : Nat) : Option Int32 := (zhl y).lookup (zexn k)
theorem zP_0 (y : Nat) : zP y 0 = 0 ∧ plainName (zyn y).cls = true := by
  have h : (zMT.all fun r => r.all fun m => Nat.beq (z_at 0 m.2.2.2.2.2.2.2.1 0) 0 && plainName m.1.cls) = true := by decide +kernel
  have h0 : plainName zR0.1.cls = true := by decide +kernel
  have e0 : zM y = zR0 → zP y 0 = 0 ∧ plainName (zyn y).cls = true := fun e2 => by
    unfold zP zyn
    rw [e2]
    exact ⟨rfl, h0⟩
  rcases z_at_in [] zMT (y / 19) with e | e
  · exact e0 (by unfold zM; rw [e]; rfl)
  · rcases z_at_in zR0 (z_at [] zMT (y / 19)) (y % 19) with e2 | e2
    · exact e0 e2
    · have h2 := List.all_eq_true.mp (List.all_eq_true.mp h _ e) _ e2
      rw [Bool.and_eq_true] at h2
      exact ⟨Nat.eq_of_beq_eq_true h2.1, h2.2⟩
def kX9_thrown (N : Nat) : List Ent := []
def kX9_fails (N : Nat) : List Ent := []
def kX9_isFailed (N : Nat) : List Ent := []
def kX9_in (N : Nat) : List Ent := []
def kX9_layRow (N : Nat) : List Ent := []
def kX9_takesSpare (N : Nat) : List Ent := []
def kX9_cellAt (N : Nat) : List Ent := []
def kX9_lightAt (N : Nat) : List Ent := []
def kX9_walkerAt (N : Nat) : List Ent := []
def kX9_isInside (N : Nat) : List Ent := []
def kX9_isCell (N : Nat) : List Ent := []
def kX9_isLight (N : Nat) : List Ent := []
def kX9_isWalker (N : Nat) : List Ent := []
def kX9_placeOf (N : Nat) : List Ent := []
def kX9_columnBy (N : Nat) : List Ent := []
def kX9_rowBy (N : Nat) : List Ent := []
def kX9_clearsSteps (N : Nat) : List Ent := []
def kX9_reaches (N : Nat) : List Ent := []
def kX9_spreads (N : Nat) : List Ent := []
def kX9_spreadsTo (N : Nat) : List Ent := []
def kX9_spreadsToHuts (N : Nat) : List Ent := []
def kX9_stepsFrom (N : Nat) : List Ent := []
def kX9_stepsBy (N : Nat) : List Ent := []
def kX9_sightOf (N : Nat) : List Ent := []
def kX9_apart (N : Nat) : List Ent := []
def kX9_farFrom (N : Nat) : List Ent := []
def kX9_farFromLight (N : Nat) : List Ent := []
def kX9_isSeen (N : Nat) : List Ent := []
def kX9_has (N : Nat) : List Ent := []
def kX9_isAcceptable (N : Nat) : List Ent := []
def kX9_nearestOf (N : Nat) : List Ent := []
def kX9_lightOn (N : Nat) : List Ent := []
def kX9_isAstray (N : Nat) : List Ent := []
def kX9_forgetsTarget (N : Nat) : List Ent := []
def kX9_passes (N : Nat) : List Ent := []
def kX9_leaves (N : Nat) : List Ent := []
def kX9_isOn (N : Nat) : List Ent := []
def kX9_moves (N : Nat) : List Ent := []
def kX9_sinks (N : Nat) : List Ent := []
def kX9_goesOn (N : Nat) : List Ent := []
def kX9_acts (N : Nat) : List Ent := []
def kX9_ticks (N : Nat) : List Ent := []
def kX9_ticksMany (N : Nat) : List Ent := []
def kX9_countOf (N : Nat) : List Ent := []
def kX9_append (N : Nat) : List Ent := []
def kX9_shorten (N : Nat) : List Ent := []
def kX9_isSmall (N : Nat) : List Ent := []
def kX9_isDigit (N : Nat) : List Ent := []
def kX9_next (N : Nat) : List Ent := []
def kX9_nextWord (N : Nat) : List Ent := []
def kX9_nextNumber (N : Nat) : List Ent := []
def kX9_is (N : Nat) : List Ent := []
def kX9_takes (N : Nat) : List Ent := []
def kX9_takesNumber (N : Nat) : List Ent := []
def kX9_cellOf (N : Nat) : List Ent := []
def kX9_areCells (N : Nat) : List Ent := []
def kX9_readRow (N : Nat) : List Ent := []
def kX9_readFog (N : Nat) : List Ent := []
def kX9_readLight (N : Nat) : List Ent := []
def kX9_readTraveller (N : Nat) : List Ent := []
def kX9_addsLight (N : Nat) : List Ent := []
def kX9_addsWalker (N : Nat) : List Ent := []
def kX9_load (N : Nat) : List Ent := []
def kX9_readText (N : Nat) : List Ent := []
def kX9_hasError (N : Nat) : List Ent := []
def kX9_errorOffset (N : Nat) : List Ent := []
def kX9_width (N : Nat) : List Ent := []
def kX9_height (N : Nat) : List Ent := []
def kX9_isWater (N : Nat) : List Ent := []
def kX9_isHut (N : Nat) : List Ent := []
def kX9_isPlank (N : Nat) : List Ent := []
def kX9_plankStrength (N : Nat) : List Ent := []
def kX9_planks (N : Nat) : List Ent := []
def kX9_plankCount (N : Nat) : List Ent := []
def kX9_pathLength (N : Nat) : List Ent := []
def kX9_stepsToHut (N : Nat) : List Ent := []
def kX9_time (N : Nat) : List Ent := []
def kX9_clearness (N : Nat) : List Ent := []
def kX9_fog (N : Nat) : List Ent := []
def kX9_sight (N : Nat) : List Ent := []
def kX9_lightCount (N : Nat) : List Ent := []
def kX9_lightNumber (N : Nat) : List Ent := []
def kX9_lightColumn (N : Nat) : List Ent := []
def kX9_lightRow (N : Nat) : List Ent := []
def kX9_brightness (N : Nat) : List Ent := []
def kX9_isTrueLight (N : Nat) : List Ent := []
def kX9_hasSuccessor (N : Nat) : List Ent := []
def kX9_successor (N : Nat) : List Ent := []
def kX9_followers (N : Nat) : List Ent := []
def kX9_leadsAstray (N : Nat) : List Ent := []
def kX9_travellerCount (N : Nat) : List Ent := []
def kX9_walkerNumber (N : Nat) : List Ent := []
def kX9_hasState (N : Nat) : List Ent := []
def kX9_travellerColumn (N : Nat) : List Ent := []
def kX9_travellerRow (N : Nat) : List Ent := []
def kX9_isWalking (N : Nat) : List Ent := []
def kX9_hasArrived (N : Nat) : List Ent := []
def kX9_hasSunk (N : Nat) : List Ent := []
def kX9_stepsTaken (N : Nat) : List Ent := []
def kX9_hasTarget (N : Nat) : List Ent := []
def kX9_target (N : Nat) : List Ent := []
def kX9_isBoth (N : Nat) : List Ent := []
def kX9_hasPassed (N : Nat) : List Ent := []
def kX9_distrusts (N : Nat) : List Ent := []
def kX9_sees (N : Nat) : List Ent := []
def kX9_nearestLight (N : Nat) : List Ent := []
def kX9_walkingCount (N : Nat) : List Ent := []
def kX9_arrivedCount (N : Nat) : List Ent := []
def kX9_sunkCount (N : Nat) : List Ent := []
def kX9_arrivedShare (N : Nat) : List Ent := []
def kX9_meanSteps (N : Nat) : List Ent := []
def kX9_ticksUntilDone (N : Nat) : List Ent := []
def kX9_willArrive (N : Nat) : List Ent := []
def kX9_countAfter (N : Nat) : List Ent := []
def kX9_arrivedAfter (N : Nat) : List Ent := []
def kX9_sunkAfter (N : Nat) : List Ent := []
def kX9_bestClearness (N : Nat) : List Ent := []
def kX9_keepsForUndo (N : Nat) : List Ent := []
def kX9_tick (N : Nat) : List Ent := []
def kX9_addLight (N : Nat) : List Ent := []
def kX9_addTraveller (N : Nat) : List Ent := []
def kX9_setSuccessor (N : Nat) : List Ent := []
def kX9_clearSuccessor (N : Nat) : List Ent := []
def kX9_layPlank (N : Nat) : List Ent := []
def kX9_setClearness (N : Nat) : List Ent := []
def kX9_setFog (N : Nat) : List Ent := []
def kX9_setTarget (N : Nat) : List Ent := []
def kX9_undo (N : Nat) : List Ent := []
def kX9_saveSnapshot (N : Nat) : List Ent := []
def kX9_restoreSnapshot (N : Nat) : List Ent := []
def kX9_puts (N : Nat) : List Ent := []
def kX9_walkerOn (N : Nat) : List Ent := []
def kX9_signOf (N : Nat) : List Ent := []
def kX9_print (N : Nat) : List Ent := []
def kX9_printedByte (N : Nat) : List Ent := []
def kX1_copyFrom (N : Nat) : List Ent := [.inl (i_aload 0), .inl (i_aload 1), .inl (i_getf N 1 0), .inl (i_putI N 1 0), .inl (i_aload 0), .inl (i_aload 1), .inl (i_getf N 1 1), .inl (i_putI N 1 1), .inl (i_aload 1), .inl (i_getf N 1 2), .inl (i_aload 0), .inl (i_getf N 1 2), .inr (4, 278, 2), .inr (1, 0, 0)]
def kX1_contains (N : Nat) : List Ent := [.inl (i_iload 1), .inl (i_if_lt 14), .inl (i_iload 1), .inl (i_aload 0), .inl (i_getf N 1 0), .inl (i_icmp_ge 14), .inl (i_iload 2), .inl (i_if_lt 14), .inl (i_iload 2), .inl (i_aload 0), .inl (i_getf N 1 1), .inl (i_icmp_ge 14), .inl (i_push (.int 1)), .inl (i_goto 15), .inl (i_push (.int 0)), .inr (0, 1, 0)]
def kX1_holdsPlank (N : Nat) : List Ent := [.inl (i_aload 0), .inl (i_getf N 1 2), .inl (i_iload 1), .inl (i_iald N), .inl (i_if_le 13), .inl (i_aload 0), .inl (i_getf N 1 2), .inl (i_iload 1), .inl (i_iald N), .inl (i_push (.int 9)), .inl (i_icmp_gt 13), .inl (i_push (.int 1)), .inl (i_goto 14), .inl (i_push (.int 0)), .inr (0, 1, 0)]
def kX1_takesTraveller (N : Nat) : List Ent := [.inl (i_aload 0), .inl (i_getf N 1 2), .inl (i_iload 1), .inl (i_iald N), .inl (i_if_eq 13), .inl (i_aload 0), .inl (i_getf N 1 2), .inl (i_iload 1), .inl (i_iald N), .inl (i_push (.int 11)), .inl (i_icmp_eq 13), .inl (i_push (.int 1)), .inl (i_goto 14), .inl (i_push (.int 0)), .inr (0, 1, 0)]
def kX1_countPlanks (N : Nat) : List Ent := [.inl (i_push (.int 0)), .inl (i_istore 1), .inl (i_push (.int 0)), .inl (i_istore 2), .inl (i_iload 2), .inl (i_aload 0), .inl (i_getf N 1 1), .inl (i_icmp_ge 25), .inl (i_push (.int 0)), .inl (i_istore 3), .inl (i_iload 3), .inl (i_aload 0), .inl (i_getf N 1 0), .inl (i_icmp_ge 23), .inl (i_aload 0), .inl (i_iload 3), .inl (i_iload 2), .inr (4, 274, 2), .inr (3, 137, 2), .inl (i_if_eq 21), .inl (i_iinc 1 1), .inl (i_iinc 3 1), .inl (i_goto 10), .inl (i_iinc 2 1), .inl (i_goto 4), .inl (i_iload 1), .inr (0, 0, 0)]
def kX1_neighbour (N : Nat) : List Ent := [.inl (i_iload 1), .inl (i_push (.int 12)), .inl i_irem, .inl (i_push (.ref 300)), .inl (i_iload 2), .inl i_cald, .inl i_iadd, .inl (i_istore 3), .inl (i_iload 1), .inl (i_push (.int 12)), .inl i_idiv, .inl (i_push (.ref 301)), .inl (i_iload 2), .inl i_cald, .inl i_iadd, .inl (i_istore 4), .inl (i_iload 3), .inl (i_if_lt 30), .inl (i_iload 3), .inl (i_aload 0), .inl (i_getf N 1 0), .inl (i_icmp_ge 30), .inl (i_iload 4), .inl (i_if_lt 30), .inl (i_iload 4), .inl (i_aload 0), .inl (i_getf N 1 1), .inl (i_icmp_ge 30), .inl (i_push (.int 1)), .inl (i_goto 31), .inl (i_push (.int 0)), .inl (i_istore 5), .inl (i_iload 5), .inl (i_if_eq 40), .inl (i_iload 4), .inl (i_push (.int 12)), .inl i_imul, .inl (i_iload 3), .inl i_iadd, .inl (i_goto 41), .inl (i_push (.int (-1))), .inr (0, 0, 0)]
def kX1_wear (N : Nat) : List Ent := [.inl (i_aload 0), .inl (i_iload 1), .inr (3, 137, 2), .inl (i_if_ne 6), .inl (i_push (.int 0)), .inr (0, 1, 0), .inl (i_aload 0), .inl (i_getf N 1 2), .inl (i_iload 1), .inl i_dup2, .inl (i_iald N), .inl (i_push (.int 1)), .inl i_isub, .inl (i_iast N), .inl (i_aload 0), .inl (i_getf N 1 2), .inl (i_iload 1), .inl (i_iald N), .inl (i_if_ne 21), .inl (i_push (.int 1)), .inl (i_goto 22), .inl (i_push (.int 0)), .inr (0, 1, 0)]
def kX1_letterOf (N : Nat) : List Ent := []
def kX3_copyFrom (N : Nat) : List Ent := [.inl (i_aload 0), .inl (i_aload 1), .inl (i_getf N 3 0), .inl (i_putI N 3 0), .inl (i_aload 0), .inl (i_aload 1), .inl (i_getf N 3 1), .inl (i_putI N 3 1), .inl (i_aload 1), .inl (i_getf N 3 2), .inl (i_aload 0), .inl (i_getf N 3 2), .inr (4, 278, 2), .inl (i_aload 1), .inl (i_getf N 3 3), .inl (i_aload 0), .inl (i_getf N 3 3), .inr (4, 278, 2), .inl (i_aload 1), .inl (i_getf N 3 4), .inl (i_aload 0), .inl (i_getf N 3 4), .inr (4, 278, 2), .inr (1, 0, 0)]
def kX3_removeAll (N : Nat) : List Ent := [.inl (i_aload 0), .inl (i_push (.int 0)), .inl (i_putI N 3 0), .inl (i_aload 0), .inl (i_push (.int 0)), .inl (i_putI N 3 1), .inr (1, 0, 0)]
def kX3_contains (N : Nat) : List Ent := [.inl (i_iload 1), .inl (i_if_lt 8), .inl (i_iload 1), .inl (i_aload 0), .inl (i_getf N 3 0), .inl (i_icmp_ge 8), .inl (i_push (.int 1)), .inl (i_goto 9), .inl (i_push (.int 0)), .inr (0, 1, 0)]
def kX3_onCell (N : Nat) : List Ent := [.inl (i_push (.int 0)), .inl (i_istore 2), .inl (i_iload 2), .inl (i_aload 0), .inl (i_getf N 3 0), .inl (i_icmp_ge 16), .inl (i_aload 0), .inl (i_getf N 3 2), .inl (i_iload 2), .inl (i_iald N), .inl (i_iload 1), .inl (i_icmp_ne 14), .inl (i_iload 2), .inr (0, 0, 0), .inl (i_iinc 2 1), .inl (i_goto 2), .inl (i_push (.int (-1))), .inr (0, 0, 0)]
def kX3_put (N : Nat) : List Ent := [.inl (i_aload 0), .inl (i_getf N 3 0), .inl (i_push (.int 8)), .inl (i_icmp_lt 6), .inl (i_push (.int (-1))), .inr (0, 0, 0), .inl (i_aload 0), .inl (i_getf N 3 0), .inl (i_istore 4), .inl (i_aload 0), .inl (i_getf N 3 2), .inl (i_iload 4), .inl (i_iload 1), .inl (i_iast N), .inl (i_aload 0), .inl (i_getf N 3 3), .inl (i_iload 4), .inl (i_iload 2), .inl (i_iast N), .inl (i_aload 0), .inl (i_getf N 3 4), .inl (i_iload 4), .inl (i_push (.int (-1))), .inl (i_iast N), .inl (i_iload 3), .inl (i_if_eq 34), .inl (i_aload 0), .inl i_dup, .inl (i_getf N 3 1), .inl (i_push (.int 1)), .inl (i_iload 4), .inl i_ishl, .inl i_ior, .inl (i_putI N 3 1), .inl (i_aload 0), .inl i_dup, .inl (i_getf N 3 0), .inl (i_push (.int 1)), .inl i_iadd, .inl (i_putI N 3 0), .inl (i_iload 4), .inr (0, 0, 0)]
def kX3_goesWrong (N : Nat) : List Ent := [.inl (i_push (.int 0)), .inl (i_istore 2), .inl (i_iload 1), .inl (i_istore 3), .inl (i_push (.int 0)), .inl (i_istore 4), .inl (i_iload 4), .inl (i_push (.int 8)), .inl (i_icmp_gt 37), .inl (i_aload 0), .inl (i_iload 3), .inr (3, 145, 2), .inl (i_if_eq 37), .inl (i_iload 2), .inl (i_iload 3), .inr (4, 277, 2), .inl (i_if_ne 22), .inl (i_aload 0), .inl (i_getf N 3 1), .inl (i_iload 3), .inr (4, 277, 2), .inl (i_if_ne 24), .inl (i_push (.int 1)), .inr (0, 1, 0), .inl (i_iload 2), .inl (i_push (.int 1)), .inl (i_iload 3), .inl i_ishl, .inl i_ior, .inl (i_istore 2), .inl (i_aload 0), .inl (i_getf N 3 4), .inl (i_iload 3), .inl (i_iald N), .inl (i_istore 3), .inl (i_iinc 4 1), .inl (i_goto 6), .inl (i_push (.int 0)), .inr (0, 1, 0)]
def kX3_countWrong (N : Nat) : List Ent := [.inl (i_push (.int 0)), .inl (i_istore 1), .inl (i_push (.int 0)), .inl (i_istore 2), .inl (i_iload 2), .inl (i_aload 0), .inl (i_getf N 3 0), .inl (i_icmp_ge 15), .inl (i_aload 0), .inl (i_iload 2), .inr (3, 148, 2), .inl (i_if_eq 13), .inl (i_iinc 1 1), .inl (i_iinc 2 1), .inl (i_goto 4), .inl (i_iload 1), .inr (0, 0, 0)]
def kX6_copyFrom (N : Nat) : List Ent := [.inl (i_aload 0), .inl (i_aload 1), .inl (i_getf N 6 0), .inl (i_putI N 6 0), .inl (i_aload 1), .inl (i_getf N 6 1), .inl (i_aload 0), .inl (i_getf N 6 1), .inr (4, 278, 2), .inl (i_aload 1), .inl (i_getf N 6 2), .inl (i_aload 0), .inl (i_getf N 6 2), .inr (4, 278, 2), .inl (i_aload 1), .inl (i_getf N 6 3), .inl (i_aload 0), .inl (i_getf N 6 3), .inr (4, 278, 2), .inl (i_aload 1), .inl (i_getf N 6 4), .inl (i_aload 0), .inl (i_getf N 6 4), .inr (4, 278, 2), .inl (i_aload 1), .inl (i_getf N 6 5), .inl (i_aload 0), .inl (i_getf N 6 5), .inr (4, 278, 2), .inl (i_aload 1), .inl (i_getf N 6 6), .inl (i_aload 0), .inl (i_getf N 6 6), .inr (4, 278, 2), .inl (i_aload 1), .inl (i_getf N 6 7), .inl (i_aload 0), .inl (i_getf N 6 7), .inr (4, 278, 2), .inr (1, 0, 0)]
def kX6_put (N : Nat) : List Ent := [.inl (i_aload 0), .inl (i_getf N 6 0), .inl (i_push (.int 6)), .inl (i_icmp_lt 6), .inl (i_push (.int (-1))), .inr (0, 0, 0), .inl (i_aload 0), .inl (i_getf N 6 0), .inl (i_istore 2), .inl (i_aload 0), .inl (i_getf N 6 1), .inl (i_iload 2), .inl (i_iload 1), .inl (i_iast N), .inl (i_aload 0), .inl (i_getf N 6 2), .inl (i_iload 2), .inl (i_push (.int 0)), .inl (i_iast N), .inl (i_aload 0), .inl (i_getf N 6 3), .inl (i_iload 2), .inl (i_push (.int 0)), .inl (i_iast N), .inl (i_aload 0), .inl (i_getf N 6 4), .inl (i_iload 2), .inl (i_push (.int (-1))), .inl (i_iast N), .inl (i_aload 0), .inl (i_getf N 6 5), .inl (i_iload 2), .inl (i_push (.int 0)), .inl (i_iast N), .inl (i_aload 0), .inl (i_getf N 6 6), .inl (i_iload 2), .inl (i_push (.int 0)), .inl (i_iast N), .inl (i_aload 0), .inl i_dup, .inl (i_getf N 6 0), .inl (i_push (.int 1)), .inl i_iadd, .inl (i_putI N 6 0), .inl (i_iload 2), .inr (0, 0, 0)]
def kX6_finish (N : Nat) : List Ent := [.inl (i_aload 0), .inl (i_getf N 6 2), .inl (i_iload 1), .inl (i_iload 2), .inl (i_iast N), .inl (i_aload 0), .inl (i_getf N 6 4), .inl (i_iload 1), .inl (i_push (.int (-1))), .inl (i_iast N), .inl (i_aload 0), .inl (i_getf N 6 7), .inl (i_iload 1), .inl (i_iload 3), .inl (i_iast N), .inr (1, 0, 0)]
def kX6_shuns (N : Nat) : List Ent := [.inl (i_aload 0), .inl (i_getf N 6 5), .inl (i_iload 1), .inl (i_iald N), .inl (i_aload 0), .inl (i_getf N 6 6), .inl (i_iload 1), .inl (i_iald N), .inl i_ior, .inl (i_iload 2), .inr (4, 277, 2), .inr (0, 1, 0)]
def kX6_countIn (N : Nat) : List Ent := [.inl (i_push (.int 0)), .inl (i_istore 2), .inl (i_push (.int 0)), .inl (i_istore 3), .inl (i_iload 3), .inl (i_aload 0), .inl (i_getf N 6 0), .inl (i_icmp_ge 17), .inl (i_aload 0), .inl (i_getf N 6 2), .inl (i_iload 3), .inl (i_iald N), .inl (i_iload 1), .inl (i_icmp_ne 15), .inl (i_iinc 2 1), .inl (i_iinc 3 1), .inl (i_goto 4), .inl (i_iload 2), .inr (0, 0, 0)]
def kX6_countFollowing (N : Nat) : List Ent := [.inl (i_push (.int 0)), .inl (i_istore 2), .inl (i_push (.int 0)), .inl (i_istore 3), .inl (i_iload 3), .inl (i_aload 0), .inl (i_getf N 6 0), .inl (i_icmp_ge 22), .inl (i_aload 0), .inl (i_getf N 6 2), .inl (i_iload 3), .inl (i_iald N), .inl (i_if_ne 20), .inl (i_aload 0), .inl (i_getf N 6 4), .inl (i_iload 3), .inl (i_iald N), .inl (i_iload 1), .inl (i_icmp_ne 20), .inl (i_iinc 2 1), .inl (i_iinc 3 1), .inl (i_goto 4), .inl (i_iload 2), .inr (0, 0, 0)]
def kX6_sumOfSteps (N : Nat) : List Ent := [.inl (i_push (.int 0)), .inl (i_istore 1), .inl (i_push (.int 0)), .inl (i_istore 2), .inl (i_iload 2), .inl (i_aload 0), .inl (i_getf N 6 0), .inl (i_icmp_ge 17), .inl (i_iload 1), .inl (i_aload 0), .inl (i_getf N 6 3), .inl (i_iload 2), .inl (i_iald N), .inl i_iadd, .inl (i_istore 1), .inl (i_iinc 2 1), .inl (i_goto 4), .inl (i_iload 1), .inr (0, 0, 0)]
def kX6_lowestWalkingOn (N : Nat) : List Ent := []
def kX7_copyFrom (N : Nat) : List Ent := [.inl (i_aload 0), .inl (i_getf N 7 0), .inl (i_aload 1), .inl (i_getf N 7 0), .inr (3, 135, 2), .inl (i_aload 0), .inl (i_getf N 7 1), .inl (i_aload 1), .inl (i_getf N 7 1), .inr (3, 143, 2), .inl (i_aload 0), .inl (i_getf N 7 2), .inl (i_aload 1), .inl (i_getf N 7 2), .inr (3, 150, 2), .inl (i_aload 1), .inl (i_getf N 7 3), .inl (i_aload 0), .inl (i_getf N 7 3), .inr (4, 278, 2), .inl (i_aload 0), .inl (i_aload 1), .inl (i_getf N 7 4), .inl (i_putI N 7 4), .inl (i_aload 0), .inl (i_aload 1), .inl (i_getf N 7 5), .inl (i_putI N 7 5), .inr (1, 0, 0)]
def kX7_startAnew (N : Nat) : List Ent := [.inl (i_aload 0), .inl (i_getf N 7 0), .inl (i_iload 1), .inl (i_putI N 1 0), .inl (i_aload 0), .inl (i_getf N 7 0), .inl (i_iload 2), .inl (i_putI N 1 1), .inl (i_aload 0), .inl (i_getf N 7 1), .inr (3, 144, 1), .inl (i_aload 0), .inl (i_getf N 7 2), .inl (i_push (.int 0)), .inl (i_putI N 6 0), .inl (i_aload 0), .inl (i_getf N 7 3), .inl (i_push (.int 0)), .inr (2, 279, 2), .inl (i_aload 0), .inl (i_push (.int 0)), .inl (i_putI N 7 5), .inr (1, 0, 0)]
def kX7_sightNow (N : Nat) : List Ent := [.inl (i_push (.int 0)), .inl (i_aload 0), .inl (i_getf N 7 4), .inl (i_aload 0), .inl (i_getf N 7 3), .inl (i_aload 0), .inl (i_getf N 7 5), .inl (i_push (.int 24)), .inl i_irem, .inl (i_iald N), .inl i_isub, .inl i_mmax, .inr (0, 0, 0)]
def kX7_distanceTo (N : Nat) : List Ent := [.inl (i_aload 0), .inl (i_getf N 7 2), .inl (i_getf N 6 1), .inl (i_iload 1), .inl (i_iald N), .inl (i_istore 3), .inl (i_aload 0), .inl (i_getf N 7 1), .inl (i_getf N 3 2), .inl (i_iload 2), .inl (i_iald N), .inl (i_istore 4), .inl (i_iload 3), .inl (i_push (.int 12)), .inl i_irem, .inl (i_iload 4), .inl (i_push (.int 12)), .inl i_irem, .inl i_isub, .inl i_mabs, .inl (i_iload 3), .inl (i_push (.int 12)), .inl i_idiv, .inl (i_iload 4), .inl (i_push (.int 12)), .inl i_idiv, .inl i_isub, .inl i_mabs, .inl i_iadd, .inr (0, 0, 0)]
def kX7_nearestAcceptable (N : Nat) : List Ent := [.inl (i_aload 0), .inr (3, 160, 1), .inl (i_istore 2), .inl (i_push (.int (-1))), .inl (i_istore 3), .inl (i_push (.int 0)), .inl (i_istore 4), .inl (i_push (.int 0)), .inl (i_istore 5), .inl (i_iload 5), .inl (i_aload 0), .inl (i_getf N 7 1), .inl (i_getf N 3 0), .inl (i_icmp_ge 46), .inl (i_aload 0), .inl (i_getf N 7 2), .inl (i_iload 1), .inl (i_iload 5), .inr (3, 153, 3), .inl (i_if_ne 44), .inl (i_aload 0), .inl (i_iload 1), .inl (i_iload 5), .inr (3, 161, 3), .inl (i_istore 6), .inl (i_iload 6), .inl (i_iload 2), .inl (i_aload 0), .inl (i_getf N 7 1), .inl (i_getf N 3 3), .inl (i_iload 5), .inl (i_iald N), .inl i_iadd, .inl (i_icmp_gt 44), .inl (i_iload 3), .inl (i_push (.int (-1))), .inl (i_icmp_eq 40), .inl (i_iload 6), .inl (i_iload 4), .inl (i_icmp_ge 44), .inl (i_iload 5), .inl (i_istore 3), .inl (i_iload 6), .inl (i_istore 4), .inl (i_iinc 5 1), .inl (i_goto 9), .inl (i_iload 3), .inr (0, 0, 0)]
def kX7_takesLight (N : Nat) : List Ent := [.inl (i_aload 0), .inl (i_getf N 7 0), .inl (i_getf N 1 2), .inl (i_iload 1), .inl (i_iald N), .inl (i_if_eq 14), .inl (i_aload 0), .inl (i_getf N 7 1), .inl (i_iload 1), .inr (3, 146, 2), .inl (i_push (.int (-1))), .inl (i_icmp_ne 14), .inl (i_push (.int 1)), .inl (i_goto 15), .inl (i_push (.int 0)), .inr (0, 1, 0)]
def kX7_signOf (N : Nat) : List Ent := []
def kX0_measureToCell (N : Nat) : List Ent := [.inl (i_aload 0), .inr (3, 167, 1), .inl (i_aload 0), .inl (i_aload 1), .inl (i_iload 2), .inl (i_push (.int 0)), .inr (3, 169, 4), .inl (i_aload 0), .inl (i_aload 1), .inr (3, 168, 2), .inr (1, 0, 0)]
def kX0_measureToHuts (N : Nat) : List Ent := [.inl (i_aload 0), .inr (3, 167, 1), .inl (i_push (.int 0)), .inl (i_istore 2), .inl (i_iload 2), .inl (i_aload 1), .inl (i_getf N 1 1), .inl (i_icmp_ge 33), .inl (i_push (.int 0)), .inl (i_istore 3), .inl (i_iload 3), .inl (i_aload 1), .inl (i_getf N 1 0), .inl (i_icmp_ge 31), .inl (i_iload 3), .inl (i_iload 2), .inr (4, 274, 2), .inl (i_istore 4), .inl (i_aload 1), .inl (i_getf N 1 2), .inl (i_iload 4), .inl (i_iald N), .inl (i_push (.int 11)), .inl (i_icmp_ne 29), .inl (i_aload 0), .inl (i_aload 1), .inl (i_iload 4), .inl (i_push (.int 0)), .inr (3, 169, 4), .inl (i_iinc 3 1), .inl (i_goto 10), .inl (i_iinc 2 1), .inl (i_goto 4), .inl (i_aload 0), .inl (i_aload 1), .inr (3, 168, 2), .inr (1, 0, 0)]
def kX0_forgetPaths (N : Nat) : List Ent := [.inl (i_aload 0), .inl (i_getf N 0 0), .inl (i_push (.int (-1))), .inr (2, 279, 2), .inl (i_aload 0), .inl (i_push (.int 0)), .inl (i_putI N 0 3), .inr (1, 0, 0)]
def kX0_spread (N : Nat) : List Ent := [.inl (i_push (.int 0)), .inl (i_istore 2), .inl (i_iload 2), .inl (i_push (.int 144)), .inl (i_icmp_ge 41), .inl (i_iload 2), .inl (i_aload 0), .inl (i_getf N 0 3), .inl (i_icmp_ge 41), .inl (i_aload 0), .inl (i_getf N 0 2), .inl (i_iload 2), .inl (i_iald N), .inl (i_istore 3), .inl (i_push (.int 0)), .inl (i_istore 4), .inl (i_iload 4), .inl (i_push (.int 4)), .inl (i_icmp_ge 39), .inl (i_aload 1), .inl (i_iload 3), .inl (i_iload 4), .inr (3, 140, 3), .inl (i_istore 5), .inl (i_iload 5), .inl (i_push (.int (-1))), .inl (i_icmp_eq 37), .inl (i_aload 0), .inl (i_aload 1), .inl (i_iload 5), .inl (i_aload 0), .inl (i_getf N 0 0), .inl (i_iload 3), .inl (i_iald N), .inl (i_push (.int 1)), .inl i_iadd, .inr (3, 169, 4), .inl (i_iinc 4 1), .inl (i_goto 16), .inl (i_iinc 2 1), .inl (i_goto 2), .inl (i_aload 0), .inl (i_push (.int 1)), .inl (i_putZ N 0 1), .inr (1, 0, 0)]
def kX0_reach (N : Nat) : List Ent := [.inl (i_aload 0), .inl (i_getf N 0 0), .inl (i_iload 2), .inl (i_iald N), .inl (i_push (.int (-1))), .inl (i_icmp_eq 7), .inr (1, 0, 0), .inl (i_aload 0), .inl (i_getf N 0 0), .inl (i_iload 2), .inl (i_iload 3), .inl (i_iast N), .inl (i_aload 1), .inl (i_getf N 1 2), .inl (i_iload 2), .inl (i_iald N), .inl (i_if_eq 33), .inl (i_aload 0), .inl (i_getf N 0 3), .inl (i_push (.int 144)), .inl (i_icmp_ge 33), .inl (i_aload 0), .inl (i_getf N 0 2), .inl (i_aload 0), .inl (i_getf N 0 3), .inl (i_iload 2), .inl (i_iast N), .inl (i_aload 0), .inl i_dup, .inl (i_getf N 0 3), .inl (i_push (.int 1)), .inl i_iadd, .inl (i_putI N 0 3), .inr (1, 0, 0)]
def kX0_nextCell (N : Nat) : List Ent := [.inl (i_aload 0), .inl (i_getf N 0 0), .inl (i_iload 2), .inl (i_iald N), .inl (i_push (.int 1)), .inl (i_icmp_ge 8), .inl (i_push (.int (-1))), .inr (0, 0, 0), .inl (i_push (.int 0)), .inl (i_istore 3), .inl (i_iload 3), .inl (i_push (.int 4)), .inl (i_icmp_ge 41), .inl (i_aload 1), .inl (i_iload 2), .inl (i_iload 3), .inr (3, 140, 3), .inl (i_istore 4), .inl (i_iload 4), .inl (i_push (.int (-1))), .inl (i_icmp_eq 39), .inl (i_aload 1), .inl (i_getf N 1 2), .inl (i_iload 4), .inl (i_iald N), .inl (i_if_eq 39), .inl (i_aload 0), .inl (i_getf N 0 0), .inl (i_iload 4), .inl (i_iald N), .inl (i_aload 0), .inl (i_getf N 0 0), .inl (i_iload 2), .inl (i_iald N), .inl (i_push (.int 1)), .inl i_isub, .inl (i_icmp_ne 39), .inl (i_iload 4), .inr (0, 0, 0), .inl (i_iinc 3 1), .inl (i_goto 10), .inl (i_push (.int (-1))), .inr (0, 0, 0)]
def kX4_run (N : Nat) : List Ent := [.inl (i_aload 1), .inl (i_getf N 7 5), .inl (i_iload 2), .inl i_iadd, .inl (i_istore 3), .inl (i_push (.int 0)), .inl (i_istore 4), .inl (i_aload 0), .inr (3, 172, 1), .inl (i_push (.int 0)), .inl (i_istore 5), .inl (i_iload 5), .inl (i_iload 2), .inl (i_icmp_ge 48), .inl (i_iload 4), .inl (i_push (.int 24)), .inl (i_icmp_ge 48), .inl (i_aload 1), .inl i_dup, .inl (i_getf N 7 5), .inl (i_push (.int 1)), .inl i_iadd, .inl (i_putI N 7 5), .inl (i_iinc 4 1), .inl (i_push (.int 0)), .inl (i_istore 6), .inl (i_iload 6), .inl (i_aload 1), .inl (i_getf N 7 2), .inl (i_getf N 6 0), .inl (i_icmp_ge 46), .inl (i_aload 1), .inl (i_getf N 7 2), .inl (i_getf N 6 2), .inl (i_iload 6), .inl (i_iald N), .inl (i_if_ne 44), .inl (i_aload 0), .inl (i_aload 1), .inl (i_iload 6), .inr (3, 173, 3), .inl (i_if_eq 44), .inl (i_push (.int 0)), .inl (i_istore 4), .inl (i_iinc 6 1), .inl (i_goto 26), .inl (i_iinc 5 1), .inl (i_goto 11), .inl (i_aload 1), .inl (i_iload 3), .inl (i_putI N 7 5), .inr (1, 0, 0)]
def kX4_forgetWays (N : Nat) : List Ent := [.inl (i_push (.int 0)), .inl (i_istore 1), .inl (i_iload 1), .inl (i_push (.int 8)), .inl (i_icmp_ge 13), .inl (i_aload 0), .inl (i_getf N 4 0), .inl (i_iload 1), .inl (i_aald N), .inl (i_push (.int 0)), .inl (i_putZ N 0 1), .inl (i_iinc 1 1), .inl (i_goto 2), .inr (1, 0, 0)]
def kX4_act (N : Nat) : List Ent := [.inl (i_aload 1), .inl (i_getf N 7 2), .inl (i_astore 3), .inl (i_aload 3), .inl (i_getf N 6 4), .inl (i_iload 2), .inl (i_iald N), .inl (i_push (.int (-1))), .inl (i_icmp_ne 16), .inl (i_aload 3), .inl (i_getf N 6 4), .inl (i_iload 2), .inl (i_aload 1), .inl (i_iload 2), .inr (3, 162, 2), .inl (i_iast N), .inl (i_aload 3), .inl (i_getf N 6 4), .inl (i_iload 2), .inl (i_iald N), .inl (i_istore 4), .inl (i_aload 1), .inl (i_getf N 7 1), .inl (i_iload 4), .inr (3, 145, 2), .inl (i_if_ne 28), .inl (i_push (.int 0)), .inr (0, 1, 0), .inl (i_aload 3), .inl (i_getf N 6 1), .inl (i_iload 2), .inl (i_iald N), .inl (i_aload 1), .inl (i_getf N 7 1), .inl (i_getf N 3 2), .inl (i_iload 4), .inl (i_iald N), .inl (i_icmp_eq 44), .inl (i_aload 0), .inl (i_aload 1), .inl (i_iload 2), .inl (i_iload 4), .inr (3, 174, 4), .inl (i_if_eq 50), .inl (i_aload 0), .inl (i_aload 1), .inl (i_iload 2), .inl (i_iload 4), .inr (3, 175, 4), .inl (i_goto 65), .inl (i_aload 3), .inl (i_getf N 6 5), .inl (i_iload 2), .inl i_dup2, .inl (i_iald N), .inl (i_push (.int 1)), .inl (i_iload 4), .inl i_ishl, .inl i_ior, .inl (i_iast N), .inl (i_aload 3), .inl (i_getf N 6 4), .inl (i_iload 2), .inl (i_push (.int (-1))), .inl (i_iast N), .inl (i_push (.int 1)), .inr (0, 1, 0)]
def kX4_move (N : Nat) : List Ent := [.inl (i_aload 0), .inl (i_getf N 4 0), .inl (i_iload 3), .inl (i_aald N), .inl (i_astore 4), .inl (i_aload 4), .inl (i_getf N 0 1), .inl (i_if_ne 17), .inl (i_aload 4), .inl (i_aload 1), .inl (i_getf N 7 0), .inl (i_aload 1), .inl (i_getf N 7 1), .inl (i_getf N 3 2), .inl (i_iload 3), .inl (i_iald N), .inr (3, 165, 3), .inl (i_aload 1), .inl (i_getf N 7 2), .inl (i_getf N 6 1), .inl (i_iload 2), .inl (i_iald N), .inl (i_istore 5), .inl (i_aload 4), .inl (i_aload 1), .inl (i_getf N 7 0), .inl (i_iload 5), .inr (3, 170, 3), .inl (i_istore 6), .inl (i_iload 6), .inl (i_push (.int (-1))), .inl (i_icmp_ne 34), .inl (i_push (.int 0)), .inr (0, 1, 0), .inl (i_aload 1), .inl (i_getf N 7 2), .inl (i_getf N 6 1), .inl (i_iload 2), .inl (i_iload 6), .inl (i_iast N), .inl (i_aload 1), .inl (i_getf N 7 2), .inl (i_getf N 6 3), .inl (i_iload 2), .inl i_dup2, .inl (i_iald N), .inl (i_push (.int 1)), .inl i_iadd, .inl (i_iast N), .inl (i_aload 1), .inl (i_getf N 7 0), .inl (i_iload 5), .inr (3, 141, 2), .inl (i_if_eq 56), .inl (i_aload 0), .inr (3, 172, 1), .inl (i_push (.int 1)), .inr (0, 1, 0)]
def kX4_settle (N : Nat) : List Ent := [.inl (i_aload 1), .inl (i_getf N 7 2), .inl (i_astore 4), .inl (i_aload 4), .inl (i_getf N 6 1), .inl (i_iload 2), .inl (i_iald N), .inl (i_istore 5), .inl (i_aload 1), .inl (i_getf N 7 0), .inl (i_getf N 1 2), .inl (i_iload 5), .inl (i_iald N), .inl (i_push (.int 11)), .inl (i_icmp_ne 22), .inl (i_aload 4), .inl (i_iload 2), .inl (i_push (.int 1)), .inl (i_aload 1), .inl (i_getf N 7 5), .inr (3, 152, 4), .inl (i_goto 51), .inl (i_iload 5), .inl (i_aload 1), .inl (i_getf N 7 1), .inl (i_getf N 3 2), .inl (i_iload 3), .inl (i_iald N), .inl (i_icmp_ne 51), .inl (i_aload 1), .inl (i_getf N 7 1), .inl (i_getf N 3 1), .inl (i_iload 3), .inr (4, 277, 2), .inl (i_if_eq 41), .inl (i_aload 0), .inl (i_aload 1), .inl (i_iload 2), .inl (i_iload 3), .inr (3, 176, 4), .inl (i_goto 51), .inl (i_aload 4), .inl (i_iload 2), .inl (i_push (.int 2)), .inl (i_aload 1), .inl (i_getf N 7 5), .inr (3, 152, 4), .inl (i_aload 0), .inl (i_aload 1), .inl (i_iload 3), .inr (3, 177, 3), .inr (1, 0, 0)]
def kX4_passLight (N : Nat) : List Ent := [.inl (i_aload 1), .inl (i_getf N 7 2), .inl (i_astore 4), .inl (i_aload 4), .inl (i_getf N 6 5), .inl (i_iload 2), .inl i_dup2, .inl (i_iald N), .inl (i_push (.int 1)), .inl (i_iload 3), .inl i_ishl, .inl i_ior, .inl (i_iast N), .inl (i_aload 1), .inl (i_getf N 7 1), .inl (i_getf N 3 4), .inl (i_iload 3), .inl (i_iald N), .inl (i_istore 5), .inl (i_aload 1), .inl (i_getf N 7 1), .inl (i_iload 5), .inr (3, 145, 2), .inl (i_if_eq 31), .inl (i_aload 4), .inl (i_iload 2), .inl (i_iload 5), .inr (3, 153, 3), .inl (i_if_ne 31), .inl (i_push (.int 1)), .inl (i_goto 32), .inl (i_push (.int 0)), .inl (i_istore 6), .inl (i_aload 4), .inl (i_getf N 6 4), .inl (i_iload 2), .inl (i_iload 6), .inl (i_if_eq 40), .inl (i_iload 5), .inl (i_goto 41), .inl (i_push (.int (-1))), .inl (i_iast N), .inr (1, 0, 0)]
def kX4_warnOthers (N : Nat) : List Ent := [.inl (i_aload 1), .inl (i_getf N 7 2), .inl (i_astore 3), .inl (i_aload 1), .inr (3, 160, 1), .inl (i_istore 4), .inl (i_push (.int 0)), .inl (i_istore 5), .inl (i_iload 5), .inl (i_aload 3), .inl (i_getf N 6 0), .inl (i_icmp_ge 46), .inl (i_aload 3), .inl (i_getf N 6 2), .inl (i_iload 5), .inl (i_iald N), .inl (i_if_ne 44), .inl (i_aload 1), .inl (i_iload 5), .inl (i_iload 2), .inr (3, 161, 3), .inl (i_iload 4), .inl (i_icmp_gt 44), .inl (i_aload 3), .inl (i_getf N 6 6), .inl (i_iload 5), .inl i_dup2, .inl (i_iald N), .inl (i_push (.int 1)), .inl (i_iload 2), .inl i_ishl, .inl i_ior, .inl (i_iast N), .inl (i_aload 3), .inl (i_getf N 6 4), .inl (i_iload 5), .inl (i_iald N), .inl (i_iload 2), .inl (i_icmp_ne 44), .inl (i_aload 3), .inl (i_getf N 6 4), .inl (i_iload 5), .inl (i_push (.int (-1))), .inl (i_iast N), .inl (i_iinc 5 1), .inl (i_goto 8), .inr (1, 0, 0)]
def kX2_forgetAll (N : Nat) : List Ent := [.inl (i_aload 0), .inl (i_push (.int 0)), .inl (i_putI N 2 0), .inr (1, 0, 0)]
def kX2_remember (N : Nat) : List Ent := [.inl (i_aload 0), .inl (i_aload 0), .inl (i_getf N 2 1), .inl (i_push (.int 1)), .inl i_iadd, .inl (i_push (.int 8)), .inl i_irem, .inl (i_putI N 2 1), .inl (i_aload 0), .inl (i_getf N 2 2), .inl (i_aload 0), .inl (i_getf N 2 1), .inl (i_aald N), .inl (i_aload 1), .inr (3, 158, 2), .inl (i_aload 0), .inl (i_aload 0), .inl (i_getf N 2 0), .inl (i_push (.int 1)), .inl i_iadd, .inl (i_push (.int 8)), .inl i_mmin, .inl (i_putI N 2 0), .inr (1, 0, 0)]
def kX2_restoreLatest (N : Nat) : List Ent := [.inl (i_aload 0), .inl (i_getf N 2 0), .inl (i_if_ne 4), .inr (1, 0, 0), .inl (i_aload 1), .inl (i_aload 0), .inl (i_getf N 2 2), .inl (i_aload 0), .inl (i_getf N 2 1), .inl (i_aald N), .inr (3, 158, 2), .inl (i_aload 0), .inl (i_aload 0), .inl (i_getf N 2 1), .inl (i_push (.int 8)), .inl i_iadd, .inl (i_push (.int 1)), .inl i_isub, .inl (i_push (.int 8)), .inl i_irem, .inl (i_putI N 2 1), .inl (i_aload 0), .inl i_dup, .inl (i_getf N 2 0), .inl (i_push (.int 1)), .inl i_isub, .inl (i_putI N 2 0), .inr (1, 0, 0)]
def kX5_putInt (N : Nat) : List Ent := [.inl (i_push (.int 24)), .inl (i_istore 2), .inl (i_iload 2), .inl (i_if_lt 12), .inl (i_aload 0), .inl (i_iload 1), .inl (i_iload 2), .inl i_iushr, .inl i_i2b, .inr (3, 183, 2), .inl (i_iinc 2 (-8)), .inl (i_goto 2), .inr (1, 0, 0)]
def kX5_putText (N : Nat) : List Ent := [.inl (i_push (.int 0)), .inl (i_istore 2), .inl (i_iload 2), .inl (i_aload 1), .inr (6, 280, 1), .inl (i_icmp_ge 14), .inl (i_aload 0), .inl (i_aload 1), .inl (i_iload 2), .inr (6, 281, 2), .inl i_i2b, .inr (3, 183, 2), .inl (i_iinc 2 1), .inl (i_goto 2), .inr (1, 0, 0)]
def kX5_putByte (N : Nat) : List Ent := [.inl (i_aload 0), .inl (i_getf N 5 0), .inl (i_push (.int 800)), .inl (i_icmp_ge 16), .inl (i_aload 0), .inl (i_getf N 5 1), .inl (i_aload 0), .inl (i_getf N 5 0), .inl (i_iload 1), .inl (i_bast N), .inl (i_aload 0), .inl i_dup, .inl (i_getf N 5 0), .inl (i_push (.int 1)), .inl i_iadd, .inl (i_putI N 5 0), .inr (1, 0, 0)]
def kX5_cutTo (N : Nat) : List Ent := [.inl (i_aload 0), .inl (i_iload 1), .inl (i_putI N 5 0), .inr (1, 0, 0)]
def kX5_readInto (N : Nat) : List Ent := [.inl (i_aload 0), .inl (i_push (.int 0)), .inl (i_putI N 5 3), .inl (i_aload 0), .inr (3, 198, 1), .inl (i_aload 0), .inl (i_aload 1), .inr (3, 186, 2), .inl (i_if_eq 31), .inl (i_aload 0), .inl (i_aload 1), .inl (i_getf N 7 0), .inr (3, 187, 2), .inl (i_if_eq 31), .inl (i_aload 0), .inl (i_aload 1), .inr (3, 188, 2), .inl (i_if_eq 31), .inl (i_aload 0), .inl (i_aload 1), .inr (3, 189, 2), .inl (i_if_eq 31), .inl (i_aload 0), .inl (i_aload 1), .inr (3, 191, 2), .inl (i_if_eq 31), .inl (i_aload 0), .inl (i_getf N 5 4), .inl (i_if_ne 31), .inl (i_push (.int 1)), .inl (i_goto 32), .inl (i_push (.int 0)), .inl (i_istore 2), .inl (i_iload 2), .inl (i_if_eq 37), .inl (i_push (.int (-1))), .inl (i_goto 39), .inl (i_aload 0), .inl (i_getf N 5 2), .inr (0, 0, 0)]
def kX5_readHead (N : Nat) : List Ent := [.inl (i_aload 0), .inl (i_push (.ref 321)), .inr (3, 192, 2), .inl (i_if_eq 9), .inl (i_aload 0), .inl (i_push (.int 2)), .inl (i_push (.int 12)), .inr (3, 194, 3), .inl (i_if_ne 11), .inl (i_push (.int 0)), .inr (0, 1, 0), .inl (i_aload 0), .inl (i_getf N 5 6), .inl (i_istore 2), .inl (i_aload 0), .inl (i_push (.int 2)), .inl (i_push (.int 12)), .inr (3, 194, 3), .inl (i_if_ne 21), .inl (i_push (.int 0)), .inr (0, 1, 0), .inl (i_aload 1), .inl (i_iload 2), .inl (i_aload 0), .inl (i_getf N 5 6), .inr (3, 159, 3), .inl (i_aload 0), .inl (i_push (.ref 322)), .inr (3, 192, 2), .inl (i_if_eq 35), .inl (i_aload 0), .inl (i_push (.int 0)), .inl (i_push (.int 20)), .inr (3, 194, 3), .inl (i_if_ne 37), .inl (i_push (.int 0)), .inr (0, 1, 0), .inl (i_aload 1), .inl (i_aload 0), .inl (i_getf N 5 6), .inl (i_putI N 7 4), .inl (i_aload 0), .inr (3, 195, 1), .inr (0, 1, 0)]
def kX5_readRows (N : Nat) : List Ent := [.inl (i_push (.int 0)), .inl (i_istore 2), .inl (i_iload 2), .inl (i_aload 1), .inl (i_getf N 1 1), .inl (i_icmp_ge 22), .inl (i_aload 0), .inl (i_push (.ref 323)), .inr (3, 192, 2), .inl (i_if_eq 18), .inl (i_aload 0), .inl (i_aload 1), .inl (i_iload 2), .inr (3, 196, 3), .inl (i_if_eq 18), .inl (i_aload 0), .inr (3, 195, 1), .inl (i_if_ne 20), .inl (i_push (.int 0)), .inr (0, 1, 0), .inl (i_iinc 2 1), .inl (i_goto 2), .inl (i_push (.int 1)), .inr (0, 1, 0)]
def kX5_readFogs (N : Nat) : List Ent := [.inl (i_push (.int 0)), .inl (i_istore 2), .inl (i_iload 2), .inl (i_push (.int 800)), .inl (i_icmp_ge 39), .inl (i_aload 0), .inl (i_push (.ref 324)), .inr (3, 192, 2), .inl (i_if_eq 39), .inl (i_aload 0), .inl (i_push (.int 0)), .inl (i_push (.int 23)), .inr (3, 194, 3), .inl (i_if_ne 16), .inl (i_push (.int 0)), .inr (0, 1, 0), .inl (i_aload 0), .inl (i_getf N 5 6), .inl (i_istore 3), .inl (i_aload 0), .inl (i_push (.int 0)), .inl (i_push (.int 9)), .inr (3, 194, 3), .inl (i_if_ne 26), .inl (i_push (.int 0)), .inr (0, 1, 0), .inl (i_aload 1), .inl (i_getf N 7 3), .inl (i_iload 3), .inl (i_aload 0), .inl (i_getf N 5 6), .inl (i_iast N), .inl (i_aload 0), .inr (3, 195, 1), .inl (i_if_ne 37), .inl (i_push (.int 0)), .inr (0, 1, 0), .inl (i_iinc 2 1), .inl (i_goto 2), .inl (i_push (.int 1)), .inr (0, 1, 0)]
def kX5_readLights (N : Nat) : List Ent := [.inl (i_push (.int 0)), .inl (i_istore 2), .inl (i_iload 2), .inl (i_push (.int 8)), .inl (i_icmp_ge 17), .inl (i_aload 0), .inl (i_push (.ref 325)), .inr (3, 192, 2), .inl (i_if_eq 17), .inl (i_aload 0), .inl (i_aload 1), .inr (3, 190, 2), .inl (i_if_ne 15), .inl (i_push (.int 0)), .inr (0, 1, 0), .inl (i_iinc 2 1), .inl (i_goto 2), .inl (i_push (.int 1)), .inr (0, 1, 0)]
def kX5_readLight (N : Nat) : List Ent := [.inl (i_aload 0), .inl (i_push (.int 0)), .inl (i_aload 1), .inl (i_getf N 7 0), .inl (i_getf N 1 0), .inl (i_push (.int 1)), .inl i_isub, .inr (3, 194, 3), .inl (i_if_ne 11), .inl (i_push (.int 0)), .inr (0, 1, 0), .inl (i_aload 0), .inl (i_getf N 5 6), .inl (i_istore 2), .inl (i_aload 0), .inl (i_push (.int 0)), .inl (i_aload 1), .inl (i_getf N 7 0), .inl (i_getf N 1 1), .inl (i_push (.int 1)), .inl i_isub, .inr (3, 193, 3), .inl (i_if_eq 30), .inl (i_aload 1), .inl (i_iload 2), .inl (i_aload 0), .inl (i_getf N 5 5), .inr (4, 274, 2), .inr (3, 163, 2), .inl (i_if_ne 32), .inl (i_push (.int 0)), .inr (0, 1, 0), .inl (i_iload 2), .inl (i_aload 0), .inl (i_getf N 5 5), .inr (4, 274, 2), .inl (i_istore 3), .inl (i_aload 0), .inr (3, 198, 1), .inl (i_aload 0), .inl (i_push (.int 0)), .inl (i_push (.int 9)), .inr (3, 194, 3), .inl (i_if_ne 46), .inl (i_push (.int 0)), .inr (0, 1, 0), .inl (i_aload 0), .inl (i_getf N 5 6), .inl (i_istore 4), .inl (i_aload 0), .inl (i_push (.ref 326)), .inr (3, 192, 2), .inl (i_istore 5), .inl (i_iload 5), .inl (i_if_ne 61), .inl (i_aload 0), .inl (i_push (.ref 327)), .inr (3, 192, 2), .inl (i_if_ne 61), .inl (i_push (.int 0)), .inr (0, 1, 0), .inl (i_aload 1), .inl (i_getf N 7 1), .inl (i_iload 3), .inl (i_iload 4), .inl (i_iload 5), .inr (3, 147, 4), .inl (i_istore 6), .inl (i_iload 6), .inl (i_push (.int (-1))), .inl (i_icmp_eq 91), .inl (i_aload 0), .inl (i_push (.ref 328)), .inr (3, 192, 2), .inl (i_if_eq 91), .inl (i_aload 0), .inl (i_push (.int 0)), .inl (i_iload 6), .inl (i_push (.int 1)), .inl i_isub, .inr (3, 194, 3), .inl (i_if_ne 84), .inl (i_push (.int 0)), .inr (0, 1, 0), .inl (i_aload 1), .inl (i_getf N 7 1), .inl (i_getf N 3 4), .inl (i_iload 6), .inl (i_aload 0), .inl (i_getf N 5 6), .inl (i_iast N), .inl (i_aload 0), .inr (3, 195, 1), .inr (0, 1, 0)]
def kX5_readTravellers (N : Nat) : List Ent := [.inl (i_push (.int 0)), .inl (i_istore 2), .inl (i_iload 2), .inl (i_push (.int 6)), .inl (i_icmp_ge 59), .inl (i_aload 0), .inl (i_push (.ref 329)), .inr (3, 192, 2), .inl (i_if_eq 59), .inl (i_aload 0), .inl (i_push (.int 0)), .inl (i_aload 1), .inl (i_getf N 7 0), .inl (i_getf N 1 0), .inl (i_push (.int 1)), .inl i_isub, .inr (3, 194, 3), .inl (i_if_ne 20), .inl (i_push (.int 0)), .inr (0, 1, 0), .inl (i_aload 0), .inl (i_getf N 5 6), .inl (i_istore 3), .inl (i_aload 0), .inl (i_push (.int 0)), .inl (i_aload 1), .inl (i_getf N 7 0), .inl (i_getf N 1 1), .inl (i_push (.int 1)), .inl i_isub, .inr (3, 193, 3), .inl (i_if_eq 40), .inl (i_aload 1), .inl (i_getf N 7 0), .inl (i_iload 3), .inl (i_aload 0), .inl (i_getf N 5 5), .inr (4, 274, 2), .inr (3, 138, 2), .inl (i_if_ne 42), .inl (i_push (.int 0)), .inr (0, 1, 0), .inl (i_aload 1), .inl (i_getf N 7 2), .inl (i_iload 3), .inl (i_aload 0), .inl (i_getf N 5 5), .inr (4, 274, 2), .inr (3, 151, 2), .inl i_pop, .inl (i_aload 0), .inr (3, 198, 1), .inl (i_aload 0), .inr (3, 195, 1), .inl (i_if_ne 57), .inl (i_push (.int 0)), .inr (0, 1, 0), .inl (i_iinc 2 1), .inl (i_goto 2), .inl (i_push (.int 1)), .inr (0, 1, 0)]
def kX5_takeWord (N : Nat) : List Ent := [.inl (i_aload 0), .inl (i_getf N 5 4), .inl (i_push (.int 1)), .inl (i_icmp_ne 12), .inl (i_aload 0), .inl (i_getf N 5 3), .inl (i_aload 0), .inl (i_getf N 5 2), .inl i_isub, .inl (i_aload 1), .inr (6, 280, 1), .inl (i_icmp_eq 14), .inl (i_push (.int 0)), .inr (0, 1, 0), .inl (i_push (.int 0)), .inl (i_istore 2), .inl (i_iload 2), .inl (i_aload 1), .inr (6, 280, 1), .inl (i_icmp_ge 35), .inl (i_aload 0), .inl (i_getf N 5 1), .inl (i_aload 0), .inl (i_getf N 5 2), .inl (i_iload 2), .inl i_iadd, .inl (i_bald N), .inl (i_aload 1), .inl (i_iload 2), .inr (6, 281, 2), .inl (i_icmp_eq 33), .inl (i_push (.int 0)), .inr (0, 1, 0), .inl (i_iinc 2 1), .inl (i_goto 16), .inl (i_aload 0), .inr (3, 198, 1), .inl (i_push (.int 1)), .inr (0, 1, 0)]
def kX5_isNumber (N : Nat) : List Ent := [.inl (i_aload 0), .inl (i_getf N 5 4), .inl (i_push (.int 2)), .inl (i_icmp_ne 14), .inl (i_aload 0), .inl (i_getf N 5 5), .inl (i_iload 1), .inl (i_icmp_lt 14), .inl (i_aload 0), .inl (i_getf N 5 5), .inl (i_iload 2), .inl (i_icmp_gt 14), .inl (i_push (.int 1)), .inl (i_goto 15), .inl (i_push (.int 0)), .inr (0, 1, 0)]
def kX5_takeNumber (N : Nat) : List Ent := [.inl (i_aload 0), .inl (i_iload 1), .inl (i_iload 2), .inr (3, 193, 3), .inl (i_if_ne 7), .inl (i_push (.int 0)), .inr (0, 1, 0), .inl (i_aload 0), .inl (i_aload 0), .inl (i_getf N 5 5), .inl (i_putI N 5 6), .inl (i_aload 0), .inr (3, 198, 1), .inl (i_push (.int 1)), .inr (0, 1, 0)]
def kX5_takeSemicolon (N : Nat) : List Ent := [.inl (i_aload 0), .inl (i_getf N 5 4), .inl (i_push (.int 3)), .inl (i_icmp_eq 6), .inl (i_push (.int 0)), .inr (0, 1, 0), .inl (i_aload 0), .inr (3, 198, 1), .inl (i_push (.int 1)), .inr (0, 1, 0)]
def kX5_takeCells (N : Nat) : List Ent := [.inl (i_aload 0), .inl (i_getf N 5 4), .inl (i_push (.int 1)), .inl (i_icmp_ne 12), .inl (i_aload 0), .inl (i_getf N 5 3), .inl (i_aload 0), .inl (i_getf N 5 2), .inl i_isub, .inl (i_aload 1), .inl (i_getf N 1 0), .inl (i_icmp_eq 14), .inl (i_push (.int 0)), .inr (0, 1, 0), .inl (i_push (.int 0)), .inl (i_istore 3), .inl (i_iload 3), .inl (i_aload 1), .inl (i_getf N 1 0), .inl (i_icmp_ge 43), .inl (i_aload 0), .inl (i_getf N 5 1), .inl (i_aload 0), .inl (i_getf N 5 2), .inl (i_iload 3), .inl i_iadd, .inl (i_bald N), .inr (2, 197, 1), .inl (i_istore 4), .inl (i_iload 4), .inl (i_push (.int (-1))), .inl (i_icmp_ne 34), .inl (i_push (.int 0)), .inr (0, 1, 0), .inl (i_aload 1), .inl (i_getf N 1 2), .inl (i_iload 3), .inl (i_iload 2), .inr (4, 274, 2), .inl (i_iload 4), .inl (i_iast N), .inl (i_iinc 3 1), .inl (i_goto 16), .inl (i_aload 0), .inr (3, 198, 1), .inl (i_push (.int 1)), .inr (0, 1, 0)]
def kX5_groundOf (N : Nat) : List Ent := [.inl (i_iload 0), .inl (i_lsw (fun z => if (102 : Int) = z then 2 else if (104 : Int) = z then 6 else if (112 : Int) = z then 8 else if (119 : Int) = z then 4 else 10)), .inl (i_push (.int 10)), .inr (0, 0, 0), .inl (i_push (.int 0)), .inr (0, 0, 0), .inl (i_push (.int 11)), .inr (0, 0, 0), .inl (i_push (.int 3)), .inr (0, 0, 0), .inl (i_push (.int (-1))), .inr (0, 0, 0)]
def kX5_scan (N : Nat) : List Ent := [.inl (i_aload 0), .inl (i_aload 0), .inl (i_getf N 5 3), .inl (i_putI N 5 2), .inl (i_aload 0), .inl (i_getf N 5 2), .inl (i_aload 0), .inl (i_getf N 5 0), .inl (i_icmp_ge 24), .inl (i_aload 0), .inl (i_getf N 5 1), .inl (i_aload 0), .inl (i_getf N 5 2), .inl (i_bald N), .inr (2, 200, 1), .inl (i_push (.int 5)), .inl (i_icmp_ne 24), .inl (i_aload 0), .inl i_dup, .inl (i_getf N 5 2), .inl (i_push (.int 1)), .inl i_iadd, .inl (i_putI N 5 2), .inl (i_goto 4), .inl (i_aload 0), .inl (i_aload 0), .inl (i_getf N 5 2), .inl (i_putI N 5 3), .inl (i_aload 0), .inl (i_getf N 5 2), .inl (i_aload 0), .inl (i_getf N 5 0), .inl (i_icmp_lt 37), .inl (i_aload 0), .inl (i_push (.int 0)), .inl (i_putI N 5 4), .inr (1, 0, 0), .inl (i_aload 0), .inl (i_aload 0), .inl (i_getf N 5 1), .inl (i_aload 0), .inl (i_getf N 5 2), .inl (i_bald N), .inr (2, 200, 1), .inl (i_putI N 5 4), .inl (i_aload 0), .inl i_dup, .inl (i_getf N 5 3), .inl (i_push (.int 1)), .inl i_iadd, .inl (i_putI N 5 3), .inl (i_aload 0), .inl (i_getf N 5 4), .inl (i_push (.int 1)), .inl (i_icmp_eq 59), .inl (i_aload 0), .inl (i_getf N 5 4), .inl (i_push (.int 2)), .inl (i_icmp_ne 80), .inl (i_aload 0), .inl (i_getf N 5 3), .inl (i_aload 0), .inl (i_getf N 5 0), .inl (i_icmp_ge 80), .inl (i_aload 0), .inl (i_getf N 5 1), .inl (i_aload 0), .inl (i_getf N 5 3), .inl (i_bald N), .inr (2, 200, 1), .inl (i_aload 0), .inl (i_getf N 5 4), .inl (i_icmp_ne 80), .inl (i_aload 0), .inl i_dup, .inl (i_getf N 5 3), .inl (i_push (.int 1)), .inl i_iadd, .inl (i_putI N 5 3), .inl (i_goto 59), .inl (i_aload 0), .inl (i_getf N 5 4), .inl (i_push (.int 2)), .inl (i_icmp_ne 86), .inl (i_aload 0), .inr (3, 199, 1), .inr (1, 0, 0)]
def kX5_readNumber (N : Nat) : List Ent := [.inl (i_aload 0), .inl (i_getf N 5 3), .inl (i_aload 0), .inl (i_getf N 5 2), .inl i_isub, .inl (i_push (.int 3)), .inl (i_icmp_le 11), .inl (i_aload 0), .inl (i_push (.int 4)), .inl (i_putI N 5 4), .inr (1, 0, 0), .inl (i_aload 0), .inl (i_push (.int 0)), .inl (i_putI N 5 5), .inl (i_aload 0), .inl (i_getf N 5 2), .inl (i_istore 1), .inl (i_iload 1), .inl (i_aload 0), .inl (i_getf N 5 3), .inl (i_icmp_ge 36), .inl (i_aload 0), .inl (i_aload 0), .inl (i_getf N 5 5), .inl (i_push (.int 10)), .inl i_imul, .inl (i_aload 0), .inl (i_getf N 5 1), .inl (i_iload 1), .inl (i_bald N), .inl i_iadd, .inl (i_push (.int 48)), .inl i_isub, .inl (i_putI N 5 5), .inl (i_iinc 1 1), .inl (i_goto 17), .inr (1, 0, 0)]
def kX5_kindOf (N : Nat) : List Ent := [.inl (i_iload 0), .inl (i_push (.int 97)), .inl (i_icmp_lt 8), .inl (i_iload 0), .inl (i_push (.int 122)), .inl (i_icmp_gt 8), .inl (i_push (.int 1)), .inr (0, 0, 0), .inl (i_iload 0), .inl (i_push (.int 48)), .inl (i_icmp_lt 16), .inl (i_iload 0), .inl (i_push (.int 57)), .inl (i_icmp_gt 16), .inl (i_push (.int 2)), .inr (0, 0, 0), .inl (i_iload 0), .inl (i_lsw (fun z => if (10 : Int) = z then 20 else if (32 : Int) = z then 20 else if (59 : Int) = z then 18 else 22)), .inl (i_push (.int 3)), .inr (0, 0, 0), .inl (i_push (.int 5)), .inr (0, 0, 0), .inl (i_push (.int 4)), .inr (0, 0, 0)]
def kX8_append (N : Nat) : List Ent := [.inl (i_aload 0), .inl (i_getf N 8 5), .inl (i_getf N 5 0), .inl (i_push (.int 20)), .inl i_iadd, .inl (i_push (.int 800)), .inl (i_icmp_le 12), .inr (5, 0, 0), .inl i_none, .inl i_none, .inl i_none, .inl i_none, .inl (i_aload 0), .inl (i_getf N 8 5), .inl (i_iload 1), .inr (3, 181, 2), .inl (i_aload 0), .inl (i_getf N 8 5), .inl (i_iload 2), .inr (3, 181, 2), .inl (i_aload 0), .inl (i_getf N 8 5), .inl (i_iload 3), .inr (3, 181, 2), .inl (i_aload 0), .inl (i_getf N 8 5), .inl (i_iload 4), .inr (3, 181, 2), .inl (i_aload 0), .inl (i_getf N 8 5), .inl (i_iload 5), .inr (3, 181, 2), .inl (i_aload 0), .inl (i_getf N 8 5), .inl (i_getf N 5 0), .inr (0, 0, 0)]
def kX8_shorten (N : Nat) : List Ent := [.inl (i_iload 1), .inl (i_if_lt 7), .inl (i_iload 1), .inl (i_aload 0), .inl (i_getf N 8 5), .inl (i_getf N 5 0), .inl (i_icmp_le 12), .inr (5, 1, 0), .inl i_none, .inl i_none, .inl i_none, .inl i_none, .inl (i_aload 0), .inl (i_getf N 8 5), .inl (i_iload 1), .inr (3, 184, 2), .inl (i_iload 1), .inr (0, 0, 0)]
def kX8_load (N : Nat) : List Ent := [.inl (i_aload 0), .inl (i_aload 0), .inl (i_getf N 8 5), .inl (i_aload 0), .inl (i_getf N 8 1), .inr (3, 185, 2), .inl (i_putI N 8 10), .inl (i_aload 0), .inl (i_getf N 8 5), .inl (i_push (.int 0)), .inr (3, 184, 2), .inl (i_aload 0), .inl (i_getf N 8 10), .inl (i_push (.int (-1))), .inl (i_icmp_eq 20), .inr (5, 1, 0), .inl i_none, .inl i_none, .inl i_none, .inl i_none, .inl (i_aload 0), .inl (i_getf N 8 0), .inl (i_aload 0), .inl (i_getf N 8 1), .inr (3, 158, 2), .inl (i_aload 0), .inl (i_getf N 8 2), .inr (3, 178, 1), .inl (i_push (.int 0)), .inl (i_istore 1), .inl (i_iload 1), .inl (i_push (.int 2)), .inl (i_icmp_ge 40), .inl (i_aload 0), .inl (i_getf N 8 4), .inl (i_iload 1), .inl (i_push (.int 0)), .inl (i_zast N), .inl (i_iinc 1 1), .inl (i_goto 30), .inl (i_aload 0), .inl (i_getf N 8 0), .inl (i_getf N 7 2), .inl (i_getf N 6 0), .inr (0, 0, 0)]
def kX8_hasError (N : Nat) : List Ent := [.inl (i_aload 0), .inl (i_getf N 8 10), .inl (i_push (.int (-1))), .inl (i_icmp_eq 6), .inl (i_push (.int 1)), .inl (i_goto 7), .inl (i_push (.int 0)), .inr (0, 1, 0)]
def kX8_errorOffset (N : Nat) : List Ent := [.inl (i_aload 0), .inl (i_getf N 8 10), .inl (i_push (.int (-1))), .inl (i_icmp_ne 9), .inr (5, 2, 0), .inl i_none, .inl i_none, .inl i_none, .inl i_none, .inl (i_aload 0), .inl (i_getf N 8 10), .inr (0, 0, 0)]
def kX8_width (N : Nat) : List Ent := [.inl (i_aload 0), .inl (i_getf N 8 0), .inl (i_getf N 7 0), .inl (i_getf N 1 0), .inr (0, 0, 0)]
def kX8_height (N : Nat) : List Ent := [.inl (i_aload 0), .inl (i_getf N 8 0), .inl (i_getf N 7 0), .inl (i_getf N 1 1), .inr (0, 0, 0)]
def kX8_isWater (N : Nat) : List Ent := [.inl (i_aload 0), .inl (i_getf N 8 0), .inl (i_getf N 7 0), .inl (i_getf N 1 2), .inl (i_aload 0), .inl (i_iload 1), .inl (i_iload 2), .inr (3, 265, 3), .inl (i_iald N), .inl (i_if_ne 12), .inl (i_push (.int 1)), .inl (i_goto 13), .inl (i_push (.int 0)), .inr (0, 1, 0)]
def kX8_isHut (N : Nat) : List Ent := [.inl (i_aload 0), .inl (i_getf N 8 0), .inl (i_getf N 7 0), .inl (i_getf N 1 2), .inl (i_aload 0), .inl (i_iload 1), .inl (i_iload 2), .inr (3, 265, 3), .inl (i_iald N), .inl (i_push (.int 11)), .inl (i_icmp_ne 13), .inl (i_push (.int 1)), .inl (i_goto 14), .inl (i_push (.int 0)), .inr (0, 1, 0)]
def kX8_isPlank (N : Nat) : List Ent := [.inl (i_aload 0), .inl (i_getf N 8 0), .inl (i_getf N 7 0), .inl (i_aload 0), .inl (i_iload 1), .inl (i_iload 2), .inr (3, 265, 3), .inr (3, 137, 2), .inr (0, 1, 0)]
def kX8_plankStrength (N : Nat) : List Ent := [.inl (i_aload 0), .inl (i_iload 1), .inl (i_iload 2), .inr (3, 265, 3), .inl (i_istore 3), .inl (i_aload 0), .inl (i_getf N 8 0), .inl (i_getf N 7 0), .inl (i_iload 3), .inr (3, 137, 2), .inl (i_if_ne 16), .inr (5, 2, 0), .inl i_none, .inl i_none, .inl i_none, .inl i_none, .inl (i_aload 0), .inl (i_getf N 8 0), .inl (i_getf N 7 0), .inl (i_getf N 1 2), .inl (i_iload 3), .inl (i_iald N), .inr (0, 0, 0)]
def kX8_plankCount (N : Nat) : List Ent := [.inl (i_aload 0), .inl (i_getf N 8 0), .inl (i_getf N 7 0), .inr (3, 139, 1), .inr (0, 0, 0)]
def kX8_pathLength (N : Nat) : List Ent := [.inl (i_aload 0), .inl (i_iload 1), .inl (i_iload 2), .inr (3, 265, 3), .inl (i_istore 5), .inl (i_aload 0), .inl (i_iload 3), .inl (i_iload 4), .inr (3, 265, 3), .inl (i_istore 6), .inl (i_aload 0), .inl (i_getf N 8 7), .inl (i_aload 0), .inl (i_getf N 8 0), .inl (i_getf N 7 0), .inl (i_iload 6), .inr (3, 165, 3), .inl (i_aload 0), .inl (i_getf N 8 7), .inl (i_getf N 0 0), .inl (i_iload 5), .inl (i_iald N), .inr (2, 272, 1), .inr (0, 0, 0)]
def kX8_stepsToHut (N : Nat) : List Ent := [.inl (i_aload 0), .inl (i_iload 1), .inl (i_iload 2), .inr (3, 265, 3), .inl (i_istore 3), .inl (i_aload 0), .inl (i_getf N 8 7), .inl (i_aload 0), .inl (i_getf N 8 0), .inl (i_getf N 7 0), .inr (3, 166, 2), .inl (i_aload 0), .inl (i_getf N 8 7), .inl (i_getf N 0 0), .inl (i_iload 3), .inl (i_iald N), .inr (2, 272, 1), .inr (0, 0, 0)]
def kX8_time (N : Nat) : List Ent := [.inl (i_aload 0), .inl (i_getf N 8 0), .inl (i_getf N 7 5), .inr (0, 0, 0)]
def kX8_clearness (N : Nat) : List Ent := [.inl (i_aload 0), .inl (i_getf N 8 0), .inl (i_getf N 7 4), .inr (0, 0, 0)]
def kX8_fog (N : Nat) : List Ent := [.inl (i_aload 0), .inl (i_iload 1), .inr (3, 266, 2), .inl (i_aload 0), .inl (i_getf N 8 0), .inl (i_getf N 7 3), .inl (i_iload 1), .inl (i_iald N), .inr (0, 0, 0)]
def kX8_sight (N : Nat) : List Ent := [.inl (i_aload 0), .inl (i_getf N 8 0), .inr (3, 160, 1), .inr (0, 0, 0)]
def kX8_lightCount (N : Nat) : List Ent := [.inl (i_aload 0), .inl (i_getf N 8 0), .inl (i_getf N 7 1), .inl (i_getf N 3 0), .inr (0, 0, 0)]
def kX8_lightColumn (N : Nat) : List Ent := [.inl (i_aload 0), .inl (i_iload 1), .inr (3, 267, 2), .inl (i_aload 0), .inl (i_getf N 8 0), .inl (i_getf N 7 1), .inl (i_getf N 3 2), .inl (i_iload 1), .inl (i_iald N), .inr (2, 275, 1), .inr (0, 0, 0)]
def kX8_lightRow (N : Nat) : List Ent := [.inl (i_aload 0), .inl (i_iload 1), .inr (3, 267, 2), .inl (i_aload 0), .inl (i_getf N 8 0), .inl (i_getf N 7 1), .inl (i_getf N 3 2), .inl (i_iload 1), .inl (i_iald N), .inr (2, 276, 1), .inr (0, 0, 0)]
def kX8_brightness (N : Nat) : List Ent := [.inl (i_aload 0), .inl (i_iload 1), .inr (3, 267, 2), .inl (i_aload 0), .inl (i_getf N 8 0), .inl (i_getf N 7 1), .inl (i_getf N 3 3), .inl (i_iload 1), .inl (i_iald N), .inr (0, 0, 0)]
def kX8_isTrueLight (N : Nat) : List Ent := [.inl (i_aload 0), .inl (i_iload 1), .inr (3, 267, 2), .inl (i_aload 0), .inl (i_getf N 8 0), .inl (i_getf N 7 1), .inl (i_getf N 3 1), .inl (i_iload 1), .inr (2, 277, 2), .inr (0, 1, 0)]
def kX8_hasSuccessor (N : Nat) : List Ent := [.inl (i_aload 0), .inl (i_iload 1), .inr (3, 267, 2), .inl (i_aload 0), .inl (i_getf N 8 0), .inl (i_getf N 7 1), .inl (i_getf N 3 4), .inl (i_iload 1), .inl (i_iald N), .inl (i_push (.int (-1))), .inl (i_icmp_eq 13), .inl (i_push (.int 1)), .inl (i_goto 14), .inl (i_push (.int 0)), .inr (0, 1, 0)]
def kX8_successor (N : Nat) : List Ent := [.inl (i_aload 0), .inl (i_iload 1), .inr (3, 267, 2), .inl (i_aload 0), .inl (i_iload 1), .inr (3, 271, 2), .inr (0, 0, 0)]
def kX8_followers (N : Nat) : List Ent := [.inl (i_aload 0), .inl (i_iload 1), .inr (3, 267, 2), .inl (i_aload 0), .inl (i_getf N 8 0), .inl (i_getf N 7 2), .inl (i_iload 1), .inr (3, 155, 2), .inr (0, 0, 0)]
def kX8_leadsAstray (N : Nat) : List Ent := [.inl (i_aload 0), .inl (i_iload 1), .inr (3, 267, 2), .inl (i_aload 0), .inl (i_getf N 8 0), .inl (i_getf N 7 1), .inl (i_iload 1), .inr (3, 148, 2), .inr (0, 1, 0)]
def kX8_travellerCount (N : Nat) : List Ent := [.inl (i_aload 0), .inl (i_getf N 8 0), .inl (i_getf N 7 2), .inl (i_getf N 6 0), .inr (0, 0, 0)]
def kX8_travellerColumn (N : Nat) : List Ent := [.inl (i_aload 0), .inl (i_iload 1), .inr (3, 268, 2), .inl (i_aload 0), .inl (i_getf N 8 0), .inl (i_getf N 7 2), .inl (i_getf N 6 1), .inl (i_iload 1), .inl (i_iald N), .inr (2, 275, 1), .inr (0, 0, 0)]
def kX8_travellerRow (N : Nat) : List Ent := [.inl (i_aload 0), .inl (i_iload 1), .inr (3, 268, 2), .inl (i_aload 0), .inl (i_getf N 8 0), .inl (i_getf N 7 2), .inl (i_getf N 6 1), .inl (i_iload 1), .inl (i_iald N), .inr (2, 276, 1), .inr (0, 0, 0)]
def kX8_isWalking (N : Nat) : List Ent := [.inl (i_aload 0), .inl (i_iload 1), .inr (3, 268, 2), .inl (i_aload 0), .inl (i_getf N 8 0), .inl (i_getf N 7 2), .inl (i_getf N 6 2), .inl (i_iload 1), .inl (i_iald N), .inl (i_if_ne 12), .inl (i_push (.int 1)), .inl (i_goto 13), .inl (i_push (.int 0)), .inr (0, 1, 0)]
def kX8_hasArrived (N : Nat) : List Ent := [.inl (i_aload 0), .inl (i_iload 1), .inr (3, 268, 2), .inl (i_aload 0), .inl (i_getf N 8 0), .inl (i_getf N 7 2), .inl (i_getf N 6 2), .inl (i_iload 1), .inl (i_iald N), .inl (i_push (.int 1)), .inl (i_icmp_ne 13), .inl (i_push (.int 1)), .inl (i_goto 14), .inl (i_push (.int 0)), .inr (0, 1, 0)]
def kX8_hasSunk (N : Nat) : List Ent := [.inl (i_aload 0), .inl (i_iload 1), .inr (3, 268, 2), .inl (i_aload 0), .inl (i_getf N 8 0), .inl (i_getf N 7 2), .inl (i_getf N 6 2), .inl (i_iload 1), .inl (i_iald N), .inl (i_push (.int 2)), .inl (i_icmp_ne 13), .inl (i_push (.int 1)), .inl (i_goto 14), .inl (i_push (.int 0)), .inr (0, 1, 0)]
def kX8_stepsTaken (N : Nat) : List Ent := [.inl (i_aload 0), .inl (i_iload 1), .inr (3, 268, 2), .inl (i_aload 0), .inl (i_getf N 8 0), .inl (i_getf N 7 2), .inl (i_getf N 6 3), .inl (i_iload 1), .inl (i_iald N), .inr (0, 0, 0)]
def kX8_hasTarget (N : Nat) : List Ent := [.inl (i_aload 0), .inl (i_iload 1), .inr (3, 268, 2), .inl (i_aload 0), .inl (i_getf N 8 0), .inl (i_getf N 7 2), .inl (i_getf N 6 4), .inl (i_iload 1), .inl (i_iald N), .inl (i_push (.int (-1))), .inl (i_icmp_eq 13), .inl (i_push (.int 1)), .inl (i_goto 14), .inl (i_push (.int 0)), .inr (0, 1, 0)]
def kX8_target (N : Nat) : List Ent := [.inl (i_aload 0), .inl (i_iload 1), .inr (3, 268, 2), .inl (i_aload 0), .inl (i_getf N 8 0), .inl (i_getf N 7 2), .inl (i_getf N 6 4), .inl (i_iload 1), .inl (i_iald N), .inl (i_istore 2), .inl (i_iload 2), .inl (i_push (.int (-1))), .inl (i_icmp_ne 18), .inr (5, 2, 0), .inl i_none, .inl i_none, .inl i_none, .inl i_none, .inl (i_iload 2), .inr (0, 0, 0)]
def kX8_hasPassed (N : Nat) : List Ent := [.inl (i_aload 0), .inl (i_iload 1), .inr (3, 268, 2), .inl (i_aload 0), .inl (i_iload 2), .inr (3, 267, 2), .inl (i_aload 0), .inl (i_getf N 8 0), .inl (i_getf N 7 2), .inl (i_getf N 6 5), .inl (i_iload 1), .inl (i_iald N), .inl (i_iload 2), .inr (2, 277, 2), .inr (0, 1, 0)]
def kX8_distrusts (N : Nat) : List Ent := [.inl (i_aload 0), .inl (i_iload 1), .inr (3, 268, 2), .inl (i_aload 0), .inl (i_iload 2), .inr (3, 267, 2), .inl (i_aload 0), .inl (i_getf N 8 0), .inl (i_getf N 7 2), .inl (i_getf N 6 6), .inl (i_iload 1), .inl (i_iald N), .inl (i_iload 2), .inr (2, 277, 2), .inr (0, 1, 0)]
def kX8_sees (N : Nat) : List Ent := [.inl (i_aload 0), .inl (i_iload 1), .inr (3, 268, 2), .inl (i_aload 0), .inl (i_iload 2), .inr (3, 267, 2), .inl (i_aload 0), .inl (i_getf N 8 0), .inl (i_iload 1), .inl (i_iload 2), .inr (3, 161, 3), .inl (i_aload 0), .inl (i_getf N 8 0), .inr (3, 160, 1), .inl (i_aload 0), .inl (i_getf N 8 0), .inl (i_getf N 7 1), .inl (i_getf N 3 3), .inl (i_iload 2), .inl (i_iald N), .inl i_iadd, .inl (i_icmp_gt 24), .inl (i_push (.int 1)), .inl (i_goto 25), .inl (i_push (.int 0)), .inr (0, 1, 0)]
def kX8_nearestLight (N : Nat) : List Ent := [.inl (i_aload 0), .inl (i_iload 1), .inr (3, 268, 2), .inl (i_aload 0), .inl (i_getf N 8 0), .inl (i_iload 1), .inr (3, 162, 2), .inl (i_istore 2), .inl (i_iload 2), .inl (i_push (.int (-1))), .inl (i_icmp_ne 16), .inr (5, 2, 0), .inl i_none, .inl i_none, .inl i_none, .inl i_none, .inl (i_iload 2), .inr (0, 0, 0)]
def kX8_walkingCount (N : Nat) : List Ent := [.inl (i_aload 0), .inl (i_getf N 8 0), .inl (i_getf N 7 2), .inl (i_push (.int 0)), .inr (3, 154, 2), .inr (0, 0, 0)]
def kX8_arrivedCount (N : Nat) : List Ent := [.inl (i_aload 0), .inl (i_getf N 8 0), .inl (i_getf N 7 2), .inl (i_push (.int 1)), .inr (3, 154, 2), .inr (0, 0, 0)]
def kX8_sunkCount (N : Nat) : List Ent := [.inl (i_aload 0), .inl (i_getf N 8 0), .inl (i_getf N 7 2), .inl (i_push (.int 2)), .inr (3, 154, 2), .inr (0, 0, 0)]
def kX8_arrivedShare (N : Nat) : List Ent := [.inl (i_aload 0), .inl (i_getf N 8 0), .inl (i_getf N 7 2), .inl (i_getf N 6 0), .inl (i_istore 1), .inl (i_iload 1), .inl (i_if_ne 9), .inl (i_push (.float FP.fconst0)), .inr (0, 3, 0), .inl (i_aload 0), .inl (i_getf N 8 0), .inl (i_getf N 7 2), .inl (i_push (.int 1)), .inr (3, 154, 2), .inl i_i2f, .inl (i_iload 1), .inl i_i2f, .inl i_fdiv, .inr (0, 3, 0)]
def kX8_meanSteps (N : Nat) : List Ent := [.inl (i_aload 0), .inl (i_getf N 8 0), .inl (i_getf N 7 2), .inl (i_getf N 6 0), .inl (i_istore 1), .inl (i_iload 1), .inl (i_if_ne 9), .inl (i_push (.double FP.dconst0)), .inr (0, 4, 0), .inl (i_aload 0), .inl (i_getf N 8 0), .inl (i_getf N 7 2), .inr (3, 156, 1), .inl i_i2d, .inl (i_iload 1), .inl i_i2d, .inl i_ddiv, .inr (0, 4, 0)]
def kX8_ticksUntilDone (N : Nat) : List Ent := [.inl (i_aload 0), .inl (i_iload 1), .inr (3, 268, 2), .inl (i_aload 0), .inl (i_iload 1), .inr (3, 270, 2), .inl (i_aload 0), .inl (i_getf N 8 1), .inl (i_aload 0), .inl (i_getf N 8 0), .inr (3, 158, 2), .inl (i_aload 0), .inl (i_getf N 8 6), .inl (i_aload 0), .inl (i_getf N 8 1), .inl (i_push (.int 300)), .inr (3, 171, 3), .inl (i_aload 0), .inl (i_getf N 8 1), .inl (i_getf N 7 2), .inl (i_getf N 6 2), .inl (i_iload 1), .inl (i_iald N), .inl (i_if_ne 29), .inr (5, 2, 0), .inl i_none, .inl i_none, .inl i_none, .inl i_none, .inl (i_aload 0), .inl (i_getf N 8 1), .inl (i_getf N 7 2), .inl (i_getf N 6 7), .inl (i_iload 1), .inl (i_iald N), .inl (i_aload 0), .inl (i_getf N 8 0), .inl (i_getf N 7 5), .inl i_isub, .inr (0, 0, 0)]
def kX8_willArrive (N : Nat) : List Ent := [.inl (i_aload 0), .inl (i_iload 1), .inr (3, 268, 2), .inl (i_aload 0), .inl (i_getf N 8 1), .inl (i_aload 0), .inl (i_getf N 8 0), .inr (3, 158, 2), .inl (i_aload 0), .inl (i_getf N 8 6), .inl (i_aload 0), .inl (i_getf N 8 1), .inl (i_push (.int 300)), .inr (3, 171, 3), .inl (i_aload 0), .inl (i_getf N 8 1), .inl (i_getf N 7 2), .inl (i_getf N 6 2), .inl (i_iload 1), .inl (i_iald N), .inl (i_push (.int 1)), .inl (i_icmp_ne 24), .inl (i_push (.int 1)), .inl (i_goto 25), .inl (i_push (.int 0)), .inr (0, 1, 0)]
def kX8_arrivedAfter (N : Nat) : List Ent := [.inl (i_iload 1), .inr (2, 273, 1), .inl (i_aload 0), .inl (i_getf N 8 1), .inl (i_aload 0), .inl (i_getf N 8 0), .inr (3, 158, 2), .inl (i_aload 0), .inl (i_getf N 8 6), .inl (i_aload 0), .inl (i_getf N 8 1), .inl (i_iload 1), .inr (3, 171, 3), .inl (i_aload 0), .inl (i_getf N 8 1), .inl (i_getf N 7 2), .inl (i_push (.int 1)), .inr (3, 154, 2), .inr (0, 0, 0)]
def kX8_sunkAfter (N : Nat) : List Ent := [.inl (i_iload 1), .inr (2, 273, 1), .inl (i_aload 0), .inl (i_getf N 8 1), .inl (i_aload 0), .inl (i_getf N 8 0), .inr (3, 158, 2), .inl (i_aload 0), .inl (i_getf N 8 6), .inl (i_aload 0), .inl (i_getf N 8 1), .inl (i_iload 1), .inr (3, 171, 3), .inl (i_aload 0), .inl (i_getf N 8 1), .inl (i_getf N 7 2), .inl (i_push (.int 2)), .inr (3, 154, 2), .inr (0, 0, 0)]
def kX8_bestClearness (N : Nat) : List Ent := [.inl (i_push (.int 0)), .inl (i_istore 1), .inl (i_push (.int (-1))), .inl (i_istore 2), .inl (i_push (.int 0)), .inl (i_istore 3), .inl (i_iload 3), .inl (i_push (.int 20)), .inl (i_icmp_gt 39), .inl (i_aload 0), .inl (i_getf N 8 1), .inl (i_aload 0), .inl (i_getf N 8 0), .inr (3, 158, 2), .inl (i_aload 0), .inl (i_getf N 8 1), .inl (i_iload 3), .inl (i_putI N 7 4), .inl (i_aload 0), .inl (i_getf N 8 6), .inl (i_aload 0), .inl (i_getf N 8 1), .inl (i_push (.int 300)), .inr (3, 171, 3), .inl (i_aload 0), .inl (i_getf N 8 1), .inl (i_getf N 7 2), .inl (i_push (.int 1)), .inr (3, 154, 2), .inl (i_istore 4), .inl (i_iload 4), .inl (i_iload 2), .inl (i_icmp_le 37), .inl (i_iload 4), .inl (i_istore 2), .inl (i_iload 3), .inl (i_istore 1), .inl (i_iinc 3 1), .inl (i_goto 6), .inl (i_iload 1), .inr (0, 0, 0)]
def kX8_tick (N : Nat) : List Ent := [.inl (i_iload 1), .inl (i_push (.int 1)), .inl (i_icmp_lt 6), .inl (i_iload 1), .inl (i_push (.int 100)), .inl (i_icmp_le 11), .inr (5, 1, 0), .inl i_none, .inl i_none, .inl i_none, .inl i_none, .inl (i_aload 0), .inl (i_getf N 8 0), .inl (i_getf N 7 5), .inl (i_iload 1), .inl i_iadd, .inl (i_push (.int 9999)), .inl (i_icmp_le 23), .inr (5, 0, 0), .inl i_none, .inl i_none, .inl i_none, .inl i_none, .inl (i_aload 0), .inl (i_getf N 8 2), .inl (i_aload 0), .inl (i_getf N 8 0), .inr (3, 179, 2), .inl (i_aload 0), .inl (i_getf N 8 0), .inl (i_getf N 7 2), .inl (i_push (.int 1)), .inr (3, 154, 2), .inl (i_istore 2), .inl (i_aload 0), .inl (i_getf N 8 6), .inl (i_aload 0), .inl (i_getf N 8 0), .inl (i_iload 1), .inr (3, 171, 3), .inl (i_aload 0), .inl (i_getf N 8 0), .inl (i_getf N 7 2), .inl (i_push (.int 1)), .inr (3, 154, 2), .inl (i_iload 2), .inl i_isub, .inr (0, 0, 0)]
def kX8_addLight (N : Nat) : List Ent := [.inl (i_aload 0), .inl (i_iload 1), .inl (i_iload 2), .inr (3, 265, 3), .inl (i_istore 5), .inl (i_iload 3), .inl (i_if_lt 10), .inl (i_iload 3), .inl (i_push (.int 9)), .inl (i_icmp_le 15), .inr (5, 1, 0), .inl i_none, .inl i_none, .inl i_none, .inl i_none, .inl (i_aload 0), .inl (i_getf N 8 0), .inl (i_getf N 7 1), .inl (i_getf N 3 0), .inl (i_push (.int 8)), .inl (i_icmp_ge 26), .inl (i_aload 0), .inl (i_getf N 8 0), .inl (i_iload 5), .inr (3, 163, 2), .inl (i_if_ne 31), .inr (5, 0, 0), .inl i_none, .inl i_none, .inl i_none, .inl i_none, .inl (i_aload 0), .inl (i_getf N 8 2), .inl (i_aload 0), .inl (i_getf N 8 0), .inr (3, 179, 2), .inl (i_aload 0), .inl (i_getf N 8 0), .inl (i_getf N 7 1), .inl (i_iload 5), .inl (i_iload 3), .inl (i_iload 4), .inr (3, 147, 4), .inr (0, 0, 0)]
def kX8_addTraveller (N : Nat) : List Ent := [.inl (i_aload 0), .inl (i_iload 1), .inl (i_iload 2), .inr (3, 265, 3), .inl (i_istore 3), .inl (i_aload 0), .inl (i_getf N 8 0), .inl (i_getf N 7 2), .inl (i_getf N 6 0), .inl (i_push (.int 6)), .inl (i_icmp_ge 17), .inl (i_aload 0), .inl (i_getf N 8 0), .inl (i_getf N 7 0), .inl (i_iload 3), .inr (3, 138, 2), .inl (i_if_ne 22), .inr (5, 0, 0), .inl i_none, .inl i_none, .inl i_none, .inl i_none, .inl (i_aload 0), .inl (i_getf N 8 2), .inl (i_aload 0), .inl (i_getf N 8 0), .inr (3, 179, 2), .inl (i_aload 0), .inl (i_getf N 8 0), .inl (i_getf N 7 2), .inl (i_iload 3), .inr (3, 151, 2), .inr (0, 0, 0)]
def kX8_setSuccessor (N : Nat) : List Ent := [.inl (i_aload 0), .inl (i_iload 1), .inr (3, 267, 2), .inl (i_aload 0), .inl (i_iload 2), .inr (3, 267, 2), .inl (i_iload 1), .inl (i_iload 2), .inl (i_icmp_ne 14), .inr (5, 1, 0), .inl i_none, .inl i_none, .inl i_none, .inl i_none, .inl (i_aload 0), .inl (i_getf N 8 2), .inl (i_aload 0), .inl (i_getf N 8 0), .inr (3, 179, 2), .inl (i_aload 0), .inl (i_getf N 8 0), .inl (i_getf N 7 1), .inl (i_getf N 3 4), .inl (i_iload 1), .inl (i_iload 2), .inl (i_iast N), .inl (i_aload 0), .inl (i_getf N 8 0), .inl (i_getf N 7 1), .inr (3, 149, 1), .inr (0, 0, 0)]
def kX8_clearSuccessor (N : Nat) : List Ent := [.inl (i_aload 0), .inl (i_iload 1), .inr (3, 267, 2), .inl (i_aload 0), .inl (i_iload 1), .inr (3, 271, 2), .inl (i_istore 2), .inl (i_aload 0), .inl (i_getf N 8 2), .inl (i_aload 0), .inl (i_getf N 8 0), .inr (3, 179, 2), .inl (i_aload 0), .inl (i_getf N 8 0), .inl (i_getf N 7 1), .inl (i_getf N 3 4), .inl (i_iload 1), .inl (i_push (.int (-1))), .inl (i_iast N), .inl (i_iload 2), .inr (0, 0, 0)]
def kX8_layPlank (N : Nat) : List Ent := [.inl (i_aload 0), .inl (i_iload 1), .inl (i_iload 2), .inr (3, 265, 3), .inl (i_istore 4), .inl (i_iload 3), .inl (i_push (.int 1)), .inl (i_icmp_lt 11), .inl (i_iload 3), .inl (i_push (.int 9)), .inl (i_icmp_le 16), .inr (5, 1, 0), .inl i_none, .inl i_none, .inl i_none, .inl i_none, .inl (i_aload 0), .inl (i_getf N 8 0), .inl (i_getf N 7 0), .inl (i_getf N 1 2), .inl (i_iload 4), .inl (i_iald N), .inl (i_push (.int 10)), .inl (i_icmp_eq 32), .inl (i_aload 0), .inl (i_getf N 8 0), .inl (i_getf N 7 0), .inl (i_getf N 1 2), .inl (i_iload 4), .inl (i_iald N), .inl (i_push (.int 11)), .inl (i_icmp_ne 37), .inr (5, 0, 0), .inl i_none, .inl i_none, .inl i_none, .inl i_none, .inl (i_aload 0), .inl (i_getf N 8 2), .inl (i_aload 0), .inl (i_getf N 8 0), .inr (3, 179, 2), .inl (i_aload 0), .inl (i_getf N 8 0), .inl (i_getf N 7 0), .inl (i_getf N 1 2), .inl (i_iload 4), .inl (i_iload 3), .inl (i_iast N), .inl (i_aload 0), .inl (i_getf N 8 0), .inl (i_getf N 7 0), .inr (3, 139, 1), .inr (0, 0, 0)]
def kX8_setClearness (N : Nat) : List Ent := [.inl (i_iload 1), .inl (i_if_lt 5), .inl (i_iload 1), .inl (i_push (.int 20)), .inl (i_icmp_le 10), .inr (5, 1, 0), .inl i_none, .inl i_none, .inl i_none, .inl i_none, .inl (i_aload 0), .inl (i_getf N 8 2), .inl (i_aload 0), .inl (i_getf N 8 0), .inr (3, 179, 2), .inl (i_aload 0), .inl (i_getf N 8 0), .inl (i_getf N 7 4), .inl (i_istore 2), .inl (i_aload 0), .inl (i_getf N 8 0), .inl (i_iload 1), .inl (i_putI N 7 4), .inl (i_iload 2), .inr (0, 0, 0)]
def kX8_setFog (N : Nat) : List Ent := [.inl (i_aload 0), .inl (i_iload 1), .inr (3, 266, 2), .inl (i_iload 2), .inl (i_if_lt 8), .inl (i_iload 2), .inl (i_push (.int 9)), .inl (i_icmp_le 13), .inr (5, 1, 0), .inl i_none, .inl i_none, .inl i_none, .inl i_none, .inl (i_aload 0), .inl (i_getf N 8 2), .inl (i_aload 0), .inl (i_getf N 8 0), .inr (3, 179, 2), .inl (i_aload 0), .inl (i_getf N 8 0), .inl (i_getf N 7 3), .inl (i_iload 1), .inl (i_iald N), .inl (i_istore 3), .inl (i_aload 0), .inl (i_getf N 8 0), .inl (i_getf N 7 3), .inl (i_iload 1), .inl (i_iload 2), .inl (i_iast N), .inl (i_iload 3), .inr (0, 0, 0)]
def kX8_setTarget (N : Nat) : List Ent := [.inl (i_aload 0), .inl (i_iload 1), .inr (3, 268, 2), .inl (i_aload 0), .inl (i_iload 2), .inr (3, 267, 2), .inl (i_aload 0), .inl (i_iload 1), .inr (3, 270, 2), .inl (i_aload 0), .inl (i_getf N 8 2), .inl (i_aload 0), .inl (i_getf N 8 0), .inr (3, 179, 2), .inl (i_aload 0), .inl (i_getf N 8 0), .inl (i_getf N 7 2), .inl (i_getf N 6 4), .inl (i_iload 1), .inl (i_iload 2), .inl (i_iast N), .inl (i_aload 0), .inl (i_getf N 8 0), .inl (i_iload 1), .inl (i_iload 2), .inr (3, 161, 3), .inr (0, 0, 0)]
def kX8_undo (N : Nat) : List Ent := [.inl (i_aload 0), .inl (i_getf N 8 2), .inl (i_getf N 2 0), .inl (i_if_ne 9), .inr (5, 0, 0), .inl i_none, .inl i_none, .inl i_none, .inl i_none, .inl (i_aload 0), .inl (i_getf N 8 2), .inl (i_aload 0), .inl (i_getf N 8 0), .inr (3, 180, 2), .inl (i_aload 0), .inl (i_getf N 8 2), .inl (i_getf N 2 0), .inr (0, 0, 0)]
def kX8_saveSnapshot (N : Nat) : List Ent := [.inl (i_aload 0), .inl (i_iload 1), .inr (3, 269, 2), .inl (i_aload 0), .inl (i_getf N 8 3), .inl (i_iload 1), .inl (i_aald N), .inl (i_aload 0), .inl (i_getf N 8 0), .inr (3, 158, 2), .inl (i_aload 0), .inl (i_getf N 8 4), .inl (i_iload 1), .inl (i_push (.int 1)), .inl (i_zast N), .inl (i_aload 0), .inl (i_getf N 8 0), .inl (i_getf N 7 5), .inr (0, 0, 0)]
def kX8_restoreSnapshot (N : Nat) : List Ent := [.inl (i_aload 0), .inl (i_iload 1), .inr (3, 269, 2), .inl (i_aload 0), .inl (i_getf N 8 4), .inl (i_iload 1), .inl (i_zald N), .inl (i_if_ne 13), .inr (5, 2, 0), .inl i_none, .inl i_none, .inl i_none, .inl i_none, .inl (i_aload 0), .inl (i_getf N 8 2), .inl (i_aload 0), .inl (i_getf N 8 0), .inr (3, 179, 2), .inl (i_aload 0), .inl (i_getf N 8 0), .inl (i_aload 0), .inl (i_getf N 8 3), .inl (i_iload 1), .inl (i_aald N), .inr (3, 158, 2), .inl (i_aload 0), .inl (i_getf N 8 0), .inl (i_getf N 7 5), .inr (0, 0, 0)]
def kX8_print (N : Nat) : List Ent := []
def kX8_printedByte (N : Nat) : List Ent := [.inl (i_iload 1), .inl (i_if_lt 6), .inl (i_iload 1), .inl (i_aload 0), .inl (i_getf N 8 9), .inl (i_icmp_lt 11), .inr (5, 3, 0), .inl i_none, .inl i_none, .inl i_none, .inl i_none, .inl (i_aload 0), .inl (i_getf N 8 8), .inl (i_iload 1), .inl (i_bald N), .inr (0, 0, 0)]
def kX8_requireCell (N : Nat) : List Ent := [.inl (i_aload 0), .inl (i_getf N 8 0), .inl (i_getf N 7 0), .inl (i_iload 1), .inl (i_iload 2), .inr (3, 136, 3), .inl (i_if_ne 12), .inr (5, 3, 0), .inl i_none, .inl i_none, .inl i_none, .inl i_none, .inl (i_iload 1), .inl (i_iload 2), .inr (2, 274, 2), .inr (0, 0, 0)]
def kX8_requireHour (N : Nat) : List Ent := [.inl (i_iload 1), .inl (i_if_lt 5), .inl (i_iload 1), .inl (i_push (.int 24)), .inl (i_icmp_lt 10), .inr (5, 3, 0), .inl i_none, .inl i_none, .inl i_none, .inl i_none, .inr (1, 0, 0)]
def kX8_requireLight (N : Nat) : List Ent := [.inl (i_aload 0), .inl (i_getf N 8 0), .inl (i_getf N 7 1), .inl (i_iload 1), .inr (3, 145, 2), .inl (i_if_ne 11), .inr (5, 3, 0), .inl i_none, .inl i_none, .inl i_none, .inl i_none, .inr (1, 0, 0)]
def kX8_requireTraveller (N : Nat) : List Ent := [.inl (i_iload 1), .inl (i_if_lt 8), .inl (i_iload 1), .inl (i_aload 0), .inl (i_getf N 8 0), .inl (i_getf N 7 2), .inl (i_getf N 6 0), .inl (i_icmp_lt 13), .inr (5, 3, 0), .inl i_none, .inl i_none, .inl i_none, .inl i_none, .inr (1, 0, 0)]
def kX8_requireSlot (N : Nat) : List Ent := [.inl (i_iload 1), .inl (i_if_lt 5), .inl (i_iload 1), .inl (i_push (.int 2)), .inl (i_icmp_lt 10), .inr (5, 3, 0), .inl i_none, .inl i_none, .inl i_none, .inl i_none, .inr (1, 0, 0)]
def kX8_requireWalking (N : Nat) : List Ent := [.inl (i_aload 0), .inl (i_getf N 8 0), .inl (i_getf N 7 2), .inl (i_getf N 6 2), .inl (i_iload 1), .inl (i_iald N), .inl (i_if_eq 12), .inr (5, 0, 0), .inl i_none, .inl i_none, .inl i_none, .inl i_none, .inr (1, 0, 0)]
def kX8_requireSuccessor (N : Nat) : List Ent := [.inl (i_aload 0), .inl (i_getf N 8 0), .inl (i_getf N 7 1), .inl (i_getf N 3 4), .inl (i_iload 1), .inl (i_iald N), .inl (i_istore 2), .inl (i_iload 2), .inl (i_push (.int (-1))), .inl (i_icmp_ne 15), .inr (5, 2, 0), .inl i_none, .inl i_none, .inl i_none, .inl i_none, .inl (i_iload 2), .inr (0, 0, 0)]
def kX8_requirePath (N : Nat) : List Ent := [.inl (i_iload 0), .inl (i_push (.int (-1))), .inl (i_icmp_ne 8), .inr (5, 2, 0), .inl i_none, .inl i_none, .inl i_none, .inl i_none, .inl (i_iload 0), .inr (0, 0, 0)]
def kX8_requireFuture (N : Nat) : List Ent := [.inl (i_iload 0), .inl (i_if_lt 5), .inl (i_iload 0), .inl (i_push (.int 300)), .inl (i_icmp_le 10), .inr (5, 1, 0), .inl i_none, .inl i_none, .inl i_none, .inl i_none, .inr (1, 0, 0)]
def kX8_cellAt (N : Nat) : List Ent := [.inl (i_iload 1), .inl (i_push (.int 12)), .inl i_imul, .inl (i_iload 0), .inl i_iadd, .inr (0, 0, 0)]
def kX8_columnOf (N : Nat) : List Ent := [.inl (i_iload 0), .inl (i_push (.int 12)), .inl i_irem, .inr (0, 0, 0)]
def kX8_rowOf (N : Nat) : List Ent := [.inl (i_iload 0), .inl (i_push (.int 12)), .inl i_idiv, .inr (0, 0, 0)]
def kX8_holds (N : Nat) : List Ent := [.inl (i_iload 0), .inl (i_iload 1), .inl i_ishr, .inl (i_push (.int 1)), .inl i_iand, .inl (i_if_eq 8), .inl (i_push (.int 1)), .inl (i_goto 9), .inl (i_push (.int 0)), .inr (0, 1, 0)]
def kX8_copyNumbers (N : Nat) : List Ent := [.inl (i_aload 0), .inl (i_push (.int 0)), .inl (i_aload 1), .inl (i_push (.int 0)), .inl (i_aload 0), .inl (i_alen N), .inl (i_aload 1), .inl (i_alen N), .inl i_mmin, .inl (i_acopy N), .inr (1, 0, 0)]
def kJ7_fill_53178 (N : Nat) : List Ent := [.inl (i_push (.int 0)), .inl (i_istore 2), .inl (i_aload 0), .inl (i_alen N), .inl (i_istore 3), .inl (i_iload 2), .inl (i_iload 3), .inl (i_icmp_ge 14), .inl (i_aload 0), .inl (i_iload 2), .inl (i_iload 1), .inl (i_iast N), .inl (i_iinc 2 1), .inl (i_goto 5), .inr (1, 0, 0)]
def kJ0_length_8abf5 (N : Nat) : List Ent := [.inl (i_aload 0), .inl i_sval, .inl i_salen, .inl (i_aload 0), .inr (6, 282, 1), .inl i_ishr, .inr (0, 0, 0)]
def kJ0_charAt_5068e (N : Nat) : List Ent := [.inl (i_aload 0), .inr (6, 283, 1), .inl (i_if_eq 8), .inl (i_aload 0), .inl i_sval, .inl (i_iload 1), .inr (2, 285, 2), .inr (0, 5, 0), .inl i_none, .inl i_none, .inl i_none, .inl i_none, .inl i_none]
def kJ0_coder_7d493 (N : Nat) : List Ent := [.inl (i_push (.int 1)), .inl (i_if_eq 5), .inl (i_aload 0), .inl i_scoder, .inl (i_goto 6), .inl (i_push (.int 1)), .inr (0, 2, 0)]
def kJ0_isLatin1_aae02 (N : Nat) : List Ent := [.inl (i_push (.int 1)), .inl (i_if_eq 7), .inl (i_aload 0), .inl i_scoder, .inl (i_if_ne 7), .inl (i_push (.int 1)), .inl (i_goto 8), .inl (i_push (.int 0)), .inr (0, 1, 0)]
def kJ0_checkIndex_df160 (N : Nat) : List Ent := [.inl (i_iload 0), .inl (i_iload 1), .inl i_cki, .inl i_none, .inl i_none, .inr (1, 0, 0)]
def kJ1_charAt_3b067 (N : Nat) : List Ent := [.inl (i_iload 1), .inl (i_aload 0), .inl i_salen, .inr (2, 284, 2), .inl (i_aload 0), .inl (i_iload 1), .inl i_sbald, .inl (i_push (.int 255)), .inl i_iand, .inl i_i2c, .inr (0, 5, 0)]
def kL_append (N : Nat) : List Ent := []
def kL_shorten (N : Nat) : List Ent := []
def kL_load (N : Nat) : List Ent := []
def kL_errorOffset (N : Nat) : List Ent := []
def kL_isWater (N : Nat) : List Ent := []
def kL_isHut (N : Nat) : List Ent := []
def kL_isPlank (N : Nat) : List Ent := []
def kL_plankStrength (N : Nat) : List Ent := []
def kL_pathLength (N : Nat) : List Ent := []
def kL_stepsToHut (N : Nat) : List Ent := []
def kL_fog (N : Nat) : List Ent := []
def kL_lightColumn (N : Nat) : List Ent := []
def kL_lightRow (N : Nat) : List Ent := []
def kL_brightness (N : Nat) : List Ent := []
def kL_isTrueLight (N : Nat) : List Ent := []
def kL_hasSuccessor (N : Nat) : List Ent := []
def kL_successor (N : Nat) : List Ent := []
def kL_followers (N : Nat) : List Ent := []
def kL_leadsAstray (N : Nat) : List Ent := []
def kL_travellerColumn (N : Nat) : List Ent := []
def kL_travellerRow (N : Nat) : List Ent := []
def kL_isWalking (N : Nat) : List Ent := []
def kL_hasArrived (N : Nat) : List Ent := []
def kL_hasSunk (N : Nat) : List Ent := []
def kL_stepsTaken (N : Nat) : List Ent := []
def kL_hasTarget (N : Nat) : List Ent := []
def kL_target (N : Nat) : List Ent := []
def kL_hasPassed (N : Nat) : List Ent := []
def kL_distrusts (N : Nat) : List Ent := []
def kL_sees (N : Nat) : List Ent := []
def kL_nearestLight (N : Nat) : List Ent := []
def kL_ticksUntilDone (N : Nat) : List Ent := []
def kL_willArrive (N : Nat) : List Ent := []
def kL_arrivedAfter (N : Nat) : List Ent := []
def kL_sunkAfter (N : Nat) : List Ent := []
def kL_tick (N : Nat) : List Ent := []
def kL_addLight (N : Nat) : List Ent := []
def kL_addTraveller (N : Nat) : List Ent := []
def kL_setSuccessor (N : Nat) : List Ent := []
def kL_clearSuccessor (N : Nat) : List Ent := []
def kL_layPlank (N : Nat) : List Ent := []
def kL_setClearness (N : Nat) : List Ent := []
def kL_setFog (N : Nat) : List Ent := []
def kL_setTarget (N : Nat) : List Ent := []
def kL_undo (N : Nat) : List Ent := []
def kL_saveSnapshot (N : Nat) : List Ent := []
def kL_restoreSnapshot (N : Nat) : List Ent := []
def kL_printedByte (N : Nat) : List Ent := []
def kL_call (N : Nat) : List Ent := [.inl (i_iload 1), .inl (i_tsw 0 46 [2, 6, 18, 23, 28, 32, 38, 42, 47, 52, 55, 59, 63, 66, 74, 78, 81, 90, 99, 108, 113, 120, 125, 129, 133, 137, 141, 149, 157, 161, 165, 173, 177, 181, 189, 197, 205, 209, 217, 221, 230, 239, 248, 252, 256, 264, 268] 272), .inl (i_aload 0), .inl (i_iload 2), .inr (3, 251, 2), .inr (0, 0, 0), .inl (i_aload 0), .inl (i_iload 2), .inl (i_iload 3), .inl (i_iload 4), .inl (i_iload 5), .inl (i_push (.int 1)), .inl (i_icmp_ne 15), .inl (i_push (.int 1)), .inl (i_goto 16), .inl (i_push (.int 0)), .inr (3, 252, 5), .inr (0, 0, 0), .inl (i_aload 0), .inl (i_iload 2), .inl (i_iload 3), .inr (3, 253, 3), .inr (0, 0, 0), .inl (i_aload 0), .inl (i_iload 2), .inl (i_iload 3), .inr (3, 254, 3), .inr (0, 0, 0), .inl (i_aload 0), .inl (i_iload 2), .inr (3, 255, 2), .inr (0, 0, 0), .inl (i_aload 0), .inl (i_iload 2), .inl (i_iload 3), .inl (i_iload 4), .inr (3, 256, 4), .inr (0, 0, 0), .inl (i_aload 0), .inl (i_iload 2), .inr (3, 257, 2), .inr (0, 0, 0), .inl (i_aload 0), .inl (i_iload 2), .inl (i_iload 3), .inr (3, 258, 3), .inr (0, 0, 0), .inl (i_aload 0), .inl (i_iload 2), .inl (i_iload 3), .inr (3, 259, 3), .inr (0, 0, 0), .inl (i_aload 0), .inr (3, 260, 1), .inr (0, 0, 0), .inl (i_aload 0), .inl (i_iload 2), .inr (3, 261, 2), .inr (0, 0, 0), .inl (i_aload 0), .inl (i_iload 2), .inr (3, 262, 2), .inr (0, 0, 0), .inl (i_aload 0), .inr (3, 203, 1), .inr (0, 0, 0), .inl (i_aload 0), .inl (i_iload 2), .inl (i_iload 3), .inl (i_iload 4), .inl (i_iload 5), .inl (i_iload 6), .inr (3, 201, 6), .inr (0, 0, 0), .inl (i_aload 0), .inl (i_iload 2), .inr (3, 202, 2), .inr (0, 0, 0), .inl (i_aload 0), .inr (3, 205, 1), .inr (0, 0, 0), .inl (i_aload 0), .inl (i_iload 2), .inl (i_iload 3), .inr (3, 208, 3), .inl (i_if_eq 88), .inl (i_push (.int 1)), .inl (i_goto 89), .inl (i_push (.int 0)), .inr (0, 0, 0), .inl (i_aload 0), .inl (i_iload 2), .inl (i_iload 3), .inr (3, 209, 3), .inl (i_if_eq 97), .inl (i_push (.int 1)), .inl (i_goto 98), .inl (i_push (.int 0)), .inr (0, 0, 0), .inl (i_aload 0), .inl (i_iload 2), .inl (i_iload 3), .inr (3, 210, 3), .inl (i_if_eq 106), .inl (i_push (.int 1)), .inl (i_goto 107), .inl (i_push (.int 0)), .inr (0, 0, 0), .inl (i_aload 0), .inl (i_iload 2), .inl (i_iload 3), .inr (3, 211, 3), .inr (0, 0, 0), .inl (i_aload 0), .inl (i_iload 2), .inl (i_iload 3), .inl (i_iload 4), .inl (i_iload 5), .inr (3, 213, 5), .inr (0, 0, 0), .inl (i_aload 0), .inl (i_iload 2), .inl (i_iload 3), .inr (3, 214, 3), .inr (0, 0, 0), .inl (i_aload 0), .inl (i_iload 2), .inr (3, 217, 2), .inr (0, 0, 0), .inl (i_aload 0), .inl (i_iload 2), .inr (3, 220, 2), .inr (0, 0, 0), .inl (i_aload 0), .inl (i_iload 2), .inr (3, 221, 2), .inr (0, 0, 0), .inl (i_aload 0), .inl (i_iload 2), .inr (3, 222, 2), .inr (0, 0, 0), .inl (i_aload 0), .inl (i_iload 2), .inr (3, 223, 2), .inl (i_if_eq 147), .inl (i_push (.int 1)), .inl (i_goto 148), .inl (i_push (.int 0)), .inr (0, 0, 0), .inl (i_aload 0), .inl (i_iload 2), .inr (3, 224, 2), .inl (i_if_eq 155), .inl (i_push (.int 1)), .inl (i_goto 156), .inl (i_push (.int 0)), .inr (0, 0, 0), .inl (i_aload 0), .inl (i_iload 2), .inr (3, 225, 2), .inr (0, 0, 0), .inl (i_aload 0), .inl (i_iload 2), .inr (3, 226, 2), .inr (0, 0, 0), .inl (i_aload 0), .inl (i_iload 2), .inr (3, 227, 2), .inl (i_if_eq 171), .inl (i_push (.int 1)), .inl (i_goto 172), .inl (i_push (.int 0)), .inr (0, 0, 0), .inl (i_aload 0), .inl (i_iload 2), .inr (3, 229, 2), .inr (0, 0, 0), .inl (i_aload 0), .inl (i_iload 2), .inr (3, 230, 2), .inr (0, 0, 0), .inl (i_aload 0), .inl (i_iload 2), .inr (3, 231, 2), .inl (i_if_eq 187), .inl (i_push (.int 1)), .inl (i_goto 188), .inl (i_push (.int 0)), .inr (0, 0, 0), .inl (i_aload 0), .inl (i_iload 2), .inr (3, 232, 2), .inl (i_if_eq 195), .inl (i_push (.int 1)), .inl (i_goto 196), .inl (i_push (.int 0)), .inr (0, 0, 0), .inl (i_aload 0), .inl (i_iload 2), .inr (3, 233, 2), .inl (i_if_eq 203), .inl (i_push (.int 1)), .inl (i_goto 204), .inl (i_push (.int 0)), .inr (0, 0, 0), .inl (i_aload 0), .inl (i_iload 2), .inr (3, 234, 2), .inr (0, 0, 0), .inl (i_aload 0), .inl (i_iload 2), .inr (3, 235, 2), .inl (i_if_eq 215), .inl (i_push (.int 1)), .inl (i_goto 216), .inl (i_push (.int 0)), .inr (0, 0, 0), .inl (i_aload 0), .inl (i_iload 2), .inr (3, 236, 2), .inr (0, 0, 0), .inl (i_aload 0), .inl (i_iload 2), .inl (i_iload 3), .inr (3, 237, 3), .inl (i_if_eq 228), .inl (i_push (.int 1)), .inl (i_goto 229), .inl (i_push (.int 0)), .inr (0, 0, 0), .inl (i_aload 0), .inl (i_iload 2), .inl (i_iload 3), .inr (3, 238, 3), .inl (i_if_eq 237), .inl (i_push (.int 1)), .inl (i_goto 238), .inl (i_push (.int 0)), .inr (0, 0, 0), .inl (i_aload 0), .inl (i_iload 2), .inl (i_iload 3), .inr (3, 239, 3), .inl (i_if_eq 246), .inl (i_push (.int 1)), .inl (i_goto 247), .inl (i_push (.int 0)), .inr (0, 0, 0), .inl (i_aload 0), .inl (i_iload 2), .inr (3, 240, 2), .inr (0, 0, 0), .inl (i_aload 0), .inl (i_iload 2), .inr (3, 246, 2), .inr (0, 0, 0), .inl (i_aload 0), .inl (i_iload 2), .inr (3, 247, 2), .inl (i_if_eq 262), .inl (i_push (.int 1)), .inl (i_goto 263), .inl (i_push (.int 0)), .inr (0, 0, 0), .inl (i_aload 0), .inl (i_iload 2), .inr (3, 248, 2), .inr (0, 0, 0), .inl (i_aload 0), .inl (i_iload 2), .inr (3, 249, 2), .inr (0, 0, 0), .inl (i_aload 0), .inl (i_iload 2), .inr (3, 264, 2), .inr (0, 0, 0), .inl (i_astore 7), .inl (i_push (.int (-101))), .inr (0, 0, 0), .inl (i_astore 7), .inl (i_push (.int (-102))), .inr (0, 0, 0), .inl (i_astore 7), .inl (i_push (.int (-103))), .inr (0, 0, 0), .inl (i_astore 7), .inl (i_push (.int (-104))), .inr (0, 0, 0)]
def kL_call_ (N : Nat) : List Ent := [.inl (i_aload 0), .inl (i_iload 1), .inl (i_iload 2), .inl (i_iload 3), .inl (i_push (.int 0)), .inl (i_push (.int 0)), .inl (i_push (.int 0)), .inr (2, 334, 7), .inr (0, 0, 0)]
def kL_call__ (N : Nat) : List Ent := [.inl (i_aload 0), .inl (i_iload 1), .inl (i_iload 2), .inl (i_push (.int 0)), .inl (i_push (.int 0)), .inl (i_push (.int 0)), .inl (i_push (.int 0)), .inr (2, 334, 7), .inr (0, 0, 0)]
def zK0 (N : Nat) : List (List Ent) := [kX9_thrown N, kX9_fails N, kX9_isFailed N, kX9_in N, kX9_layRow N, kX9_takesSpare N, kX9_cellAt N, kX9_lightAt N, kX9_walkerAt N, kX9_isInside N, kX9_isCell N, kX9_isLight N, kX9_isWalker N, kX9_placeOf N, kX9_columnBy N, kX9_rowBy N, kX9_clearsSteps N, kX9_reaches N, kX9_spreads N]
def zK1 (N : Nat) : List (List Ent) := [kX9_spreadsTo N, kX9_spreadsToHuts N, kX9_stepsFrom N, kX9_stepsBy N, kX9_sightOf N, kX9_apart N, kX9_farFrom N, kX9_farFromLight N, kX9_isSeen N, kX9_has N, kX9_isAcceptable N, kX9_nearestOf N, kX9_lightOn N, kX9_isAstray N, kX9_forgetsTarget N, kX9_passes N, kX9_leaves N, kX9_isOn N, kX9_moves N]
def zK2 (N : Nat) : List (List Ent) := [kX9_sinks N, kX9_goesOn N, kX9_acts N, kX9_ticks N, kX9_ticksMany N, kX9_countOf N, kX9_append N, kX9_shorten N, kX9_isSmall N, kX9_isDigit N, kX9_next N, kX9_nextWord N, kX9_nextNumber N, kX9_is N, kX9_takes N, kX9_takesNumber N, kX9_cellOf N, kX9_areCells N, kX9_readRow N]
def zK3 (N : Nat) : List (List Ent) := [kX9_readFog N, kX9_readLight N, kX9_readTraveller N, kX9_addsLight N, kX9_addsWalker N, kX9_load N, kX9_readText N, kX9_hasError N, kX9_errorOffset N, kX9_width N, kX9_height N, kX9_isWater N, kX9_isHut N, kX9_isPlank N, kX9_plankStrength N, kX9_planks N, kX9_plankCount N, kX9_pathLength N, kX9_stepsToHut N]
def zK4 (N : Nat) : List (List Ent) := [kX9_time N, kX9_clearness N, kX9_fog N, kX9_sight N, kX9_lightCount N, kX9_lightNumber N, kX9_lightColumn N, kX9_lightRow N, kX9_brightness N, kX9_isTrueLight N, kX9_hasSuccessor N, kX9_successor N, kX9_followers N, kX9_leadsAstray N, kX9_travellerCount N, kX9_walkerNumber N, kX9_hasState N, kX9_travellerColumn N, kX9_travellerRow N]
def zK5 (N : Nat) : List (List Ent) := [kX9_isWalking N, kX9_hasArrived N, kX9_hasSunk N, kX9_stepsTaken N, kX9_hasTarget N, kX9_target N, kX9_isBoth N, kX9_hasPassed N, kX9_distrusts N, kX9_sees N, kX9_nearestLight N, kX9_walkingCount N, kX9_arrivedCount N, kX9_sunkCount N, kX9_arrivedShare N, kX9_meanSteps N, kX9_ticksUntilDone N, kX9_willArrive N, kX9_countAfter N]
def zK6 (N : Nat) : List (List Ent) := [kX9_arrivedAfter N, kX9_sunkAfter N, kX9_bestClearness N, kX9_keepsForUndo N, kX9_tick N, kX9_addLight N, kX9_addTraveller N, kX9_setSuccessor N, kX9_clearSuccessor N, kX9_layPlank N, kX9_setClearness N, kX9_setFog N, kX9_setTarget N, kX9_undo N, kX9_saveSnapshot N, kX9_restoreSnapshot N, kX9_puts N, kX9_walkerOn N, kX9_signOf N]
def zK7 (N : Nat) : List (List Ent) := [kX9_print N, kX9_printedByte N, kX1_copyFrom N, kX1_contains N, kX1_holdsPlank N, kX1_takesTraveller N, kX1_countPlanks N, kX1_neighbour N, kX1_wear N, kX1_letterOf N, kX3_copyFrom N, kX3_removeAll N, kX3_contains N, kX3_onCell N, kX3_put N, kX3_goesWrong N, kX3_countWrong N, kX6_copyFrom N, kX6_put N]
def zK8 (N : Nat) : List (List Ent) := [kX6_finish N, kX6_shuns N, kX6_countIn N, kX6_countFollowing N, kX6_sumOfSteps N, kX6_lowestWalkingOn N, kX7_copyFrom N, kX7_startAnew N, kX7_sightNow N, kX7_distanceTo N, kX7_nearestAcceptable N, kX7_takesLight N, kX7_signOf N, kX0_measureToCell N, kX0_measureToHuts N, kX0_forgetPaths N, kX0_spread N, kX0_reach N, kX0_nextCell N]
def zK9 (N : Nat) : List (List Ent) := [kX4_run N, kX4_forgetWays N, kX4_act N, kX4_move N, kX4_settle N, kX4_passLight N, kX4_warnOthers N, kX2_forgetAll N, kX2_remember N, kX2_restoreLatest N, kX5_putInt N, kX5_putText N, kX5_putByte N, kX5_cutTo N, kX5_readInto N, kX5_readHead N, kX5_readRows N, kX5_readFogs N, kX5_readLights N]
def zK10 (N : Nat) : List (List Ent) := [kX5_readLight N, kX5_readTravellers N, kX5_takeWord N, kX5_isNumber N, kX5_takeNumber N, kX5_takeSemicolon N, kX5_takeCells N, kX5_groundOf N, kX5_scan N, kX5_readNumber N, kX5_kindOf N, kX8_append N, kX8_shorten N, kX8_load N, kX8_hasError N, kX8_errorOffset N, kX8_width N, kX8_height N, kX8_isWater N]
def zK11 (N : Nat) : List (List Ent) := [kX8_isHut N, kX8_isPlank N, kX8_plankStrength N, kX8_plankCount N, kX8_pathLength N, kX8_stepsToHut N, kX8_time N, kX8_clearness N, kX8_fog N, kX8_sight N, kX8_lightCount N, kX8_lightColumn N, kX8_lightRow N, kX8_brightness N, kX8_isTrueLight N, kX8_hasSuccessor N, kX8_successor N, kX8_followers N, kX8_leadsAstray N]
def zK12 (N : Nat) : List (List Ent) := [kX8_travellerCount N, kX8_travellerColumn N, kX8_travellerRow N, kX8_isWalking N, kX8_hasArrived N, kX8_hasSunk N, kX8_stepsTaken N, kX8_hasTarget N, kX8_target N, kX8_hasPassed N, kX8_distrusts N, kX8_sees N, kX8_nearestLight N, kX8_walkingCount N, kX8_arrivedCount N, kX8_sunkCount N, kX8_arrivedShare N, kX8_meanSteps N, kX8_ticksUntilDone N]
def zK13 (N : Nat) : List (List Ent) := [kX8_willArrive N, kX8_arrivedAfter N, kX8_sunkAfter N, kX8_bestClearness N, kX8_tick N, kX8_addLight N, kX8_addTraveller N, kX8_setSuccessor N, kX8_clearSuccessor N, kX8_layPlank N, kX8_setClearness N, kX8_setFog N, kX8_setTarget N, kX8_undo N, kX8_saveSnapshot N, kX8_restoreSnapshot N, kX8_print N, kX8_printedByte N, kX8_requireCell N]
def zK14 (N : Nat) : List (List Ent) := [kX8_requireHour N, kX8_requireLight N, kX8_requireTraveller N, kX8_requireSlot N, kX8_requireWalking N, kX8_requireSuccessor N, kX8_requirePath N, kX8_requireFuture N, kX8_cellAt N, kX8_columnOf N, kX8_rowOf N, kX8_holds N, kX8_copyNumbers N, kJ7_fill_53178 N, kJ0_length_8abf5 N, kJ0_charAt_5068e N, kJ0_coder_7d493 N, kJ0_isLatin1_aae02 N, kJ0_checkIndex_df160 N]
def zK15 (N : Nat) : List (List Ent) := [kJ1_charAt_3b067 N, kL_append N, kL_shorten N, kL_load N, kL_errorOffset N, kL_isWater N, kL_isHut N, kL_isPlank N, kL_plankStrength N, kL_pathLength N, kL_stepsToHut N, kL_fog N, kL_lightColumn N, kL_lightRow N, kL_brightness N, kL_isTrueLight N, kL_hasSuccessor N, kL_successor N, kL_followers N]
def zK16 (N : Nat) : List (List Ent) := [kL_leadsAstray N, kL_travellerColumn N, kL_travellerRow N, kL_isWalking N, kL_hasArrived N, kL_hasSunk N, kL_stepsTaken N, kL_hasTarget N, kL_target N, kL_hasPassed N, kL_distrusts N, kL_sees N, kL_nearestLight N, kL_ticksUntilDone N, kL_willArrive N, kL_arrivedAfter N, kL_sunkAfter N, kL_tick N, kL_addLight N]
def zK17 (N : Nat) : List (List Ent) := [kL_addTraveller N, kL_setSuccessor N, kL_clearSuccessor N, kL_layPlank N, kL_setClearness N, kL_setFog N, kL_setTarget N, kL_undo N, kL_saveSnapshot N, kL_restoreSnapshot N, kL_printedByte N, kL_call N, kL_call_ N, kL_call__ N]
def zK (N : Nat) : List (List (List Ent)) := [zK0 N, zK1 N, zK2 N, zK3 N, zK4 N, zK5 N, zK6 N, zK7 N, zK8 N, zK9 N, zK10 N, zK11 N, zK12 N, zK13 N, zK14 N, zK15 N, zK16 N, zK17 N]
def ztab (N : Nat) (y ip : Nat) : Option Ent := (z_at [] (z_at [] (zK N) (y / 19)) (y % 19))[ip]?
abbrev zE (L : Nat) (xs : Nat → Int32) (N : Nat) (y ip : Nat) (en : Ent) : Prop := z_SE N znl zc2 zcl zhnd zTs (zZ L xs N) zexn zyn zbc zrt zfr zlo zP ztb y ip en
def z_AllE (E : Nat → Ent → Prop) : Nat → List Ent → Prop
  | _, [] => True
  | i, e :: es => E i e ∧ z_AllE E (i + 1) es
theorem z_an {E : Nat → Ent → Prop} {i : Nat} : z_AllE E i [] := trivial
theorem z_ac {E : Nat → Ent → Prop} {i j : Nat} {e : Ent} {es : List Ent} (hj : i + 1 = j) (h : E i e) (k : z_AllE E j es) : z_AllE E i (e :: es) := by
  subst hj
  exact ⟨h, k⟩
theorem z_AllE_get {E : Nat → Ent → Prop} {L : List Ent} {i j : Nat} {e : Ent} (h : z_AllE E i L) (hj : L[j]? = some e) : E (i + j) e := by
  induction L generalizing i j with
  | nil => cases hj
  | cons a L ih =>
    cases j with
    | zero =>
      simp only [List.getElem?_cons_zero, Option.some.injEq] at hj
      subst hj
      exact h.1
    | succ j =>
      have := ih h.2 (by simpa using hj)
      rwa [show i + 1 + j = i + (j + 1) by omega] at this
def z_AllM (E : Nat → Nat → Ent → Prop) : Nat → List (List Ent) → Prop
  | _, [] => True
  | y, a :: as => z_AllE (E y) 0 a ∧ z_AllM E (y + 1) as
theorem z_mn {E : Nat → Nat → Ent → Prop} {y : Nat} : z_AllM E y [] := trivial
theorem z_mc {E : Nat → Nat → Ent → Prop} {y z : Nat} {a : List Ent} {as : List (List Ent)} (hj : y + 1 = z) (h : z_AllE (E y) 0 a) (k : z_AllM E z as) : z_AllM E y (a :: as) := by
  subst hj
  exact ⟨h, k⟩
theorem z_AllM_get {E : Nat → Nat → Ent → Prop} {L : List (List Ent)} {y n ip : Nat} {e : Ent} (h : z_AllM E y L) (hj : (z_at [] L n)[ip]? = some e) : E (y + n) ip e := by
  induction L generalizing y n with
  | nil => cases hj
  | cons a L ih =>
    cases n with
    | zero =>
      have := z_AllE_get h.1 hj
      rwa [Nat.zero_add] at this
    | succ n =>
      have := ih h.2 hj
      rwa [show y + 1 + n = y + (n + 1) by omega] at this
def z_AllR (E : Nat → Nat → Ent → Prop) : Nat → List (List (List Ent)) → Prop
  | _, [] => True
  | y, a :: as => z_AllM E y a ∧ z_AllR E (y + 19) as
theorem z_rn {E : Nat → Nat → Ent → Prop} {y : Nat} : z_AllR E y [] := trivial
theorem z_rc {E : Nat → Nat → Ent → Prop} {y z : Nat} {a : List (List Ent)} {as : List (List (List Ent))} (hj : y + 19 = z) (h : z_AllM E y a) (k : z_AllR E z as) : z_AllR E y (a :: as) := by
  subst hj
  exact ⟨h, k⟩
theorem z_AllR_get {E : Nat → Nat → Ent → Prop} {L : List (List (List Ent))} {y q n ip : Nat} {e : Ent} (h : z_AllR E y L) (hj : (z_at [] (z_at [] L q) n)[ip]? = some e) : E (y + (19 * q + n)) ip e := by
  induction L generalizing y q with
  | nil => cases hj
  | cons a L ih =>
    cases q with
    | zero =>
      have := z_AllM_get h.1 hj
      rwa [show y + n = y + (19 * 0 + n) by omega] at this
    | succ q =>
      have := ih h.2 hj
      rwa [show y + 19 + (19 * q + n) = y + (19 * (q + 1) + n) by omega] at this
section Z12T
variable {L : Nat} {xs : Nat → Int32} {N : Nat} {y ip : Nat}
theorem z_eI {g : Ico} (h : z_SP N zTs (zZ L xs N) (zyn y).cls (zbc y) (znl y) (zrt y) (zfr y) (zlo y) (zc2 y) (zP y) ip g) : zE L xs N y ip (.inl g) := h
theorem z_eR {k q : Nat} (h : z_SR N znl zTs (zZ L xs N) zyn zbc zrt zfr zlo zP y ip k) : zE L xs N y ip (.inr (0, k, q)) := h
theorem z_eW {k q : Nat} (h : z_SV N znl zTs (zZ L xs N) zyn zbc zrt zfr zlo zP y ip) : zE L xs N y ip (.inr (1, k, q)) := h
theorem z_eT {k q : Nat} (h : z_ST N znl zTs (zZ L xs N) zexn zyn zbc zrt zfr zlo zP ztb y ip k) : zE L xs N y ip (.inr (5, k, q)) := h
abbrev zSH (L : Nat) (xs : Nat → Int32) (N y ip : Nat) : Prop := z_SH N znl zhnd zTs (zZ L xs N) zexn zyn zbc zrt zfr zlo zP ztb y ip
theorem z_sn (h1 : ztb y = []) (h2 : zhl y = []) : zSH L xs N y ip := sh_none h1 (fun k => by unfold zhnd; rw [h2]; rfl)
def zd2 (y n : Nat) : Prop := (zyn y).cls ≠ "java/lang/invoke/MethodHandle" ∧ (zyn y).cls ≠ "java/lang/invoke/VarHandle" ∧ (parseMethodDescriptor (zyn y).desc).map (fun d => d.parameters.length) = some n
def zqV (y n : Nat) : Prop := Cond.instanceMethod (zyn y) ∈ zTs ∧ Cond.selects (zyn y).cls (zyn y) (zyn y) ∈ zTs ∧ Cond.initialized (zyn y).cls ∈ zTs ∧ Cond.code (zyn y) (zbc y) (znl y) (zrt y) ∈ zTs ∧ ztb y = [] ∧ zd2 y n
def zqS (y n : Nat) : Prop := Cond.static (zyn y) ∈ zTs ∧ Cond.initialized (zyn y).cls ∈ zTs ∧ Cond.code (zyn y) (zbc y) (znl y) (zrt y) ∈ zTs ∧ ztb y = [] ∧ zd2 y n
def zqW (y n : Nat) : Prop := Cond.static (zyn y) ∈ zTs ∧ Cond.initialized (zyn y).cls ∈ zTs ∧ Cond.codeWith (zyn y) (zbc y) (znl y) (zrt y) (ztb y) ∈ zTs ∧ ztb y ≠ [] ∧ zd2 y n
theorem z_cV {index y2 n : Nat} (hd : decode (zbc y) (zP y ip) = .ok (.invokevirtual index, 3)) (w1 : Cond.methodLink (zyn y).cls index (zyn y2) ∈ zTs) (q : zqV y2 n) (hR : zfr y2 + 1 ≤ zfr y ∧ 8 + (znl y2 + 11) + zlo y2 ≤ zlo y) (hc : ∃ T Nf, vwCl[zcl y2]? = some ((zyn y2).cls, T, Nf)) (hs : zSH L xs N y ip) (hp : zP y (ip + 1) = zP y ip + 3) : zE L xs N y ip (.inr (3, y2, n + 1)) :=
  ⟨sc_V (n' := n) zTs_good hd w1 q.1 q.2.1 q.2.2.1 q.2.2.2.1 q.2.2.2.2.1 q.2.2.2.2.2 rfl hR, hs, hp, fun _ => hc⟩
theorem z_cT {index y2 n : Nat} (hd : decode (zbc y) (zP y ip) = .ok (.invokevirtual index, 3)) (w1 : Cond.methodLink (zyn y).cls index (zyn y2) ∈ zTs) (q : zqV y2 n) (hR : zfr y2 + 1 ≤ zfr y ∧ 8 + (znl y2 + 11) + zlo y2 ≤ zlo y) (hc : (zyn y2).cls = "java/lang/String") (hs : zSH L xs N y ip) (hp : zP y (ip + 1) = zP y ip + 3) : zE L xs N y ip (.inr (6, y2, n + 1)) :=
  ⟨sc_T (n' := n) zTs_good (fun ad s H i hi h => by rw [hc]; exact z_strO ad s H i hi h) hd w1 q.1 q.2.1 q.2.2.1 q.2.2.2.1 q.2.2.2.2.1 q.2.2.2.2.2 rfl hR, hs, hp, fun h => by cases h⟩
theorem z_cS {index y2 n : Nat} (hd : decode (zbc y) (zP y ip) = .ok (.invokestatic index, 3)) (w1 : Cond.methodLink (zyn y).cls index (zyn y2) ∈ zTs) (q : zqS y2 n) (hR : zfr y2 + 1 ≤ zfr y ∧ 8 + (znl y2 + 11) + zlo y2 ≤ zlo y) (hs : zSH L xs N y ip) (hp : zP y (ip + 1) = zP y ip + 3) : zE L xs N y ip (.inr (2, y2, n)) :=
  ⟨sc_S zTs_good hd w1 q.1 q.2.1 q.2.2.1 q.2.2.2.1 q.2.2.2.2 hR, hs, hp, fun h => by cases h⟩
theorem z_cN {index y2 n : Nat} {host : String} (hd : decode (zbc y) (zP y ip) = .ok (.invokestatic index, 3)) (w1 : ((zyn y).cls, index, zyn y2, host) ∈ zNM) (q : zqS y2 n) (hR : zfr y2 + 1 ≤ zfr y ∧ 8 + (znl y2 + 11) + zlo y2 ≤ zlo y) (hs : zSH L xs N y ip) (hp : zP y (ip + 1) = zP y ip + 3) : zE L xs N y ip (.inr (4, y2, n)) :=
  ⟨sc_N zTs_good hd (fun ad s H h => h.1.1 _ w1) q.1 q.2.1 q.2.2.1 q.2.2.2.1 q.2.2.2.2 hR, hs, hp, fun h => by cases h⟩
/-- throws -/
def zEX : List String := ["java/lang/IllegalStateException", "java/lang/IllegalArgumentException", "java/util/NoSuchElementException", "java/lang/IndexOutOfBoundsException"]
theorem zCa_in {a : String} (ha : a ∈ zEX) : (a, a) ∈ zCa := by
  have hh : (zEX.all fun a => decide ((a, a) ∈ zCa)) = true := by decide +kernel
  exact of_decide_eq_true (List.all_eq_true.mp hh a ha)
def zEN : List String := ["java/lang/RuntimeException", "java/lang/Exception"]
def zTr (ik ic : Nat) (cls : String) : Prop := Cond.classLink "FalseLightMarsh" ik cls ∈ zTs ∧ Cond.initialized cls ∈ zTs ∧ (cls ∈ zEX ∧ ∀ w ∈ vx_atS "FalseLightMarsh" ic cls zEN, w ∈ zTs ∨ w ∈ Cond.castable cls cls :: zDe.map Cond.declares)
theorem z_inA (ws bs : List Cond) (h : (ws.all fun w => (goodWord w && decide (w ∈ lw_tbl)) || decide (w ∈ bs)) = true) : ∀ w ∈ ws, w ∈ zTs ∨ w ∈ bs := by
  intro w hw
  have h1 := List.all_eq_true.mp h w hw
  rw [Bool.or_eq_true, Bool.and_eq_true] at h1
  rcases h1 with h1 | h1
  · exact Or.inl (List.mem_filter.mpr ⟨of_decide_eq_true h1.2, h1.1⟩)
  · exact Or.inr (of_decide_eq_true h1)
theorem z_ot {w : Cond} (h : w ∈ zTs) : vx_ot w = true := by
  have := (List.mem_filter.mp h).2
  unfold vx_ot
  rw [this, Bool.or_true]
theorem z_tS {k ik is ic : Nat} {cls text : String} (hk : zexn k = cls) (ho : (zyn y).cls = "FalseLightMarsh") (hc : Bundle.fit cls = true) (ht : zTr ik ic cls) (hm : (is, text) ∈ zMs) (d0 : decode (zbc y) (zP y ip) = .ok (.new ik, 3)) (d3 : decode (zbc y) (zP y ip + 3) = .ok (.dup, 1)) (d4 : decode (zbc y) (zP y ip + 4) = .ok (.ldc is, 2)) (d6 : decode (zbc y) (zP y ip + 6) = .ok (.invokespecial ic, 3)) (d9 : decode (zbc y) (zP y ip + 9) = .ok (.athrow, 1)) (htb : ztb y = []) (hR : 6 ≤ zfr y ∧ 82 ≤ zlo y) : zE L xs N y ip (.inr (5, k, 0)) := by
  intro p l e R s m args below meth c ad D cA CE SE C hl hx9 H locs sl cells slots Qc XC free hS hsl hX hf hc1 hs1
  obtain ⟨hx, hb, hml, hown, hts, hr, hlk, hfr, hlo, hinj, hK, hZ, hCE, hSE⟩ := C
  rw [ho] at hown
  obtain ⟨a, hstr⟩ := hZ.1.2.2.2.2.1 _ hm
  refine vx_throwS (names := zEN) (A := z_A N ad) hx hb hl hown hc (by decide +kernel) (hts _ ht.1) (hts _ ht.2.1) hstr (fun w hw => (ht.2.2.2 w hw).elim (hts _) (fun h => (List.mem_cons.mp h).elim (fun h => by rw [h]; exact va_Nw.use rfl (hZ.1.2.2.1 _ (zCa_in ht.2.2.1))) (fun h => by obtain ⟨q, hq, h⟩ := List.mem_map.mp h; rw [← h]; exact va_Nw.use rfl (hZ.1.2.2.2.2.2.2 q hq)))) (fun w hw => ?_) hZ.2.1 hZ.2.2.1 hS (by rw [hsl, hml]) d0 d3 d4 d6 d9 (fun x hx => ?_) (by rw [hfr]; exact hR.1) (by rw [hlo]; exact Nat.le_trans (Nat.le_of_eq rfl) hR.2) (by omega) (by omega) hlk (by rw [← hk]; exact hX) hf hc1 hs1
  · rcases List.mem_cons.mp hw with rfl | hw
    · exact z_ot ht.1
    · rcases List.mem_cons.mp hw with rfl | hw
      · exact z_ot ht.2.1
      · exact (ht.2.2.2 w hw).elim z_ot (fun h => (List.mem_cons.mp h).elim (fun h => by rw [h]; rfl) (fun h => by obtain ⟨q, hq, h⟩ := List.mem_map.mp h; rw [← h]; rfl))
  · rw [hx9, htb] at hx
    cases hx
theorem z_tW {k ik is ic : Nat} {cls text : String} (hk : zexn k = cls) (ho : (zyn y).cls = "FalseLightMarsh") (hc : Bundle.fit cls = true) (ht : zTr ik ic cls) (hm : (is, text) ∈ zMs) (d0 : decode (zbc y) (zP y ip) = .ok (.new ik, 3)) (d3 : decode (zbc y) (zP y ip + 3) = .ok (.dup, 1)) (d4 : decode (zbc y) (zP y ip + 4) = .ok (.ldc_w is, 3)) (d6 : decode (zbc y) (zP y ip + 7) = .ok (.invokespecial ic, 3)) (d9 : decode (zbc y) (zP y ip + 10) = .ok (.athrow, 1)) (htb : ztb y = []) (hR : 6 ≤ zfr y ∧ 82 ≤ zlo y) : zE L xs N y ip (.inr (5, k, 0)) := by
  intro p l e R s m args below meth c ad D cA CE SE C hl hx9 H locs sl cells slots Qc XC free hS hsl hX hf hc1 hs1
  obtain ⟨hx, hb, hml, hown, hts, hr, hlk, hfr, hlo, hinj, hK, hZ, hCE, hSE⟩ := C
  rw [ho] at hown
  obtain ⟨a, hstr⟩ := hZ.1.2.2.2.2.1 _ hm
  refine vx_throwSW (names := zEN) (A := z_A N ad) hx hb hl hown hc (by decide +kernel) (hts _ ht.1) (hts _ ht.2.1) hstr (fun w hw => (ht.2.2.2 w hw).elim (hts _) (fun h => (List.mem_cons.mp h).elim (fun h => by rw [h]; exact va_Nw.use rfl (hZ.1.2.2.1 _ (zCa_in ht.2.2.1))) (fun h => by obtain ⟨q, hq, h⟩ := List.mem_map.mp h; rw [← h]; exact va_Nw.use rfl (hZ.1.2.2.2.2.2.2 q hq)))) (fun w hw => ?_) hZ.2.1 hZ.2.2.1 hS (by rw [hsl, hml]) d0 d3 d4 d6 d9 (fun x hx => ?_) (by rw [hfr]; exact hR.1) (by rw [hlo]; exact Nat.le_trans (Nat.le_of_eq rfl) hR.2) (by omega) (by omega) hlk (by rw [← hk]; exact hX) hf hc1 hs1
  · rcases List.mem_cons.mp hw with rfl | hw
    · exact z_ot ht.1
    · rcases List.mem_cons.mp hw with rfl | hw
      · exact z_ot ht.2.1
      · exact (ht.2.2.2 w hw).elim z_ot (fun h => (List.mem_cons.mp h).elim (fun h => by rw [h]; rfl) (fun h => by obtain ⟨q, hq, h⟩ := List.mem_map.mp h; rw [← h]; rfl))
  · rw [hx9, htb] at hx
    cases hx
/-- the handlers of a caller -/
def zHc (y h : Nat) (z : Int32) : Prop := (∃ (i : Nat) (n : Int), decode (zbc y) h = .ok (.astore i, 2) ∧ decode (zbc y) (h + 2) = .ok (.iconst n, 1) ∧ Int32.ofInt n = z ∧ decode (zbc y) (h + 3) = .ok (.ireturn, 1) ∧ i < znl y) ∨ (∃ (q : Fin 4) (n : Int), decode (zbc y) h = .ok (.astore_n q, 1) ∧ decode (zbc y) (h + 1) = .ok (.iconst n, 1) ∧ Int32.ofInt n = z ∧ decode (zbc y) (h + 2) = .ok (.ireturn, 1) ∧ (q : Nat) < znl y)
def zHr (y pc : Nat) (r : (Nat × Nat × Nat × Nat) × (String × Int32)) : Prop := covers ⟨r.1.1, r.1.2.1, r.1.2.2.1, r.1.2.2.2⟩ pc = true ∧ r.1.2.2.2 ≠ 0 ∧ Cond.classLink (zyn y).cls r.1.2.2.2 r.2.1 ∈ zTs ∧ r.2.1 ∈ zEX ∧ zHc y r.1.2.2.1 r.2.2
theorem zexn_in (k : Nat) : zexn k ∈ zEX := by
  match k with
  | 0 => exact List.mem_cons_self
  | 1 => exact List.mem_cons_of_mem _ List.mem_cons_self
  | 2 => exact List.mem_cons_of_mem _ (List.mem_cons_of_mem _ List.mem_cons_self)
  | k + 3 => exact List.mem_cons_of_mem _ (List.mem_cons_of_mem _ (List.mem_cons_of_mem _ List.mem_cons_self))
theorem zNc_in {a b : String} (ha : a ∈ zEX) (hb : b ∈ zEX) (h : a ≠ b) : (a, b) ∈ zNc := by
  have hh : (zEX.all fun a => zEX.all fun b => decide (a = b) || decide ((a, b) ∈ zNc)) = true := by decide +kernel
  have := List.all_eq_true.mp (List.all_eq_true.mp hh a ha) b hb
  rw [Bool.or_eq_true] at this
  rcases this with h1 | h1
  · exact absurd (of_decide_eq_true h1) h
  · exact of_decide_eq_true h1
theorem z_sw (rows : List ((Nat × Nat × Nat × Nat) × (String × Int32))) (htb : ztb y = rows.map (fun r => r.1)) (hhl : zhl y = rows.map (fun r => r.2)) (hrt : zrt y = some .int) (hr : ∀ r ∈ rows, zHr y (zP y ip) r) : zSH L xs N y ip := by
  intro p l e R s m args below meth c ad D cA CE SE C ht k H locs sl cells slots Qc XC free ce q rest hls hce hcv hcl hf hZ
  obtain ⟨hx, hb, hml, hown, hts, hret, hlk, -⟩ := C
  have key : ∀ (pre post : List ((Nat × Nat × Nat × Nat) × (String × Int32))), rows = pre ++ post → (∀ r ∈ pre, r.2.1 ≠ zexn k) →
      (∀ z, (post.map (fun r => r.2)).lookup (zexn k) = some z → (∀ t : State, t.heap = H → Qc args s (.returned (some (.int z))) t) → vx_W p l e R s m args below meth c H locs cells slots (vx_MQ below Qc XC args s cells slots free) (F0 m (zP y ip) sl rest) q) ∧
      ((post.map (fun r => r.2)).lookup (zexn k) = none → (∀ t : State, t.heap = H → s.vm.Alike t.vm → XC (zexn k) s t) → vx_W p l e R s m args below meth c H locs cells slots (vx_MQ below Qc XC args s cells slots free) (F0 m (zP y ip) sl rest) q) := by
    intro pre post
    induction post generalizing pre with
    | nil =>
      intro hrows hpre
      refine ⟨fun z hz => (by cases hz), fun _ hX => ?_⟩
      refine vx_outP (own := (zyn y).cls) (E := zexn k) hown hlk (fun x hx9 => ?_) hce hcv hcl hX hf (Nat.le_refl _) (Nat.le_refl _)
      rw [ht, htb] at hx9
      unfold tableOf at hx9
      rw [List.map_map] at hx9
      obtain ⟨r, hr1, rfl⟩ := List.mem_map.mp hx9
      have h9 := hr r hr1
      have hp9 : r ∈ pre := by rw [hrows, List.append_nil] at hr1; exact hr1
      exact Or.inr ⟨h9.2.1, r.2.1, hts _ h9.2.2.1, hZ.1.2.2.2.1 _ (zNc_in (zexn_in k) h9.2.2.2.1 (Ne.symm (hpre r hp9)))⟩
    | cons r post ih =>
      intro hrows hpre
      by_cases hrk : r.2.1 = zexn k
      · have hlook : ((r :: post).map (fun r => r.2)).lookup (zexn k) = some r.2.2 := by
          show (match zexn k == r.2.1 with | true => some r.2.2 | false => _) = _
          rw [hrk, beq_self_eq_true]
        rw [hlook]
        refine ⟨fun z hz hq => ?_, fun h => by cases h⟩
        cases hz
        have h9 := hr r (by rw [hrows]; exact List.mem_append_right _ List.mem_cons_self)
        have hsplit : c.exceptionTable.toList = pre.map (fun r => (⟨r.1.1, r.1.2.1, r.1.2.2.1, r.1.2.2.2⟩ : ExceptionTableEntry)) ++ (⟨r.1.1, r.1.2.1, r.1.2.2.1, r.1.2.2.2⟩ : ExceptionTableEntry) :: post.map (fun r => (⟨r.1.1, r.1.2.1, r.1.2.2.1, r.1.2.2.2⟩ : ExceptionTableEntry)) := by
          rw [ht, htb, hrows]
          unfold tableOf
          simp [List.map_map, Function.comp_def]
        refine vx_catch (own := (zyn y).cls) (name := r.2.1) (E := zexn k) hown _ _ _ hsplit (fun x hx9 => ?_) h9.1 h9.2.1 (hts _ h9.2.2.1) ?_ hce hcv hcl ?_
        · obtain ⟨r8, hr8, rfl⟩ := List.mem_map.mp hx9
          have h8 := hr r8 (by rw [hrows]; exact List.mem_append_left _ hr8)
          exact Or.inr ⟨h8.2.1, r8.2.1, hts _ h8.2.2.1, hZ.1.2.2.2.1 _ (zNc_in (zexn_in k) h8.2.2.2.1 (Ne.symm (hpre r8 hr8)))⟩
        · rw [hrk]
          exact va_Nw.use rfl (hZ.1.2.2.1 _ (zCa_in (zexn_in k)))
        · rcases h9.2.2.2.2 with ⟨i, n, d0, d2, hv, d3, hi⟩ | ⟨i, n, d0, d2, hv, d3, hi⟩
          · refine lv_astore hx hb d0 hls hi rfl (fun sl' _ => ?_)
            refine lv_iconst hx hb d2 hv ?_
            exact vx_ret (W.iret hx hb (by rw [hret, hrt]) (fun t h _ => hq t h) hf d3 hlk)
          · refine lv_astore_n hx hb d0 rfl hls hi rfl (fun sl' _ => ?_)
            refine lv_iconst hx hb d2 hv ?_
            exact vx_ret (W.iret hx hb (by rw [hret, hrt]) (fun t h _ => hq t h) hf d3 hlk)
      · have hlook : ((r :: post).map (fun r => r.2)).lookup (zexn k) = (post.map (fun r => r.2)).lookup (zexn k) := by
          show (match zexn k == r.2.1 with | true => some r.2.2 | false => _) = _
          rw [beq_eq_false_iff_ne.mpr (Ne.symm hrk)]
        rw [hlook]
        exact ih (pre ++ [r]) (by rw [hrows]; simp) (fun r9 h => (List.mem_append.mp h).elim (hpre r9) (fun h => by rw [List.mem_singleton.mp h]; exact hrk))
  have := key [] rows rfl (fun r h => by cases h)
  unfold zhnd
  rw [hhl]
  exact this
/-- the handlers of a method with many ranges -/
def zHc2 (y h : Nat) (z : Int32) : Prop := ∃ (i : Nat) (n : Int), decode (zbc y) h = .ok (.astore i, 2) ∧ decode (zbc y) (h + 2) = .ok (.bipush n, 2) ∧ (Int8.ofInt n).toInt32 = z ∧ decode (zbc y) (h + 4) = .ok (.ireturn, 1) ∧ i < znl y
abbrev zHR : Type := (Nat × Nat × Nat × Nat) × (String × Int32)
def zHe (r : zHR) : ExceptionTableEntry := ⟨r.1.1, r.1.2.1, r.1.2.2.1, r.1.2.2.2⟩
theorem z_swG (rows : List zHR) (htb : ztb y = rows.map (fun r => r.1)) (hrt : zrt y = some .int) (hr : ∀ r ∈ rows, r.1.2.2.2 ≠ 0 ∧ Cond.classLink (zyn y).cls r.1.2.2.2 r.2.1 ∈ zTs ∧ r.2.1 ∈ zEX ∧ zHc2 y r.1.2.2.1 r.2.2)
    (hlk9 : ∀ r ∈ rows, (zhl y).lookup r.2.1 = some r.2.2) (hcov : ∀ q ∈ zhl y, ∃ r ∈ rows, r.2.1 = q.1 ∧ covers (zHe r) (zP y ip) = true) : zSH L xs N y ip := by
  intro p l e R s m args below meth c ad D cA CE SE C ht k H locs sl cells slots Qc XC free ce q rest hls hce hcv hcl hf hZ
  obtain ⟨hx, hb, hml, hown, hts, hret, hlk, -⟩ := C
  have htab : c.exceptionTable.toList = rows.map zHe := by
    rw [ht, htb]
    unfold tableOf
    rw [List.map_map]
    rfl
  have key : ∀ (pre post : List zHR), rows = pre ++ post → (∀ r ∈ pre, covers (zHe r) (zP y ip) = false ∨ r.2.1 ≠ zexn k) →
      (∀ z, (zhl y).lookup (zexn k) = some z → (∃ r ∈ post, r.2.1 = zexn k ∧ covers (zHe r) (zP y ip) = true) → (∀ t : State, t.heap = H → Qc args s (.returned (some (.int z))) t) → vx_W p l e R s m args below meth c H locs cells slots (vx_MQ below Qc XC args s cells slots free) (F0 m (zP y ip) sl rest) q) := by
    intro pre post
    induction post generalizing pre with
    | nil =>
      rintro hrows hpre z hz ⟨r, h, -⟩
      cases h
    | cons r post ih =>
      intro hrows hpre z hz hex hq
      by_cases hrk : r.2.1 = zexn k ∧ covers (zHe r) (zP y ip) = true
      · have hrm : r ∈ rows := by rw [hrows]; exact List.mem_append_right _ List.mem_cons_self
        have h9 := hr r hrm
        have hz9 := hlk9 r hrm
        rw [hrk.1, hz] at hz9
        have hzr : z = r.2.2 := Option.some.inj hz9
        subst hzr
        have hsplit : c.exceptionTable.toList = pre.map zHe ++ zHe r :: post.map zHe := by
          rw [htab, hrows]
          simp
        refine vx_catch (own := (zyn y).cls) (name := r.2.1) (E := zexn k) hown _ _ _ hsplit (fun x hx9 => ?_) hrk.2 h9.1 (hts _ h9.2.1) ?_ hce hcv hcl ?_
        · obtain ⟨r8, hr8, rfl⟩ := List.mem_map.mp hx9
          have h8 := hr r8 (by rw [hrows]; exact List.mem_append_left _ hr8)
          rcases hpre r8 hr8 with h | h
          · exact Or.inl h
          · exact Or.inr ⟨h8.1, r8.2.1, hts _ h8.2.1, hZ.1.2.2.2.1 _ (zNc_in (zexn_in k) h8.2.2.1 (Ne.symm h))⟩
        · rw [hrk.1]
          exact va_Nw.use rfl (hZ.1.2.2.1 _ (zCa_in (zexn_in k)))
        · obtain ⟨i, n, d0, d2, hv, d3, hi⟩ := h9.2.2.2
          refine lv_astore hx hb d0 hls hi rfl (fun sl' _ => ?_)
          refine lv_bipush hx hb d2 hv ?_
          exact vx_ret (W.iret hx hb (by rw [hret, hrt]) (fun t h _ => hq t h) hf d3 hlk)
      · refine ih (pre ++ [r]) (by rw [hrows]; simp) (fun r9 h => ?_) z hz ?_ hq
        · rcases List.mem_append.mp h with h | h
          · exact hpre r9 h
          · rw [List.mem_singleton.mp h]
            by_cases h1 : r.2.1 = zexn k
            · refine Or.inl ?_
              cases h2 : covers (zHe r) (zP y ip) with
              | false => rfl
              | true => exact absurd ⟨h1, h2⟩ hrk
            · exact Or.inr h1
        · obtain ⟨r9, h, h1, h2⟩ := hex
          rcases List.mem_cons.mp h with h | h
          · subst h
            exact absurd ⟨h1, h2⟩ hrk
          · exact ⟨r9, h, h1, h2⟩
  refine ⟨fun z hz hq => ?_, fun hz hX => ?_⟩
  · have hz' : (zhl y).lookup (zexn k) = some z := hz
    have hm : ∃ q ∈ zhl y, q.1 = zexn k := by
      have : ∀ (Lh : List (String × Int32)), Lh.lookup (zexn k) = some z → ∃ q ∈ Lh, q.1 = zexn k := by
        intro Lh
        induction Lh with
        | nil => intro h; cases h
        | cons a Lh ih =>
          intro h
          by_cases ha : a.1 = zexn k
          · exact ⟨a, List.mem_cons_self, ha⟩
          · have h' : Lh.lookup (zexn k) = some z := by
              have e : (a :: Lh).lookup (zexn k) = Lh.lookup (zexn k) := by
                show (match zexn k == a.1 with | true => some a.2 | false => _) = _
                rw [beq_eq_false_iff_ne.mpr (Ne.symm ha)]
              rw [← e]; exact h
            obtain ⟨q, h1, h2⟩ := ih h'
            exact ⟨q, List.mem_cons_of_mem _ h1, h2⟩
      exact this _ hz'
    obtain ⟨q9, hq1, hq2⟩ := hm
    obtain ⟨r, h1, h2, h3⟩ := hcov q9 hq1
    exact key [] rows rfl (fun r h => by cases h) z hz' ⟨r, h1, h2.trans hq2, h3⟩ hq
  · have hz' : (zhl y).lookup (zexn k) = none := hz
    refine vx_outP (own := (zyn y).cls) (E := zexn k) hown hlk (fun x hx9 => ?_) hce hcv hcl hX hf (Nat.le_refl _) (Nat.le_refl _)
    rw [htab] at hx9
    obtain ⟨r, hr1, rfl⟩ := List.mem_map.mp hx9
    have h9 := hr r hr1
    have hne : r.2.1 ≠ zexn k := fun h => by
      have := hlk9 r hr1
      rw [h, hz'] at this
      cases this
    exact Or.inr ⟨h9.1, r.2.1, hts _ h9.2.1, hZ.1.2.2.2.1 _ (zNc_in (zexn_in k) h9.2.2.1 (Ne.symm hne))⟩
end Z12T
def zTrN (ik ic : Nat) (cls : String) : Prop := Cond.classLink "FalseLightMarsh" ik cls ∈ zTs ∧ Cond.initialized cls ∈ zTs ∧ (cls ∈ zEX ∧ ∀ w ∈ zn_at "FalseLightMarsh" ic cls 13 prog_35_method_4_code "java/lang/RuntimeException" ["java/lang/Exception"], w ∈ zTs ∨ w ∈ Cond.castable cls cls :: zDe.map Cond.declares)
section Z12N
variable {L : Nat} {xs : Nat → Int32} {N : Nat} {y ip : Nat}
theorem z_tSN {k ik is ic : Nat} {cls text : String} (hk : zexn k = cls) (ho : (zyn y).cls = "FalseLightMarsh") (hc : Bundle.fit cls = true) (ht : zTrN ik ic cls) (hm : (is, text) ∈ zMs) (d0 : decode (zbc y) (zP y ip) = .ok (.new ik, 3)) (d3 : decode (zbc y) (zP y ip + 3) = .ok (.dup, 1)) (d4 : decode (zbc y) (zP y ip + 4) = .ok (.ldc is, 2)) (d6 : decode (zbc y) (zP y ip + 6) = .ok (.invokespecial ic, 3)) (d9 : decode (zbc y) (zP y ip + 9) = .ok (.athrow, 1)) (htb : ztb y = []) (hR : 6 ≤ zfr y ∧ 82 ≤ zlo y) : zE L xs N y ip (.inr (5, k, 0)) := by
  intro p l e R s m args below meth c ad D cA CE SE C hl hx9 H locs sl cells slots Qc XC free hS hsl hX hf hc1 hs1
  obtain ⟨hx, hb, hml, hown, hts, hr, hlk, hfr, hlo, hinj, hK, hZ, hCE, hSE⟩ := C
  rw [ho] at hown
  obtain ⟨a, hstr⟩ := hZ.1.2.2.2.2.1 _ hm
  refine zn_throwS (Yc := "java/lang/RuntimeException") (r := ["java/lang/Exception"]) (ix := 13) (rx := prog_35_method_4_code) (A := z_A N ad) hx hb hl hown hc (by decide +kernel) (by decide +kernel) (by decide +kernel) (by decide +kernel) (by decide +kernel) (by decide +kernel) (hts _ ht.1) (hts _ ht.2.1) hstr (fun w hw => (ht.2.2.2 w hw).elim (hts _) (fun h => (List.mem_cons.mp h).elim (fun h => by rw [h]; exact va_Nw.use rfl (hZ.1.2.2.1 _ (zCa_in ht.2.2.1))) (fun h => by obtain ⟨q, hq, h⟩ := List.mem_map.mp h; rw [← h]; exact va_Nw.use rfl (hZ.1.2.2.2.2.2.2 q hq)))) (fun w hw => ?_) hZ.2.1 hZ.2.2.1 hS (by rw [hsl, hml]) d0 d3 d4 d6 d9 (fun x hx => ?_) (by rw [hfr]; exact hR.1) (by rw [hlo]; exact Nat.le_trans (Nat.le_of_eq rfl) hR.2) (by omega) (by omega) hlk (by rw [← hk]; exact hX) hf hc1 hs1
  · rcases List.mem_cons.mp hw with rfl | hw
    · exact z_ot ht.1
    · rcases List.mem_cons.mp hw with rfl | hw
      · exact z_ot ht.2.1
      · exact (ht.2.2.2 w hw).elim z_ot (fun h => (List.mem_cons.mp h).elim (fun h => by rw [h]; rfl) (fun h => by obtain ⟨q, hq, h⟩ := List.mem_map.mp h; rw [← h]; rfl))
  · rw [hx9, htb] at hx
    cases hx
theorem z_tWN {k ik is ic : Nat} {cls text : String} (hk : zexn k = cls) (ho : (zyn y).cls = "FalseLightMarsh") (hc : Bundle.fit cls = true) (ht : zTrN ik ic cls) (hm : (is, text) ∈ zMs) (d0 : decode (zbc y) (zP y ip) = .ok (.new ik, 3)) (d3 : decode (zbc y) (zP y ip + 3) = .ok (.dup, 1)) (d4 : decode (zbc y) (zP y ip + 4) = .ok (.ldc_w is, 3)) (d6 : decode (zbc y) (zP y ip + 7) = .ok (.invokespecial ic, 3)) (d9 : decode (zbc y) (zP y ip + 10) = .ok (.athrow, 1)) (htb : ztb y = []) (hR : 6 ≤ zfr y ∧ 82 ≤ zlo y) : zE L xs N y ip (.inr (5, k, 0)) := by
  intro p l e R s m args below meth c ad D cA CE SE C hl hx9 H locs sl cells slots Qc XC free hS hsl hX hf hc1 hs1
  obtain ⟨hx, hb, hml, hown, hts, hr, hlk, hfr, hlo, hinj, hK, hZ, hCE, hSE⟩ := C
  rw [ho] at hown
  obtain ⟨a, hstr⟩ := hZ.1.2.2.2.2.1 _ hm
  refine zn_throwSW (Yc := "java/lang/RuntimeException") (r := ["java/lang/Exception"]) (ix := 13) (rx := prog_35_method_4_code) (A := z_A N ad) hx hb hl hown hc (by decide +kernel) (by decide +kernel) (by decide +kernel) (by decide +kernel) (by decide +kernel) (by decide +kernel) (hts _ ht.1) (hts _ ht.2.1) hstr (fun w hw => (ht.2.2.2 w hw).elim (hts _) (fun h => (List.mem_cons.mp h).elim (fun h => by rw [h]; exact va_Nw.use rfl (hZ.1.2.2.1 _ (zCa_in ht.2.2.1))) (fun h => by obtain ⟨q, hq, h⟩ := List.mem_map.mp h; rw [← h]; exact va_Nw.use rfl (hZ.1.2.2.2.2.2.2 q hq)))) (fun w hw => ?_) hZ.2.1 hZ.2.2.1 hS (by rw [hsl, hml]) d0 d3 d4 d6 d9 (fun x hx => ?_) (by rw [hfr]; exact hR.1) (by rw [hlo]; exact Nat.le_trans (Nat.le_of_eq rfl) hR.2) (by omega) (by omega) hlk (by rw [← hk]; exact hX) hf hc1 hs1
  · rcases List.mem_cons.mp hw with rfl | hw
    · exact z_ot ht.1
    · rcases List.mem_cons.mp hw with rfl | hw
      · exact z_ot ht.2.1
      · exact (ht.2.2.2 w hw).elim z_ot (fun h => (List.mem_cons.mp h).elim (fun h => by rw [h]; rfl) (fun h => by obtain ⟨q, hq, h⟩ := List.mem_map.mp h; rw [← h]; rfl))
  · rw [hx9, htb] at hx
    cases hx
end Z12N
theorem zTr0 : zTr 83 87 "java/lang/IllegalStateException" := ⟨wq_627, wi_50, by decide +kernel, z_inA _ _ (by decide +kernel)⟩
theorem zTr1 : zTr 92 96 "java/lang/IllegalArgumentException" := ⟨wq_559, wi_49, by decide +kernel, z_inA _ _ (by decide +kernel)⟩
theorem zTr2 : zTrN 115 119 "java/util/NoSuchElementException" := ⟨wq_841, wi_54, by decide +kernel, z_inA _ _ (by decide +kernel)⟩
theorem zTr3 : zTr 325 329 "java/lang/IndexOutOfBoundsException" := ⟨wq_784, wi_53, by decide +kernel, z_inA _ _ (by decide +kernel)⟩
theorem qX1_copyFrom : zqV 135 1 := ⟨wi_652, ws_653, wi_34, wc_654, rfl, by unfold zd2; decide +kernel⟩
theorem qX1_contains : zqV 136 2 := ⟨wi_781, ws_782, wi_34, wc_783, rfl, by unfold zd2; decide +kernel⟩
theorem qX1_holdsPlank : zqV 137 1 := ⟨wi_527, ws_528, wi_34, wc_529, rfl, by unfold zd2; decide +kernel⟩
theorem qX1_takesTraveller : zqV 138 1 := ⟨wi_460, ws_461, wi_34, wc_462, rfl, by unfold zd2; decide +kernel⟩
theorem qX1_countPlanks : zqV 139 0 := ⟨wi_522, ws_523, wi_34, wc_524, rfl, by unfold zd2; decide +kernel⟩
theorem qX1_neighbour : zqV 140 2 := ⟨wi_737, ws_738, wi_34, wc_739, rfl, by unfold zd2; decide +kernel⟩
theorem qX1_wear : zqV 141 1 := ⟨wi_749, ws_750, wi_34, wc_751, rfl, by unfold zd2; decide +kernel⟩
theorem qX3_copyFrom : zqV 143 1 := ⟨wi_665, ws_666, wi_35, wc_667, rfl, by unfold zd2; decide +kernel⟩
theorem qX3_removeAll : zqV 144 0 := ⟨wi_399, ws_400, wi_35, wc_401, rfl, by unfold zd2; decide +kernel⟩
theorem qX3_contains : zqV 145 1 := ⟨wi_712, ws_713, wi_35, wc_714, rfl, by unfold zd2; decide +kernel⟩
theorem qX3_onCell : zqV 146 1 := ⟨wi_444, ws_445, wi_35, wc_446, rfl, by unfold zd2; decide +kernel⟩
theorem qX3_put : zqV 147 3 := ⟨wi_450, ws_451, wi_35, wc_452, rfl, by unfold zd2; decide +kernel⟩
theorem qX3_goesWrong : zqV 148 1 := ⟨wi_828, ws_829, wi_35, wc_830, rfl, by unfold zd2; decide +kernel⟩
theorem qX3_countWrong : zqV 149 0 := ⟨wi_824, ws_825, wi_35, wc_826, rfl, by unfold zd2; decide +kernel⟩
theorem qX6_copyFrom : zqV 150 1 := ⟨wi_670, ws_671, wi_36, wc_672, rfl, by unfold zd2; decide +kernel⟩
theorem qX6_put : zqV 151 1 := ⟨wi_464, ws_465, wi_36, wc_466, rfl, by unfold zd2; decide +kernel⟩
theorem qX6_finish : zqV 152 3 := ⟨wi_757, ws_758, wi_36, wc_759, rfl, by unfold zd2; decide +kernel⟩
theorem qX6_shuns : zqV 153 2 := ⟨wi_698, ws_699, wi_36, wc_700, rfl, by unfold zd2; decide +kernel⟩
theorem qX6_countIn : zqV 154 1 := ⟨wi_677, ws_678, wi_36, wc_679, rfl, by unfold zd2; decide +kernel⟩
theorem qX6_countFollowing : zqV 155 1 := ⟨wi_1021, ws_1022, wi_36, wc_1023, rfl, by unfold zd2; decide +kernel⟩
theorem qX6_sumOfSteps : zqV 156 0 := ⟨wi_1430, ws_1431, wi_36, wc_1432, rfl, by unfold zd2; decide +kernel⟩
theorem qX7_copyFrom : zqV 158 1 := ⟨wi_648, ws_649, wi_33, wc_650, rfl, by unfold zd2; decide +kernel⟩
theorem qX7_startAnew : zqV 159 2 := ⟨wi_395, ws_396, wi_33, wc_397, rfl, by unfold zd2; decide +kernel⟩
theorem qX7_sightNow : zqV 160 0 := ⟨wi_535, ws_536, wi_33, wc_537, rfl, by unfold zd2; decide +kernel⟩
theorem qX7_distanceTo : zqV 161 2 := ⟨wi_705, ws_706, wi_33, wc_707, rfl, by unfold zd2; decide +kernel⟩
theorem qX7_nearestAcceptable : zqV 162 1 := ⟨wi_693, ws_694, wi_33, wc_695, rfl, by unfold zd2; decide +kernel⟩
theorem qX7_takesLight : zqV 163 1 := ⟨wi_440, ws_441, wi_33, wc_442, rfl, by unfold zd2; decide +kernel⟩
theorem qX0_measureToCell : zqV 165 2 := ⟨wi_720, ws_721, wi_40, wc_722, rfl, by unfold zd2; decide +kernel⟩
theorem qX0_measureToHuts : zqV 166 1 := ⟨wi_977, ws_978, wi_40, wc_979, rfl, by unfold zd2; decide +kernel⟩
theorem qX0_forgetPaths : zqV 167 0 := ⟨wi_725, ws_18, wi_40, wc_726, rfl, by unfold zd2; decide +kernel⟩
theorem qX0_spread : zqV 168 1 := ⟨wi_734, ws_20, wi_40, wc_735, rfl, by unfold zd2; decide +kernel⟩
theorem qX0_reach : zqV 169 3 := ⟨wi_730, ws_19, wi_40, wc_731, rfl, by unfold zd2; decide +kernel⟩
theorem qX0_nextCell : zqV 170 2 := ⟨wi_745, ws_746, wi_40, wc_747, rfl, by unfold zd2; decide +kernel⟩
theorem qX4_run : zqV 171 2 := ⟨wi_681, ws_682, wi_39, wc_683, rfl, by unfold zd2; decide +kernel⟩
theorem qX4_forgetWays : zqV 172 0 := ⟨wi_686, ws_15, wi_39, wc_687, rfl, by unfold zd2; decide +kernel⟩
theorem qX4_act : zqV 173 2 := ⟨wi_690, ws_16, wi_39, wc_691, rfl, by unfold zd2; decide +kernel⟩
theorem qX4_move : zqV 174 3 := ⟨wi_717, ws_17, wi_39, wc_718, rfl, by unfold zd2; decide +kernel⟩
theorem qX4_settle : zqV 175 3 := ⟨wi_754, ws_21, wi_39, wc_755, rfl, by unfold zd2; decide +kernel⟩
theorem qX4_passLight : zqV 176 3 := ⟨wi_763, ws_22, wi_39, wc_764, rfl, by unfold zd2; decide +kernel⟩
theorem qX4_warnOthers : zqV 177 2 := ⟨wi_768, ws_23, wi_39, wc_769, rfl, by unfold zd2; decide +kernel⟩
theorem qX2_forgetAll : zqV 178 0 := ⟨wi_923, ws_924, wi_37, wc_925, rfl, by unfold zd2; decide +kernel⟩
theorem qX2_remember : zqV 179 1 := ⟨wi_644, ws_645, wi_37, wc_646, rfl, by unfold zd2; decide +kernel⟩
theorem qX2_restoreLatest : zqV 180 1 := ⟨wi_899, ws_900, wi_37, wc_901, rfl, by unfold zd2; decide +kernel⟩
theorem qX5_putInt : zqV 181 1 := ⟨wi_932, ws_933, wi_38, wc_934, rfl, by unfold zd2; decide +kernel⟩
theorem qX5_putText : zqV 182 1 := ⟨wi_307, ws_308, wi_38, wc_309, rfl, by unfold zd2; decide +kernel⟩
theorem qX5_putByte : zqV 183 1 := ⟨wi_360, ws_0, wi_38, wc_361, rfl, by unfold zd2; decide +kernel⟩
theorem qX5_cutTo : zqV 184 1 := ⟨wi_468, ws_469, wi_38, wc_470, rfl, by unfold zd2; decide +kernel⟩
theorem qX5_readInto : zqV 185 1 := ⟨wi_363, ws_364, wi_38, wc_365, rfl, by unfold zd2; decide +kernel⟩
theorem qX5_readHead : zqV 186 1 := ⟨wi_379, ws_3, wi_38, wc_380, rfl, by unfold zd2; decide +kernel⟩
theorem qX5_readRows : zqV 187 1 := ⟨wi_412, ws_8, wi_38, wc_413, rfl, by unfold zd2; decide +kernel⟩
theorem qX5_readFogs : zqV 188 1 := ⟨wi_427, ws_10, wi_38, wc_428, rfl, by unfold zd2; decide +kernel⟩
theorem qX5_readLights : zqV 189 1 := ⟨wi_432, ws_11, wi_38, wc_433, rfl, by unfold zd2; decide +kernel⟩
theorem qX5_readLight : zqV 190 1 := ⟨wi_437, ws_12, wi_38, wc_438, rfl, by unfold zd2; decide +kernel⟩
theorem qX5_readTravellers : zqV 191 1 := ⟨wi_456, ws_13, wi_38, wc_457, rfl, by unfold zd2; decide +kernel⟩
theorem qX5_takeWord : zqV 192 1 := ⟨wi_384, ws_4, wi_38, wc_385, rfl, by unfold zd2; decide +kernel⟩
theorem qX5_isNumber : zqV 193 2 := ⟨wi_392, ws_6, wi_38, wc_393, rfl, by unfold zd2; decide +kernel⟩
theorem qX5_takeNumber : zqV 194 2 := ⟨wi_388, ws_5, wi_38, wc_389, rfl, by unfold zd2; decide +kernel⟩
theorem qX5_takeSemicolon : zqV 195 0 := ⟨wi_408, ws_7, wi_38, wc_409, rfl, by unfold zd2; decide +kernel⟩
theorem qX5_takeCells : zqV 196 2 := ⟨wi_417, ws_9, wi_38, wc_418, rfl, by unfold zd2; decide +kernel⟩
theorem qX5_groundOf : zqS 197 1 := ⟨ws_420, wi_38, wc_421, rfl, by unfold zd2; decide +kernel⟩
theorem qX5_scan : zqV 198 0 := ⟨wi_368, ws_1, wi_38, wc_369, rfl, by unfold zd2; decide +kernel⟩
theorem qX5_readNumber : zqV 199 0 := ⟨wi_375, ws_2, wi_38, wc_376, rfl, by unfold zd2; decide +kernel⟩
theorem qX5_kindOf : zqS 200 1 := ⟨ws_371, wi_38, wc_372, rfl, by unfold zd2; decide +kernel⟩
theorem qX8_append : zqV 201 5 := ⟨wi_927, ws_928, wi_32, wc_929, rfl, by unfold zd2; decide +kernel⟩
theorem qX8_shorten : zqV 202 1 := ⟨wi_936, ws_937, wi_32, wc_938, rfl, by unfold zd2; decide +kernel⟩
theorem qX8_load : zqV 203 0 := ⟨wi_918, ws_919, wi_32, wc_920, rfl, by unfold zd2; decide +kernel⟩
theorem qX8_hasError : zqV 204 0 := ⟨wi_506, ws_507, wi_32, wc_508, rfl, by unfold zd2; decide +kernel⟩
theorem qX8_errorOffset : zqV 205 0 := ⟨wi_941, ws_942, wi_32, wc_943, rfl, by unfold zd2; decide +kernel⟩
theorem qX8_width : zqV 206 0 := ⟨wi_510, ws_511, wi_32, wc_512, rfl, by unfold zd2; decide +kernel⟩
theorem qX8_height : zqV 207 0 := ⟨wi_514, ws_515, wi_32, wc_516, rfl, by unfold zd2; decide +kernel⟩
theorem qX8_isWater : zqV 208 2 := ⟨wi_946, ws_947, wi_32, wc_948, rfl, by unfold zd2; decide +kernel⟩
theorem qX8_isHut : zqV 209 2 := ⟨wi_950, ws_951, wi_32, wc_952, rfl, by unfold zd2; decide +kernel⟩
theorem qX8_isPlank : zqV 210 2 := ⟨wi_954, ws_955, wi_32, wc_956, rfl, by unfold zd2; decide +kernel⟩
theorem qX8_plankStrength : zqV 211 2 := ⟨wi_959, ws_960, wi_32, wc_961, rfl, by unfold zd2; decide +kernel⟩
theorem qX8_plankCount : zqV 212 0 := ⟨wi_518, ws_519, wi_32, wc_520, rfl, by unfold zd2; decide +kernel⟩
theorem qX8_pathLength : zqV 213 4 := ⟨wi_964, ws_965, wi_32, wc_966, rfl, by unfold zd2; decide +kernel⟩
theorem qX8_stepsToHut : zqV 214 2 := ⟨wi_973, ws_974, wi_32, wc_975, rfl, by unfold zd2; decide +kernel⟩
theorem qX8_time : zqV 215 0 := ⟨wi_1376, ws_1377, wi_32, wc_1378, rfl, by unfold zd2; decide +kernel⟩
theorem qX8_clearness : zqV 216 0 := ⟨wi_1381, ws_1382, wi_32, wc_1383, rfl, by unfold zd2; decide +kernel⟩
theorem qX8_fog : zqV 217 1 := ⟨wi_982, ws_983, wi_32, wc_984, rfl, by unfold zd2; decide +kernel⟩
theorem qX8_sight : zqV 218 0 := ⟨wi_531, ws_532, wi_32, wc_533, rfl, by unfold zd2; decide +kernel⟩
theorem qX8_lightCount : zqV 219 0 := ⟨wi_1389, ws_1390, wi_32, wc_1391, rfl, by unfold zd2; decide +kernel⟩
theorem qX8_lightColumn : zqV 220 1 := ⟨wi_986, ws_987, wi_32, wc_988, rfl, by unfold zd2; decide +kernel⟩
theorem qX8_lightRow : zqV 221 1 := ⟨wi_993, ws_994, wi_32, wc_995, rfl, by unfold zd2; decide +kernel⟩
theorem qX8_brightness : zqV 222 1 := ⟨wi_1000, ws_1001, wi_32, wc_1002, rfl, by unfold zd2; decide +kernel⟩
theorem qX8_isTrueLight : zqV 223 1 := ⟨wi_1004, ws_1005, wi_32, wc_1006, rfl, by unfold zd2; decide +kernel⟩
theorem qX8_hasSuccessor : zqV 224 1 := ⟨wi_1009, ws_1010, wi_32, wc_1011, rfl, by unfold zd2; decide +kernel⟩
theorem qX8_successor : zqV 225 1 := ⟨wi_1013, ws_1014, wi_32, wc_1015, rfl, by unfold zd2; decide +kernel⟩
theorem qX8_followers : zqV 226 1 := ⟨wi_1017, ws_1018, wi_32, wc_1019, rfl, by unfold zd2; decide +kernel⟩
theorem qX8_leadsAstray : zqV 227 1 := ⟨wi_1025, ws_1026, wi_32, wc_1027, rfl, by unfold zd2; decide +kernel⟩
theorem qX8_travellerCount : zqV 228 0 := ⟨wi_542, ws_543, wi_32, wc_544, rfl, by unfold zd2; decide +kernel⟩
theorem qX8_travellerColumn : zqV 229 1 := ⟨wi_1030, ws_1031, wi_32, wc_1032, rfl, by unfold zd2; decide +kernel⟩
theorem qX8_travellerRow : zqV 230 1 := ⟨wi_1034, ws_1035, wi_32, wc_1036, rfl, by unfold zd2; decide +kernel⟩
theorem qX8_isWalking : zqV 231 1 := ⟨wi_1038, ws_1039, wi_32, wc_1040, rfl, by unfold zd2; decide +kernel⟩
theorem qX8_hasArrived : zqV 232 1 := ⟨wi_1042, ws_1043, wi_32, wc_1044, rfl, by unfold zd2; decide +kernel⟩
theorem qX8_hasSunk : zqV 233 1 := ⟨wi_1046, ws_1047, wi_32, wc_1048, rfl, by unfold zd2; decide +kernel⟩
theorem qX8_stepsTaken : zqV 234 1 := ⟨wi_1050, ws_1051, wi_32, wc_1052, rfl, by unfold zd2; decide +kernel⟩
theorem qX8_hasTarget : zqV 235 1 := ⟨wi_1054, ws_1055, wi_32, wc_1056, rfl, by unfold zd2; decide +kernel⟩
theorem qX8_target : zqV 236 1 := ⟨wi_1058, ws_1059, wi_32, wc_1060, rfl, by unfold zd2; decide +kernel⟩
theorem qX8_hasPassed : zqV 237 2 := ⟨wi_1063, ws_1064, wi_32, wc_1065, rfl, by unfold zd2; decide +kernel⟩
theorem qX8_distrusts : zqV 238 2 := ⟨wi_1067, ws_1068, wi_32, wc_1069, rfl, by unfold zd2; decide +kernel⟩
theorem qX8_sees : zqV 239 2 := ⟨wi_1071, ws_1072, wi_32, wc_1073, rfl, by unfold zd2; decide +kernel⟩
theorem qX8_nearestLight : zqV 240 1 := ⟨wi_1075, ws_1076, wi_32, wc_1077, rfl, by unfold zd2; decide +kernel⟩
theorem qX8_walkingCount : zqV 241 0 := ⟨wi_1410, ws_1411, wi_32, wc_1412, rfl, by unfold zd2; decide +kernel⟩
theorem qX8_arrivedCount : zqV 242 0 := ⟨wi_1414, ws_1415, wi_32, wc_1416, rfl, by unfold zd2; decide +kernel⟩
theorem qX8_sunkCount : zqV 243 0 := ⟨wi_1418, ws_1419, wi_32, wc_1420, rfl, by unfold zd2; decide +kernel⟩
theorem qX8_arrivedShare : zqV 244 0 := ⟨wi_1422, ws_1423, wi_32, wc_1424, rfl, by unfold zd2; decide +kernel⟩
theorem qX8_meanSteps : zqV 245 0 := ⟨wi_1426, ws_1427, wi_32, wc_1428, rfl, by unfold zd2; decide +kernel⟩
theorem qX8_ticksUntilDone : zqV 246 1 := ⟨wi_1081, ws_1082, wi_32, wc_1083, rfl, by unfold zd2; decide +kernel⟩
theorem qX8_willArrive : zqV 247 1 := ⟨wi_1086, ws_1087, wi_32, wc_1088, rfl, by unfold zd2; decide +kernel⟩
theorem qX8_arrivedAfter : zqV 248 1 := ⟨wi_1090, ws_1091, wi_32, wc_1092, rfl, by unfold zd2; decide +kernel⟩
theorem qX8_sunkAfter : zqV 249 1 := ⟨wi_1098, ws_1099, wi_32, wc_1100, rfl, by unfold zd2; decide +kernel⟩
theorem qX8_bestClearness : zqV 250 0 := ⟨wi_1438, ws_1439, wi_32, wc_1440, rfl, by unfold zd2; decide +kernel⟩
theorem qX8_tick : zqV 251 1 := ⟨wi_556, ws_557, wi_32, wc_558, rfl, by unfold zd2; decide +kernel⟩
theorem qX8_addLight : zqV 252 4 := ⟨wi_773, ws_774, wi_32, wc_775, rfl, by unfold zd2; decide +kernel⟩
theorem qX8_addTraveller : zqV 253 2 := ⟨wi_806, ws_807, wi_32, wc_808, rfl, by unfold zd2; decide +kernel⟩
theorem qX8_setSuccessor : zqV 254 2 := ⟨wi_813, ws_814, wi_32, wc_815, rfl, by unfold zd2; decide +kernel⟩
theorem qX8_clearSuccessor : zqV 255 1 := ⟨wi_834, ws_835, wi_32, wc_836, rfl, by unfold zd2; decide +kernel⟩
theorem qX8_layPlank : zqV 256 3 := ⟨wi_858, ws_859, wi_32, wc_860, rfl, by unfold zd2; decide +kernel⟩
theorem qX8_setClearness : zqV 257 1 := ⟨wi_864, ws_865, wi_32, wc_866, rfl, by unfold zd2; decide +kernel⟩
theorem qX8_setFog : zqV 258 2 := ⟨wi_869, ws_870, wi_32, wc_871, rfl, by unfold zd2; decide +kernel⟩
theorem qX8_setTarget : zqV 259 2 := ⟨wi_879, ws_880, wi_32, wc_881, rfl, by unfold zd2; decide +kernel⟩
theorem qX8_undo : zqV 260 0 := ⟨wi_894, ws_895, wi_32, wc_896, rfl, by unfold zd2; decide +kernel⟩
theorem qX8_saveSnapshot : zqV 261 1 := ⟨wi_903, ws_904, wi_32, wc_905, rfl, by unfold zd2; decide +kernel⟩
theorem qX8_restoreSnapshot : zqV 262 1 := ⟨wi_913, ws_914, wi_32, wc_915, rfl, by unfold zd2; decide +kernel⟩
theorem qX8_printedByte : zqV 264 1 := ⟨wi_1102, ws_1103, wi_32, wc_1104, rfl, by unfold zd2; decide +kernel⟩
theorem qX8_requireCell : zqV 265 2 := ⟨wi_778, ws_24, wi_32, wc_779, rfl, by unfold zd2; decide +kernel⟩
theorem qX8_requireHour : zqV 266 1 := ⟨wi_874, ws_27, wi_32, wc_875, rfl, by unfold zd2; decide +kernel⟩
theorem qX8_requireLight : zqV 267 1 := ⟨wi_818, ws_25, wi_32, wc_819, rfl, by unfold zd2; decide +kernel⟩
theorem qX8_requireTraveller : zqV 268 1 := ⟨wi_884, ws_28, wi_32, wc_885, rfl, by unfold zd2; decide +kernel⟩
theorem qX8_requireSlot : zqV 269 1 := ⟨wi_908, ws_30, wi_32, wc_909, rfl, by unfold zd2; decide +kernel⟩
theorem qX8_requireWalking : zqV 270 1 := ⟨wi_889, ws_29, wi_32, wc_890, rfl, by unfold zd2; decide +kernel⟩
theorem qX8_requireSuccessor : zqV 271 1 := ⟨wi_839, ws_26, wi_32, wc_840, rfl, by unfold zd2; decide +kernel⟩
theorem qX8_requirePath : zqS 272 1 := ⟨ws_969, wi_32, wc_970, rfl, by unfold zd2; decide +kernel⟩
theorem qX8_requireFuture : zqS 273 1 := ⟨ws_1094, wi_32, wc_1095, rfl, by unfold zd2; decide +kernel⟩
theorem qX8_cellAt : zqS 274 2 := ⟨ws_423, wi_32, wc_424, rfl, by unfold zd2; decide +kernel⟩
theorem qX8_columnOf : zqS 275 1 := ⟨ws_990, wi_32, wc_991, rfl, by unfold zd2; decide +kernel⟩
theorem qX8_rowOf : zqS 276 1 := ⟨ws_997, wi_32, wc_998, rfl, by unfold zd2; decide +kernel⟩
theorem qX8_holds : zqS 277 2 := ⟨ws_702, wi_32, wc_703, rfl, by unfold zd2; decide +kernel⟩
theorem qX8_copyNumbers : zqS 278 2 := ⟨ws_656, wi_32, wc_657, rfl, by unfold zd2; decide +kernel⟩
theorem qJ7_fill_53178 : zqS 279 2 := ⟨ws_403, wi_45, wc_404, rfl, by unfold zd2; decide +kernel⟩
theorem qJ0_length_8abf5 : zqV 280 0 := ⟨wi_311, ws_312, wi_41, wc_313, rfl, by unfold zd2; decide +kernel⟩
theorem qJ0_charAt_5068e : zqV 281 1 := ⟨wi_321, ws_322, wi_41, wc_323, rfl, by unfold zd2; decide +kernel⟩
theorem qJ0_coder_7d493 : zqV 282 0 := ⟨wi_315, ws_316, wi_41, wc_317, rfl, by unfold zd2; decide +kernel⟩
theorem qJ0_isLatin1_aae02 : zqV 283 0 := ⟨wi_325, ws_326, wi_41, wc_327, rfl, by unfold zd2; decide +kernel⟩
theorem qJ0_checkIndex_df160 : zqS 284 2 := ⟨ws_332, wi_41, wc_333, rfl, by unfold zd2; decide +kernel⟩
theorem qJ1_charAt_3b067 : zqS 285 2 := ⟨ws_329, wi_42, wc_330, rfl, by unfold zd2; decide +kernel⟩
theorem qL_call : zqW 334 7 := ⟨ws_549, wi_31, wc_550, by decide +kernel, by unfold zd2; decide +kernel⟩
theorem qL_call_ : zqS 335 4 := ⟨ws_1386, wi_31, wc_1387, rfl, by unfold zd2; decide +kernel⟩
theorem qL_call__ : zqS 336 3 := ⟨ws_546, wi_31, wc_547, rfl, by unfold zd2; decide +kernel⟩
