def ownN : Nat → String := fun k => match k with
  | 0 => RX0
  | 1 => RX1
  | 2 => RX2
  | 3 => RX3
  | 4 => RX4
  | 5 => RX5
  | 6 => RX6
  | 7 => RX7
  | 8 => RX8
  | 9 => RL
  | 10 => RJ0
  | 11 => RJ1
  | 12 => RJ2
  | 13 => RJ3
  | 14 => RJ6
  | _ => RJ9
abbrev Mrow : Type := MethodName × ByteArray × Nat × Option FieldType × Nat × Nat × Nat × Nat
def mtab_0 : List Mrow := [(yX0_init, cX0_init, 1, none, 0, 5, 4644, 0),
  (yX0_numberAt, cX0_numberAt, 2, (some .int), 0, 0, 0, 1),
  (yX0_lay, cX0_lay, 4, none, 0, 0, 0, 3),
  (yX0_findWhoMayStand, cX0_findWhoMayStand, 12, none, 0, 0, 0, 3),
  (yX0_findLeast, cX0_findLeast, 5, none, 0, 0, 0, 0),
  (yX0_leastFrom, cX0_leastFrom, 7, (some .int), 0, 0, 0, 3),
  (yX0_sumThrough, cX0_sumThrough, 4, (some .int), 0, 0, 0, 3),
  (yX0_waitBetween, cX0_waitBetween, 3, (some .int), 0, 0, 0, 2),
  (yX0_layLeast, cX0_layLeast, 5, none, 0, 0, 0, 1),
  (yX0_firstOfLeast, cX0_firstOfLeast, 4, (some .int), 0, 0, 0, 0),
  (yX0_nextOfLeast, cX0_nextOfLeast, 7, (some .int), 0, 0, 0, 3),
  (yX0_has, cX0_has, 2, (some .boolean), 0, 0, 0, 2),
  (yX1_init, cX1_init, 1, none, 1, 1, 9, 0),
  (yX1_put, cX1_put, 2, none, 1, 0, 0, 1),
  (yX1_memberAt, cX1_memberAt, 2, (some (.object "VarietyCircuit$Turn")), 1, 0, 0, 1),
  (yX1_numberAt, cX1_numberAt, 3, (some .int), 1, 0, 0, 1),
  (yX1_minutesOfAll, cX1_minutesOfAll, 4, (some .int), 1, 0, 0, 0),
  (yX1_payOfAll, cX1_payOfAll, 7, (some .int), 1, 0, 0, 2),
  (yX1_topCount, cX1_topCount, 4, (some .int), 1, 0, 0, 0),
  (yX1_drawOfTops, cX1_drawOfTops, 4, (some .int), 1, 0, 0, 0),
  (yX1_hasLike, cX1_hasLike, 4, (some .boolean), 1, 0, 0, 1),
  (yX1_isApartFrom, cX1_isApartFrom, 8, (some .boolean), 1, 0, 0, 4),
  (yX2_init, cX2_init, 6, none, 2, 0, 0, 5),
  (yX2_lastNumber, cX2_lastNumber, 3, (some .int), 2, 0, 0, 1),
  (yX2_isNeverIn, cX2_isNeverIn, 2, (some .boolean), 2, 0, 0, 1),
  (yX2_isApartFrom, cX2_isApartFrom, 2, (some .boolean), 2, 0, 0, 1),
  (yX2_hasBar, cX2_hasBar, 4, (some .boolean), 2, 0, 0, 2),
  (yX2_tells, cX2_tells, 4, (some .boolean), 2, 0, 0, 2),
  (yX3_init, cX3_init, 3, none, 3, 0, 0, 2),
  (yX3_readText, cX3_readText, 2, (some .boolean), 3, 12, 48, 0)]
def mtab_1 : List Mrow := [(yX3_readStatement, cX3_readStatement, 4, (some .boolean), 3, 1, 4, 0),
  (yX3_readOpening, cX3_readOpening, 1, (some .int), 3, 0, 0, 0),
  (yX3_stepTo, cX3_stepTo, 2, (some .boolean), 3, 0, 0, 1),
  (yX3_stepToNumber, cX3_stepToNumber, 3, (some .int), 3, 0, 0, 0),
  (yX3_step, cX3_step, 1, none, 3, 0, 0, 0),
  (yX3_holds, cX3_holds, 3, (some .boolean), 3, 0, 0, 1),
  (yX3_byteAt, cX3_byteAt, 2, (some .int), 3, 0, 0, 1),
  (yX3_isBlank, cX3_isBlank, 2, (some .boolean), 3, 0, 0, 1),
  (yX3_isLetter, cX3_isLetter, 2, (some .boolean), 3, 0, 0, 1),
  (yX3_isDigit, cX3_isDigit, 2, (some .boolean), 3, 0, 0, 1),
  (yX4_init, cX4_init, 5, none, 4, 0, 0, 4),
  (yX4_milesTo, cX4_milesTo, 2, (some .int), 4, 0, 0, 1),
  (yX5_init, cX5_init, 5, none, 5, 0, 0, 4),
  (yX6_init, cX6_init, 7, none, 6, 1, 60, 6),
  (yX6_hallIn, cX6_hallIn, 2, (some (.object "VarietyCircuit$Hall")), 6, 0, 0, 1),
  (yX6_setHallIn, cX6_setHallIn, 3, none, 6, 0, 0, 2),
  (yX6_isSoonIn, cX6_isSoonIn, 4, (some .boolean), 6, 0, 0, 2),
  (yX6_contractIn, cX6_contractIn, 6, (some (.object "VarietyCircuit$Contract")), 6, 0, 0, 2),
  (yX7_init, cX7_init, 1, none, 7, 11, 5312, 0),
  (yX7_weeks, cX7_weeks, 2, (some .int), 7, 0, 0, 1),
  (yX7_turn, cX7_turn, 8, (some .int), 7, 2, 70, 5),
  (yX7_hall, cX7_hall, 6, (some .int), 7, 1, 4, 3),
  (yX7_feed, cX7_feed, 6, (some .int), 7, 0, 0, 5),
  (yX7_sign, cX7_sign, 8, (some .int), 7, 14, 58, 3),
  (yX7_fault, cX7_fault, 1, (some .int), 7, 0, 0, 0),
  (yX7_force, cX7_force, 5, (some .int), 7, 0, 0, 3),
  (yX7_why, cX7_why, 4, (some .int), 7, 0, 0, 3),
  (yX7_book, cX7_book, 6, (some .int), 7, 0, 0, 3),
  (yX7_cancel, cX7_cancel, 4, (some .boolean), 7, 0, 0, 2),
  (yX7_where, cX7_where, 5, (some .int), 7, 0, 0, 2)]
def mtab_2 : List Mrow := [(yX7_bill, cX7_bill, 5, (some .int), 7, 0, 0, 3),
  (yX7_order, cX7_order, 4, (some .int), 7, 0, 0, 3),
  (yX7_waits, cX7_waits, 3, (some .int), 7, 0, 0, 2),
  (yX7_fail, cX7_fail, 6, (some .int), 7, 0, 0, 2),
  (yX7_fill, cX7_fill, 7, (some .int), 7, 0, 0, 3),
  (yX7_pay, cX7_pay, 6, (some .int), 7, 0, 0, 3),
  (yX7_turnOf, cX7_turnOf, 4, (some .int), 7, 0, 0, 2),
  (yX7_count, cX7_count, 2, (some .int), 7, 0, 0, 1),
  (yX7_isWithin, cX7_isWithin, 3, (some .boolean), 7, 0, 0, 3),
  (yX7_isWeek, cX7_isWeek, 1, (some .boolean), 7, 0, 0, 1),
  (yX7_isOpen, cX7_isOpen, 2, (some .boolean), 7, 0, 0, 1),
  (yX7_turnAt, cX7_turnAt, 2, (some (.object "VarietyCircuit$Turn")), 7, 0, 0, 1),
  (yX7_hallAt, cX7_hallAt, 2, (some (.object "VarietyCircuit$Hall")), 7, 0, 0, 1),
  (yX7_putBytes, cX7_putBytes, 3, none, 7, 0, 0, 1),
  (yX7_contractAsKnown, cX7_contractAsKnown, 3, (some (.object "VarietyCircuit$Contract")), 7, 0, 0, 3),
  (yX7_gather, cX7_gather, 5, none, 7, 0, 0, 2),
  (yX7_layBest, cX7_layBest, 4, none, 7, 0, 0, 2),
  (yX7_putOn, cX7_putOn, 4, none, 7, 0, 0, 3),
  (yX7_takeOff, cX7_takeOff, 3, none, 7, 0, 0, 2),
  (yX7_greatestDraw, cX7_greatestDraw, 7, (some (.object "VarietyCircuit$Turn")), 7, 0, 0, 3),
  (yX7_barTo, cX7_barTo, 5, (some .int), 7, 0, 0, 3),
  (yX7_barOnBill, cX7_barOnBill, 5, (some .int), 7, 0, 0, 4),
  (yX7_isTooFar, cX7_isTooFar, 2, (some .boolean), 7, 0, 0, 2),
  (yX7_isBarredByOwn, cX7_isBarredByOwn, 6, (some .boolean), 7, 0, 0, 4),
  (yX7_isBarredByOtherWeeks, cX7_isBarredByOtherWeeks, 7, (some .boolean), 7, 0, 0, 3),
  (yX8_init, cX8_init, 2, none, 8, 23, 10945, 0),
  (yX8_isIn, cX8_isIn, 3, (some .boolean), 8, 0, 0, 3),
  (yX8_isTurn, cX8_isTurn, 2, (some .boolean), 8, 0, 0, 1),
  (yX8_isHall, cX8_isHall, 2, (some .boolean), 8, 0, 0, 1),
  (yX8_isWeek, cX8_isWeek, 1, (some .boolean), 8, 0, 0, 1)]
def mtab_3 : List Mrow := [(yX8_one, cX8_one, 1, (some .int), 8, 0, 0, 1),
  (yX8_weeks, cX8_weeks, 2, (some .int), 8, 0, 0, 1),
  (yX8_turn, cX8_turn, 6, (some .int), 8, 0, 0, 5),
  (yX8_hall, cX8_hall, 4, (some .int), 8, 0, 0, 3),
  (yX8_feed, cX8_feed, 6, (some .int), 8, 0, 0, 5),
  (yX8_four, cX8_four, 3, none, 8, 0, 0, 1),
  (yX8_blanks, cX8_blanks, 1, none, 8, 0, 0, 0),
  (yX8_word, cX8_word, 3, (some .long), 8, 0, 0, 0),
  (yX8_takes, cX8_takes, 3, (some .boolean), 8, 0, 0, 1),
  (yX8_takesNumber, cX8_takesNumber, 2, (some .boolean), 8, 0, 0, 0),
  (yX8_statement, cX8_statement, 2, (some .boolean), 8, 0, 0, 1),
  (yX8_sign, cX8_sign, 6, (some .int), 8, 0, 0, 3),
  (yX8_fault, cX8_fault, 1, (some .int), 8, 0, 0, 0),
  (yX8_inForce, cX8_inForce, 6, (some .int), 8, 0, 0, 3),
  (yX8_force, cX8_force, 4, (some .int), 8, 0, 0, 3),
  (yX8_lastOf, cX8_lastOf, 5, (some .int), 8, 0, 0, 2),
  (yX8_tells, cX8_tells, 6, (some .boolean), 8, 0, 0, 3),
  (yX8_bars, cX8_bars, 7, (some .boolean), 8, 0, 0, 4),
  (yX8_hallOf, cX8_hallOf, 3, (some .int), 8, 0, 0, 2),
  (yX8_isFarFrom, cX8_isFarFrom, 4, (some .boolean), 8, 0, 0, 3),
  (yX8_why, cX8_why, 14, (some .int), 8, 0, 0, 3),
  (yX8_many, cX8_many, 5, (some .int), 8, 0, 0, 2),
  (yX8_book, cX8_book, 4, (some .int), 8, 0, 0, 3),
  (yX8_isBooked, cX8_isBooked, 3, (some .boolean), 8, 0, 0, 2),
  (yX8_cancel, cX8_cancel, 3, (some .boolean), 8, 0, 0, 2),
  (yX8_where, cX8_where, 3, (some .int), 8, 0, 0, 2),
  (yX8_bill, cX8_bill, 10, (some .int), 8, 0, 0, 3),
  (yX8_mayLie, cX8_mayLie, 5, (some .boolean), 8, 0, 0, 3),
  (yX8_wait, cX8_wait, 3, (some .int), 8, 0, 0, 2),
  (yX8_lays, cX8_lays, 11, (some .boolean), 8, 0, 0, 2)]
def mtab_4 : List Mrow := [(yX8_many_, cX8_many_, 3, (some .int), 8, 0, 0, 1),
  (yX8_order, cX8_order, 4, (some .int), 8, 0, 0, 3),
  (yX8_waits, cX8_waits, 3, (some .int), 8, 0, 0, 2),
  (yX8_bestFor, cX8_bestFor, 6, (some .int), 8, 0, 0, 3),
  (yX8_fail, cX8_fail, 5, (some .int), 8, 0, 0, 2),
  (yX8_fill, cX8_fill, 5, (some .int), 8, 0, 0, 3),
  (yX8_pay, cX8_pay, 4, (some .int), 8, 0, 0, 3),
  (yX8_turnOf, cX8_turnOf, 5, (some .int), 8, 0, 0, 2),
  (yX8_count, cX8_count, 2, (some .int), 8, 0, 0, 1),
  (yJ6_bitCount_0f7a4, cJ6_bitCount_0f7a4, 1, (some .int), 14, 0, 0, 1),
  (yJ0_length_8abf5, cJ0_length_8abf5, 1, (some .int), 10, 0, 0, 0),
  (yJ0_charAt_5068e, cJ0_charAt_5068e, 2, (some .char), 10, 0, 0, 1),
  (yJ0_coder_7d493, cJ0_coder_7d493, 1, (some .byte), 10, 0, 0, 0),
  (yJ0_isLatin1_aae02, cJ0_isLatin1_aae02, 1, (some .boolean), 10, 0, 0, 0),
  (yJ0_checkIndex_df160, cJ0_checkIndex_df160, 2, none, 10, 0, 0, 2),
  (yJ1_charAt_3b067, cJ1_charAt_3b067, 2, (some .char), 11, 0, 0, 2),
  (yJ3_checkIndex_8e157, cJ3_checkIndex_8e157, 3, (some .int), 13, 0, 0, 3),
  (yL_law, cL_law, 4, (some .boolean), 9, 600000, 7302249, 1)]
def mtab (j : Nat) : Mrow := match j / 30 with
  | 0 => (mtab_0[j % 30]?).getD (yX0_init, cX0_init, 1, none, 0, 0, 0, 0)
  | 1 => (mtab_1[j % 30]?).getD (yX0_init, cX0_init, 1, none, 0, 0, 0, 0)
  | 2 => (mtab_2[j % 30]?).getD (yX0_init, cX0_init, 1, none, 0, 0, 0, 0)
  | 3 => (mtab_3[j % 30]?).getD (yX0_init, cX0_init, 1, none, 0, 0, 0, 0)
  | 4 => (mtab_4[j % 30]?).getD (yX0_init, cX0_init, 1, none, 0, 0, 0, 0)
  | _ => (yX0_init, cX0_init, 1, none, 0, 0, 0, 0)
def my (j : Nat) : MethodName := (mtab j).1
def cd (j : Nat) : ByteArray := (mtab j).2.1
def mxL (j : Nat) : Nat := (mtab j).2.2.1
def mrt (j : Nat) : Option FieldType := (mtab j).2.2.2.1
def ow (j : Nat) : Nat := (mtab j).2.2.2.2.1
def mcq (j : Nat) : Nat := (mtab j).2.2.2.2.2.1
def msq (j : Nat) : Nat := (mtab j).2.2.2.2.2.2.1
def npq (j : Nat) : Nat := (mtab j).2.2.2.2.2.2.2
-- methods: 0 X0_init, 1 X0_numberAt, 2 X0_lay, 3 X0_findWhoMayStand, 4 X0_findLeast, 5 X0_leastFrom, 6 X0_sumThrough, 7 X0_waitBetween, 8 X0_layLeast, 9 X0_firstOfLeast, 10 X0_nextOfLeast, 11 X0_has, 12 X1_init, 13 X1_put, 14 X1_memberAt, 15 X1_numberAt, 16 X1_minutesOfAll, 17 X1_payOfAll, 18 X1_topCount, 19 X1_drawOfTops, 20 X1_hasLike, 21 X1_isApartFrom, 22 X2_init, 23 X2_lastNumber, 24 X2_isNeverIn, 25 X2_isApartFrom, 26 X2_hasBar, 27 X2_tells, 28 X3_init, 29 X3_readText, 30 X3_readStatement, 31 X3_readOpening, 32 X3_stepTo, 33 X3_stepToNumber, 34 X3_step, 35 X3_holds, 36 X3_byteAt, 37 X3_isBlank, 38 X3_isLetter, 39 X3_isDigit, 40 X4_init, 41 X4_milesTo, 42 X5_init, 43 X6_init, 44 X6_hallIn, 45 X6_setHallIn, 46 X6_isSoonIn, 47 X6_contractIn, 48 X7_init, 49 X7_weeks, 50 X7_turn, 51 X7_hall, 52 X7_feed, 53 X7_sign, 54 X7_fault, 55 X7_force, 56 X7_why, 57 X7_book, 58 X7_cancel, 59 X7_where, 60 X7_bill, 61 X7_order, 62 X7_waits, 63 X7_fail, 64 X7_fill, 65 X7_pay, 66 X7_turnOf, 67 X7_count, 68 X7_isWithin, 69 X7_isWeek, 70 X7_isOpen, 71 X7_turnAt, 72 X7_hallAt, 73 X7_putBytes, 74 X7_contractAsKnown, 75 X7_gather, 76 X7_layBest, 77 X7_putOn, 78 X7_takeOff, 79 X7_greatestDraw, 80 X7_barTo, 81 X7_barOnBill, 82 X7_isTooFar, 83 X7_isBarredByOwn, 84 X7_isBarredByOtherWeeks, 85 X8_init, 86 X8_isIn, 87 X8_isTurn, 88 X8_isHall, 89 X8_isWeek, 90 X8_one, 91 X8_weeks, 92 X8_turn, 93 X8_hall, 94 X8_feed, 95 X8_four, 96 X8_blanks, 97 X8_word, 98 X8_takes, 99 X8_takesNumber, 100 X8_statement, 101 X8_sign, 102 X8_fault, 103 X8_inForce, 104 X8_force, 105 X8_lastOf, 106 X8_tells, 107 X8_bars, 108 X8_hallOf, 109 X8_isFarFrom, 110 X8_why, 111 X8_many, 112 X8_book, 113 X8_isBooked, 114 X8_cancel, 115 X8_where, 116 X8_bill, 117 X8_mayLie, 118 X8_wait, 119 X8_lays, 120 X8_many_, 121 X8_order, 122 X8_waits, 123 X8_bestFor, 124 X8_fail, 125 X8_fill, 126 X8_pay, 127 X8_turnOf, 128 X8_count, 129 J6_bitCount_0f7a4, 130 J0_length_8abf5, 131 J0_charAt_5068e, 132 J0_coder_7d493, 133 J0_isLatin1_aae02, 134 J0_checkIndex_df160, 135 J1_charAt_3b067, 136 J3_checkIndex_8e157, 137 L_law
/-- a class file, a place in its pool: the class and the field that it names; the word's place -/
def frL : List (Nat × Nat × Nat × Nat × Nat) := [(1, 11, 1, 0, 86), (1, 17, 1, 1, 87), (0, 39, 1, 1, 88), (7, 130, 1, 1, 89), (0, 9, 0, 0, 102), (0, 15, 0, 1, 103), (0, 18, 0, 2, 104), (0, 22, 0, 3, 105), (0, 25, 0, 4, 106), (0, 32, 0, 5, 107), (0, 28, 0, 6, 108), (7, 175, 0, 6, 109), (7, 11, 7, 0, 127), (7, 17, 7, 1, 128), (7, 21, 7, 2, 129), (7, 28, 7, 3, 130), (7, 35, 7, 4, 131), (7, 50, 7, 5, 132), (7, 56, 7, 6, 133), (7, 77, 7, 7, 134), (7, 119, 7, 8, 135), (7, 62, 7, 9, 136), (7, 43, 7, 10, 137), (7, 39, 7, 11, 138), (6, 9, 6, 0, 181), (2, 47, 6, 0, 182), (1, 29, 6, 0, 183), (7, 185, 6, 0, 184), (6, 15, 6, 1, 185), (1, 32, 6, 1, 186), (7, 191, 6, 1, 187), (6, 18, 6, 2, 188), (0, 63, 6, 2, 189), (1, 47, 6, 2, 190), (7, 194, 6, 2, 191), (6, 21, 6, 3, 192), (0, 68, 6, 3, 193), (7, 197, 6, 3, 194), (6, 25, 6, 4, 195), (2, 42, 6, 4, 196), (1, 53, 6, 4, 197), (7, 201, 6, 4, 198), (6, 28, 6, 5, 199), (1, 50, 6, 5, 200), (7, 204, 6, 5, 201), (6, 33, 6, 6, 202), (6, 45, 6, 7, 203), (7, 98, 6, 7, 204), (7, 207, 6, 8, 205), (7, 178, 6, 9, 206), (4, 7, 4, 0, 237), (2, 35, 4, 0, 238), (7, 143, 4, 0, 239), (4, 13, 4, 1, 240), (4, 16, 4, 2, 241), (7, 148, 4, 2, 242), (4, 19, 4, 3, 243), (7, 257, 4, 3, 244), (3, 9, 3, 0, 282), (3, 21, 3, 1, 283), (3, 82, 3, 2, 284), (3, 28, 3, 3, 285), (7, 89, 3, 3, 286), (3, 52, 3, 4, 287), (7, 94, 3, 4, 288), (5, 7, 5, 0, 409), (2, 27, 5, 0, 410), (5, 13, 5, 1, 411), (2, 32, 5, 1, 412), (5, 16, 5, 2, 413), (2, 48, 5, 2, 414), (5, 19, 5, 3, 415), (2, 33, 5, 3, 416), (2, 7, 2, 0, 432), (7, 108, 2, 0, 433), (2, 13, 2, 1, 434), (6, 54, 2, 1, 435), (2, 16, 2, 2, 436), (6, 49, 2, 2, 437), (2, 23, 2, 3, 438), (6, 57, 2, 3, 439), (2, 19, 2, 4, 440), (8, 95, 8, 0, 704), (8, 85, 8, 1, 705), (8, 92, 8, 2, 706), (8, 157, 8, 3, 707), (8, 197, 8, 4, 708), (8, 7, 8, 5, 709), (8, 13, 8, 6, 710), (8, 16, 8, 7, 711), (8, 19, 8, 8, 712), (8, 22, 8, 9, 713), (8, 25, 8, 10, 714), (8, 29, 8, 11, 715), (8, 32, 8, 12, 716), (8, 35, 8, 13, 717), (8, 38, 8, 14, 718), (8, 41, 8, 15, 719), (8, 45, 8, 16, 720), (8, 98, 8, 17, 721), (8, 108, 8, 18, 722), (8, 105, 8, 19, 723), (8, 48, 8, 20, 724), (8, 52, 8, 21, 725), (8, 55, 8, 22, 726), (8, 58, 8, 23, 727), (8, 61, 8, 24, 728), (8, 64, 8, 25, 729), (8, 67, 8, 26, 730), (8, 70, 8, 27, 731), (8, 114, 8, 28, 732), (8, 121, 8, 29, 733), (8, 73, 8, 30, 734), (8, 76, 8, 31, 735), (8, 79, 8, 32, 736), (8, 82, 8, 33, 737), (8, 213, 8, 34, 738), (8, 225, 8, 35, 739), (10, 9, 30, 0, 994), (10, 15, 30, 1, 995), (10, 38, 32, 0, 346), (10, 1053, 32, 1, 362)]
def fr (o i : Nat) : Option (Nat × Nat) := (frL.find? (fun e => e.1 == o && e.2.1 == i)).map (fun e => (e.2.2.1, e.2.2.2.1))
/-- a class file, a place in its pool: how the method is called (0 by the object, 1 static, 2 a constructor, 3 static of a nest mate, 4 Object's constructor), which; the words' places -/
def mrL : List (Nat × Nat × Nat × Nat × Nat × Nat × Nat × Nat) := [(9, 9, 2, 48, 69, 70, 52, 0),
  (7, 1, 4, 0, 72, 0, 0, 0),
  (7, 27, 2, 12, 81, 82, 53, 0),
  (1, 3, 4, 0, 84, 0, 0, 0),
  (7, 34, 2, 0, 98, 99, 54, 0),
  (0, 3, 4, 0, 101, 0, 0, 0),
  (9, 13, 0, 49, 164, 165, 52, 166),
  (9, 18, 0, 50, 168, 169, 52, 170),
  (7, 46, 1, 68, 172, 173, 52, 0),
  (7, 53, 2, 43, 176, 177, 56, 0),
  (6, 3, 4, 0, 179, 0, 0, 0),
  (9, 23, 0, 51, 228, 229, 52, 230),
  (7, 59, 2, 40, 233, 234, 57, 0),
  (4, 1, 4, 0, 236, 0, 0, 0),
  (9, 28, 0, 52, 254, 255, 52, 256),
  (7, 65, 0, 73, 258, 260, 52, 0),
  (9, 33, 0, 53, 262, 263, 52, 264),
  (7, 69, 0, 71, 266, 268, 52, 1),
  (7, 73, 1, 69, 270, 271, 52, 0),
  (7, 82, 2, 28, 275, 276, 58, 0),
  (3, 3, 4, 0, 278, 0, 0, 0),
  (3, 15, 5, 0, 279, 0, 0, 0),
  (7, 85, 0, 29, 300, 301, 58, 302),
  (3, 25, 0, 34, 304, 306, 58, 2),
  (3, 89, 0, 37, 308, 310, 58, 3),
  (3, 85, 0, 36, 312, 314, 58, 4),
  (3, 92, 0, 38, 316, 318, 58, 5),
  (3, 103, 3, 68, 320, 173, 52, 0),
  (3, 78, 0, 39, 321, 323, 58, 6),
  (3, 31, 0, 30, 325, 327, 58, 7),
  (3, 35, 0, 31, 329, 331, 58, 8),
  (3, 61, 0, 35, 334, 336, 58, 9),
  (3, 95, 0, 130, 338, 339, 60, 340),
  (10, 335, 0, 132, 342, 343, 60, 344),
  (3, 99, 0, 131, 348, 349, 60, 350),
  (10, 492, 0, 133, 352, 353, 60, 354),
  (10, 495, 1, 135, 356, 357, 61, 0),
  (11, 9, 1, 134, 359, 360, 60, 0),
  (10, 1059, 1, 136, 364, 365, 62, 0),
  (12, 414, 1, 134, 376, 360, 60, 0),
  (3, 44, 0, 32, 390, 392, 58, 10),
  (3, 39, 0, 33, 397, 399, 58, 11),
  (3, 56, 2, 42, 405, 406, 64, 0),
  (5, 1, 4, 0, 408, 0, 0, 0),
  (7, 101, 2, 22, 428, 429, 65, 0),
  (2, 1, 4, 0, 431, 0, 0, 0),
  (9, 37, 0, 54, 452, 453, 52, 454),
  (9, 42, 0, 55, 456, 457, 52, 458),
  (7, 104, 1, 74, 460, 461, 52, 0),
  (7, 210, 0, 47, 463, 464, 56, 465),
  (9, 46, 0, 56, 467, 468, 52, 469),
  (7, 111, 0, 72, 471, 473, 52, 12),
  (7, 115, 0, 80, 475, 477, 52, 13),
  (7, 133, 0, 70, 479, 481, 52, 14),
  (7, 136, 0, 44, 483, 484, 56, 485),
  (6, 37, 3, 69, 487, 271, 52, 0),
  (7, 226, 1, 82, 488, 489, 52, 0),
  (7, 258, 0, 41, 491, 492, 57, 493),
  (4, 22, 6, 0, 495, 0, 0, 0),
  (7, 230, 0, 24, 498, 499, 65, 500),
  (2, 38, 0, 27, 502, 504, 65, 15),
  (7, 234, 1, 83, 506, 507, 52, 0),
  (7, 262, 6, 0, 509, 0, 0, 0),
  (7, 265, 0, 26, 510, 511, 65, 512),
  (7, 238, 0, 84, 514, 516, 52, 16),
  (7, 242, 0, 81, 518, 520, 52, 17),
  (7, 126, 0, 75, 522, 524, 52, 18),
  (7, 214, 0, 13, 526, 527, 53, 528),
  (7, 246, 0, 20, 530, 531, 53, 532),
  (1, 25, 0, 14, 534, 535, 53, 536),
  (1, 21, 3, 68, 538, 173, 52, 0),
  (7, 249, 0, 21, 539, 540, 53, 541),
  (1, 35, 0, 47, 543, 464, 56, 465),
  (1, 56, 0, 25, 544, 545, 65, 546),
  (7, 253, 0, 46, 548, 549, 56, 550),
  (6, 41, 0, 44, 552, 484, 56, 485),
  (7, 144, 0, 16, 553, 554, 53, 555),
  (9, 50, 0, 57, 557, 558, 52, 559),
  (7, 122, 0, 77, 561, 563, 52, 19),
  (7, 222, 0, 45, 565, 566, 56, 567),
  (9, 54, 0, 58, 569, 570, 52, 571),
  (7, 139, 0, 78, 573, 575, 52, 20),
  (9, 59, 0, 59, 577, 578, 52, 579),
  (9, 64, 0, 60, 581, 582, 52, 583),
  (7, 151, 0, 19, 585, 586, 53, 587),
  (7, 154, 5, 0, 589, 0, 0, 0),
  (7, 160, 0, 17, 590, 591, 53, 592),
  (1, 41, 0, 23, 594, 595, 65, 596),
  (7, 163, 0, 18, 598, 599, 53, 600),
  (7, 166, 0, 15, 602, 603, 53, 604),
  (9, 68, 0, 61, 606, 607, 52, 608),
  (7, 170, 0, 76, 610, 612, 52, 21),
  (7, 218, 0, 2, 614, 615, 54, 616),
  (0, 42, 5, 0, 618, 0, 0, 0),
  (0, 48, 0, 3, 619, 621, 54, 22),
  (0, 59, 0, 14, 623, 535, 53, 536),
  (0, 72, 0, 47, 624, 464, 56, 465),
  (0, 78, 0, 23, 625, 595, 65, 596),
  (0, 35, 3, 68, 626, 173, 52, 0),
  (0, 52, 0, 4, 627, 629, 54, 23),
  (0, 84, 1, 129, 631, 632, 66, 0),
  (0, 89, 1, 11, 637, 638, 54, 0),
  (0, 93, 0, 5, 640, 642, 54, 24),
  (0, 97, 0, 6, 644, 646, 54, 25),
  (0, 100, 0, 7, 648, 650, 54, 26),
  (0, 55, 0, 8, 652, 654, 54, 27),
  (0, 103, 0, 9, 656, 658, 54, 28),
  (0, 107, 0, 15, 660, 603, 53, 604),
  (0, 110, 0, 10, 661, 663, 54, 29),
  (7, 174, 0, 1, 665, 666, 54, 667),
  (9, 72, 0, 62, 669, 670, 52, 671),
  (9, 76, 0, 63, 673, 674, 52, 675),
  (7, 181, 0, 79, 677, 679, 52, 30),
  (9, 80, 0, 64, 681, 682, 52, 683),
  (9, 84, 0, 65, 685, 686, 52, 687),
  (7, 188, 0, 23, 689, 595, 65, 596),
  (9, 88, 0, 66, 690, 691, 52, 692),
  (9, 92, 0, 67, 694, 695, 52, 696),
  (9, 12, 2, 85, 700, 701, 55, 0),
  (8, 1, 4, 0, 703, 0, 0, 0),
  (9, 17, 0, 91, 813, 814, 55, 815),
  (8, 88, 1, 86, 817, 818, 55, 0),
  (9, 22, 0, 92, 820, 821, 55, 822),
  (9, 27, 0, 93, 824, 825, 55, 826),
  (9, 32, 0, 94, 828, 829, 55, 830),
  (8, 101, 0, 95, 832, 834, 55, 31),
  (9, 36, 0, 101, 836, 837, 55, 838),
  (8, 150, 0, 87, 840, 842, 55, 32),
  (8, 154, 1, 89, 844, 845, 55, 0),
  (8, 111, 0, 96, 847, 849, 55, 33),
  (8, 160, 0, 100, 851, 853, 55, 34),
  (8, 126, 0, 98, 856, 858, 55, 35),
  (8, 117, 0, 97, 860, 862, 55, 36),
  (8, 130, 0, 99, 864, 866, 55, 37),
  (9, 41, 0, 102, 876, 877, 55, 878),
  (9, 45, 0, 104, 880, 881, 55, 882),
  (8, 163, 0, 103, 884, 886, 55, 38),
  (9, 49, 0, 110, 888, 889, 55, 890),
  (8, 177, 0, 88, 892, 894, 55, 39),
  (8, 173, 0, 108, 896, 898, 55, 40),
  (8, 180, 0, 109, 900, 902, 55, 41),
  (8, 167, 6, 0, 904, 0, 0, 0),
  (8, 183, 0, 106, 905, 907, 55, 42),
  (8, 186, 0, 107, 909, 911, 55, 43),
  (9, 53, 0, 112, 913, 914, 55, 915),
  (8, 194, 0, 110, 917, 889, 55, 890),
  (8, 200, 0, 111, 918, 920, 55, 44),
  (8, 190, 1, 90, 922, 923, 55, 0),
  (9, 58, 0, 114, 925, 926, 55, 927),
  (8, 203, 0, 113, 929, 931, 55, 45),
  (9, 63, 0, 115, 933, 934, 55, 935),
  (9, 67, 0, 116, 937, 938, 55, 939),
  (8, 207, 0, 105, 941, 943, 55, 46),
  (8, 210, 5, 0, 945, 0, 0, 0),
  (9, 71, 0, 121, 946, 947, 55, 948),
  (8, 228, 0, 119, 950, 952, 55, 47),
  (8, 217, 1, 120, 955, 956, 55, 0),
  (8, 219, 0, 117, 958, 960, 55, 48),
  (8, 222, 0, 118, 962, 964, 55, 49),
  (9, 75, 0, 122, 966, 967, 55, 968),
  (9, 79, 0, 124, 970, 971, 55, 972),
  (8, 231, 0, 123, 974, 976, 55, 50),
  (9, 83, 0, 125, 978, 979, 55, 980),
  (9, 87, 0, 126, 982, 983, 55, 984),
  (9, 91, 0, 127, 986, 987, 55, 988),
  (9, 95, 0, 128, 990, 991, 55, 992)]
def mr (o i : Nat) : Option (Nat × Nat) := (mrL.find? (fun e => e.1 == o && e.2.1 == i)).map (fun e => (e.2.2.1, e.2.2.2.1))
def crL : List (Nat × Nat × Nat × Nat) := [(9, 7, 7, 67), (7, 9, 6, 75), (7, 15, 4, 77), (7, 25, 1, 79), (1, 9, 6, 85), (7, 32, 0, 96), (6, 31, 4, 180), (7, 80, 3, 273), (3, 50, 5, 403), (7, 92, 2, 426), (9, 10, 8, 698)]
def cr (o i : Nat) : Option Nat := (crL.find? (fun e => e.1 == o && e.2.1 == i)).map (fun e => e.2.2.1)
def kIL : List (Nat × Nat × Int32 × Nat) := [(14, 265, 1431655765, 634), (14, 266, 858993459, 635), (14, 267, 252645135, 636), (8, 216, 100000, 954)]
def kI (o i : Nat) : Option Int32 := (kIL.find? (fun e => e.1 == o && e.2.1 == i)).map (fun e => e.2.2.1)
def kLL : List (Nat × Nat × Int64 × Nat) := [(8, 124, 6447474, 855), (8, 134, 512802253683, 868), (8, 136, 418497262196, 869), (8, 138, 1818848101, 870), (8, 140, 1953854062, 871), (8, 142, 474148660594, 872), (8, 144, 1751215212, 873), (8, 146, 7364985, 874), (8, 148, 482854658917, 875)]
def kL (o i : Nat) : Option Int64 := (kLL.find? (fun e => e.1 == o && e.2.1 == i)).map (fun e => e.2.2.1)
def kSL : List (Nat × Nat × Nat × Nat) := [(3, 59, 0, 333), (3, 64, 1, 386), (3, 66, 2, 387), (3, 68, 3, 388), (3, 70, 4, 389), (3, 72, 5, 394), (3, 74, 6, 395), (3, 76, 7, 396), (3, 42, 8, 401), (3, 48, 9, 402)]
def kS (o i : Nat) : Option Nat := (kSL.find? (fun e => e.1 == o && e.2.1 == i)).map (fun e => e.2.2.1)
def sTx : List String := ["bar", "pay", "place", "never", "hall", "apart", "like", "turn", "weeks", ";"]
def sBy : List (List Int32) := [[98, 97, 114], [112, 97, 121], [112, 108, 97, 99, 101], [110, 101, 118, 101, 114], [104, 97, 108, 108], [97, 112, 97, 114, 116], [108, 105, 107, 101], [116, 117, 114, 110], [119, 101, 101, 107, 115], [59]]
def sIx : List Nat := [59, 64, 66, 68, 70, 72, 74, 76, 42, 48]
def tyC : Nat → Nat → FieldType := fun ci => match ci with
  | 0 => tyX0
  | 1 => tyX1
  | 2 => tyX2
  | 3 => tyX3
  | 4 => tyX4
  | 5 => tyX5
  | 6 => tyX6
  | 7 => tyX7
  | _ => tyX8
def nF : Nat → Nat := fun ci => match ci with
  | 0 => 7
  | 1 => 2
  | 2 => 5
  | 3 => 5
  | 4 => 4
  | 5 => 4
  | 6 => 10
  | 7 => 12
  | 8 => 36
  | _ => 0
def isR (ci k : Nat) : Bool := match tyC ci k with | .object _ => true | .array _ => true | _ => false
def cT : Nat → u_T := fun ci => match ci with
  | 0 => TX0
  | 1 => TX1
  | 2 => TX2
  | 3 => TX3
  | 4 => TX4
  | 5 => TX5
  | 6 => TX6
  | 7 => TX7
  | _ => TX8
def iniL : List Nat := [0, 12, 22, 28, 40, 42, 43, 48, 85]
def isIni (j : Nat) : Bool := iniL.contains j
/-- a final field is put by a constructor of its own class alone -/
def fnl (j ci k : Nat) : Bool := !(cT ci k).2.2.2 || (isIni j && ow j == ci)
def insP : List (Nat × Nat) := [(97, 54), (80, 53), (427, 65), (274, 58), (232, 57), (404, 64), (175, 56), (68, 52), (699, 55)]
def codeP : List Nat := [100, 668, 617, 622, 630, 643, 647, 651, 655, 659, 664, 639, 83, 529, 537, 605, 556, 593, 601, 588, 533, 542, 430, 597, 501, 547, 513, 505, 277, 303, 328, 332, 393, 400, 307, 337, 315, 311, 319, 324, 235, 494, 407, 178, 486, 568, 551, 466, 71, 167, 171, 231, 257, 265, 455, 459, 470, 560, 572, 580, 584, 609, 672, 676, 684, 688, 693, 697, 174, 272, 482, 269, 474, 261, 462, 525, 613, 564, 576, 680, 478, 521, 490, 508, 517, 702, 819, 843, 895, 846, 924, 816, 823, 827, 831, 835, 850, 863, 859, 867, 854, 839, 879, 887, 883, 944, 908, 912, 899, 903, 891, 921, 916, 932, 928, 936, 940, 961, 965, 953, 957, 949, 969, 977, 973, 981, 985, 989, 993, 633, 341, 351, 345, 355, 361, 358, 366]
