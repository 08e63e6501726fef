theorem cdE_0 : cd 0 = cX0_init := rfl
theorem owE_0 : ow 0 = 0 := rfl
theorem mxE_0 : mxL 0 = 1 := rfl
theorem mcE_0 : mcq 0 = 5 := rfl
theorem msE_0 : msq 0 = 4644 := rfl
theorem cdE_1 : cd 1 = cX0_numberAt := rfl
theorem owE_1 : ow 1 = 0 := rfl
theorem mxE_1 : mxL 1 = 2 := rfl
theorem mcE_1 : mcq 1 = 0 := rfl
theorem msE_1 : msq 1 = 0 := rfl
theorem cdE_2 : cd 2 = cX0_lay := rfl
theorem owE_2 : ow 2 = 0 := rfl
theorem mxE_2 : mxL 2 = 4 := rfl
theorem mcE_2 : mcq 2 = 0 := rfl
theorem msE_2 : msq 2 = 0 := rfl
theorem cdE_3 : cd 3 = cX0_findWhoMayStand := rfl
theorem owE_3 : ow 3 = 0 := rfl
theorem mxE_3 : mxL 3 = 12 := rfl
theorem mcE_3 : mcq 3 = 0 := rfl
theorem msE_3 : msq 3 = 0 := rfl
theorem cdE_4 : cd 4 = cX0_findLeast := rfl
theorem owE_4 : ow 4 = 0 := rfl
theorem mxE_4 : mxL 4 = 5 := rfl
theorem mcE_4 : mcq 4 = 0 := rfl
theorem msE_4 : msq 4 = 0 := rfl
theorem cdE_5 : cd 5 = cX0_leastFrom := rfl
theorem owE_5 : ow 5 = 0 := rfl
theorem mxE_5 : mxL 5 = 7 := rfl
theorem mcE_5 : mcq 5 = 0 := rfl
theorem msE_5 : msq 5 = 0 := rfl
theorem cdE_6 : cd 6 = cX0_sumThrough := rfl
theorem owE_6 : ow 6 = 0 := rfl
theorem mxE_6 : mxL 6 = 4 := rfl
theorem mcE_6 : mcq 6 = 0 := rfl
theorem msE_6 : msq 6 = 0 := rfl
theorem cdE_7 : cd 7 = cX0_waitBetween := rfl
theorem owE_7 : ow 7 = 0 := rfl
theorem mxE_7 : mxL 7 = 3 := rfl
theorem mcE_7 : mcq 7 = 0 := rfl
theorem msE_7 : msq 7 = 0 := rfl
theorem cdE_8 : cd 8 = cX0_layLeast := rfl
theorem owE_8 : ow 8 = 0 := rfl
theorem mxE_8 : mxL 8 = 5 := rfl
theorem mcE_8 : mcq 8 = 0 := rfl
theorem msE_8 : msq 8 = 0 := rfl
theorem cdE_9 : cd 9 = cX0_firstOfLeast := rfl
theorem owE_9 : ow 9 = 0 := rfl
theorem mxE_9 : mxL 9 = 4 := rfl
theorem mcE_9 : mcq 9 = 0 := rfl
theorem msE_9 : msq 9 = 0 := rfl
theorem cdE_10 : cd 10 = cX0_nextOfLeast := rfl
theorem owE_10 : ow 10 = 0 := rfl
theorem mxE_10 : mxL 10 = 7 := rfl
theorem mcE_10 : mcq 10 = 0 := rfl
theorem msE_10 : msq 10 = 0 := rfl
theorem cdE_11 : cd 11 = cX0_has := rfl
theorem owE_11 : ow 11 = 0 := rfl
theorem mxE_11 : mxL 11 = 2 := rfl
theorem mcE_11 : mcq 11 = 0 := rfl
theorem msE_11 : msq 11 = 0 := rfl
theorem cdE_12 : cd 12 = cX1_init := rfl
theorem owE_12 : ow 12 = 1 := rfl
theorem mxE_12 : mxL 12 = 1 := rfl
theorem mcE_12 : mcq 12 = 1 := rfl
theorem msE_12 : msq 12 = 9 := rfl
theorem cdE_13 : cd 13 = cX1_put := rfl
theorem owE_13 : ow 13 = 1 := rfl
theorem mxE_13 : mxL 13 = 2 := rfl
theorem mcE_13 : mcq 13 = 0 := rfl
theorem msE_13 : msq 13 = 0 := rfl
theorem cdE_14 : cd 14 = cX1_memberAt := rfl
theorem owE_14 : ow 14 = 1 := rfl
theorem mxE_14 : mxL 14 = 2 := rfl
theorem mcE_14 : mcq 14 = 0 := rfl
theorem msE_14 : msq 14 = 0 := rfl
theorem cdE_15 : cd 15 = cX1_numberAt := rfl
theorem owE_15 : ow 15 = 1 := rfl
theorem mxE_15 : mxL 15 = 3 := rfl
theorem mcE_15 : mcq 15 = 0 := rfl
theorem msE_15 : msq 15 = 0 := rfl
theorem cdE_16 : cd 16 = cX1_minutesOfAll := rfl
theorem owE_16 : ow 16 = 1 := rfl
theorem mxE_16 : mxL 16 = 4 := rfl
theorem mcE_16 : mcq 16 = 0 := rfl
theorem msE_16 : msq 16 = 0 := rfl
theorem cdE_17 : cd 17 = cX1_payOfAll := rfl
theorem owE_17 : ow 17 = 1 := rfl
theorem mxE_17 : mxL 17 = 7 := rfl
theorem mcE_17 : mcq 17 = 0 := rfl
theorem msE_17 : msq 17 = 0 := rfl
theorem cdE_18 : cd 18 = cX1_topCount := rfl
theorem owE_18 : ow 18 = 1 := rfl
theorem mxE_18 : mxL 18 = 4 := rfl
theorem mcE_18 : mcq 18 = 0 := rfl
theorem msE_18 : msq 18 = 0 := rfl
theorem cdE_19 : cd 19 = cX1_drawOfTops := rfl
theorem owE_19 : ow 19 = 1 := rfl
theorem mxE_19 : mxL 19 = 4 := rfl
theorem mcE_19 : mcq 19 = 0 := rfl
theorem msE_19 : msq 19 = 0 := rfl
theorem cdE_20 : cd 20 = cX1_hasLike := rfl
theorem owE_20 : ow 20 = 1 := rfl
theorem mxE_20 : mxL 20 = 4 := rfl
theorem mcE_20 : mcq 20 = 0 := rfl
theorem msE_20 : msq 20 = 0 := rfl
theorem cdE_21 : cd 21 = cX1_isApartFrom := rfl
theorem owE_21 : ow 21 = 1 := rfl
theorem mxE_21 : mxL 21 = 8 := rfl
theorem mcE_21 : mcq 21 = 0 := rfl
theorem msE_21 : msq 21 = 0 := rfl
theorem cdE_22 : cd 22 = cX2_init := rfl
theorem owE_22 : ow 22 = 2 := rfl
theorem mxE_22 : mxL 22 = 6 := rfl
theorem mcE_22 : mcq 22 = 0 := rfl
theorem msE_22 : msq 22 = 0 := rfl
theorem cdE_23 : cd 23 = cX2_lastNumber := rfl
theorem owE_23 : ow 23 = 2 := rfl
theorem mxE_23 : mxL 23 = 3 := rfl
theorem mcE_23 : mcq 23 = 0 := rfl
theorem msE_23 : msq 23 = 0 := rfl
theorem cdE_24 : cd 24 = cX2_isNeverIn := rfl
theorem owE_24 : ow 24 = 2 := rfl
theorem mxE_24 : mxL 24 = 2 := rfl
theorem mcE_24 : mcq 24 = 0 := rfl
theorem msE_24 : msq 24 = 0 := rfl
theorem cdE_25 : cd 25 = cX2_isApartFrom := rfl
theorem owE_25 : ow 25 = 2 := rfl
theorem mxE_25 : mxL 25 = 2 := rfl
theorem mcE_25 : mcq 25 = 0 := rfl
theorem msE_25 : msq 25 = 0 := rfl
theorem cdE_26 : cd 26 = cX2_hasBar := rfl
theorem owE_26 : ow 26 = 2 := rfl
theorem mxE_26 : mxL 26 = 4 := rfl
theorem mcE_26 : mcq 26 = 0 := rfl
theorem msE_26 : msq 26 = 0 := rfl
theorem cdE_27 : cd 27 = cX2_tells := rfl
theorem owE_27 : ow 27 = 2 := rfl
theorem mxE_27 : mxL 27 = 4 := rfl
theorem mcE_27 : mcq 27 = 0 := rfl
theorem msE_27 : msq 27 = 0 := rfl
theorem cdE_28 : cd 28 = cX3_init := rfl
theorem owE_28 : ow 28 = 3 := rfl
theorem mxE_28 : mxL 28 = 3 := rfl
theorem mcE_28 : mcq 28 = 0 := rfl
theorem msE_28 : msq 28 = 0 := rfl
theorem cdE_29 : cd 29 = cX3_readText := rfl
theorem owE_29 : ow 29 = 3 := rfl
theorem mxE_29 : mxL 29 = 2 := rfl
theorem mcE_29 : mcq 29 = 12 := rfl
theorem msE_29 : msq 29 = 48 := rfl
theorem cdE_30 : cd 30 = cX3_readStatement := rfl
theorem owE_30 : ow 30 = 3 := rfl
theorem mxE_30 : mxL 30 = 4 := rfl
theorem mcE_30 : mcq 30 = 1 := rfl
theorem msE_30 : msq 30 = 4 := rfl
theorem cdE_31 : cd 31 = cX3_readOpening := rfl
theorem owE_31 : ow 31 = 3 := rfl
theorem mxE_31 : mxL 31 = 1 := rfl
theorem mcE_31 : mcq 31 = 0 := rfl
theorem msE_31 : msq 31 = 0 := rfl
theorem cdE_32 : cd 32 = cX3_stepTo := rfl
theorem owE_32 : ow 32 = 3 := rfl
theorem mxE_32 : mxL 32 = 2 := rfl
theorem mcE_32 : mcq 32 = 0 := rfl
theorem msE_32 : msq 32 = 0 := rfl
theorem cdE_33 : cd 33 = cX3_stepToNumber := rfl
theorem owE_33 : ow 33 = 3 := rfl
theorem mxE_33 : mxL 33 = 3 := rfl
theorem mcE_33 : mcq 33 = 0 := rfl
theorem msE_33 : msq 33 = 0 := rfl
theorem cdE_34 : cd 34 = cX3_step := rfl
theorem owE_34 : ow 34 = 3 := rfl
theorem mxE_34 : mxL 34 = 1 := rfl
theorem mcE_34 : mcq 34 = 0 := rfl
theorem msE_34 : msq 34 = 0 := rfl
theorem cdE_35 : cd 35 = cX3_holds := rfl
theorem owE_35 : ow 35 = 3 := rfl
theorem mxE_35 : mxL 35 = 3 := rfl
theorem mcE_35 : mcq 35 = 0 := rfl
theorem msE_35 : msq 35 = 0 := rfl
theorem cdE_36 : cd 36 = cX3_byteAt := rfl
theorem owE_36 : ow 36 = 3 := rfl
theorem mxE_36 : mxL 36 = 2 := rfl
theorem mcE_36 : mcq 36 = 0 := rfl
theorem msE_36 : msq 36 = 0 := rfl
theorem cdE_37 : cd 37 = cX3_isBlank := rfl
theorem owE_37 : ow 37 = 3 := rfl
theorem mxE_37 : mxL 37 = 2 := rfl
theorem mcE_37 : mcq 37 = 0 := rfl
theorem msE_37 : msq 37 = 0 := rfl
theorem cdE_38 : cd 38 = cX3_isLetter := rfl
theorem owE_38 : ow 38 = 3 := rfl
theorem mxE_38 : mxL 38 = 2 := rfl
theorem mcE_38 : mcq 38 = 0 := rfl
theorem msE_38 : msq 38 = 0 := rfl
theorem cdE_39 : cd 39 = cX3_isDigit := rfl
theorem owE_39 : ow 39 = 3 := rfl
theorem mxE_39 : mxL 39 = 2 := rfl
theorem mcE_39 : mcq 39 = 0 := rfl
theorem msE_39 : msq 39 = 0 := rfl
theorem cdE_40 : cd 40 = cX4_init := rfl
theorem owE_40 : ow 40 = 4 := rfl
theorem mxE_40 : mxL 40 = 5 := rfl
theorem mcE_40 : mcq 40 = 0 := rfl
theorem msE_40 : msq 40 = 0 := rfl
theorem cdE_41 : cd 41 = cX4_milesTo := rfl
theorem owE_41 : ow 41 = 4 := rfl
theorem mxE_41 : mxL 41 = 2 := rfl
theorem mcE_41 : mcq 41 = 0 := rfl
theorem msE_41 : msq 41 = 0 := rfl
theorem cdE_42 : cd 42 = cX5_init := rfl
theorem owE_42 : ow 42 = 5 := rfl
theorem mxE_42 : mxL 42 = 5 := rfl
theorem mcE_42 : mcq 42 = 0 := rfl
theorem msE_42 : msq 42 = 0 := rfl
theorem cdE_43 : cd 43 = cX6_init := rfl
theorem owE_43 : ow 43 = 6 := rfl
theorem mxE_43 : mxL 43 = 7 := rfl
theorem mcE_43 : mcq 43 = 1 := rfl
theorem msE_43 : msq 43 = 60 := rfl
theorem cdE_44 : cd 44 = cX6_hallIn := rfl
theorem owE_44 : ow 44 = 6 := rfl
theorem mxE_44 : mxL 44 = 2 := rfl
theorem mcE_44 : mcq 44 = 0 := rfl
theorem msE_44 : msq 44 = 0 := rfl
theorem cdE_45 : cd 45 = cX6_setHallIn := rfl
theorem owE_45 : ow 45 = 6 := rfl
theorem mxE_45 : mxL 45 = 3 := rfl
theorem mcE_45 : mcq 45 = 0 := rfl
theorem msE_45 : msq 45 = 0 := rfl
theorem cdE_46 : cd 46 = cX6_isSoonIn := rfl
theorem owE_46 : ow 46 = 6 := rfl
theorem mxE_46 : mxL 46 = 4 := rfl
theorem mcE_46 : mcq 46 = 0 := rfl
theorem msE_46 : msq 46 = 0 := rfl
theorem cdE_47 : cd 47 = cX6_contractIn := rfl
theorem owE_47 : ow 47 = 6 := rfl
theorem mxE_47 : mxL 47 = 6 := rfl
theorem mcE_47 : mcq 47 = 0 := rfl
theorem msE_47 : msq 47 = 0 := rfl
theorem cdE_48 : cd 48 = cX7_init := rfl
theorem owE_48 : ow 48 = 7 := rfl
theorem mxE_48 : mxL 48 = 1 := rfl
theorem mcE_48 : mcq 48 = 11 := rfl
theorem msE_48 : msq 48 = 5312 := rfl
theorem cdE_49 : cd 49 = cX7_weeks := rfl
theorem owE_49 : ow 49 = 7 := rfl
theorem mxE_49 : mxL 49 = 2 := rfl
theorem mcE_49 : mcq 49 = 0 := rfl
theorem msE_49 : msq 49 = 0 := rfl
theorem cdE_50 : cd 50 = cX7_turn := rfl
theorem owE_50 : ow 50 = 7 := rfl
theorem mxE_50 : mxL 50 = 8 := rfl
theorem mcE_50 : mcq 50 = 2 := rfl
theorem msE_50 : msq 50 = 70 := rfl
theorem cdE_51 : cd 51 = cX7_hall := rfl
theorem owE_51 : ow 51 = 7 := rfl
theorem mxE_51 : mxL 51 = 6 := rfl
theorem mcE_51 : mcq 51 = 1 := rfl
theorem msE_51 : msq 51 = 4 := rfl
theorem cdE_52 : cd 52 = cX7_feed := rfl
theorem owE_52 : ow 52 = 7 := rfl
theorem mxE_52 : mxL 52 = 6 := rfl
theorem mcE_52 : mcq 52 = 0 := rfl
theorem msE_52 : msq 52 = 0 := rfl
theorem cdE_53 : cd 53 = cX7_sign := rfl
theorem owE_53 : ow 53 = 7 := rfl
theorem mxE_53 : mxL 53 = 8 := rfl
theorem mcE_53 : mcq 53 = 14 := rfl
theorem msE_53 : msq 53 = 58 := rfl
theorem cdE_54 : cd 54 = cX7_fault := rfl
theorem owE_54 : ow 54 = 7 := rfl
theorem mxE_54 : mxL 54 = 1 := rfl
theorem mcE_54 : mcq 54 = 0 := rfl
theorem msE_54 : msq 54 = 0 := rfl
theorem cdE_55 : cd 55 = cX7_force := rfl
theorem owE_55 : ow 55 = 7 := rfl
theorem mxE_55 : mxL 55 = 5 := rfl
theorem mcE_55 : mcq 55 = 0 := rfl
theorem msE_55 : msq 55 = 0 := rfl
theorem cdE_56 : cd 56 = cX7_why := rfl
theorem owE_56 : ow 56 = 7 := rfl
theorem mxE_56 : mxL 56 = 4 := rfl
theorem mcE_56 : mcq 56 = 0 := rfl
theorem msE_56 : msq 56 = 0 := rfl
theorem cdE_57 : cd 57 = cX7_book := rfl
theorem owE_57 : ow 57 = 7 := rfl
theorem mxE_57 : mxL 57 = 6 := rfl
theorem mcE_57 : mcq 57 = 0 := rfl
theorem msE_57 : msq 57 = 0 := rfl
theorem cdE_58 : cd 58 = cX7_cancel := rfl
theorem owE_58 : ow 58 = 7 := rfl
theorem mxE_58 : mxL 58 = 4 := rfl
theorem mcE_58 : mcq 58 = 0 := rfl
theorem msE_58 : msq 58 = 0 := rfl
theorem cdE_59 : cd 59 = cX7_where := rfl
theorem owE_59 : ow 59 = 7 := rfl
theorem mxE_59 : mxL 59 = 5 := rfl
theorem mcE_59 : mcq 59 = 0 := rfl
theorem msE_59 : msq 59 = 0 := rfl
theorem cdE_60 : cd 60 = cX7_bill := rfl
theorem owE_60 : ow 60 = 7 := rfl
theorem mxE_60 : mxL 60 = 5 := rfl
theorem mcE_60 : mcq 60 = 0 := rfl
theorem msE_60 : msq 60 = 0 := rfl
theorem cdE_61 : cd 61 = cX7_order := rfl
theorem owE_61 : ow 61 = 7 := rfl
theorem mxE_61 : mxL 61 = 4 := rfl
theorem mcE_61 : mcq 61 = 0 := rfl
theorem msE_61 : msq 61 = 0 := rfl
theorem cdE_62 : cd 62 = cX7_waits := rfl
theorem owE_62 : ow 62 = 7 := rfl
theorem mxE_62 : mxL 62 = 3 := rfl
theorem mcE_62 : mcq 62 = 0 := rfl
theorem msE_62 : msq 62 = 0 := rfl
theorem cdE_63 : cd 63 = cX7_fail := rfl
theorem owE_63 : ow 63 = 7 := rfl
theorem mxE_63 : mxL 63 = 6 := rfl
theorem mcE_63 : mcq 63 = 0 := rfl
theorem msE_63 : msq 63 = 0 := rfl
theorem cdE_64 : cd 64 = cX7_fill := rfl
theorem owE_64 : ow 64 = 7 := rfl
theorem mxE_64 : mxL 64 = 7 := rfl
theorem mcE_64 : mcq 64 = 0 := rfl
theorem msE_64 : msq 64 = 0 := rfl
theorem cdE_65 : cd 65 = cX7_pay := rfl
theorem owE_65 : ow 65 = 7 := rfl
theorem mxE_65 : mxL 65 = 6 := rfl
theorem mcE_65 : mcq 65 = 0 := rfl
theorem msE_65 : msq 65 = 0 := rfl
theorem cdE_66 : cd 66 = cX7_turnOf := rfl
theorem owE_66 : ow 66 = 7 := rfl
theorem mxE_66 : mxL 66 = 4 := rfl
theorem mcE_66 : mcq 66 = 0 := rfl
theorem msE_66 : msq 66 = 0 := rfl
theorem cdE_67 : cd 67 = cX7_count := rfl
theorem owE_67 : ow 67 = 7 := rfl
theorem mxE_67 : mxL 67 = 2 := rfl
theorem mcE_67 : mcq 67 = 0 := rfl
theorem msE_67 : msq 67 = 0 := rfl
theorem cdE_68 : cd 68 = cX7_isWithin := rfl
theorem owE_68 : ow 68 = 7 := rfl
theorem mxE_68 : mxL 68 = 3 := rfl
theorem mcE_68 : mcq 68 = 0 := rfl
theorem msE_68 : msq 68 = 0 := rfl
theorem cdE_69 : cd 69 = cX7_isWeek := rfl
theorem owE_69 : ow 69 = 7 := rfl
theorem mxE_69 : mxL 69 = 1 := rfl
theorem mcE_69 : mcq 69 = 0 := rfl
theorem msE_69 : msq 69 = 0 := rfl
theorem cdE_70 : cd 70 = cX7_isOpen := rfl
theorem owE_70 : ow 70 = 7 := rfl
theorem mxE_70 : mxL 70 = 2 := rfl
theorem mcE_70 : mcq 70 = 0 := rfl
theorem msE_70 : msq 70 = 0 := rfl
theorem cdE_71 : cd 71 = cX7_turnAt := rfl
theorem owE_71 : ow 71 = 7 := rfl
theorem mxE_71 : mxL 71 = 2 := rfl
theorem mcE_71 : mcq 71 = 0 := rfl
theorem msE_71 : msq 71 = 0 := rfl
theorem cdE_72 : cd 72 = cX7_hallAt := rfl
theorem owE_72 : ow 72 = 7 := rfl
theorem mxE_72 : mxL 72 = 2 := rfl
theorem mcE_72 : mcq 72 = 0 := rfl
theorem msE_72 : msq 72 = 0 := rfl
theorem cdE_73 : cd 73 = cX7_putBytes := rfl
theorem owE_73 : ow 73 = 7 := rfl
theorem mxE_73 : mxL 73 = 3 := rfl
theorem mcE_73 : mcq 73 = 0 := rfl
theorem msE_73 : msq 73 = 0 := rfl
theorem cdE_74 : cd 74 = cX7_contractAsKnown := rfl
theorem owE_74 : ow 74 = 7 := rfl
theorem mxE_74 : mxL 74 = 3 := rfl
theorem mcE_74 : mcq 74 = 0 := rfl
theorem msE_74 : msq 74 = 0 := rfl
theorem cdE_75 : cd 75 = cX7_gather := rfl
theorem owE_75 : ow 75 = 7 := rfl
theorem mxE_75 : mxL 75 = 5 := rfl
theorem mcE_75 : mcq 75 = 0 := rfl
theorem msE_75 : msq 75 = 0 := rfl
theorem cdE_76 : cd 76 = cX7_layBest := rfl
theorem owE_76 : ow 76 = 7 := rfl
theorem mxE_76 : mxL 76 = 4 := rfl
theorem mcE_76 : mcq 76 = 0 := rfl
theorem msE_76 : msq 76 = 0 := rfl
theorem cdE_77 : cd 77 = cX7_putOn := rfl
theorem owE_77 : ow 77 = 7 := rfl
theorem mxE_77 : mxL 77 = 4 := rfl
theorem mcE_77 : mcq 77 = 0 := rfl
theorem msE_77 : msq 77 = 0 := rfl
theorem cdE_78 : cd 78 = cX7_takeOff := rfl
theorem owE_78 : ow 78 = 7 := rfl
theorem mxE_78 : mxL 78 = 3 := rfl
theorem mcE_78 : mcq 78 = 0 := rfl
theorem msE_78 : msq 78 = 0 := rfl
theorem cdE_79 : cd 79 = cX7_greatestDraw := rfl
theorem owE_79 : ow 79 = 7 := rfl
theorem mxE_79 : mxL 79 = 7 := rfl
theorem mcE_79 : mcq 79 = 0 := rfl
theorem msE_79 : msq 79 = 0 := rfl
theorem cdE_80 : cd 80 = cX7_barTo := rfl
theorem owE_80 : ow 80 = 7 := rfl
theorem mxE_80 : mxL 80 = 5 := rfl
theorem mcE_80 : mcq 80 = 0 := rfl
theorem msE_80 : msq 80 = 0 := rfl
theorem cdE_81 : cd 81 = cX7_barOnBill := rfl
theorem owE_81 : ow 81 = 7 := rfl
theorem mxE_81 : mxL 81 = 5 := rfl
theorem mcE_81 : mcq 81 = 0 := rfl
theorem msE_81 : msq 81 = 0 := rfl
theorem cdE_82 : cd 82 = cX7_isTooFar := rfl
theorem owE_82 : ow 82 = 7 := rfl
theorem mxE_82 : mxL 82 = 2 := rfl
theorem mcE_82 : mcq 82 = 0 := rfl
theorem msE_82 : msq 82 = 0 := rfl
theorem cdE_83 : cd 83 = cX7_isBarredByOwn := rfl
theorem owE_83 : ow 83 = 7 := rfl
theorem mxE_83 : mxL 83 = 6 := rfl
theorem mcE_83 : mcq 83 = 0 := rfl
theorem msE_83 : msq 83 = 0 := rfl
theorem cdE_84 : cd 84 = cX7_isBarredByOtherWeeks := rfl
theorem owE_84 : ow 84 = 7 := rfl
theorem mxE_84 : mxL 84 = 7 := rfl
theorem mcE_84 : mcq 84 = 0 := rfl
theorem msE_84 : msq 84 = 0 := rfl
theorem cdE_85 : cd 85 = cX8_init := rfl
theorem owE_85 : ow 85 = 8 := rfl
theorem mxE_85 : mxL 85 = 2 := rfl
theorem mcE_85 : mcq 85 = 23 := rfl
theorem msE_85 : msq 85 = 10945 := rfl
theorem cdE_86 : cd 86 = cX8_isIn := rfl
theorem owE_86 : ow 86 = 8 := rfl
theorem mxE_86 : mxL 86 = 3 := rfl
theorem mcE_86 : mcq 86 = 0 := rfl
theorem msE_86 : msq 86 = 0 := rfl
theorem cdE_87 : cd 87 = cX8_isTurn := rfl
theorem owE_87 : ow 87 = 8 := rfl
theorem mxE_87 : mxL 87 = 2 := rfl
theorem mcE_87 : mcq 87 = 0 := rfl
theorem msE_87 : msq 87 = 0 := rfl
theorem cdE_88 : cd 88 = cX8_isHall := rfl
theorem owE_88 : ow 88 = 8 := rfl
theorem mxE_88 : mxL 88 = 2 := rfl
theorem mcE_88 : mcq 88 = 0 := rfl
theorem msE_88 : msq 88 = 0 := rfl
theorem cdE_89 : cd 89 = cX8_isWeek := rfl
theorem owE_89 : ow 89 = 8 := rfl
theorem mxE_89 : mxL 89 = 1 := rfl
theorem mcE_89 : mcq 89 = 0 := rfl
theorem msE_89 : msq 89 = 0 := rfl
theorem cdE_90 : cd 90 = cX8_one := rfl
theorem owE_90 : ow 90 = 8 := rfl
theorem mxE_90 : mxL 90 = 1 := rfl
theorem mcE_90 : mcq 90 = 0 := rfl
theorem msE_90 : msq 90 = 0 := rfl
theorem cdE_91 : cd 91 = cX8_weeks := rfl
theorem owE_91 : ow 91 = 8 := rfl
theorem mxE_91 : mxL 91 = 2 := rfl
theorem mcE_91 : mcq 91 = 0 := rfl
theorem msE_91 : msq 91 = 0 := rfl
theorem cdE_92 : cd 92 = cX8_turn := rfl
theorem owE_92 : ow 92 = 8 := rfl
theorem mxE_92 : mxL 92 = 6 := rfl
theorem mcE_92 : mcq 92 = 0 := rfl
theorem msE_92 : msq 92 = 0 := rfl
theorem cdE_93 : cd 93 = cX8_hall := rfl
theorem owE_93 : ow 93 = 8 := rfl
theorem mxE_93 : mxL 93 = 4 := rfl
theorem mcE_93 : mcq 93 = 0 := rfl
theorem msE_93 : msq 93 = 0 := rfl
theorem cdE_94 : cd 94 = cX8_feed := rfl
theorem owE_94 : ow 94 = 8 := rfl
theorem mxE_94 : mxL 94 = 6 := rfl
theorem mcE_94 : mcq 94 = 0 := rfl
theorem msE_94 : msq 94 = 0 := rfl
theorem cdE_95 : cd 95 = cX8_four := rfl
theorem owE_95 : ow 95 = 8 := rfl
theorem mxE_95 : mxL 95 = 3 := rfl
theorem mcE_95 : mcq 95 = 0 := rfl
theorem msE_95 : msq 95 = 0 := rfl
theorem cdE_96 : cd 96 = cX8_blanks := rfl
theorem owE_96 : ow 96 = 8 := rfl
theorem mxE_96 : mxL 96 = 1 := rfl
theorem mcE_96 : mcq 96 = 0 := rfl
theorem msE_96 : msq 96 = 0 := rfl
theorem cdE_97 : cd 97 = cX8_word := rfl
theorem owE_97 : ow 97 = 8 := rfl
theorem mxE_97 : mxL 97 = 3 := rfl
theorem mcE_97 : mcq 97 = 0 := rfl
theorem msE_97 : msq 97 = 0 := rfl
theorem cdE_98 : cd 98 = cX8_takes := rfl
theorem owE_98 : ow 98 = 8 := rfl
theorem mxE_98 : mxL 98 = 3 := rfl
theorem mcE_98 : mcq 98 = 0 := rfl
theorem msE_98 : msq 98 = 0 := rfl
theorem cdE_99 : cd 99 = cX8_takesNumber := rfl
theorem owE_99 : ow 99 = 8 := rfl
theorem mxE_99 : mxL 99 = 2 := rfl
theorem mcE_99 : mcq 99 = 0 := rfl
theorem msE_99 : msq 99 = 0 := rfl
theorem cdE_100 : cd 100 = cX8_statement := rfl
theorem owE_100 : ow 100 = 8 := rfl
theorem mxE_100 : mxL 100 = 2 := rfl
theorem mcE_100 : mcq 100 = 0 := rfl
theorem msE_100 : msq 100 = 0 := rfl
theorem cdE_101 : cd 101 = cX8_sign := rfl
theorem owE_101 : ow 101 = 8 := rfl
theorem mxE_101 : mxL 101 = 6 := rfl
theorem mcE_101 : mcq 101 = 0 := rfl
theorem msE_101 : msq 101 = 0 := rfl
theorem cdE_102 : cd 102 = cX8_fault := rfl
theorem owE_102 : ow 102 = 8 := rfl
theorem mxE_102 : mxL 102 = 1 := rfl
theorem mcE_102 : mcq 102 = 0 := rfl
theorem msE_102 : msq 102 = 0 := rfl
theorem cdE_103 : cd 103 = cX8_inForce := rfl
theorem owE_103 : ow 103 = 8 := rfl
theorem mxE_103 : mxL 103 = 6 := rfl
theorem mcE_103 : mcq 103 = 0 := rfl
theorem msE_103 : msq 103 = 0 := rfl
theorem cdE_104 : cd 104 = cX8_force := rfl
theorem owE_104 : ow 104 = 8 := rfl
theorem mxE_104 : mxL 104 = 4 := rfl
theorem mcE_104 : mcq 104 = 0 := rfl
theorem msE_104 : msq 104 = 0 := rfl
theorem cdE_105 : cd 105 = cX8_lastOf := rfl
theorem owE_105 : ow 105 = 8 := rfl
theorem mxE_105 : mxL 105 = 5 := rfl
theorem mcE_105 : mcq 105 = 0 := rfl
theorem msE_105 : msq 105 = 0 := rfl
theorem cdE_106 : cd 106 = cX8_tells := rfl
theorem owE_106 : ow 106 = 8 := rfl
theorem mxE_106 : mxL 106 = 6 := rfl
theorem mcE_106 : mcq 106 = 0 := rfl
theorem msE_106 : msq 106 = 0 := rfl
theorem cdE_107 : cd 107 = cX8_bars := rfl
theorem owE_107 : ow 107 = 8 := rfl
theorem mxE_107 : mxL 107 = 7 := rfl
theorem mcE_107 : mcq 107 = 0 := rfl
theorem msE_107 : msq 107 = 0 := rfl
theorem cdE_108 : cd 108 = cX8_hallOf := rfl
theorem owE_108 : ow 108 = 8 := rfl
theorem mxE_108 : mxL 108 = 3 := rfl
theorem mcE_108 : mcq 108 = 0 := rfl
theorem msE_108 : msq 108 = 0 := rfl
theorem cdE_109 : cd 109 = cX8_isFarFrom := rfl
theorem owE_109 : ow 109 = 8 := rfl
theorem mxE_109 : mxL 109 = 4 := rfl
theorem mcE_109 : mcq 109 = 0 := rfl
theorem msE_109 : msq 109 = 0 := rfl
theorem cdE_110 : cd 110 = cX8_why := rfl
theorem owE_110 : ow 110 = 8 := rfl
theorem mxE_110 : mxL 110 = 14 := rfl
theorem mcE_110 : mcq 110 = 0 := rfl
theorem msE_110 : msq 110 = 0 := rfl
theorem cdE_111 : cd 111 = cX8_many := rfl
theorem owE_111 : ow 111 = 8 := rfl
theorem mxE_111 : mxL 111 = 5 := rfl
theorem mcE_111 : mcq 111 = 0 := rfl
theorem msE_111 : msq 111 = 0 := rfl
theorem cdE_112 : cd 112 = cX8_book := rfl
theorem owE_112 : ow 112 = 8 := rfl
theorem mxE_112 : mxL 112 = 4 := rfl
theorem mcE_112 : mcq 112 = 0 := rfl
theorem msE_112 : msq 112 = 0 := rfl
theorem cdE_113 : cd 113 = cX8_isBooked := rfl
theorem owE_113 : ow 113 = 8 := rfl
theorem mxE_113 : mxL 113 = 3 := rfl
theorem mcE_113 : mcq 113 = 0 := rfl
theorem msE_113 : msq 113 = 0 := rfl
theorem cdE_114 : cd 114 = cX8_cancel := rfl
theorem owE_114 : ow 114 = 8 := rfl
theorem mxE_114 : mxL 114 = 3 := rfl
theorem mcE_114 : mcq 114 = 0 := rfl
theorem msE_114 : msq 114 = 0 := rfl
theorem cdE_115 : cd 115 = cX8_where := rfl
theorem owE_115 : ow 115 = 8 := rfl
theorem mxE_115 : mxL 115 = 3 := rfl
theorem mcE_115 : mcq 115 = 0 := rfl
theorem msE_115 : msq 115 = 0 := rfl
theorem cdE_116 : cd 116 = cX8_bill := rfl
theorem owE_116 : ow 116 = 8 := rfl
theorem mxE_116 : mxL 116 = 10 := rfl
theorem mcE_116 : mcq 116 = 0 := rfl
theorem msE_116 : msq 116 = 0 := rfl
theorem cdE_117 : cd 117 = cX8_mayLie := rfl
theorem owE_117 : ow 117 = 8 := rfl
theorem mxE_117 : mxL 117 = 5 := rfl
theorem mcE_117 : mcq 117 = 0 := rfl
theorem msE_117 : msq 117 = 0 := rfl
theorem cdE_118 : cd 118 = cX8_wait := rfl
theorem owE_118 : ow 118 = 8 := rfl
theorem mxE_118 : mxL 118 = 3 := rfl
theorem mcE_118 : mcq 118 = 0 := rfl
theorem msE_118 : msq 118 = 0 := rfl
theorem cdE_119 : cd 119 = cX8_lays := rfl
theorem owE_119 : ow 119 = 8 := rfl
theorem mxE_119 : mxL 119 = 11 := rfl
theorem mcE_119 : mcq 119 = 0 := rfl
theorem msE_119 : msq 119 = 0 := rfl
theorem cdE_120 : cd 120 = cX8_many_ := rfl
theorem owE_120 : ow 120 = 8 := rfl
theorem mxE_120 : mxL 120 = 3 := rfl
theorem mcE_120 : mcq 120 = 0 := rfl
theorem msE_120 : msq 120 = 0 := rfl
theorem cdE_121 : cd 121 = cX8_order := rfl
theorem owE_121 : ow 121 = 8 := rfl
theorem mxE_121 : mxL 121 = 4 := rfl
theorem mcE_121 : mcq 121 = 0 := rfl
theorem msE_121 : msq 121 = 0 := rfl
theorem cdE_122 : cd 122 = cX8_waits := rfl
theorem owE_122 : ow 122 = 8 := rfl
theorem mxE_122 : mxL 122 = 3 := rfl
theorem mcE_122 : mcq 122 = 0 := rfl
theorem msE_122 : msq 122 = 0 := rfl
theorem cdE_123 : cd 123 = cX8_bestFor := rfl
theorem owE_123 : ow 123 = 8 := rfl
theorem mxE_123 : mxL 123 = 6 := rfl
theorem mcE_123 : mcq 123 = 0 := rfl
theorem msE_123 : msq 123 = 0 := rfl
theorem cdE_124 : cd 124 = cX8_fail := rfl
theorem owE_124 : ow 124 = 8 := rfl
theorem mxE_124 : mxL 124 = 5 := rfl
theorem mcE_124 : mcq 124 = 0 := rfl
theorem msE_124 : msq 124 = 0 := rfl
theorem cdE_125 : cd 125 = cX8_fill := rfl
theorem owE_125 : ow 125 = 8 := rfl
theorem mxE_125 : mxL 125 = 5 := rfl
theorem mcE_125 : mcq 125 = 0 := rfl
theorem msE_125 : msq 125 = 0 := rfl
theorem cdE_126 : cd 126 = cX8_pay := rfl
theorem owE_126 : ow 126 = 8 := rfl
theorem mxE_126 : mxL 126 = 4 := rfl
theorem mcE_126 : mcq 126 = 0 := rfl
theorem msE_126 : msq 126 = 0 := rfl
theorem cdE_127 : cd 127 = cX8_turnOf := rfl
theorem owE_127 : ow 127 = 8 := rfl
theorem mxE_127 : mxL 127 = 5 := rfl
theorem mcE_127 : mcq 127 = 0 := rfl
theorem msE_127 : msq 127 = 0 := rfl
theorem cdE_128 : cd 128 = cX8_count := rfl
theorem owE_128 : ow 128 = 8 := rfl
theorem mxE_128 : mxL 128 = 2 := rfl
theorem mcE_128 : mcq 128 = 0 := rfl
theorem msE_128 : msq 128 = 0 := rfl
theorem cdE_129 : cd 129 = cJ6_bitCount_0f7a4 := rfl
theorem owE_129 : ow 129 = 14 := rfl
theorem mxE_129 : mxL 129 = 1 := rfl
theorem mcE_129 : mcq 129 = 0 := rfl
theorem msE_129 : msq 129 = 0 := rfl
theorem cdE_130 : cd 130 = cJ0_length_8abf5 := rfl
theorem owE_130 : ow 130 = 10 := rfl
theorem mxE_130 : mxL 130 = 1 := rfl
theorem mcE_130 : mcq 130 = 0 := rfl
theorem msE_130 : msq 130 = 0 := rfl
theorem cdE_131 : cd 131 = cJ0_charAt_5068e := rfl
theorem owE_131 : ow 131 = 10 := rfl
theorem mxE_131 : mxL 131 = 2 := rfl
theorem mcE_131 : mcq 131 = 0 := rfl
theorem msE_131 : msq 131 = 0 := rfl
theorem cdE_132 : cd 132 = cJ0_coder_7d493 := rfl
theorem owE_132 : ow 132 = 10 := rfl
theorem mxE_132 : mxL 132 = 1 := rfl
theorem mcE_132 : mcq 132 = 0 := rfl
theorem msE_132 : msq 132 = 0 := rfl
theorem cdE_133 : cd 133 = cJ0_isLatin1_aae02 := rfl
theorem owE_133 : ow 133 = 10 := rfl
theorem mxE_133 : mxL 133 = 1 := rfl
theorem mcE_133 : mcq 133 = 0 := rfl
theorem msE_133 : msq 133 = 0 := rfl
theorem cdE_134 : cd 134 = cJ0_checkIndex_df160 := rfl
theorem owE_134 : ow 134 = 10 := rfl
theorem mxE_134 : mxL 134 = 2 := rfl
theorem mcE_134 : mcq 134 = 0 := rfl
theorem msE_134 : msq 134 = 0 := rfl
theorem cdE_135 : cd 135 = cJ1_charAt_3b067 := rfl
theorem owE_135 : ow 135 = 11 := rfl
theorem mxE_135 : mxL 135 = 2 := rfl
theorem mcE_135 : mcq 135 = 0 := rfl
theorem msE_135 : msq 135 = 0 := rfl
theorem cdE_136 : cd 136 = cJ3_checkIndex_8e157 := rfl
theorem owE_136 : ow 136 = 13 := rfl
theorem mxE_136 : mxL 136 = 3 := rfl
theorem mcE_136 : mcq 136 = 0 := rfl
theorem msE_136 : msq 136 = 0 := rfl
theorem cdE_137 : cd 137 = cL_law := rfl
theorem owE_137 : ow 137 = 9 := rfl
theorem mxE_137 : mxL 137 = 4 := rfl
theorem mcE_137 : mcq 137 = 600000 := rfl
theorem msE_137 : msq 137 = 7302249 := rfl

theorem e_0_0 {d : Nat} {R : Rt} {L : Lo} {S : List Value} {G : Mem} {z c s : Nat} : WP d 0 R 0 L S G z c s = (okR (lgo L 0) ∧ WP d 0 R 1 L (va_rf (vR (lgo L 0)) :: S) G z c s) := q_aload_n cdE_0 dX0_init_0 rfl
theorem e_0_1 {d : Nat} {R : Rt} {L : Lo} {S : List Value} {G : Mem} {z c s : Nat} {b : Nat} : WP d 0 R 1 L (va_rf (some b) :: S) G z c s = (S.length ≤ 4 ∧ WP d 0 R 4 L S G z c s) := q_obj cdE_0 dX0_init_1 owE_0 (j2 := 0) rfl
theorem e_0_4 {d : Nat} {R : Rt} {L : Lo} {S : List Value} {G : Mem} {z c s : Nat} : WP d 0 R 4 L S G z c s = (okR (lgo L 0) ∧ WP d 0 R 5 L (va_rf (vR (lgo L 0)) :: S) G z c s) := q_aload_n cdE_0 dX0_init_4 rfl
theorem e_0_5 {d : Nat} {R : Rt} {L : Lo} {S : List Value} {G : Mem} {z c s : Nat} : WP d 0 R 5 L S G z c s = WP d 0 R 7 L (.int 9 :: S) G z c s := q_bipush cdE_0 dX0_init_5 (by decide)
theorem e_0_7 {d : Nat} {R : Rt} {L : Lo} {S : List Value} {G : Mem} {z c s : Nat} {n : Int32} : WP d 0 R 7 L (.int n :: S) G z c s = (¬ n < 0 ∧ n.toNatClampNeg ≤ 100000 ∧ c + 1 ≤ 5 ∧ s + n.toNatClampNeg ≤ 4644 ∧ WP d 0 R 9 L (va_rf (some z) :: S) (nA G z 22 n.toNatClampNeg) (z + 1) (c + 1) (s + n.toNatClampNeg)) := q_newa cdE_0 dX0_init_7 rfl mcE_0 msE_0
theorem e_0_9 {d : Nat} {R : Rt} {L : Lo} {S : List Value} {G : Mem} {z c s : Nat} {a : Nat} {r : Option Nat} : WP d 0 R 9 L (va_rf r :: va_rf (some a) :: S) G z c s = (mK G a = 0 ∧ WP d 0 R 12 L S (pR G 0 0 a r) z c s) := q_putR cdE_0 dX0_init_9 owE_0 rfl (by decide) (by decide)
theorem e_0_12 {d : Nat} {R : Rt} {L : Lo} {S : List Value} {G : Mem} {z c s : Nat} : WP d 0 R 12 L S G z c s = (okR (lgo L 0) ∧ WP d 0 R 13 L (va_rf (vR (lgo L 0)) :: S) G z c s) := q_aload_n cdE_0 dX0_init_12 rfl
theorem e_0_13 {d : Nat} {R : Rt} {L : Lo} {S : List Value} {G : Mem} {z c s : Nat} : WP d 0 R 13 L S G z c s = WP d 0 R 15 L (.int 9 :: S) G z c s := q_bipush cdE_0 dX0_init_13 (by decide)
theorem e_0_15 {d : Nat} {R : Rt} {L : Lo} {S : List Value} {G : Mem} {z c s : Nat} {n : Int32} : WP d 0 R 15 L (.int n :: S) G z c s = (¬ n < 0 ∧ n.toNatClampNeg ≤ 100000 ∧ c + 1 ≤ 5 ∧ s + n.toNatClampNeg ≤ 4644 ∧ WP d 0 R 17 L (va_rf (some z) :: S) (nA G z 22 n.toNatClampNeg) (z + 1) (c + 1) (s + n.toNatClampNeg)) := q_newa cdE_0 dX0_init_15 rfl mcE_0 msE_0
theorem e_0_17 {d : Nat} {R : Rt} {L : Lo} {S : List Value} {G : Mem} {z c s : Nat} {a : Nat} {r : Option Nat} : WP d 0 R 17 L (va_rf r :: va_rf (some a) :: S) G z c s = (mK G a = 0 ∧ WP d 0 R 20 L S (pR G 0 1 a r) z c s) := q_putR cdE_0 dX0_init_17 owE_0 rfl (by decide) (by decide)
theorem e_0_20 {d : Nat} {R : Rt} {L : Lo} {S : List Value} {G : Mem} {z c s : Nat} : WP d 0 R 20 L S G z c s = (okR (lgo L 0) ∧ WP d 0 R 21 L (va_rf (vR (lgo L 0)) :: S) G z c s) := q_aload_n cdE_0 dX0_init_20 rfl
theorem e_0_21 {d : Nat} {R : Rt} {L : Lo} {S : List Value} {G : Mem} {z c s : Nat} : WP d 0 R 21 L S G z c s = WP d 0 R 23 L (.int 9 :: S) G z c s := q_bipush cdE_0 dX0_init_21 (by decide)
theorem e_0_23 {d : Nat} {R : Rt} {L : Lo} {S : List Value} {G : Mem} {z c s : Nat} {n : Int32} : WP d 0 R 23 L (.int n :: S) G z c s = (¬ n < 0 ∧ n.toNatClampNeg ≤ 100000 ∧ c + 1 ≤ 5 ∧ s + n.toNatClampNeg ≤ 4644 ∧ WP d 0 R 25 L (va_rf (some z) :: S) (nA G z 20 n.toNatClampNeg) (z + 1) (c + 1) (s + n.toNatClampNeg)) := q_newa cdE_0 dX0_init_23 rfl mcE_0 msE_0
theorem e_0_25 {d : Nat} {R : Rt} {L : Lo} {S : List Value} {G : Mem} {z c s : Nat} {a : Nat} {r : Option Nat} : WP d 0 R 25 L (va_rf r :: va_rf (some a) :: S) G z c s = (mK G a = 0 ∧ WP d 0 R 28 L S (pR G 0 2 a r) z c s) := q_putR cdE_0 dX0_init_25 owE_0 rfl (by decide) (by decide)
theorem e_0_28 {d : Nat} {R : Rt} {L : Lo} {S : List Value} {G : Mem} {z c s : Nat} : WP d 0 R 28 L S G z c s = (okR (lgo L 0) ∧ WP d 0 R 29 L (va_rf (vR (lgo L 0)) :: S) G z c s) := q_aload_n cdE_0 dX0_init_28 rfl
theorem e_0_29 {d : Nat} {R : Rt} {L : Lo} {S : List Value} {G : Mem} {z c s : Nat} : WP d 0 R 29 L S G z c s = WP d 0 R 32 L (.int 4608 :: S) G z c s := q_sipush cdE_0 dX0_init_29 (by decide)
theorem e_0_32 {d : Nat} {R : Rt} {L : Lo} {S : List Value} {G : Mem} {z c s : Nat} {n : Int32} : WP d 0 R 32 L (.int n :: S) G z c s = (¬ n < 0 ∧ n.toNatClampNeg ≤ 100000 ∧ c + 1 ≤ 5 ∧ s + n.toNatClampNeg ≤ 4644 ∧ WP d 0 R 34 L (va_rf (some z) :: S) (nA G z 20 n.toNatClampNeg) (z + 1) (c + 1) (s + n.toNatClampNeg)) := q_newa cdE_0 dX0_init_32 rfl mcE_0 msE_0
theorem e_0_34 {d : Nat} {R : Rt} {L : Lo} {S : List Value} {G : Mem} {z c s : Nat} {a : Nat} {r : Option Nat} : WP d 0 R 34 L (va_rf r :: va_rf (some a) :: S) G z c s = (mK G a = 0 ∧ WP d 0 R 37 L S (pR G 0 3 a r) z c s) := q_putR cdE_0 dX0_init_34 owE_0 rfl (by decide) (by decide)
theorem e_0_37 {d : Nat} {R : Rt} {L : Lo} {S : List Value} {G : Mem} {z c s : Nat} : WP d 0 R 37 L S G z c s = (okR (lgo L 0) ∧ WP d 0 R 38 L (va_rf (vR (lgo L 0)) :: S) G z c s) := q_aload_n cdE_0 dX0_init_37 rfl
theorem e_0_38 {d : Nat} {R : Rt} {L : Lo} {S : List Value} {G : Mem} {z c s : Nat} : WP d 0 R 38 L S G z c s = WP d 0 R 40 L (.int 9 :: S) G z c s := q_bipush cdE_0 dX0_init_38 (by decide)
theorem e_0_40 {d : Nat} {R : Rt} {L : Lo} {S : List Value} {G : Mem} {z c s : Nat} {n : Int32} : WP d 0 R 40 L (.int n :: S) G z c s = (¬ n < 0 ∧ n.toNatClampNeg ≤ 100000 ∧ c + 1 ≤ 5 ∧ s + n.toNatClampNeg ≤ 4644 ∧ WP d 0 R 42 L (va_rf (some z) :: S) (nA G z 20 n.toNatClampNeg) (z + 1) (c + 1) (s + n.toNatClampNeg)) := q_newa cdE_0 dX0_init_40 rfl mcE_0 msE_0
theorem e_0_42 {d : Nat} {R : Rt} {L : Lo} {S : List Value} {G : Mem} {z c s : Nat} {a : Nat} {r : Option Nat} : WP d 0 R 42 L (va_rf r :: va_rf (some a) :: S) G z c s = (mK G a = 0 ∧ WP d 0 R 45 L S (pR G 0 4 a r) z c s) := q_putR cdE_0 dX0_init_42 owE_0 rfl (by decide) (by decide)
theorem e_0_45 {d : Nat} {R : Rt} {L : Lo} {S : List Value} {G : Mem} {z c s : Nat} : WP d 0 R 45 L S G z c s = (okR (lgo L 0) ∧ WP d 0 R 46 L (va_rf (vR (lgo L 0)) :: S) G z c s) := q_aload_n cdE_0 dX0_init_45 rfl
theorem e_0_46 {d : Nat} {R : Rt} {L : Lo} {S : List Value} {G : Mem} {z c s : Nat} : WP d 0 R 46 L S G z c s = WP d 0 R 47 L (.int (-1) :: S) G z c s := q_iconst cdE_0 dX0_init_46 (by decide)
theorem e_0_47 {d : Nat} {R : Rt} {L : Lo} {S : List Value} {G : Mem} {z c s : Nat} {a : Nat} {v : Int32} : WP d 0 R 47 L (.int v :: va_rf (some a) :: S) G z c s = (mK G a = 0 ∧ WP d 0 R 50 L S (pI G 0 6 a v) z c s) := q_putI cdE_0 dX0_init_47 owE_0 rfl (by decide) rfl
theorem e_0_50 {d : Nat} {R : Rt} {L : Lo} {G : Mem} {z c s : Nat} : WP d 0 R 50 L [] G z c s = (c ≤ 5 ∧ s ≤ 4644 ∧ R none G z) := q_vret cdE_0 dX0_init_50 rfl mcE_0 msE_0
theorem e_1_0 {d : Nat} {R : Rt} {L : Lo} {S : List Value} {G : Mem} {z c s : Nat} : WP d 1 R 0 L S G z c s = (okR (lgo L 0) ∧ WP d 1 R 1 L (va_rf (vR (lgo L 0)) :: S) G z c s) := q_aload_n cdE_1 dX0_numberAt_0 rfl
theorem e_1_1 {d : Nat} {R : Rt} {L : Lo} {S : List Value} {G : Mem} {z c s : Nat} {a : Nat} : WP d 1 R 1 L (va_rf (some a) :: S) G z c s = (mK G a = 0 ∧ WP d 1 R 4 L (.int (mI G 0 6 a) :: S) G z c s) := q_getI cdE_1 dX0_numberAt_1 owE_1 rfl (by decide)
theorem e_1_4 {d : Nat} {R : Rt} {L : Lo} {S : List Value} {G : Mem} {z c s : Nat} : WP d 1 R 4 L S G z c s = WP d 1 R 5 L (.int (-1) :: S) G z c s := q_iconst cdE_1 dX0_numberAt_4 (by decide)
theorem e_1_5 {d : Nat} {R : Rt} {L : Lo} {S : List Value} {G : Mem} {z c s : Nat} {x y : Int32} : WP d 1 R 5 L (.int y :: .int x :: S) G z c s = if x = y then WP d 1 R 31 L S G z c s else WP d 1 R 8 L S G z c s := q_iceq cdE_1 dX0_numberAt_5 (by decide)
theorem e_1_8 {d : Nat} {R : Rt} {L : Lo} {S : List Value} {G : Mem} {z c s : Nat} : WP d 1 R 8 L S G z c s = (okI (lgo L 1) ∧ WP d 1 R 9 L (.int (vI (lgo L 1)) :: S) G z c s) := q_iload_n cdE_1 dX0_numberAt_8 rfl
theorem e_1_9 {d : Nat} {R : Rt} {L : Lo} {S : List Value} {G : Mem} {z c s : Nat} : WP d 1 R 9 L S G z c s = WP d 1 R 10 L (.int 0 :: S) G z c s := q_iconst cdE_1 dX0_numberAt_9 (by decide)
theorem e_1_10 {d : Nat} {R : Rt} {L : Lo} {S : List Value} {G : Mem} {z c s : Nat} : WP d 1 R 10 L S G z c s = (okR (lgo L 0) ∧ WP d 1 R 11 L (va_rf (vR (lgo L 0)) :: S) G z c s) := q_aload_n cdE_1 dX0_numberAt_10 rfl
theorem e_1_11 {d : Nat} {R : Rt} {L : Lo} {S : List Value} {G : Mem} {z c s : Nat} {a : Nat} : WP d 1 R 11 L (va_rf (some a) :: S) G z c s = (mK G a = 0 ∧ WP d 1 R 14 L (.int (mI G 0 5 a) :: S) G z c s) := q_getI cdE_1 dX0_numberAt_11 owE_1 rfl (by decide)
theorem e_1_14 {d : Nat} {R : Rt} {L : Lo} {S : List Value} {G : Mem} {z c s : Nat} : WP d 1 R 14 L S G z c s = WP d 1 R 15 L (.int 1 :: S) G z c s := q_iconst cdE_1 dX0_numberAt_14 (by decide)
theorem e_1_15 {d : Nat} {R : Rt} {L : Lo} {S : List Value} {G : Mem} {z c s : Nat} {x y : Int32} : WP d 1 R 15 L (.int y :: .int x :: S) G z c s = WP d 1 R 16 L (.int (x - y) :: S) G z c s := q_isub cdE_1 dX0_numberAt_15
theorem e_1_16 {d : Nat} {R : Rt} {L : Lo} {S : List Value} {G : Mem} {z c s : Nat} {a0 : Int32} {a1 : Int32} {a2 : Int32} : WP d 1 R 16 L (.int a2 :: .int a1 :: .int a0 :: S) G z c s = (S.length ≤ 4 ∧ c + 0 ≤ 0 ∧ s + 0 ≤ 0 ∧ CALL d 68 [.int a0, .int a1, .int a2] G z (rtn d 1 R 19 L S (c + 0) (s + 0))) := q_callS (as := [.int a2, .int a1, .int a0]) cdE_1 dX0_numberAt_16 owE_1 (Or.inr rfl) rfl rfl (by simp only [List.reverse_cons, List.reverse_nil, List.nil_append, List.cons_append, entL, isL_int, isL_long, isL_rf, Bool.false_eq_true, if_false, if_true, List.length_cons, List.length_nil, mxE_68]; decide) mcE_1 msE_1 mcE_68 msE_68
theorem e_1_19 {d : Nat} {R : Rt} {L : Lo} {S : List Value} {G : Mem} {z c s : Nat} {x : Int32} : WP d 1 R 19 L (.int x :: S) G z c s = if x = 0 then WP d 1 R 31 L S G z c s else WP d 1 R 22 L S G z c s := q_ifeq cdE_1 dX0_numberAt_19 (by decide)
theorem e_1_22 {d : Nat} {R : Rt} {L : Lo} {S : List Value} {G : Mem} {z c s : Nat} : WP d 1 R 22 L S G z c s = (okR (lgo L 0) ∧ WP d 1 R 23 L (va_rf (vR (lgo L 0)) :: S) G z c s) := q_aload_n cdE_1 dX0_numberAt_22 rfl
theorem e_1_23 {d : Nat} {R : Rt} {L : Lo} {S : List Value} {G : Mem} {z c s : Nat} {a : Nat} : WP d 1 R 23 L (va_rf (some a) :: S) G z c s = (mK G a = 0 ∧ WP d 1 R 26 L (va_rf (mR G 0 4 a) :: S) G z c s) := q_getR cdE_1 dX0_numberAt_23 owE_1 rfl (by decide)
theorem e_1_26 {d : Nat} {R : Rt} {L : Lo} {S : List Value} {G : Mem} {z c s : Nat} : WP d 1 R 26 L S G z c s = (okI (lgo L 1) ∧ WP d 1 R 27 L (.int (vI (lgo L 1)) :: S) G z c s) := q_iload_n cdE_1 dX0_numberAt_26 rfl
theorem e_1_27 {d : Nat} {R : Rt} {L : Lo} {S : List Value} {G : Mem} {z c s : Nat} {a : Nat} {i : Int32} : WP d 1 R 27 L (.int i :: va_rf (some a) :: S) G z c s = ((mK G a = 20 ∨ mK G a = 25) ∧ vp_in i (mN G a) ∧ WP d 1 R 28 L (.int (mE G a i.toNatClampNeg) :: S) G z c s) := q_iald cdE_1 dX0_numberAt_27
theorem e_1_28 {d : Nat} {R : Rt} {L : Lo} {S : List Value} {G : Mem} {z c s : Nat} : WP d 1 R 28 L S G z c s = WP d 1 R 32 L S G z c s := q_goto cdE_1 dX0_numberAt_28 (by decide)
theorem e_1_31 {d : Nat} {R : Rt} {L : Lo} {S : List Value} {G : Mem} {z c s : Nat} : WP d 1 R 31 L S G z c s = WP d 1 R 32 L (.int (-1) :: S) G z c s := q_iconst cdE_1 dX0_numberAt_31 (by decide)
theorem e_1_32 {d : Nat} {R : Rt} {L : Lo} {G : Mem} {z c s : Nat} {v : Int32} : WP d 1 R 32 L [.int v] G z c s = (c ≤ 0 ∧ s ≤ 0 ∧ R (some (.int v)) G z) := q_iret cdE_1 dX0_numberAt_32 rfl mcE_1 msE_1
theorem e_2_0 {d : Nat} {R : Rt} {L : Lo} {S : List Value} {G : Mem} {z c s : Nat} : WP d 2 R 0 L S G z c s = (okR (lgo L 0) ∧ WP d 2 R 1 L (va_rf (vR (lgo L 0)) :: S) G z c s) := q_aload_n cdE_2 dX0_lay_0 rfl
theorem e_2_1 {d : Nat} {R : Rt} {L : Lo} {S : List Value} {G : Mem} {z c s : Nat} : WP d 2 R 1 L S G z c s = (okR (lgo L 1) ∧ WP d 2 R 2 L (va_rf (vR (lgo L 1)) :: S) G z c s) := q_aload_n cdE_2 dX0_lay_1 rfl
theorem e_2_2 {d : Nat} {R : Rt} {L : Lo} {S : List Value} {G : Mem} {z c s : Nat} {a : Nat} : WP d 2 R 2 L (va_rf (some a) :: S) G z c s = (mK G a = 1 ∧ WP d 2 R 5 L (.int (mI G 1 1 a) :: S) G z c s) := q_getI cdE_2 dX0_lay_2 owE_2 rfl (by decide)
theorem e_2_5 {d : Nat} {R : Rt} {L : Lo} {S : List Value} {G : Mem} {z c s : Nat} : WP d 2 R 5 L S G z c s = WP d 2 R 7 L (.int 9 :: S) G z c s := q_bipush cdE_2 dX0_lay_5 (by decide)
theorem e_2_7 {d : Nat} {R : Rt} {L : Lo} {S : List Value} {G : Mem} {z c s : Nat} {x y : Int32} : WP d 2 R 7 L (.int y :: .int x :: S) G z c s = (S.length ≤ 4 ∧ c ≤ 0 ∧ s ≤ 0 ∧ WP d 2 R 10 L (.int (if y < x then y else x) :: S) G z c s) := q_min cdE_2 dX0_lay_7 owE_2 (j2 := 0) rfl mcE_2 msE_2
theorem e_2_10 {d : Nat} {R : Rt} {L : Lo} {S : List Value} {G : Mem} {z c s : Nat} {a : Nat} {v : Int32} : WP d 2 R 10 L (.int v :: va_rf (some a) :: S) G z c s = (mK G a = 0 ∧ WP d 2 R 13 L S (pI G 0 5 a v) z c s) := q_putI cdE_2 dX0_lay_10 owE_2 rfl (by decide) rfl
theorem e_2_13 {d : Nat} {R : Rt} {L : Lo} {S : List Value} {G : Mem} {z c s : Nat} : WP d 2 R 13 L S G z c s = (okR (lgo L 0) ∧ WP d 2 R 14 L (va_rf (vR (lgo L 0)) :: S) G z c s) := q_aload_n cdE_2 dX0_lay_13 rfl
theorem e_2_14 {d : Nat} {R : Rt} {L : Lo} {S : List Value} {G : Mem} {z c s : Nat} : WP d 2 R 14 L S G z c s = WP d 2 R 15 L (.int (-1) :: S) G z c s := q_iconst cdE_2 dX0_lay_14 (by decide)
theorem e_2_15 {d : Nat} {R : Rt} {L : Lo} {S : List Value} {G : Mem} {z c s : Nat} {a : Nat} {v : Int32} : WP d 2 R 15 L (.int v :: va_rf (some a) :: S) G z c s = (mK G a = 0 ∧ WP d 2 R 18 L S (pI G 0 6 a v) z c s) := q_putI cdE_2 dX0_lay_15 owE_2 rfl (by decide) rfl
theorem e_2_18 {d : Nat} {R : Rt} {L : Lo} {S : List Value} {G : Mem} {z c s : Nat} : WP d 2 R 18 L S G z c s = (okR (lgo L 0) ∧ WP d 2 R 19 L (va_rf (vR (lgo L 0)) :: S) G z c s) := q_aload_n cdE_2 dX0_lay_18 rfl
theorem e_2_19 {d : Nat} {R : Rt} {L : Lo} {S : List Value} {G : Mem} {z c s : Nat} {a : Nat} : WP d 2 R 19 L (va_rf (some a) :: S) G z c s = (mK G a = 0 ∧ WP d 2 R 22 L (.int (mI G 0 5 a) :: S) G z c s) := q_getI cdE_2 dX0_lay_19 owE_2 rfl (by decide)
theorem e_2_22 {d : Nat} {R : Rt} {L : Lo} {S : List Value} {G : Mem} {z c s : Nat} {x : Int32} : WP d 2 R 22 L (.int x :: S) G z c s = if x ≤ 0 then WP d 2 R 41 L S G z c s else WP d 2 R 25 L S G z c s := q_ifle cdE_2 dX0_lay_22 (by decide)
theorem e_2_25 {d : Nat} {R : Rt} {L : Lo} {S : List Value} {G : Mem} {z c s : Nat} : WP d 2 R 25 L S G z c s = (okR (lgo L 0) ∧ WP d 2 R 26 L (va_rf (vR (lgo L 0)) :: S) G z c s) := q_aload_n cdE_2 dX0_lay_25 rfl
theorem e_2_26 {d : Nat} {R : Rt} {L : Lo} {S : List Value} {G : Mem} {z c s : Nat} : WP d 2 R 26 L S G z c s = (okR (lgo L 1) ∧ WP d 2 R 27 L (va_rf (vR (lgo L 1)) :: S) G z c s) := q_aload_n cdE_2 dX0_lay_26 rfl
theorem e_2_27 {d : Nat} {R : Rt} {L : Lo} {S : List Value} {G : Mem} {z c s : Nat} : WP d 2 R 27 L S G z c s = (okI (lgo L 2) ∧ WP d 2 R 28 L (.int (vI (lgo L 2)) :: S) G z c s) := q_iload_n cdE_2 dX0_lay_27 rfl
theorem e_2_28 {d : Nat} {R : Rt} {L : Lo} {S : List Value} {G : Mem} {z c s : Nat} : WP d 2 R 28 L S G z c s = (okI (lgo L 3) ∧ WP d 2 R 29 L (.int (vI (lgo L 3)) :: S) G z c s) := q_iload_n cdE_2 dX0_lay_28 rfl
theorem e_2_29 {d : Nat} {R : Rt} {L : Lo} {S : List Value} {G : Mem} {z c s : Nat} {a0 : Option Nat} {a1 : Int32} {a2 : Int32} {b : Nat} : WP d 2 R 29 L (.int a2 :: .int a1 :: va_rf a0 :: va_rf (some b) :: S) G z c s = ((mK G b = 0) ∧ S.length ≤ 4 ∧ c + 0 ≤ 0 ∧ s + 0 ≤ 0 ∧ CALL d 3 [va_rf (some b), va_rf a0, .int a1, .int a2] G z (rtn d 2 R 32 L S (c + 0) (s + 0))) := q_callV (as := [.int a2, .int a1, va_rf a0]) cdE_2 dX0_lay_29 owE_2 rfl rfl rfl (by simp only [List.reverse_cons, List.reverse_nil, List.nil_append, List.cons_append, entL, isL_int, isL_long, isL_rf, Bool.false_eq_true, if_false, if_true, List.length_cons, List.length_nil, mxE_3]; decide) mcE_2 msE_2 mcE_3 msE_3
theorem e_2_32 {d : Nat} {R : Rt} {L : Lo} {S : List Value} {G : Mem} {z c s : Nat} : WP d 2 R 32 L S G z c s = (okR (lgo L 0) ∧ WP d 2 R 33 L (va_rf (vR (lgo L 0)) :: S) G z c s) := q_aload_n cdE_2 dX0_lay_32 rfl
theorem e_2_33 {d : Nat} {R : Rt} {L : Lo} {S : List Value} {G : Mem} {z c s : Nat} {b : Nat} : WP d 2 R 33 L (va_rf (some b) :: S) G z c s = ((mK G b = 0) ∧ S.length ≤ 4 ∧ c + 0 ≤ 0 ∧ s + 0 ≤ 0 ∧ CALL d 4 [va_rf (some b)] G z (rtn d 2 R 36 L S (c + 0) (s + 0))) := q_callV (as := []) cdE_2 dX0_lay_33 owE_2 rfl rfl rfl (by simp only [List.reverse_cons, List.reverse_nil, List.nil_append, List.cons_append, entL, isL_int, isL_long, isL_rf, Bool.false_eq_true, if_false, if_true, List.length_cons, List.length_nil, mxE_4]; decide) mcE_2 msE_2 mcE_4 msE_4
theorem e_2_36 {d : Nat} {R : Rt} {L : Lo} {S : List Value} {G : Mem} {z c s : Nat} : WP d 2 R 36 L S G z c s = (okR (lgo L 0) ∧ WP d 2 R 37 L (va_rf (vR (lgo L 0)) :: S) G z c s) := q_aload_n cdE_2 dX0_lay_36 rfl
theorem e_2_37 {d : Nat} {R : Rt} {L : Lo} {S : List Value} {G : Mem} {z c s : Nat} : WP d 2 R 37 L S G z c s = (okR (lgo L 1) ∧ WP d 2 R 38 L (va_rf (vR (lgo L 1)) :: S) G z c s) := q_aload_n cdE_2 dX0_lay_37 rfl
theorem e_2_38 {d : Nat} {R : Rt} {L : Lo} {S : List Value} {G : Mem} {z c s : Nat} {a0 : Option Nat} {b : Nat} : WP d 2 R 38 L (va_rf a0 :: va_rf (some b) :: S) G z c s = ((mK G b = 0) ∧ S.length ≤ 4 ∧ c + 0 ≤ 0 ∧ s + 0 ≤ 0 ∧ CALL d 8 [va_rf (some b), va_rf a0] G z (rtn d 2 R 41 L S (c + 0) (s + 0))) := q_callV (as := [va_rf a0]) cdE_2 dX0_lay_38 owE_2 rfl rfl rfl (by simp only [List.reverse_cons, List.reverse_nil, List.nil_append, List.cons_append, entL, isL_int, isL_long, isL_rf, Bool.false_eq_true, if_false, if_true, List.length_cons, List.length_nil, mxE_8]; decide) mcE_2 msE_2 mcE_8 msE_8
theorem e_2_41 {d : Nat} {R : Rt} {L : Lo} {G : Mem} {z c s : Nat} : WP d 2 R 41 L [] G z c s = (c ≤ 0 ∧ s ≤ 0 ∧ R none G z) := q_vret cdE_2 dX0_lay_41 rfl mcE_2 msE_2
theorem e_3_0 {d : Nat} {R : Rt} {L : Lo} {S : List Value} {G : Mem} {z c s : Nat} : WP d 3 R 0 L S G z c s = WP d 3 R 1 L (.int 0 :: S) G z c s := q_iconst cdE_3 dX0_findWhoMayStand_0 (by decide)
theorem e_3_1 {d : Nat} {R : Rt} {L : Lo} {S : List Value} {G : Mem} {z c s : Nat} {x : Int32} : WP d 3 R 1 L (.int x :: S) G z c s = (noL L 4 ∧ WP d 3 R 3 (lset L 4 (some (.int x))) S G z c s) := q_istore cdE_3 dX0_findWhoMayStand_1 mxE_3 (by decide)
theorem e_3_3 {d : Nat} {R : Rt} {L : Lo} {S : List Value} {G : Mem} {z c s : Nat} : WP d 3 R 3 L S G z c s = (okI (lgo L 4) ∧ WP d 3 R 5 L (.int (vI (lgo L 4)) :: S) G z c s) := q_iload cdE_3 dX0_findWhoMayStand_3
theorem e_3_5 {d : Nat} {R : Rt} {L : Lo} {S : List Value} {G : Mem} {z c s : Nat} : WP d 3 R 5 L S G z c s = (okR (lgo L 0) ∧ WP d 3 R 6 L (va_rf (vR (lgo L 0)) :: S) G z c s) := q_aload_n cdE_3 dX0_findWhoMayStand_5 rfl
theorem e_3_6 {d : Nat} {R : Rt} {L : Lo} {S : List Value} {G : Mem} {z c s : Nat} {a : Nat} : WP d 3 R 6 L (va_rf (some a) :: S) G z c s = (mK G a = 0 ∧ WP d 3 R 9 L (.int (mI G 0 5 a) :: S) G z c s) := q_getI cdE_3 dX0_findWhoMayStand_6 owE_3 rfl (by decide)
theorem e_3_9 {d : Nat} {R : Rt} {L : Lo} {S : List Value} {G : Mem} {z c s : Nat} {x y : Int32} : WP d 3 R 9 L (.int y :: .int x :: S) G z c s = if y ≤ x then WP d 3 R 26 L S G z c s else WP d 3 R 12 L S G z c s := q_icge cdE_3 dX0_findWhoMayStand_9 (by decide)
theorem e_3_12 {d : Nat} {R : Rt} {L : Lo} {S : List Value} {G : Mem} {z c s : Nat} : WP d 3 R 12 L S G z c s = (okR (lgo L 0) ∧ WP d 3 R 13 L (va_rf (vR (lgo L 0)) :: S) G z c s) := q_aload_n cdE_3 dX0_findWhoMayStand_12 rfl
theorem e_3_13 {d : Nat} {R : Rt} {L : Lo} {S : List Value} {G : Mem} {z c s : Nat} {a : Nat} : WP d 3 R 13 L (va_rf (some a) :: S) G z c s = (mK G a = 0 ∧ WP d 3 R 16 L (va_rf (mR G 0 2 a) :: S) G z c s) := q_getR cdE_3 dX0_findWhoMayStand_13 owE_3 rfl (by decide)
theorem e_3_16 {d : Nat} {R : Rt} {L : Lo} {S : List Value} {G : Mem} {z c s : Nat} : WP d 3 R 16 L S G z c s = (okI (lgo L 4) ∧ WP d 3 R 18 L (.int (vI (lgo L 4)) :: S) G z c s) := q_iload cdE_3 dX0_findWhoMayStand_16
theorem e_3_18 {d : Nat} {R : Rt} {L : Lo} {S : List Value} {G : Mem} {z c s : Nat} : WP d 3 R 18 L S G z c s = WP d 3 R 19 L (.int 0 :: S) G z c s := q_iconst cdE_3 dX0_findWhoMayStand_18 (by decide)
theorem e_3_19 {d : Nat} {R : Rt} {L : Lo} {S : List Value} {G : Mem} {z c s : Nat} {a : Nat} {i x : Int32} : WP d 3 R 19 L (.int x :: .int i :: va_rf (some a) :: S) G z c s = (mK G a = 20 ∧ vp_in i (mN G a) ∧ WP d 3 R 20 L S (pE G a i.toNatClampNeg x) z c s) := q_iast cdE_3 dX0_findWhoMayStand_19
theorem e_3_20 {d : Nat} {R : Rt} {L : Lo} {S : List Value} {G : Mem} {z c s : Nat} : WP d 3 R 20 L S G z c s = (okI (lgo L 4) ∧ noL L 4 ∧ WP d 3 R 23 (lset L 4 (some (.int (vI (lgo L 4) + 1)))) S G z c s) := q_iinc cdE_3 dX0_findWhoMayStand_20 mxE_3 (by decide) (by decide)
theorem e_3_23 {d : Nat} {R : Rt} {L : Lo} {S : List Value} {G : Mem} {z c s : Nat} : WP d 3 R 23 L S G z c s = WP d 3 R 3 L S G z c s := q_goto cdE_3 dX0_findWhoMayStand_23 (by decide)
theorem e_3_26 {d : Nat} {R : Rt} {L : Lo} {S : List Value} {G : Mem} {z c s : Nat} : WP d 3 R 26 L S G z c s = WP d 3 R 27 L (.int 0 :: S) G z c s := q_iconst cdE_3 dX0_findWhoMayStand_26 (by decide)
theorem e_3_27 {d : Nat} {R : Rt} {L : Lo} {S : List Value} {G : Mem} {z c s : Nat} {x : Int32} : WP d 3 R 27 L (.int x :: S) G z c s = (noL L 4 ∧ WP d 3 R 29 (lset L 4 (some (.int x))) S G z c s) := q_istore cdE_3 dX0_findWhoMayStand_27 mxE_3 (by decide)
theorem e_3_29 {d : Nat} {R : Rt} {L : Lo} {S : List Value} {G : Mem} {z c s : Nat} : WP d 3 R 29 L S G z c s = (okI (lgo L 4) ∧ WP d 3 R 31 L (.int (vI (lgo L 4)) :: S) G z c s) := q_iload cdE_3 dX0_findWhoMayStand_29
theorem e_3_31 {d : Nat} {R : Rt} {L : Lo} {S : List Value} {G : Mem} {z c s : Nat} : WP d 3 R 31 L S G z c s = (okR (lgo L 0) ∧ WP d 3 R 32 L (va_rf (vR (lgo L 0)) :: S) G z c s) := q_aload_n cdE_3 dX0_findWhoMayStand_31 rfl
theorem e_3_32 {d : Nat} {R : Rt} {L : Lo} {S : List Value} {G : Mem} {z c s : Nat} {a : Nat} : WP d 3 R 32 L (va_rf (some a) :: S) G z c s = (mK G a = 0 ∧ WP d 3 R 35 L (.int (mI G 0 5 a) :: S) G z c s) := q_getI cdE_3 dX0_findWhoMayStand_32 owE_3 rfl (by decide)
theorem e_3_35 {d : Nat} {R : Rt} {L : Lo} {S : List Value} {G : Mem} {z c s : Nat} {x y : Int32} : WP d 3 R 35 L (.int y :: .int x :: S) G z c s = if y ≤ x then WP d 3 R 250 L S G z c s else WP d 3 R 38 L S G z c s := q_icge cdE_3 dX0_findWhoMayStand_35 (by decide)
theorem e_3_38 {d : Nat} {R : Rt} {L : Lo} {S : List Value} {G : Mem} {z c s : Nat} : WP d 3 R 38 L S G z c s = (okR (lgo L 1) ∧ WP d 3 R 39 L (va_rf (vR (lgo L 1)) :: S) G z c s) := q_aload_n cdE_3 dX0_findWhoMayStand_38 rfl
theorem e_3_39 {d : Nat} {R : Rt} {L : Lo} {S : List Value} {G : Mem} {z c s : Nat} : WP d 3 R 39 L S G z c s = (okI (lgo L 4) ∧ WP d 3 R 41 L (.int (vI (lgo L 4)) :: S) G z c s) := q_iload cdE_3 dX0_findWhoMayStand_39
theorem e_3_41 {d : Nat} {R : Rt} {L : Lo} {S : List Value} {G : Mem} {z c s : Nat} {a0 : Int32} {b : Nat} : WP d 3 R 41 L (.int a0 :: va_rf (some b) :: S) G z c s = ((mK G b = 1) ∧ S.length ≤ 4 ∧ c + 0 ≤ 0 ∧ s + 0 ≤ 0 ∧ CALL d 14 [va_rf (some b), .int a0] G z (rtn d 3 R 44 L S (c + 0) (s + 0))) := q_callV (as := [.int a0]) cdE_3 dX0_findWhoMayStand_41 owE_3 rfl rfl rfl (by simp only [List.reverse_cons, List.reverse_nil, List.nil_append, List.cons_append, entL, isL_int, isL_long, isL_rf, Bool.false_eq_true, if_false, if_true, List.length_cons, List.length_nil, mxE_14]; decide) mcE_3 msE_3 mcE_14 msE_14
theorem e_3_44 {d : Nat} {R : Rt} {L : Lo} {S : List Value} {G : Mem} {z c s : Nat} {r : Option Nat} : WP d 3 R 44 L (va_rf r :: S) G z c s = (noL L 5 ∧ WP d 3 R 46 (lset L 5 (some (va_rf r))) S G z c s) := q_astore cdE_3 dX0_findWhoMayStand_44 mxE_3 (by decide)
theorem e_3_46 {d : Nat} {R : Rt} {L : Lo} {S : List Value} {G : Mem} {z c s : Nat} : WP d 3 R 46 L S G z c s = (okR (lgo L 0) ∧ WP d 3 R 47 L (va_rf (vR (lgo L 0)) :: S) G z c s) := q_aload_n cdE_3 dX0_findWhoMayStand_46 rfl
theorem e_3_47 {d : Nat} {R : Rt} {L : Lo} {S : List Value} {G : Mem} {z c s : Nat} {a : Nat} : WP d 3 R 47 L (va_rf (some a) :: S) G z c s = (mK G a = 0 ∧ WP d 3 R 50 L (va_rf (mR G 0 0 a) :: S) G z c s) := q_getR cdE_3 dX0_findWhoMayStand_47 owE_3 rfl (by decide)
theorem e_3_50 {d : Nat} {R : Rt} {L : Lo} {S : List Value} {G : Mem} {z c s : Nat} : WP d 3 R 50 L S G z c s = (okI (lgo L 4) ∧ WP d 3 R 52 L (.int (vI (lgo L 4)) :: S) G z c s) := q_iload cdE_3 dX0_findWhoMayStand_50
theorem e_3_52 {d : Nat} {R : Rt} {L : Lo} {S : List Value} {G : Mem} {z c s : Nat} : WP d 3 R 52 L S G z c s = (okR (lgo L 5) ∧ WP d 3 R 54 L (va_rf (vR (lgo L 5)) :: S) G z c s) := q_aload cdE_3 dX0_findWhoMayStand_52
theorem e_3_54 {d : Nat} {R : Rt} {L : Lo} {S : List Value} {G : Mem} {z c s : Nat} {r : Option Nat} : WP d 3 R 54 L (va_rf r :: S) G z c s = if r = none then WP d 3 R 70 L S G z c s else WP d 3 R 57 L S G z c s := q_ifnull cdE_3 dX0_findWhoMayStand_54 (by decide)
theorem e_3_57 {d : Nat} {R : Rt} {L : Lo} {S : List Value} {G : Mem} {z c s : Nat} : WP d 3 R 57 L S G z c s = (okR (lgo L 5) ∧ WP d 3 R 59 L (va_rf (vR (lgo L 5)) :: S) G z c s) := q_aload cdE_3 dX0_findWhoMayStand_57
theorem e_3_59 {d : Nat} {R : Rt} {L : Lo} {S : List Value} {G : Mem} {z c s : Nat} {a : Nat} : WP d 3 R 59 L (va_rf (some a) :: S) G z c s = (mK G a = 6 ∧ WP d 3 R 62 L (.int (mI G 6 2 a) :: S) G z c s) := q_getI cdE_3 dX0_findWhoMayStand_59 owE_3 rfl (by decide)
theorem e_3_62 {d : Nat} {R : Rt} {L : Lo} {S : List Value} {G : Mem} {z c s : Nat} : WP d 3 R 62 L S G z c s = WP d 3 R 63 L (.int 3 :: S) G z c s := q_iconst cdE_3 dX0_findWhoMayStand_62 (by decide)
theorem e_3_63 {d : Nat} {R : Rt} {L : Lo} {S : List Value} {G : Mem} {z c s : Nat} {x y : Int32} : WP d 3 R 63 L (.int y :: .int x :: S) G z c s = if x = y then WP d 3 R 66 L S G z c s else WP d 3 R 70 L S G z c s := q_icne cdE_3 dX0_findWhoMayStand_63 (by decide)
theorem e_3_66 {d : Nat} {R : Rt} {L : Lo} {S : List Value} {G : Mem} {z c s : Nat} : WP d 3 R 66 L S G z c s = WP d 3 R 67 L (.int 1 :: S) G z c s := q_iconst cdE_3 dX0_findWhoMayStand_66 (by decide)
theorem e_3_67 {d : Nat} {R : Rt} {L : Lo} {S : List Value} {G : Mem} {z c s : Nat} : WP d 3 R 67 L S G z c s = WP d 3 R 71 L S G z c s := q_goto cdE_3 dX0_findWhoMayStand_67 (by decide)
theorem e_3_70 {d : Nat} {R : Rt} {L : Lo} {S : List Value} {G : Mem} {z c s : Nat} : WP d 3 R 70 L S G z c s = WP d 3 R 71 L (.int 0 :: S) G z c s := q_iconst cdE_3 dX0_findWhoMayStand_70 (by decide)
theorem e_3_71 {d : Nat} {R : Rt} {L : Lo} {S : List Value} {G : Mem} {z c s : Nat} {a : Nat} {i x : Int32} : WP d 3 R 71 L (.int x :: .int i :: va_rf (some a) :: S) G z c s = ((mK G a = 21 ∨ mK G a = 22) ∧ vp_in i (mN G a) ∧ WP d 3 R 72 L S (pE G a i.toNatClampNeg (if mK G a = 22 then x &&& 1 else x.toInt8.toInt32)) z c s) := q_bast cdE_3 dX0_findWhoMayStand_71
theorem e_3_72 {d : Nat} {R : Rt} {L : Lo} {S : List Value} {G : Mem} {z c s : Nat} : WP d 3 R 72 L S G z c s = (okR (lgo L 0) ∧ WP d 3 R 73 L (va_rf (vR (lgo L 0)) :: S) G z c s) := q_aload_n cdE_3 dX0_findWhoMayStand_72 rfl
theorem e_3_73 {d : Nat} {R : Rt} {L : Lo} {S : List Value} {G : Mem} {z c s : Nat} {a : Nat} : WP d 3 R 73 L (va_rf (some a) :: S) G z c s = (mK G a = 0 ∧ WP d 3 R 76 L (va_rf (mR G 0 1 a) :: S) G z c s) := q_getR cdE_3 dX0_findWhoMayStand_73 owE_3 rfl (by decide)
theorem e_3_76 {d : Nat} {R : Rt} {L : Lo} {S : List Value} {G : Mem} {z c s : Nat} : WP d 3 R 76 L S G z c s = (okI (lgo L 4) ∧ WP d 3 R 78 L (.int (vI (lgo L 4)) :: S) G z c s) := q_iload cdE_3 dX0_findWhoMayStand_76
theorem e_3_78 {d : Nat} {R : Rt} {L : Lo} {S : List Value} {G : Mem} {z c s : Nat} : WP d 3 R 78 L S G z c s = (okR (lgo L 5) ∧ WP d 3 R 80 L (va_rf (vR (lgo L 5)) :: S) G z c s) := q_aload cdE_3 dX0_findWhoMayStand_78
theorem e_3_80 {d : Nat} {R : Rt} {L : Lo} {S : List Value} {G : Mem} {z c s : Nat} {r : Option Nat} : WP d 3 R 80 L (va_rf r :: S) G z c s = if r = none then WP d 3 R 95 L S G z c s else WP d 3 R 83 L S G z c s := q_ifnull cdE_3 dX0_findWhoMayStand_80 (by decide)
theorem e_3_83 {d : Nat} {R : Rt} {L : Lo} {S : List Value} {G : Mem} {z c s : Nat} : WP d 3 R 83 L S G z c s = (okR (lgo L 5) ∧ WP d 3 R 85 L (va_rf (vR (lgo L 5)) :: S) G z c s) := q_aload cdE_3 dX0_findWhoMayStand_83
theorem e_3_85 {d : Nat} {R : Rt} {L : Lo} {S : List Value} {G : Mem} {z c s : Nat} {a : Nat} : WP d 3 R 85 L (va_rf (some a) :: S) G z c s = (mK G a = 6 ∧ WP d 3 R 88 L (.int (mI G 6 3 a) :: S) G z c s) := q_getI cdE_3 dX0_findWhoMayStand_85 owE_3 rfl (by decide)
theorem e_3_88 {d : Nat} {R : Rt} {L : Lo} {S : List Value} {G : Mem} {z c s : Nat} {x : Int32} : WP d 3 R 88 L (.int x :: S) G z c s = if x = 0 then WP d 3 R 95 L S G z c s else WP d 3 R 91 L S G z c s := q_ifeq cdE_3 dX0_findWhoMayStand_88 (by decide)
theorem e_3_91 {d : Nat} {R : Rt} {L : Lo} {S : List Value} {G : Mem} {z c s : Nat} : WP d 3 R 91 L S G z c s = WP d 3 R 92 L (.int 1 :: S) G z c s := q_iconst cdE_3 dX0_findWhoMayStand_91 (by decide)
theorem e_3_92 {d : Nat} {R : Rt} {L : Lo} {S : List Value} {G : Mem} {z c s : Nat} : WP d 3 R 92 L S G z c s = WP d 3 R 96 L S G z c s := q_goto cdE_3 dX0_findWhoMayStand_92 (by decide)
theorem e_3_95 {d : Nat} {R : Rt} {L : Lo} {S : List Value} {G : Mem} {z c s : Nat} : WP d 3 R 95 L S G z c s = WP d 3 R 96 L (.int 0 :: S) G z c s := q_iconst cdE_3 dX0_findWhoMayStand_95 (by decide)
theorem e_3_96 {d : Nat} {R : Rt} {L : Lo} {S : List Value} {G : Mem} {z c s : Nat} {a : Nat} {i x : Int32} : WP d 3 R 96 L (.int x :: .int i :: va_rf (some a) :: S) G z c s = ((mK G a = 21 ∨ mK G a = 22) ∧ vp_in i (mN G a) ∧ WP d 3 R 97 L S (pE G a i.toNatClampNeg (if mK G a = 22 then x &&& 1 else x.toInt8.toInt32)) z c s) := q_bast cdE_3 dX0_findWhoMayStand_96
theorem e_3_97 {d : Nat} {R : Rt} {L : Lo} {S : List Value} {G : Mem} {z c s : Nat} : WP d 3 R 97 L S G z c s = (okR (lgo L 5) ∧ WP d 3 R 99 L (va_rf (vR (lgo L 5)) :: S) G z c s) := q_aload cdE_3 dX0_findWhoMayStand_97
theorem e_3_99 {d : Nat} {R : Rt} {L : Lo} {S : List Value} {G : Mem} {z c s : Nat} {r : Option Nat} : WP d 3 R 99 L (va_rf r :: S) G z c s = if r = none then WP d 3 R 115 L S G z c s else WP d 3 R 102 L S G z c s := q_ifnull cdE_3 dX0_findWhoMayStand_99 (by decide)
theorem e_3_102 {d : Nat} {R : Rt} {L : Lo} {S : List Value} {G : Mem} {z c s : Nat} : WP d 3 R 102 L S G z c s = (okR (lgo L 5) ∧ WP d 3 R 104 L (va_rf (vR (lgo L 5)) :: S) G z c s) := q_aload cdE_3 dX0_findWhoMayStand_102
theorem e_3_104 {d : Nat} {R : Rt} {L : Lo} {S : List Value} {G : Mem} {z c s : Nat} {a : Nat} : WP d 3 R 104 L (va_rf (some a) :: S) G z c s = (mK G a = 6 ∧ WP d 3 R 107 L (.int (mI G 6 2 a) :: S) G z c s) := q_getI cdE_3 dX0_findWhoMayStand_104 owE_3 rfl (by decide)
theorem e_3_107 {d : Nat} {R : Rt} {L : Lo} {S : List Value} {G : Mem} {z c s : Nat} : WP d 3 R 107 L S G z c s = WP d 3 R 108 L (.int 2 :: S) G z c s := q_iconst cdE_3 dX0_findWhoMayStand_107 (by decide)
theorem e_3_108 {d : Nat} {R : Rt} {L : Lo} {S : List Value} {G : Mem} {z c s : Nat} {x y : Int32} : WP d 3 R 108 L (.int y :: .int x :: S) G z c s = if x = y then WP d 3 R 111 L S G z c s else WP d 3 R 115 L S G z c s := q_icne cdE_3 dX0_findWhoMayStand_108 (by decide)
theorem e_3_111 {d : Nat} {R : Rt} {L : Lo} {S : List Value} {G : Mem} {z c s : Nat} : WP d 3 R 111 L S G z c s = WP d 3 R 112 L (.int 1 :: S) G z c s := q_iconst cdE_3 dX0_findWhoMayStand_111 (by decide)
theorem e_3_112 {d : Nat} {R : Rt} {L : Lo} {S : List Value} {G : Mem} {z c s : Nat} : WP d 3 R 112 L S G z c s = WP d 3 R 116 L S G z c s := q_goto cdE_3 dX0_findWhoMayStand_112 (by decide)
theorem e_3_115 {d : Nat} {R : Rt} {L : Lo} {S : List Value} {G : Mem} {z c s : Nat} : WP d 3 R 115 L S G z c s = WP d 3 R 116 L (.int 0 :: S) G z c s := q_iconst cdE_3 dX0_findWhoMayStand_115 (by decide)
theorem e_3_116 {d : Nat} {R : Rt} {L : Lo} {S : List Value} {G : Mem} {z c s : Nat} {x : Int32} : WP d 3 R 116 L (.int x :: S) G z c s = (noL L 6 ∧ WP d 3 R 118 (lset L 6 (some (.int x))) S G z c s) := q_istore cdE_3 dX0_findWhoMayStand_116 mxE_3 (by decide)
theorem e_3_118 {d : Nat} {R : Rt} {L : Lo} {S : List Value} {G : Mem} {z c s : Nat} : WP d 3 R 118 L S G z c s = (okR (lgo L 5) ∧ WP d 3 R 120 L (va_rf (vR (lgo L 5)) :: S) G z c s) := q_aload cdE_3 dX0_findWhoMayStand_118
theorem e_3_120 {d : Nat} {R : Rt} {L : Lo} {S : List Value} {G : Mem} {z c s : Nat} {r : Option Nat} : WP d 3 R 120 L (va_rf r :: S) G z c s = if r = none then WP d 3 R 123 L S G z c s else WP d 3 R 127 L S G z c s := q_ifnonnull cdE_3 dX0_findWhoMayStand_120 (by decide)
theorem e_3_123 {d : Nat} {R : Rt} {L : Lo} {S : List Value} {G : Mem} {z c s : Nat} : WP d 3 R 123 L S G z c s = WP d 3 R 124 L (va_rf none :: S) G z c s := q_null cdE_3 dX0_findWhoMayStand_123
theorem e_3_124 {d : Nat} {R : Rt} {L : Lo} {S : List Value} {G : Mem} {z c s : Nat} : WP d 3 R 124 L S G z c s = WP d 3 R 134 L S G z c s := q_goto cdE_3 dX0_findWhoMayStand_124 (by decide)
theorem e_3_127 {d : Nat} {R : Rt} {L : Lo} {S : List Value} {G : Mem} {z c s : Nat} : WP d 3 R 127 L S G z c s = (okR (lgo L 5) ∧ WP d 3 R 129 L (va_rf (vR (lgo L 5)) :: S) G z c s) := q_aload cdE_3 dX0_findWhoMayStand_127
theorem e_3_129 {d : Nat} {R : Rt} {L : Lo} {S : List Value} {G : Mem} {z c s : Nat} : WP d 3 R 129 L S G z c s = (okI (lgo L 2) ∧ WP d 3 R 130 L (.int (vI (lgo L 2)) :: S) G z c s) := q_iload_n cdE_3 dX0_findWhoMayStand_129 rfl
theorem e_3_130 {d : Nat} {R : Rt} {L : Lo} {S : List Value} {G : Mem} {z c s : Nat} : WP d 3 R 130 L S G z c s = (okI (lgo L 3) ∧ WP d 3 R 131 L (.int (vI (lgo L 3)) :: S) G z c s) := q_iload_n cdE_3 dX0_findWhoMayStand_130 rfl
theorem e_3_131 {d : Nat} {R : Rt} {L : Lo} {S : List Value} {G : Mem} {z c s : Nat} {a0 : Int32} {a1 : Int32} {b : Nat} : WP d 3 R 131 L (.int a1 :: .int a0 :: va_rf (some b) :: S) G z c s = ((mK G b = 6) ∧ S.length ≤ 4 ∧ c + 0 ≤ 0 ∧ s + 0 ≤ 0 ∧ CALL d 47 [va_rf (some b), .int a0, .int a1] G z (rtn d 3 R 134 L S (c + 0) (s + 0))) := q_callV (as := [.int a1, .int a0]) cdE_3 dX0_findWhoMayStand_131 owE_3 rfl rfl rfl (by simp only [List.reverse_cons, List.reverse_nil, List.nil_append, List.cons_append, entL, isL_int, isL_long, isL_rf, Bool.false_eq_true, if_false, if_true, List.length_cons, List.length_nil, mxE_47]; decide) mcE_3 msE_3 mcE_47 msE_47
theorem e_3_134 {d : Nat} {R : Rt} {L : Lo} {S : List Value} {G : Mem} {z c s : Nat} {r : Option Nat} : WP d 3 R 134 L (va_rf r :: S) G z c s = (noL L 7 ∧ WP d 3 R 136 (lset L 7 (some (va_rf r))) S G z c s) := q_astore cdE_3 dX0_findWhoMayStand_134 mxE_3 (by decide)
theorem e_3_136 {d : Nat} {R : Rt} {L : Lo} {S : List Value} {G : Mem} {z c s : Nat} : WP d 3 R 136 L S G z c s = (okR (lgo L 7) ∧ WP d 3 R 138 L (va_rf (vR (lgo L 7)) :: S) G z c s) := q_aload cdE_3 dX0_findWhoMayStand_136
theorem e_3_138 {d : Nat} {R : Rt} {L : Lo} {S : List Value} {G : Mem} {z c s : Nat} {r : Option Nat} : WP d 3 R 138 L (va_rf r :: S) G z c s = if r = none then WP d 3 R 141 L S G z c s else WP d 3 R 145 L S G z c s := q_ifnonnull cdE_3 dX0_findWhoMayStand_138 (by decide)
theorem e_3_141 {d : Nat} {R : Rt} {L : Lo} {S : List Value} {G : Mem} {z c s : Nat} : WP d 3 R 141 L S G z c s = WP d 3 R 142 L (.int 0 :: S) G z c s := q_iconst cdE_3 dX0_findWhoMayStand_141 (by decide)
theorem e_3_142 {d : Nat} {R : Rt} {L : Lo} {S : List Value} {G : Mem} {z c s : Nat} : WP d 3 R 142 L S G z c s = WP d 3 R 151 L S G z c s := q_goto cdE_3 dX0_findWhoMayStand_142 (by decide)
theorem e_3_145 {d : Nat} {R : Rt} {L : Lo} {S : List Value} {G : Mem} {z c s : Nat} : WP d 3 R 145 L S G z c s = (okR (lgo L 7) ∧ WP d 3 R 147 L (va_rf (vR (lgo L 7)) :: S) G z c s) := q_aload cdE_3 dX0_findWhoMayStand_145
theorem e_3_147 {d : Nat} {R : Rt} {L : Lo} {S : List Value} {G : Mem} {z c s : Nat} : WP d 3 R 147 L S G z c s = WP d 3 R 148 L (.int 5 :: S) G z c s := q_iconst cdE_3 dX0_findWhoMayStand_147 (by decide)
theorem e_3_148 {d : Nat} {R : Rt} {L : Lo} {S : List Value} {G : Mem} {z c s : Nat} {a0 : Int32} {b : Nat} : WP d 3 R 148 L (.int a0 :: va_rf (some b) :: S) G z c s = ((mK G b = 2) ∧ S.length ≤ 4 ∧ c + 0 ≤ 0 ∧ s + 0 ≤ 0 ∧ CALL d 23 [va_rf (some b), .int a0] G z (rtn d 3 R 151 L S (c + 0) (s + 0))) := q_callV (as := [.int a0]) cdE_3 dX0_findWhoMayStand_148 owE_3 rfl rfl rfl (by simp only [List.reverse_cons, List.reverse_nil, List.nil_append, List.cons_append, entL, isL_int, isL_long, isL_rf, Bool.false_eq_true, if_false, if_true, List.length_cons, List.length_nil, mxE_23]; decide) mcE_3 msE_3 mcE_23 msE_23
theorem e_3_151 {d : Nat} {R : Rt} {L : Lo} {S : List Value} {G : Mem} {z c s : Nat} {x : Int32} : WP d 3 R 151 L (.int x :: S) G z c s = (noL L 8 ∧ WP d 3 R 153 (lset L 8 (some (.int x))) S G z c s) := q_istore cdE_3 dX0_findWhoMayStand_151 mxE_3 (by decide)
theorem e_3_153 {d : Nat} {R : Rt} {L : Lo} {S : List Value} {G : Mem} {z c s : Nat} : WP d 3 R 153 L S G z c s = (okI (lgo L 8) ∧ WP d 3 R 155 L (.int (vI (lgo L 8)) :: S) G z c s) := q_iload cdE_3 dX0_findWhoMayStand_153
theorem e_3_155 {d : Nat} {R : Rt} {L : Lo} {S : List Value} {G : Mem} {z c s : Nat} : WP d 3 R 155 L S G z c s = WP d 3 R 156 L (.int 1 :: S) G z c s := q_iconst cdE_3 dX0_findWhoMayStand_155 (by decide)
theorem e_3_156 {d : Nat} {R : Rt} {L : Lo} {S : List Value} {G : Mem} {z c s : Nat} : WP d 3 R 156 L S G z c s = (okR (lgo L 0) ∧ WP d 3 R 157 L (va_rf (vR (lgo L 0)) :: S) G z c s) := q_aload_n cdE_3 dX0_findWhoMayStand_156 rfl
theorem e_3_157 {d : Nat} {R : Rt} {L : Lo} {S : List Value} {G : Mem} {z c s : Nat} {a : Nat} : WP d 3 R 157 L (va_rf (some a) :: S) G z c s = (mK G a = 0 ∧ WP d 3 R 160 L (.int (mI G 0 5 a) :: S) G z c s) := q_getI cdE_3 dX0_findWhoMayStand_157 owE_3 rfl (by decide)
theorem e_3_160 {d : Nat} {R : Rt} {L : Lo} {S : List Value} {G : Mem} {z c s : Nat} {a0 : Int32} {a1 : Int32} {a2 : Int32} : WP d 3 R 160 L (.int a2 :: .int a1 :: .int a0 :: S) G z c s = (S.length ≤ 4 ∧ c + 0 ≤ 0 ∧ s + 0 ≤ 0 ∧ CALL d 68 [.int a0, .int a1, .int a2] G z (rtn d 3 R 163 L S (c + 0) (s + 0))) := q_callS (as := [.int a2, .int a1, .int a0]) cdE_3 dX0_findWhoMayStand_160 owE_3 (Or.inr rfl) rfl rfl (by simp only [List.reverse_cons, List.reverse_nil, List.nil_append, List.cons_append, entL, isL_int, isL_long, isL_rf, Bool.false_eq_true, if_false, if_true, List.length_cons, List.length_nil, mxE_68]; decide) mcE_3 msE_3 mcE_68 msE_68
theorem e_3_163 {d : Nat} {R : Rt} {L : Lo} {S : List Value} {G : Mem} {z c s : Nat} {x : Int32} : WP d 3 R 163 L (.int x :: S) G z c s = (noL L 9 ∧ WP d 3 R 165 (lset L 9 (some (.int x))) S G z c s) := q_istore cdE_3 dX0_findWhoMayStand_163 mxE_3 (by decide)
theorem e_3_165 {d : Nat} {R : Rt} {L : Lo} {S : List Value} {G : Mem} {z c s : Nat} : WP d 3 R 165 L S G z c s = WP d 3 R 166 L (.int 0 :: S) G z c s := q_iconst cdE_3 dX0_findWhoMayStand_165 (by decide)
theorem e_3_166 {d : Nat} {R : Rt} {L : Lo} {S : List Value} {G : Mem} {z c s : Nat} {x : Int32} : WP d 3 R 166 L (.int x :: S) G z c s = (noL L 10 ∧ WP d 3 R 168 (lset L 10 (some (.int x))) S G z c s) := q_istore cdE_3 dX0_findWhoMayStand_166 mxE_3 (by decide)
theorem e_3_168 {d : Nat} {R : Rt} {L : Lo} {S : List Value} {G : Mem} {z c s : Nat} : WP d 3 R 168 L S G z c s = (okI (lgo L 10) ∧ WP d 3 R 170 L (.int (vI (lgo L 10)) :: S) G z c s) := q_iload cdE_3 dX0_findWhoMayStand_168
theorem e_3_170 {d : Nat} {R : Rt} {L : Lo} {S : List Value} {G : Mem} {z c s : Nat} : WP d 3 R 170 L S G z c s = (okR (lgo L 0) ∧ WP d 3 R 171 L (va_rf (vR (lgo L 0)) :: S) G z c s) := q_aload_n cdE_3 dX0_findWhoMayStand_170 rfl
theorem e_3_171 {d : Nat} {R : Rt} {L : Lo} {S : List Value} {G : Mem} {z c s : Nat} {a : Nat} : WP d 3 R 171 L (va_rf (some a) :: S) G z c s = (mK G a = 0 ∧ WP d 3 R 174 L (.int (mI G 0 5 a) :: S) G z c s) := q_getI cdE_3 dX0_findWhoMayStand_171 owE_3 rfl (by decide)
theorem e_3_174 {d : Nat} {R : Rt} {L : Lo} {S : List Value} {G : Mem} {z c s : Nat} {x y : Int32} : WP d 3 R 174 L (.int y :: .int x :: S) G z c s = if y ≤ x then WP d 3 R 244 L S G z c s else WP d 3 R 177 L S G z c s := q_icge cdE_3 dX0_findWhoMayStand_174 (by decide)
theorem e_3_177 {d : Nat} {R : Rt} {L : Lo} {S : List Value} {G : Mem} {z c s : Nat} : WP d 3 R 177 L S G z c s = (okI (lgo L 10) ∧ WP d 3 R 179 L (.int (vI (lgo L 10)) :: S) G z c s) := q_iload cdE_3 dX0_findWhoMayStand_177
theorem e_3_179 {d : Nat} {R : Rt} {L : Lo} {S : List Value} {G : Mem} {z c s : Nat} {x : Int32} : WP d 3 R 179 L (.int x :: S) G z c s = if x = 0 then WP d 3 R 193 L S G z c s else WP d 3 R 182 L S G z c s := q_ifeq cdE_3 dX0_findWhoMayStand_179 (by decide)
theorem e_3_182 {d : Nat} {R : Rt} {L : Lo} {S : List Value} {G : Mem} {z c s : Nat} : WP d 3 R 182 L S G z c s = (okI (lgo L 10) ∧ WP d 3 R 184 L (.int (vI (lgo L 10)) :: S) G z c s) := q_iload cdE_3 dX0_findWhoMayStand_182
theorem e_3_184 {d : Nat} {R : Rt} {L : Lo} {S : List Value} {G : Mem} {z c s : Nat} : WP d 3 R 184 L S G z c s = (okR (lgo L 0) ∧ WP d 3 R 185 L (va_rf (vR (lgo L 0)) :: S) G z c s) := q_aload_n cdE_3 dX0_findWhoMayStand_184 rfl
theorem e_3_185 {d : Nat} {R : Rt} {L : Lo} {S : List Value} {G : Mem} {z c s : Nat} {a : Nat} : WP d 3 R 185 L (va_rf (some a) :: S) G z c s = (mK G a = 0 ∧ WP d 3 R 188 L (.int (mI G 0 5 a) :: S) G z c s) := q_getI cdE_3 dX0_findWhoMayStand_185 owE_3 rfl (by decide)
theorem e_3_188 {d : Nat} {R : Rt} {L : Lo} {S : List Value} {G : Mem} {z c s : Nat} : WP d 3 R 188 L S G z c s = WP d 3 R 189 L (.int 1 :: S) G z c s := q_iconst cdE_3 dX0_findWhoMayStand_188 (by decide)
theorem e_3_189 {d : Nat} {R : Rt} {L : Lo} {S : List Value} {G : Mem} {z c s : Nat} {x y : Int32} : WP d 3 R 189 L (.int y :: .int x :: S) G z c s = WP d 3 R 190 L (.int (x - y) :: S) G z c s := q_isub cdE_3 dX0_findWhoMayStand_189
theorem e_3_190 {d : Nat} {R : Rt} {L : Lo} {S : List Value} {G : Mem} {z c s : Nat} {x y : Int32} : WP d 3 R 190 L (.int y :: .int x :: S) G z c s = if x = y then WP d 3 R 193 L S G z c s else WP d 3 R 197 L S G z c s := q_icne cdE_3 dX0_findWhoMayStand_190 (by decide)
theorem e_3_193 {d : Nat} {R : Rt} {L : Lo} {S : List Value} {G : Mem} {z c s : Nat} : WP d 3 R 193 L S G z c s = WP d 3 R 194 L (.int 1 :: S) G z c s := q_iconst cdE_3 dX0_findWhoMayStand_193 (by decide)
theorem e_3_194 {d : Nat} {R : Rt} {L : Lo} {S : List Value} {G : Mem} {z c s : Nat} : WP d 3 R 194 L S G z c s = WP d 3 R 198 L S G z c s := q_goto cdE_3 dX0_findWhoMayStand_194 (by decide)
theorem e_3_197 {d : Nat} {R : Rt} {L : Lo} {S : List Value} {G : Mem} {z c s : Nat} : WP d 3 R 197 L S G z c s = WP d 3 R 198 L (.int 0 :: S) G z c s := q_iconst cdE_3 dX0_findWhoMayStand_197 (by decide)
theorem e_3_198 {d : Nat} {R : Rt} {L : Lo} {S : List Value} {G : Mem} {z c s : Nat} {x : Int32} : WP d 3 R 198 L (.int x :: S) G z c s = (noL L 11 ∧ WP d 3 R 200 (lset L 11 (some (.int x))) S G z c s) := q_istore cdE_3 dX0_findWhoMayStand_198 mxE_3 (by decide)
theorem e_3_200 {d : Nat} {R : Rt} {L : Lo} {S : List Value} {G : Mem} {z c s : Nat} : WP d 3 R 200 L S G z c s = (okI (lgo L 6) ∧ WP d 3 R 202 L (.int (vI (lgo L 6)) :: S) G z c s) := q_iload cdE_3 dX0_findWhoMayStand_200
theorem e_3_202 {d : Nat} {R : Rt} {L : Lo} {S : List Value} {G : Mem} {z c s : Nat} {x : Int32} : WP d 3 R 202 L (.int x :: S) G z c s = if x = 0 then WP d 3 R 210 L S G z c s else WP d 3 R 205 L S G z c s := q_ifeq cdE_3 dX0_findWhoMayStand_202 (by decide)
theorem e_3_205 {d : Nat} {R : Rt} {L : Lo} {S : List Value} {G : Mem} {z c s : Nat} : WP d 3 R 205 L S G z c s = (okI (lgo L 11) ∧ WP d 3 R 207 L (.int (vI (lgo L 11)) :: S) G z c s) := q_iload cdE_3 dX0_findWhoMayStand_205
theorem e_3_207 {d : Nat} {R : Rt} {L : Lo} {S : List Value} {G : Mem} {z c s : Nat} {x : Int32} : WP d 3 R 207 L (.int x :: S) G z c s = if x = 0 then WP d 3 R 238 L S G z c s else WP d 3 R 210 L S G z c s := q_ifeq cdE_3 dX0_findWhoMayStand_207 (by decide)
theorem e_3_210 {d : Nat} {R : Rt} {L : Lo} {S : List Value} {G : Mem} {z c s : Nat} : WP d 3 R 210 L S G z c s = (okI (lgo L 9) ∧ WP d 3 R 212 L (.int (vI (lgo L 9)) :: S) G z c s) := q_iload cdE_3 dX0_findWhoMayStand_210
theorem e_3_212 {d : Nat} {R : Rt} {L : Lo} {S : List Value} {G : Mem} {z c s : Nat} {x : Int32} : WP d 3 R 212 L (.int x :: S) G z c s = if x = 0 then WP d 3 R 224 L S G z c s else WP d 3 R 215 L S G z c s := q_ifeq cdE_3 dX0_findWhoMayStand_212 (by decide)
theorem e_3_215 {d : Nat} {R : Rt} {L : Lo} {S : List Value} {G : Mem} {z c s : Nat} : WP d 3 R 215 L S G z c s = (okI (lgo L 10) ∧ WP d 3 R 217 L (.int (vI (lgo L 10)) :: S) G z c s) := q_iload cdE_3 dX0_findWhoMayStand_215
theorem e_3_217 {d : Nat} {R : Rt} {L : Lo} {S : List Value} {G : Mem} {z c s : Nat} : WP d 3 R 217 L S G z c s = (okI (lgo L 8) ∧ WP d 3 R 219 L (.int (vI (lgo L 8)) :: S) G z c s) := q_iload cdE_3 dX0_findWhoMayStand_217
theorem e_3_219 {d : Nat} {R : Rt} {L : Lo} {S : List Value} {G : Mem} {z c s : Nat} : WP d 3 R 219 L S G z c s = WP d 3 R 220 L (.int 1 :: S) G z c s := q_iconst cdE_3 dX0_findWhoMayStand_219 (by decide)
theorem e_3_220 {d : Nat} {R : Rt} {L : Lo} {S : List Value} {G : Mem} {z c s : Nat} {x y : Int32} : WP d 3 R 220 L (.int y :: .int x :: S) G z c s = WP d 3 R 221 L (.int (x - y) :: S) G z c s := q_isub cdE_3 dX0_findWhoMayStand_220
theorem e_3_221 {d : Nat} {R : Rt} {L : Lo} {S : List Value} {G : Mem} {z c s : Nat} {x y : Int32} : WP d 3 R 221 L (.int y :: .int x :: S) G z c s = if x = y then WP d 3 R 224 L S G z c s else WP d 3 R 238 L S G z c s := q_icne cdE_3 dX0_findWhoMayStand_221 (by decide)
theorem e_3_224 {d : Nat} {R : Rt} {L : Lo} {S : List Value} {G : Mem} {z c s : Nat} : WP d 3 R 224 L S G z c s = (okR (lgo L 0) ∧ WP d 3 R 225 L (va_rf (vR (lgo L 0)) :: S) G z c s) := q_aload_n cdE_3 dX0_findWhoMayStand_224 rfl
theorem e_3_225 {d : Nat} {R : Rt} {L : Lo} {S : List Value} {G : Mem} {z c s : Nat} {a : Nat} : WP d 3 R 225 L (va_rf (some a) :: S) G z c s = (mK G a = 0 ∧ WP d 3 R 228 L (va_rf (mR G 0 2 a) :: S) G z c s) := q_getR cdE_3 dX0_findWhoMayStand_225 owE_3 rfl (by decide)
theorem e_3_228 {d : Nat} {R : Rt} {L : Lo} {S : List Value} {G : Mem} {z c s : Nat} : WP d 3 R 228 L S G z c s = (okI (lgo L 10) ∧ WP d 3 R 230 L (.int (vI (lgo L 10)) :: S) G z c s) := q_iload cdE_3 dX0_findWhoMayStand_228
theorem e_3_230 {d : Nat} {R : Rt} {L : Lo} {S : List Value} {G : Mem} {z c s : Nat} {v w : Value} : WP d 3 R 230 L (v :: w :: S) G z c s = (isL v = false ∧ isL w = false ∧ WP d 3 R 231 L (v :: w :: v :: w :: S) G z c s) := q_dup2 cdE_3 dX0_findWhoMayStand_230
theorem e_3_231 {d : Nat} {R : Rt} {L : Lo} {S : List Value} {G : Mem} {z c s : Nat} {a : Nat} {i : Int32} : WP d 3 R 231 L (.int i :: va_rf (some a) :: S) G z c s = ((mK G a = 20 ∨ mK G a = 25) ∧ vp_in i (mN G a) ∧ WP d 3 R 232 L (.int (mE G a i.toNatClampNeg) :: S) G z c s) := q_iald cdE_3 dX0_findWhoMayStand_231
theorem e_3_232 {d : Nat} {R : Rt} {L : Lo} {S : List Value} {G : Mem} {z c s : Nat} : WP d 3 R 232 L S G z c s = WP d 3 R 233 L (.int 1 :: S) G z c s := q_iconst cdE_3 dX0_findWhoMayStand_232 (by decide)
theorem e_3_233 {d : Nat} {R : Rt} {L : Lo} {S : List Value} {G : Mem} {z c s : Nat} : WP d 3 R 233 L S G z c s = (okI (lgo L 4) ∧ WP d 3 R 235 L (.int (vI (lgo L 4)) :: S) G z c s) := q_iload cdE_3 dX0_findWhoMayStand_233
theorem e_3_235 {d : Nat} {R : Rt} {L : Lo} {S : List Value} {G : Mem} {z c s : Nat} {x y : Int32} : WP d 3 R 235 L (.int y :: .int x :: S) G z c s = WP d 3 R 236 L (.int (x <<< (y &&& 31)) :: S) G z c s := q_ishl cdE_3 dX0_findWhoMayStand_235
theorem e_3_236 {d : Nat} {R : Rt} {L : Lo} {S : List Value} {G : Mem} {z c s : Nat} {x y : Int32} : WP d 3 R 236 L (.int y :: .int x :: S) G z c s = WP d 3 R 237 L (.int (x ||| y) :: S) G z c s := q_ior cdE_3 dX0_findWhoMayStand_236
theorem e_3_237 {d : Nat} {R : Rt} {L : Lo} {S : List Value} {G : Mem} {z c s : Nat} {a : Nat} {i x : Int32} : WP d 3 R 237 L (.int x :: .int i :: va_rf (some a) :: S) G z c s = (mK G a = 20 ∧ vp_in i (mN G a) ∧ WP d 3 R 238 L S (pE G a i.toNatClampNeg x) z c s) := q_iast cdE_3 dX0_findWhoMayStand_237
theorem e_3_238 {d : Nat} {R : Rt} {L : Lo} {S : List Value} {G : Mem} {z c s : Nat} : WP d 3 R 238 L S G z c s = (okI (lgo L 10) ∧ noL L 10 ∧ WP d 3 R 241 (lset L 10 (some (.int (vI (lgo L 10) + 1)))) S G z c s) := q_iinc cdE_3 dX0_findWhoMayStand_238 mxE_3 (by decide) (by decide)
theorem e_3_241 {d : Nat} {R : Rt} {L : Lo} {S : List Value} {G : Mem} {z c s : Nat} : WP d 3 R 241 L S G z c s = WP d 3 R 168 L S G z c s := q_goto cdE_3 dX0_findWhoMayStand_241 (by decide)
theorem e_3_244 {d : Nat} {R : Rt} {L : Lo} {S : List Value} {G : Mem} {z c s : Nat} : WP d 3 R 244 L S G z c s = (okI (lgo L 4) ∧ noL L 4 ∧ WP d 3 R 247 (lset L 4 (some (.int (vI (lgo L 4) + 1)))) S G z c s) := q_iinc cdE_3 dX0_findWhoMayStand_244 mxE_3 (by decide) (by decide)
theorem e_3_247 {d : Nat} {R : Rt} {L : Lo} {S : List Value} {G : Mem} {z c s : Nat} : WP d 3 R 247 L S G z c s = WP d 3 R 29 L S G z c s := q_goto cdE_3 dX0_findWhoMayStand_247 (by decide)
theorem e_3_250 {d : Nat} {R : Rt} {L : Lo} {G : Mem} {z c s : Nat} : WP d 3 R 250 L [] G z c s = (c ≤ 0 ∧ s ≤ 0 ∧ R none G z) := q_vret cdE_3 dX0_findWhoMayStand_250 rfl mcE_3 msE_3
theorem e_4_0 {d : Nat} {R : Rt} {L : Lo} {S : List Value} {G : Mem} {z c s : Nat} : WP d 4 R 0 L S G z c s = WP d 4 R 1 L (.int 1 :: S) G z c s := q_iconst cdE_4 dX0_findLeast_0 (by decide)
theorem e_4_1 {d : Nat} {R : Rt} {L : Lo} {S : List Value} {G : Mem} {z c s : Nat} : WP d 4 R 1 L S G z c s = (okR (lgo L 0) ∧ WP d 4 R 2 L (va_rf (vR (lgo L 0)) :: S) G z c s) := q_aload_n cdE_4 dX0_findLeast_1 rfl
theorem e_4_2 {d : Nat} {R : Rt} {L : Lo} {S : List Value} {G : Mem} {z c s : Nat} {a : Nat} : WP d 4 R 2 L (va_rf (some a) :: S) G z c s = (mK G a = 0 ∧ WP d 4 R 5 L (.int (mI G 0 5 a) :: S) G z c s) := q_getI cdE_4 dX0_findLeast_2 owE_4 rfl (by decide)
theorem e_4_5 {d : Nat} {R : Rt} {L : Lo} {S : List Value} {G : Mem} {z c s : Nat} {x y : Int32} : WP d 4 R 5 L (.int y :: .int x :: S) G z c s = WP d 4 R 6 L (.int (x <<< (y &&& 31)) :: S) G z c s := q_ishl cdE_4 dX0_findLeast_5
theorem e_4_6 {d : Nat} {R : Rt} {L : Lo} {S : List Value} {G : Mem} {z c s : Nat} : WP d 4 R 6 L S G z c s = WP d 4 R 7 L (.int 1 :: S) G z c s := q_iconst cdE_4 dX0_findLeast_6 (by decide)
theorem e_4_7 {d : Nat} {R : Rt} {L : Lo} {S : List Value} {G : Mem} {z c s : Nat} {x y : Int32} : WP d 4 R 7 L (.int y :: .int x :: S) G z c s = WP d 4 R 8 L (.int (x - y) :: S) G z c s := q_isub cdE_4 dX0_findLeast_7
theorem e_4_8 {d : Nat} {R : Rt} {L : Lo} {S : List Value} {G : Mem} {z c s : Nat} {x : Int32} : WP d 4 R 8 L (.int x :: S) G z c s = (noL L 1 ∧ WP d 4 R 9 (lset L 1 (some (.int x))) S G z c s) := q_istore_n cdE_4 dX0_findLeast_8 rfl mxE_4 (by decide)
theorem e_4_9 {d : Nat} {R : Rt} {L : Lo} {S : List Value} {G : Mem} {z c s : Nat} : WP d 4 R 9 L S G z c s = (okI (lgo L 1) ∧ WP d 4 R 10 L (.int (vI (lgo L 1)) :: S) G z c s) := q_iload_n cdE_4 dX0_findLeast_9 rfl
theorem e_4_10 {d : Nat} {R : Rt} {L : Lo} {S : List Value} {G : Mem} {z c s : Nat} {x : Int32} : WP d 4 R 10 L (.int x :: S) G z c s = if x ≤ 0 then WP d 4 R 82 L S G z c s else WP d 4 R 13 L S G z c s := q_ifle cdE_4 dX0_findLeast_10 (by decide)
theorem e_4_13 {d : Nat} {R : Rt} {L : Lo} {S : List Value} {G : Mem} {z c s : Nat} : WP d 4 R 13 L S G z c s = (okI (lgo L 1) ∧ WP d 4 R 14 L (.int (vI (lgo L 1)) :: S) G z c s) := q_iload_n cdE_4 dX0_findLeast_13 rfl
theorem e_4_14 {d : Nat} {R : Rt} {L : Lo} {S : List Value} {G : Mem} {z c s : Nat} {a0 : Int32} : WP d 4 R 14 L (.int a0 :: S) G z c s = (S.length ≤ 4 ∧ c + 0 ≤ 0 ∧ s + 0 ≤ 0 ∧ CALL d 129 [.int a0] G z (rtn d 4 R 17 L S (c + 0) (s + 0))) := q_callS (as := [.int a0]) cdE_4 dX0_findLeast_14 owE_4 (Or.inl rfl) rfl rfl (by simp only [List.reverse_cons, List.reverse_nil, List.nil_append, List.cons_append, entL, isL_int, isL_long, isL_rf, Bool.false_eq_true, if_false, if_true, List.length_cons, List.length_nil, mxE_129]; decide) mcE_4 msE_4 mcE_129 msE_129
theorem e_4_17 {d : Nat} {R : Rt} {L : Lo} {S : List Value} {G : Mem} {z c s : Nat} {x : Int32} : WP d 4 R 17 L (.int x :: S) G z c s = (noL L 2 ∧ WP d 4 R 18 (lset L 2 (some (.int x))) S G z c s) := q_istore_n cdE_4 dX0_findLeast_17 rfl mxE_4 (by decide)
theorem e_4_18 {d : Nat} {R : Rt} {L : Lo} {S : List Value} {G : Mem} {z c s : Nat} : WP d 4 R 18 L S G z c s = (okI (lgo L 1) ∧ WP d 4 R 19 L (.int (vI (lgo L 1)) :: S) G z c s) := q_iload_n cdE_4 dX0_findLeast_18 rfl
theorem e_4_19 {d : Nat} {R : Rt} {L : Lo} {S : List Value} {G : Mem} {z c s : Nat} : WP d 4 R 19 L S G z c s = (okR (lgo L 0) ∧ WP d 4 R 20 L (va_rf (vR (lgo L 0)) :: S) G z c s) := q_aload_n cdE_4 dX0_findLeast_19 rfl
theorem e_4_20 {d : Nat} {R : Rt} {L : Lo} {S : List Value} {G : Mem} {z c s : Nat} {a : Nat} : WP d 4 R 20 L (va_rf (some a) :: S) G z c s = (mK G a = 0 ∧ WP d 4 R 23 L (va_rf (mR G 0 2 a) :: S) G z c s) := q_getR cdE_4 dX0_findLeast_20 owE_4 rfl (by decide)
theorem e_4_23 {d : Nat} {R : Rt} {L : Lo} {S : List Value} {G : Mem} {z c s : Nat} : WP d 4 R 23 L S G z c s = (okI (lgo L 2) ∧ WP d 4 R 24 L (.int (vI (lgo L 2)) :: S) G z c s) := q_iload_n cdE_4 dX0_findLeast_23 rfl
theorem e_4_24 {d : Nat} {R : Rt} {L : Lo} {S : List Value} {G : Mem} {z c s : Nat} : WP d 4 R 24 L S G z c s = WP d 4 R 25 L (.int 1 :: S) G z c s := q_iconst cdE_4 dX0_findLeast_24 (by decide)
theorem e_4_25 {d : Nat} {R : Rt} {L : Lo} {S : List Value} {G : Mem} {z c s : Nat} {x y : Int32} : WP d 4 R 25 L (.int y :: .int x :: S) G z c s = WP d 4 R 26 L (.int (x - y) :: S) G z c s := q_isub cdE_4 dX0_findLeast_25
theorem e_4_26 {d : Nat} {R : Rt} {L : Lo} {S : List Value} {G : Mem} {z c s : Nat} {a : Nat} {i : Int32} : WP d 4 R 26 L (.int i :: va_rf (some a) :: S) G z c s = ((mK G a = 20 ∨ mK G a = 25) ∧ vp_in i (mN G a) ∧ WP d 4 R 27 L (.int (mE G a i.toNatClampNeg) :: S) G z c s) := q_iald cdE_4 dX0_findLeast_26
theorem e_4_27 {d : Nat} {R : Rt} {L : Lo} {S : List Value} {G : Mem} {z c s : Nat} {x y : Int32} : WP d 4 R 27 L (.int y :: .int x :: S) G z c s = WP d 4 R 28 L (.int (x &&& y) :: S) G z c s := q_iand cdE_4 dX0_findLeast_27
theorem e_4_28 {d : Nat} {R : Rt} {L : Lo} {S : List Value} {G : Mem} {z c s : Nat} {x : Int32} : WP d 4 R 28 L (.int x :: S) G z c s = (noL L 3 ∧ WP d 4 R 29 (lset L 3 (some (.int x))) S G z c s) := q_istore_n cdE_4 dX0_findLeast_28 rfl mxE_4 (by decide)
theorem e_4_29 {d : Nat} {R : Rt} {L : Lo} {S : List Value} {G : Mem} {z c s : Nat} : WP d 4 R 29 L S G z c s = WP d 4 R 30 L (.int 0 :: S) G z c s := q_iconst cdE_4 dX0_findLeast_29 (by decide)
theorem e_4_30 {d : Nat} {R : Rt} {L : Lo} {S : List Value} {G : Mem} {z c s : Nat} {x : Int32} : WP d 4 R 30 L (.int x :: S) G z c s = (noL L 4 ∧ WP d 4 R 32 (lset L 4 (some (.int x))) S G z c s) := q_istore cdE_4 dX0_findLeast_30 mxE_4 (by decide)
theorem e_4_32 {d : Nat} {R : Rt} {L : Lo} {S : List Value} {G : Mem} {z c s : Nat} : WP d 4 R 32 L S G z c s = (okI (lgo L 4) ∧ WP d 4 R 34 L (.int (vI (lgo L 4)) :: S) G z c s) := q_iload cdE_4 dX0_findLeast_32
theorem e_4_34 {d : Nat} {R : Rt} {L : Lo} {S : List Value} {G : Mem} {z c s : Nat} : WP d 4 R 34 L S G z c s = (okR (lgo L 0) ∧ WP d 4 R 35 L (va_rf (vR (lgo L 0)) :: S) G z c s) := q_aload_n cdE_4 dX0_findLeast_34 rfl
theorem e_4_35 {d : Nat} {R : Rt} {L : Lo} {S : List Value} {G : Mem} {z c s : Nat} {a : Nat} : WP d 4 R 35 L (va_rf (some a) :: S) G z c s = (mK G a = 0 ∧ WP d 4 R 38 L (.int (mI G 0 5 a) :: S) G z c s) := q_getI cdE_4 dX0_findLeast_35 owE_4 rfl (by decide)
theorem e_4_38 {d : Nat} {R : Rt} {L : Lo} {S : List Value} {G : Mem} {z c s : Nat} {x y : Int32} : WP d 4 R 38 L (.int y :: .int x :: S) G z c s = if y ≤ x then WP d 4 R 76 L S G z c s else WP d 4 R 41 L S G z c s := q_icge cdE_4 dX0_findLeast_38 (by decide)
theorem e_4_41 {d : Nat} {R : Rt} {L : Lo} {S : List Value} {G : Mem} {z c s : Nat} : WP d 4 R 41 L S G z c s = (okI (lgo L 3) ∧ WP d 4 R 42 L (.int (vI (lgo L 3)) :: S) G z c s) := q_iload_n cdE_4 dX0_findLeast_41 rfl
theorem e_4_42 {d : Nat} {R : Rt} {L : Lo} {S : List Value} {G : Mem} {z c s : Nat} : WP d 4 R 42 L S G z c s = (okI (lgo L 4) ∧ WP d 4 R 44 L (.int (vI (lgo L 4)) :: S) G z c s) := q_iload cdE_4 dX0_findLeast_42
theorem e_4_44 {d : Nat} {R : Rt} {L : Lo} {S : List Value} {G : Mem} {z c s : Nat} {a0 : Int32} {a1 : Int32} : WP d 4 R 44 L (.int a1 :: .int a0 :: S) G z c s = (S.length ≤ 4 ∧ c + 0 ≤ 0 ∧ s + 0 ≤ 0 ∧ CALL d 11 [.int a0, .int a1] G z (rtn d 4 R 47 L S (c + 0) (s + 0))) := q_callS (as := [.int a1, .int a0]) cdE_4 dX0_findLeast_44 owE_4 (Or.inl rfl) rfl rfl (by simp only [List.reverse_cons, List.reverse_nil, List.nil_append, List.cons_append, entL, isL_int, isL_long, isL_rf, Bool.false_eq_true, if_false, if_true, List.length_cons, List.length_nil, mxE_11]; decide) mcE_4 msE_4 mcE_11 msE_11
theorem e_4_47 {d : Nat} {R : Rt} {L : Lo} {S : List Value} {G : Mem} {z c s : Nat} {x : Int32} : WP d 4 R 47 L (.int x :: S) G z c s = if x = 0 then WP d 4 R 70 L S G z c s else WP d 4 R 50 L S G z c s := q_ifeq cdE_4 dX0_findLeast_47 (by decide)
theorem e_4_50 {d : Nat} {R : Rt} {L : Lo} {S : List Value} {G : Mem} {z c s : Nat} : WP d 4 R 50 L S G z c s = (okR (lgo L 0) ∧ WP d 4 R 51 L (va_rf (vR (lgo L 0)) :: S) G z c s) := q_aload_n cdE_4 dX0_findLeast_50 rfl
theorem e_4_51 {d : Nat} {R : Rt} {L : Lo} {S : List Value} {G : Mem} {z c s : Nat} {a : Nat} : WP d 4 R 51 L (va_rf (some a) :: S) G z c s = (mK G a = 0 ∧ WP d 4 R 54 L (va_rf (mR G 0 3 a) :: S) G z c s) := q_getR cdE_4 dX0_findLeast_51 owE_4 rfl (by decide)
theorem e_4_54 {d : Nat} {R : Rt} {L : Lo} {S : List Value} {G : Mem} {z c s : Nat} : WP d 4 R 54 L S G z c s = (okI (lgo L 1) ∧ WP d 4 R 55 L (.int (vI (lgo L 1)) :: S) G z c s) := q_iload_n cdE_4 dX0_findLeast_54 rfl
theorem e_4_55 {d : Nat} {R : Rt} {L : Lo} {S : List Value} {G : Mem} {z c s : Nat} : WP d 4 R 55 L S G z c s = WP d 4 R 57 L (.int 9 :: S) G z c s := q_bipush cdE_4 dX0_findLeast_55 (by decide)
theorem e_4_57 {d : Nat} {R : Rt} {L : Lo} {S : List Value} {G : Mem} {z c s : Nat} {x y : Int32} : WP d 4 R 57 L (.int y :: .int x :: S) G z c s = WP d 4 R 58 L (.int (x * y) :: S) G z c s := q_imul cdE_4 dX0_findLeast_57
theorem e_4_58 {d : Nat} {R : Rt} {L : Lo} {S : List Value} {G : Mem} {z c s : Nat} : WP d 4 R 58 L S G z c s = (okI (lgo L 4) ∧ WP d 4 R 60 L (.int (vI (lgo L 4)) :: S) G z c s) := q_iload cdE_4 dX0_findLeast_58
theorem e_4_60 {d : Nat} {R : Rt} {L : Lo} {S : List Value} {G : Mem} {z c s : Nat} {x y : Int32} : WP d 4 R 60 L (.int y :: .int x :: S) G z c s = WP d 4 R 61 L (.int (x + y) :: S) G z c s := q_iadd cdE_4 dX0_findLeast_60
theorem e_4_61 {d : Nat} {R : Rt} {L : Lo} {S : List Value} {G : Mem} {z c s : Nat} : WP d 4 R 61 L S G z c s = (okR (lgo L 0) ∧ WP d 4 R 62 L (va_rf (vR (lgo L 0)) :: S) G z c s) := q_aload_n cdE_4 dX0_findLeast_61 rfl
theorem e_4_62 {d : Nat} {R : Rt} {L : Lo} {S : List Value} {G : Mem} {z c s : Nat} : WP d 4 R 62 L S G z c s = (okI (lgo L 1) ∧ WP d 4 R 63 L (.int (vI (lgo L 1)) :: S) G z c s) := q_iload_n cdE_4 dX0_findLeast_62 rfl
theorem e_4_63 {d : Nat} {R : Rt} {L : Lo} {S : List Value} {G : Mem} {z c s : Nat} : WP d 4 R 63 L S G z c s = (okI (lgo L 2) ∧ WP d 4 R 64 L (.int (vI (lgo L 2)) :: S) G z c s) := q_iload_n cdE_4 dX0_findLeast_63 rfl
theorem e_4_64 {d : Nat} {R : Rt} {L : Lo} {S : List Value} {G : Mem} {z c s : Nat} : WP d 4 R 64 L S G z c s = (okI (lgo L 4) ∧ WP d 4 R 66 L (.int (vI (lgo L 4)) :: S) G z c s) := q_iload cdE_4 dX0_findLeast_64
theorem e_4_66 {d : Nat} {R : Rt} {L : Lo} {S : List Value} {G : Mem} {z c s : Nat} {a0 : Int32} {a1 : Int32} {a2 : Int32} {b : Nat} : WP d 4 R 66 L (.int a2 :: .int a1 :: .int a0 :: va_rf (some b) :: S) G z c s = ((mK G b = 0) ∧ S.length ≤ 4 ∧ c + 0 ≤ 0 ∧ s + 0 ≤ 0 ∧ CALL d 5 [va_rf (some b), .int a0, .int a1, .int a2] G z (rtn d 4 R 69 L S (c + 0) (s + 0))) := q_callV (as := [.int a2, .int a1, .int a0]) cdE_4 dX0_findLeast_66 owE_4 rfl rfl rfl (by simp only [List.reverse_cons, List.reverse_nil, List.nil_append, List.cons_append, entL, isL_int, isL_long, isL_rf, Bool.false_eq_true, if_false, if_true, List.length_cons, List.length_nil, mxE_5]; decide) mcE_4 msE_4 mcE_5 msE_5
theorem e_4_69 {d : Nat} {R : Rt} {L : Lo} {S : List Value} {G : Mem} {z c s : Nat} {a : Nat} {i x : Int32} : WP d 4 R 69 L (.int x :: .int i :: va_rf (some a) :: S) G z c s = (mK G a = 20 ∧ vp_in i (mN G a) ∧ WP d 4 R 70 L S (pE G a i.toNatClampNeg x) z c s) := q_iast cdE_4 dX0_findLeast_69
theorem e_4_70 {d : Nat} {R : Rt} {L : Lo} {S : List Value} {G : Mem} {z c s : Nat} : WP d 4 R 70 L S G z c s = (okI (lgo L 4) ∧ noL L 4 ∧ WP d 4 R 73 (lset L 4 (some (.int (vI (lgo L 4) + 1)))) S G z c s) := q_iinc cdE_4 dX0_findLeast_70 mxE_4 (by decide) (by decide)
theorem e_4_73 {d : Nat} {R : Rt} {L : Lo} {S : List Value} {G : Mem} {z c s : Nat} : WP d 4 R 73 L S G z c s = WP d 4 R 32 L S G z c s := q_goto cdE_4 dX0_findLeast_73 (by decide)
theorem e_4_76 {d : Nat} {R : Rt} {L : Lo} {S : List Value} {G : Mem} {z c s : Nat} : WP d 4 R 76 L S G z c s = (okI (lgo L 1) ∧ noL L 1 ∧ WP d 4 R 79 (lset L 1 (some (.int (vI (lgo L 1) + (-1))))) S G z c s) := q_iinc cdE_4 dX0_findLeast_76 mxE_4 (by decide) (by decide)
theorem e_4_79 {d : Nat} {R : Rt} {L : Lo} {S : List Value} {G : Mem} {z c s : Nat} : WP d 4 R 79 L S G z c s = WP d 4 R 9 L S G z c s := q_goto cdE_4 dX0_findLeast_79 (by decide)
theorem e_4_82 {d : Nat} {R : Rt} {L : Lo} {G : Mem} {z c s : Nat} : WP d 4 R 82 L [] G z c s = (c ≤ 0 ∧ s ≤ 0 ∧ R none G z) := q_vret cdE_4 dX0_findLeast_82 rfl mcE_4 msE_4
theorem e_5_0 {d : Nat} {R : Rt} {L : Lo} {S : List Value} {G : Mem} {z c s : Nat} : WP d 5 R 0 L S G z c s = (okI (lgo L 2) ∧ WP d 5 R 1 L (.int (vI (lgo L 2)) :: S) G z c s) := q_iload_n cdE_5 dX0_leastFrom_0 rfl
theorem e_5_1 {d : Nat} {R : Rt} {L : Lo} {S : List Value} {G : Mem} {z c s : Nat} : WP d 5 R 1 L S G z c s = (okR (lgo L 0) ∧ WP d 5 R 2 L (va_rf (vR (lgo L 0)) :: S) G z c s) := q_aload_n cdE_5 dX0_leastFrom_1 rfl
theorem e_5_2 {d : Nat} {R : Rt} {L : Lo} {S : List Value} {G : Mem} {z c s : Nat} {a : Nat} : WP d 5 R 2 L (va_rf (some a) :: S) G z c s = (mK G a = 0 ∧ WP d 5 R 5 L (.int (mI G 0 5 a) :: S) G z c s) := q_getI cdE_5 dX0_leastFrom_2 owE_5 rfl (by decide)
theorem e_5_5 {d : Nat} {R : Rt} {L : Lo} {S : List Value} {G : Mem} {z c s : Nat} {x y : Int32} : WP d 5 R 5 L (.int y :: .int x :: S) G z c s = if x < y then WP d 5 R 10 L S G z c s else WP d 5 R 8 L S G z c s := q_iclt cdE_5 dX0_leastFrom_5 (by decide)
theorem e_5_8 {d : Nat} {R : Rt} {L : Lo} {S : List Value} {G : Mem} {z c s : Nat} : WP d 5 R 8 L S G z c s = WP d 5 R 9 L (.int 0 :: S) G z c s := q_iconst cdE_5 dX0_leastFrom_8 (by decide)
theorem e_5_9 {d : Nat} {R : Rt} {L : Lo} {G : Mem} {z c s : Nat} {v : Int32} : WP d 5 R 9 L [.int v] G z c s = (c ≤ 0 ∧ s ≤ 0 ∧ R (some (.int v)) G z) := q_iret cdE_5 dX0_leastFrom_9 rfl mcE_5 msE_5
theorem e_5_10 {d : Nat} {R : Rt} {L : Lo} {S : List Value} {G : Mem} {z c s : Nat} : WP d 5 R 10 L S G z c s = (okR (lgo L 0) ∧ WP d 5 R 11 L (va_rf (vR (lgo L 0)) :: S) G z c s) := q_aload_n cdE_5 dX0_leastFrom_10 rfl
theorem e_5_11 {d : Nat} {R : Rt} {L : Lo} {S : List Value} {G : Mem} {z c s : Nat} {a : Nat} : WP d 5 R 11 L (va_rf (some a) :: S) G z c s = (mK G a = 0 ∧ WP d 5 R 14 L (va_rf (mR G 0 2 a) :: S) G z c s) := q_getR cdE_5 dX0_leastFrom_11 owE_5 rfl (by decide)
theorem e_5_14 {d : Nat} {R : Rt} {L : Lo} {S : List Value} {G : Mem} {z c s : Nat} : WP d 5 R 14 L S G z c s = (okI (lgo L 2) ∧ WP d 5 R 15 L (.int (vI (lgo L 2)) :: S) G z c s) := q_iload_n cdE_5 dX0_leastFrom_14 rfl
theorem e_5_15 {d : Nat} {R : Rt} {L : Lo} {S : List Value} {G : Mem} {z c s : Nat} {a : Nat} {i : Int32} : WP d 5 R 15 L (.int i :: va_rf (some a) :: S) G z c s = ((mK G a = 20 ∨ mK G a = 25) ∧ vp_in i (mN G a) ∧ WP d 5 R 16 L (.int (mE G a i.toNatClampNeg) :: S) G z c s) := q_iald cdE_5 dX0_leastFrom_15
theorem e_5_16 {d : Nat} {R : Rt} {L : Lo} {S : List Value} {G : Mem} {z c s : Nat} : WP d 5 R 16 L S G z c s = (okI (lgo L 1) ∧ WP d 5 R 17 L (.int (vI (lgo L 1)) :: S) G z c s) := q_iload_n cdE_5 dX0_leastFrom_16 rfl
theorem e_5_17 {d : Nat} {R : Rt} {L : Lo} {S : List Value} {G : Mem} {z c s : Nat} : WP d 5 R 17 L S G z c s = WP d 5 R 18 L (.int (-1) :: S) G z c s := q_iconst cdE_5 dX0_leastFrom_17 (by decide)
theorem e_5_18 {d : Nat} {R : Rt} {L : Lo} {S : List Value} {G : Mem} {z c s : Nat} {x y : Int32} : WP d 5 R 18 L (.int y :: .int x :: S) G z c s = WP d 5 R 19 L (.int (x ^^^ y) :: S) G z c s := q_ixor cdE_5 dX0_leastFrom_18
theorem e_5_19 {d : Nat} {R : Rt} {L : Lo} {S : List Value} {G : Mem} {z c s : Nat} {x y : Int32} : WP d 5 R 19 L (.int y :: .int x :: S) G z c s = WP d 5 R 20 L (.int (x &&& y) :: S) G z c s := q_iand cdE_5 dX0_leastFrom_19
theorem e_5_20 {d : Nat} {R : Rt} {L : Lo} {S : List Value} {G : Mem} {z c s : Nat} {x : Int32} : WP d 5 R 20 L (.int x :: S) G z c s = (noL L 4 ∧ WP d 5 R 22 (lset L 4 (some (.int x))) S G z c s) := q_istore cdE_5 dX0_leastFrom_20 mxE_5 (by decide)
theorem e_5_22 {d : Nat} {R : Rt} {L : Lo} {S : List Value} {G : Mem} {z c s : Nat} : WP d 5 R 22 L S G z c s = WP d 5 R 25 L (.int 1000 :: S) G z c s := q_sipush cdE_5 dX0_leastFrom_22 (by decide)
theorem e_5_25 {d : Nat} {R : Rt} {L : Lo} {S : List Value} {G : Mem} {z c s : Nat} {x : Int32} : WP d 5 R 25 L (.int x :: S) G z c s = (noL L 5 ∧ WP d 5 R 27 (lset L 5 (some (.int x))) S G z c s) := q_istore cdE_5 dX0_leastFrom_25 mxE_5 (by decide)
theorem e_5_27 {d : Nat} {R : Rt} {L : Lo} {S : List Value} {G : Mem} {z c s : Nat} : WP d 5 R 27 L S G z c s = WP d 5 R 28 L (.int 0 :: S) G z c s := q_iconst cdE_5 dX0_leastFrom_27 (by decide)
theorem e_5_28 {d : Nat} {R : Rt} {L : Lo} {S : List Value} {G : Mem} {z c s : Nat} {x : Int32} : WP d 5 R 28 L (.int x :: S) G z c s = (noL L 6 ∧ WP d 5 R 30 (lset L 6 (some (.int x))) S G z c s) := q_istore cdE_5 dX0_leastFrom_28 mxE_5 (by decide)
theorem e_5_30 {d : Nat} {R : Rt} {L : Lo} {S : List Value} {G : Mem} {z c s : Nat} : WP d 5 R 30 L S G z c s = (okI (lgo L 6) ∧ WP d 5 R 32 L (.int (vI (lgo L 6)) :: S) G z c s) := q_iload cdE_5 dX0_leastFrom_30
theorem e_5_32 {d : Nat} {R : Rt} {L : Lo} {S : List Value} {G : Mem} {z c s : Nat} : WP d 5 R 32 L S G z c s = (okR (lgo L 0) ∧ WP d 5 R 33 L (va_rf (vR (lgo L 0)) :: S) G z c s) := q_aload_n cdE_5 dX0_leastFrom_32 rfl
theorem e_5_33 {d : Nat} {R : Rt} {L : Lo} {S : List Value} {G : Mem} {z c s : Nat} {a : Nat} : WP d 5 R 33 L (va_rf (some a) :: S) G z c s = (mK G a = 0 ∧ WP d 5 R 36 L (.int (mI G 0 5 a) :: S) G z c s) := q_getI cdE_5 dX0_leastFrom_33 owE_5 rfl (by decide)
theorem e_5_36 {d : Nat} {R : Rt} {L : Lo} {S : List Value} {G : Mem} {z c s : Nat} {x y : Int32} : WP d 5 R 36 L (.int y :: .int x :: S) G z c s = if y ≤ x then WP d 5 R 70 L S G z c s else WP d 5 R 39 L S G z c s := q_icge cdE_5 dX0_leastFrom_36 (by decide)
theorem e_5_39 {d : Nat} {R : Rt} {L : Lo} {S : List Value} {G : Mem} {z c s : Nat} : WP d 5 R 39 L S G z c s = (okI (lgo L 4) ∧ WP d 5 R 41 L (.int (vI (lgo L 4)) :: S) G z c s) := q_iload cdE_5 dX0_leastFrom_39
theorem e_5_41 {d : Nat} {R : Rt} {L : Lo} {S : List Value} {G : Mem} {z c s : Nat} : WP d 5 R 41 L S G z c s = (okI (lgo L 6) ∧ WP d 5 R 43 L (.int (vI (lgo L 6)) :: S) G z c s) := q_iload cdE_5 dX0_leastFrom_41
theorem e_5_43 {d : Nat} {R : Rt} {L : Lo} {S : List Value} {G : Mem} {z c s : Nat} {a0 : Int32} {a1 : Int32} : WP d 5 R 43 L (.int a1 :: .int a0 :: S) G z c s = (S.length ≤ 4 ∧ c + 0 ≤ 0 ∧ s + 0 ≤ 0 ∧ CALL d 11 [.int a0, .int a1] G z (rtn d 5 R 46 L S (c + 0) (s + 0))) := q_callS (as := [.int a1, .int a0]) cdE_5 dX0_leastFrom_43 owE_5 (Or.inl rfl) rfl rfl (by simp only [List.reverse_cons, List.reverse_nil, List.nil_append, List.cons_append, entL, isL_int, isL_long, isL_rf, Bool.false_eq_true, if_false, if_true, List.length_cons, List.length_nil, mxE_11]; decide) mcE_5 msE_5 mcE_11 msE_11
theorem e_5_46 {d : Nat} {R : Rt} {L : Lo} {S : List Value} {G : Mem} {z c s : Nat} {x : Int32} : WP d 5 R 46 L (.int x :: S) G z c s = if x = 0 then WP d 5 R 64 L S G z c s else WP d 5 R 49 L S G z c s := q_ifeq cdE_5 dX0_leastFrom_46 (by decide)
theorem e_5_49 {d : Nat} {R : Rt} {L : Lo} {S : List Value} {G : Mem} {z c s : Nat} : WP d 5 R 49 L S G z c s = (okI (lgo L 5) ∧ WP d 5 R 51 L (.int (vI (lgo L 5)) :: S) G z c s) := q_iload cdE_5 dX0_leastFrom_49
theorem e_5_51 {d : Nat} {R : Rt} {L : Lo} {S : List Value} {G : Mem} {z c s : Nat} : WP d 5 R 51 L S G z c s = (okR (lgo L 0) ∧ WP d 5 R 52 L (va_rf (vR (lgo L 0)) :: S) G z c s) := q_aload_n cdE_5 dX0_leastFrom_51 rfl
theorem e_5_52 {d : Nat} {R : Rt} {L : Lo} {S : List Value} {G : Mem} {z c s : Nat} : WP d 5 R 52 L S G z c s = (okI (lgo L 1) ∧ WP d 5 R 53 L (.int (vI (lgo L 1)) :: S) G z c s) := q_iload_n cdE_5 dX0_leastFrom_52 rfl
theorem e_5_53 {d : Nat} {R : Rt} {L : Lo} {S : List Value} {G : Mem} {z c s : Nat} : WP d 5 R 53 L S G z c s = (okI (lgo L 3) ∧ WP d 5 R 54 L (.int (vI (lgo L 3)) :: S) G z c s) := q_iload_n cdE_5 dX0_leastFrom_53 rfl
theorem e_5_54 {d : Nat} {R : Rt} {L : Lo} {S : List Value} {G : Mem} {z c s : Nat} : WP d 5 R 54 L S G z c s = (okI (lgo L 6) ∧ WP d 5 R 56 L (.int (vI (lgo L 6)) :: S) G z c s) := q_iload cdE_5 dX0_leastFrom_54
theorem e_5_56 {d : Nat} {R : Rt} {L : Lo} {S : List Value} {G : Mem} {z c s : Nat} {a0 : Int32} {a1 : Int32} {a2 : Int32} {b : Nat} : WP d 5 R 56 L (.int a2 :: .int a1 :: .int a0 :: va_rf (some b) :: S) G z c s = ((mK G b = 0) ∧ S.length ≤ 4 ∧ c + 0 ≤ 0 ∧ s + 0 ≤ 0 ∧ CALL d 6 [va_rf (some b), .int a0, .int a1, .int a2] G z (rtn d 5 R 59 L S (c + 0) (s + 0))) := q_callV (as := [.int a2, .int a1, .int a0]) cdE_5 dX0_leastFrom_56 owE_5 rfl rfl rfl (by simp only [List.reverse_cons, List.reverse_nil, List.nil_append, List.cons_append, entL, isL_int, isL_long, isL_rf, Bool.false_eq_true, if_false, if_true, List.length_cons, List.length_nil, mxE_6]; decide) mcE_5 msE_5 mcE_6 msE_6
theorem e_5_59 {d : Nat} {R : Rt} {L : Lo} {S : List Value} {G : Mem} {z c s : Nat} {x y : Int32} : WP d 5 R 59 L (.int y :: .int x :: S) G z c s = (S.length ≤ 4 ∧ c ≤ 0 ∧ s ≤ 0 ∧ WP d 5 R 62 L (.int (if y < x then y else x) :: S) G z c s) := q_min cdE_5 dX0_leastFrom_59 owE_5 (j2 := 0) rfl mcE_5 msE_5
theorem e_5_62 {d : Nat} {R : Rt} {L : Lo} {S : List Value} {G : Mem} {z c s : Nat} {x : Int32} : WP d 5 R 62 L (.int x :: S) G z c s = (noL L 5 ∧ WP d 5 R 64 (lset L 5 (some (.int x))) S G z c s) := q_istore cdE_5 dX0_leastFrom_62 mxE_5 (by decide)
theorem e_5_64 {d : Nat} {R : Rt} {L : Lo} {S : List Value} {G : Mem} {z c s : Nat} : WP d 5 R 64 L S G z c s = (okI (lgo L 6) ∧ noL L 6 ∧ WP d 5 R 67 (lset L 6 (some (.int (vI (lgo L 6) + 1)))) S G z c s) := q_iinc cdE_5 dX0_leastFrom_64 mxE_5 (by decide) (by decide)
theorem e_5_67 {d : Nat} {R : Rt} {L : Lo} {S : List Value} {G : Mem} {z c s : Nat} : WP d 5 R 67 L S G z c s = WP d 5 R 30 L S G z c s := q_goto cdE_5 dX0_leastFrom_67 (by decide)
theorem e_5_70 {d : Nat} {R : Rt} {L : Lo} {S : List Value} {G : Mem} {z c s : Nat} : WP d 5 R 70 L S G z c s = (okI (lgo L 5) ∧ WP d 5 R 72 L (.int (vI (lgo L 5)) :: S) G z c s) := q_iload cdE_5 dX0_leastFrom_70
theorem e_5_72 {d : Nat} {R : Rt} {L : Lo} {G : Mem} {z c s : Nat} {v : Int32} : WP d 5 R 72 L [.int v] G z c s = (c ≤ 0 ∧ s ≤ 0 ∧ R (some (.int v)) G z) := q_iret cdE_5 dX0_leastFrom_72 rfl mcE_5 msE_5
theorem e_6_0 {d : Nat} {R : Rt} {L : Lo} {S : List Value} {G : Mem} {z c s : Nat} : WP d 6 R 0 L S G z c s = (okR (lgo L 0) ∧ WP d 6 R 1 L (va_rf (vR (lgo L 0)) :: S) G z c s) := q_aload_n cdE_6 dX0_sumThrough_0 rfl
theorem e_6_1 {d : Nat} {R : Rt} {L : Lo} {S : List Value} {G : Mem} {z c s : Nat} : WP d 6 R 1 L S G z c s = (okI (lgo L 2) ∧ WP d 6 R 2 L (.int (vI (lgo L 2)) :: S) G z c s) := q_iload_n cdE_6 dX0_sumThrough_1 rfl
theorem e_6_2 {d : Nat} {R : Rt} {L : Lo} {S : List Value} {G : Mem} {z c s : Nat} : WP d 6 R 2 L S G z c s = (okI (lgo L 3) ∧ WP d 6 R 3 L (.int (vI (lgo L 3)) :: S) G z c s) := q_iload_n cdE_6 dX0_sumThrough_2 rfl
theorem e_6_3 {d : Nat} {R : Rt} {L : Lo} {S : List Value} {G : Mem} {z c s : Nat} {a0 : Int32} {a1 : Int32} {b : Nat} : WP d 6 R 3 L (.int a1 :: .int a0 :: va_rf (some b) :: S) G z c s = ((mK G b = 0) ∧ S.length ≤ 4 ∧ c + 0 ≤ 0 ∧ s + 0 ≤ 0 ∧ CALL d 7 [va_rf (some b), .int a0, .int a1] G z (rtn d 6 R 6 L S (c + 0) (s + 0))) := q_callV (as := [.int a1, .int a0]) cdE_6 dX0_sumThrough_3 owE_6 rfl rfl rfl (by simp only [List.reverse_cons, List.reverse_nil, List.nil_append, List.cons_append, entL, isL_int, isL_long, isL_rf, Bool.false_eq_true, if_false, if_true, List.length_cons, List.length_nil, mxE_7]; decide) mcE_6 msE_6 mcE_7 msE_7
theorem e_6_6 {d : Nat} {R : Rt} {L : Lo} {S : List Value} {G : Mem} {z c s : Nat} : WP d 6 R 6 L S G z c s = (okR (lgo L 0) ∧ WP d 6 R 7 L (va_rf (vR (lgo L 0)) :: S) G z c s) := q_aload_n cdE_6 dX0_sumThrough_6 rfl
theorem e_6_7 {d : Nat} {R : Rt} {L : Lo} {S : List Value} {G : Mem} {z c s : Nat} {a : Nat} : WP d 6 R 7 L (va_rf (some a) :: S) G z c s = (mK G a = 0 ∧ WP d 6 R 10 L (va_rf (mR G 0 3 a) :: S) G z c s) := q_getR cdE_6 dX0_sumThrough_7 owE_6 rfl (by decide)
theorem e_6_10 {d : Nat} {R : Rt} {L : Lo} {S : List Value} {G : Mem} {z c s : Nat} : WP d 6 R 10 L S G z c s = (okI (lgo L 1) ∧ WP d 6 R 11 L (.int (vI (lgo L 1)) :: S) G z c s) := q_iload_n cdE_6 dX0_sumThrough_10 rfl
theorem e_6_11 {d : Nat} {R : Rt} {L : Lo} {S : List Value} {G : Mem} {z c s : Nat} : WP d 6 R 11 L S G z c s = WP d 6 R 12 L (.int 1 :: S) G z c s := q_iconst cdE_6 dX0_sumThrough_11 (by decide)
theorem e_6_12 {d : Nat} {R : Rt} {L : Lo} {S : List Value} {G : Mem} {z c s : Nat} : WP d 6 R 12 L S G z c s = (okI (lgo L 3) ∧ WP d 6 R 13 L (.int (vI (lgo L 3)) :: S) G z c s) := q_iload_n cdE_6 dX0_sumThrough_12 rfl
theorem e_6_13 {d : Nat} {R : Rt} {L : Lo} {S : List Value} {G : Mem} {z c s : Nat} {x y : Int32} : WP d 6 R 13 L (.int y :: .int x :: S) G z c s = WP d 6 R 14 L (.int (x <<< (y &&& 31)) :: S) G z c s := q_ishl cdE_6 dX0_sumThrough_13
theorem e_6_14 {d : Nat} {R : Rt} {L : Lo} {S : List Value} {G : Mem} {z c s : Nat} {x y : Int32} : WP d 6 R 14 L (.int y :: .int x :: S) G z c s = WP d 6 R 15 L (.int (x ||| y) :: S) G z c s := q_ior cdE_6 dX0_sumThrough_14
theorem e_6_15 {d : Nat} {R : Rt} {L : Lo} {S : List Value} {G : Mem} {z c s : Nat} : WP d 6 R 15 L S G z c s = WP d 6 R 17 L (.int 9 :: S) G z c s := q_bipush cdE_6 dX0_sumThrough_15 (by decide)
theorem e_6_17 {d : Nat} {R : Rt} {L : Lo} {S : List Value} {G : Mem} {z c s : Nat} {x y : Int32} : WP d 6 R 17 L (.int y :: .int x :: S) G z c s = WP d 6 R 18 L (.int (x * y) :: S) G z c s := q_imul cdE_6 dX0_sumThrough_17
theorem e_6_18 {d : Nat} {R : Rt} {L : Lo} {S : List Value} {G : Mem} {z c s : Nat} : WP d 6 R 18 L S G z c s = (okI (lgo L 3) ∧ WP d 6 R 19 L (.int (vI (lgo L 3)) :: S) G z c s) := q_iload_n cdE_6 dX0_sumThrough_18 rfl
theorem e_6_19 {d : Nat} {R : Rt} {L : Lo} {S : List Value} {G : Mem} {z c s : Nat} {x y : Int32} : WP d 6 R 19 L (.int y :: .int x :: S) G z c s = WP d 6 R 20 L (.int (x + y) :: S) G z c s := q_iadd cdE_6 dX0_sumThrough_19
theorem e_6_20 {d : Nat} {R : Rt} {L : Lo} {S : List Value} {G : Mem} {z c s : Nat} {a : Nat} {i : Int32} : WP d 6 R 20 L (.int i :: va_rf (some a) :: S) G z c s = ((mK G a = 20 ∨ mK G a = 25) ∧ vp_in i (mN G a) ∧ WP d 6 R 21 L (.int (mE G a i.toNatClampNeg) :: S) G z c s) := q_iald cdE_6 dX0_sumThrough_20
theorem e_6_21 {d : Nat} {R : Rt} {L : Lo} {S : List Value} {G : Mem} {z c s : Nat} {x y : Int32} : WP d 6 R 21 L (.int y :: .int x :: S) G z c s = WP d 6 R 22 L (.int (x + y) :: S) G z c s := q_iadd cdE_6 dX0_sumThrough_21
theorem e_6_22 {d : Nat} {R : Rt} {L : Lo} {G : Mem} {z c s : Nat} {v : Int32} : WP d 6 R 22 L [.int v] G z c s = (c ≤ 0 ∧ s ≤ 0 ∧ R (some (.int v)) G z) := q_iret cdE_6 dX0_sumThrough_22 rfl mcE_6 msE_6
theorem e_7_0 {d : Nat} {R : Rt} {L : Lo} {S : List Value} {G : Mem} {z c s : Nat} : WP d 7 R 0 L S G z c s = (okR (lgo L 0) ∧ WP d 7 R 1 L (va_rf (vR (lgo L 0)) :: S) G z c s) := q_aload_n cdE_7 dX0_waitBetween_0 rfl
theorem e_7_1 {d : Nat} {R : Rt} {L : Lo} {S : List Value} {G : Mem} {z c s : Nat} {a : Nat} : WP d 7 R 1 L (va_rf (some a) :: S) G z c s = (mK G a = 0 ∧ WP d 7 R 4 L (va_rf (mR G 0 1 a) :: S) G z c s) := q_getR cdE_7 dX0_waitBetween_1 owE_7 rfl (by decide)
theorem e_7_4 {d : Nat} {R : Rt} {L : Lo} {S : List Value} {G : Mem} {z c s : Nat} : WP d 7 R 4 L S G z c s = (okI (lgo L 1) ∧ WP d 7 R 5 L (.int (vI (lgo L 1)) :: S) G z c s) := q_iload_n cdE_7 dX0_waitBetween_4 rfl
theorem e_7_5 {d : Nat} {R : Rt} {L : Lo} {S : List Value} {G : Mem} {z c s : Nat} {a : Nat} {i : Int32} : WP d 7 R 5 L (.int i :: va_rf (some a) :: S) G z c s = ((mK G a = 21 ∨ mK G a = 22 ∨ mK G a = 26) ∧ vp_in i (mN G a) ∧ WP d 7 R 6 L (.int (mE G a i.toNatClampNeg) :: S) G z c s) := q_bald cdE_7 dX0_waitBetween_5
theorem e_7_6 {d : Nat} {R : Rt} {L : Lo} {S : List Value} {G : Mem} {z c s : Nat} {x : Int32} : WP d 7 R 6 L (.int x :: S) G z c s = if x = 0 then WP d 7 R 22 L S G z c s else WP d 7 R 9 L S G z c s := q_ifeq cdE_7 dX0_waitBetween_6 (by decide)
theorem e_7_9 {d : Nat} {R : Rt} {L : Lo} {S : List Value} {G : Mem} {z c s : Nat} : WP d 7 R 9 L S G z c s = (okR (lgo L 0) ∧ WP d 7 R 10 L (va_rf (vR (lgo L 0)) :: S) G z c s) := q_aload_n cdE_7 dX0_waitBetween_9 rfl
theorem e_7_10 {d : Nat} {R : Rt} {L : Lo} {S : List Value} {G : Mem} {z c s : Nat} {a : Nat} : WP d 7 R 10 L (va_rf (some a) :: S) G z c s = (mK G a = 0 ∧ WP d 7 R 13 L (va_rf (mR G 0 1 a) :: S) G z c s) := q_getR cdE_7 dX0_waitBetween_10 owE_7 rfl (by decide)
theorem e_7_13 {d : Nat} {R : Rt} {L : Lo} {S : List Value} {G : Mem} {z c s : Nat} : WP d 7 R 13 L S G z c s = (okI (lgo L 2) ∧ WP d 7 R 14 L (.int (vI (lgo L 2)) :: S) G z c s) := q_iload_n cdE_7 dX0_waitBetween_13 rfl
theorem e_7_14 {d : Nat} {R : Rt} {L : Lo} {S : List Value} {G : Mem} {z c s : Nat} {a : Nat} {i : Int32} : WP d 7 R 14 L (.int i :: va_rf (some a) :: S) G z c s = ((mK G a = 21 ∨ mK G a = 22 ∨ mK G a = 26) ∧ vp_in i (mN G a) ∧ WP d 7 R 15 L (.int (mE G a i.toNatClampNeg) :: S) G z c s) := q_bald cdE_7 dX0_waitBetween_14
theorem e_7_15 {d : Nat} {R : Rt} {L : Lo} {S : List Value} {G : Mem} {z c s : Nat} {x : Int32} : WP d 7 R 15 L (.int x :: S) G z c s = if x = 0 then WP d 7 R 22 L S G z c s else WP d 7 R 18 L S G z c s := q_ifeq cdE_7 dX0_waitBetween_15 (by decide)
theorem e_7_18 {d : Nat} {R : Rt} {L : Lo} {S : List Value} {G : Mem} {z c s : Nat} : WP d 7 R 18 L S G z c s = WP d 7 R 21 L (.int 1000 :: S) G z c s := q_sipush cdE_7 dX0_waitBetween_18 (by decide)
theorem e_7_21 {d : Nat} {R : Rt} {L : Lo} {G : Mem} {z c s : Nat} {v : Int32} : WP d 7 R 21 L [.int v] G z c s = (c ≤ 0 ∧ s ≤ 0 ∧ R (some (.int v)) G z) := q_iret cdE_7 dX0_waitBetween_21 rfl mcE_7 msE_7
theorem e_7_22 {d : Nat} {R : Rt} {L : Lo} {S : List Value} {G : Mem} {z c s : Nat} : WP d 7 R 22 L S G z c s = (okR (lgo L 0) ∧ WP d 7 R 23 L (va_rf (vR (lgo L 0)) :: S) G z c s) := q_aload_n cdE_7 dX0_waitBetween_22 rfl
theorem e_7_23 {d : Nat} {R : Rt} {L : Lo} {S : List Value} {G : Mem} {z c s : Nat} {a : Nat} : WP d 7 R 23 L (va_rf (some a) :: S) G z c s = (mK G a = 0 ∧ WP d 7 R 26 L (va_rf (mR G 0 0 a) :: S) G z c s) := q_getR cdE_7 dX0_waitBetween_23 owE_7 rfl (by decide)
theorem e_7_26 {d : Nat} {R : Rt} {L : Lo} {S : List Value} {G : Mem} {z c s : Nat} : WP d 7 R 26 L S G z c s = (okI (lgo L 1) ∧ WP d 7 R 27 L (.int (vI (lgo L 1)) :: S) G z c s) := q_iload_n cdE_7 dX0_waitBetween_26 rfl
theorem e_7_27 {d : Nat} {R : Rt} {L : Lo} {S : List Value} {G : Mem} {z c s : Nat} {a : Nat} {i : Int32} : WP d 7 R 27 L (.int i :: va_rf (some a) :: S) G z c s = ((mK G a = 21 ∨ mK G a = 22 ∨ mK G a = 26) ∧ vp_in i (mN G a) ∧ WP d 7 R 28 L (.int (mE G a i.toNatClampNeg) :: S) G z c s) := q_bald cdE_7 dX0_waitBetween_27
theorem e_7_28 {d : Nat} {R : Rt} {L : Lo} {S : List Value} {G : Mem} {z c s : Nat} {x : Int32} : WP d 7 R 28 L (.int x :: S) G z c s = if x = 0 then WP d 7 R 31 L S G z c s else WP d 7 R 40 L S G z c s := q_ifne cdE_7 dX0_waitBetween_28 (by decide)
theorem e_7_31 {d : Nat} {R : Rt} {L : Lo} {S : List Value} {G : Mem} {z c s : Nat} : WP d 7 R 31 L S G z c s = (okR (lgo L 0) ∧ WP d 7 R 32 L (va_rf (vR (lgo L 0)) :: S) G z c s) := q_aload_n cdE_7 dX0_waitBetween_31 rfl
theorem e_7_32 {d : Nat} {R : Rt} {L : Lo} {S : List Value} {G : Mem} {z c s : Nat} {a : Nat} : WP d 7 R 32 L (va_rf (some a) :: S) G z c s = (mK G a = 0 ∧ WP d 7 R 35 L (va_rf (mR G 0 0 a) :: S) G z c s) := q_getR cdE_7 dX0_waitBetween_32 owE_7 rfl (by decide)
theorem e_7_35 {d : Nat} {R : Rt} {L : Lo} {S : List Value} {G : Mem} {z c s : Nat} : WP d 7 R 35 L S G z c s = (okI (lgo L 2) ∧ WP d 7 R 36 L (.int (vI (lgo L 2)) :: S) G z c s) := q_iload_n cdE_7 dX0_waitBetween_35 rfl
theorem e_7_36 {d : Nat} {R : Rt} {L : Lo} {S : List Value} {G : Mem} {z c s : Nat} {a : Nat} {i : Int32} : WP d 7 R 36 L (.int i :: va_rf (some a) :: S) G z c s = ((mK G a = 21 ∨ mK G a = 22 ∨ mK G a = 26) ∧ vp_in i (mN G a) ∧ WP d 7 R 37 L (.int (mE G a i.toNatClampNeg) :: S) G z c s) := q_bald cdE_7 dX0_waitBetween_36
theorem e_7_37 {d : Nat} {R : Rt} {L : Lo} {S : List Value} {G : Mem} {z c s : Nat} {x : Int32} : WP d 7 R 37 L (.int x :: S) G z c s = if x = 0 then WP d 7 R 42 L S G z c s else WP d 7 R 40 L S G z c s := q_ifeq cdE_7 dX0_waitBetween_37 (by decide)
theorem e_7_40 {d : Nat} {R : Rt} {L : Lo} {S : List Value} {G : Mem} {z c s : Nat} : WP d 7 R 40 L S G z c s = WP d 7 R 41 L (.int 0 :: S) G z c s := q_iconst cdE_7 dX0_waitBetween_40 (by decide)
theorem e_7_41 {d : Nat} {R : Rt} {L : Lo} {G : Mem} {z c s : Nat} {v : Int32} : WP d 7 R 41 L [.int v] G z c s = (c ≤ 0 ∧ s ≤ 0 ∧ R (some (.int v)) G z) := q_iret cdE_7 dX0_waitBetween_41 rfl mcE_7 msE_7
theorem e_7_42 {d : Nat} {R : Rt} {L : Lo} {S : List Value} {G : Mem} {z c s : Nat} : WP d 7 R 42 L S G z c s = (okR (lgo L 0) ∧ WP d 7 R 43 L (va_rf (vR (lgo L 0)) :: S) G z c s) := q_aload_n cdE_7 dX0_waitBetween_42 rfl
theorem e_7_43 {d : Nat} {R : Rt} {L : Lo} {S : List Value} {G : Mem} {z c s : Nat} {a : Nat} : WP d 7 R 43 L (va_rf (some a) :: S) G z c s = (mK G a = 0 ∧ WP d 7 R 46 L (va_rf (mR G 0 1 a) :: S) G z c s) := q_getR cdE_7 dX0_waitBetween_43 owE_7 rfl (by decide)
theorem e_7_46 {d : Nat} {R : Rt} {L : Lo} {S : List Value} {G : Mem} {z c s : Nat} : WP d 7 R 46 L S G z c s = (okI (lgo L 1) ∧ WP d 7 R 47 L (.int (vI (lgo L 1)) :: S) G z c s) := q_iload_n cdE_7 dX0_waitBetween_46 rfl
theorem e_7_47 {d : Nat} {R : Rt} {L : Lo} {S : List Value} {G : Mem} {z c s : Nat} {a : Nat} {i : Int32} : WP d 7 R 47 L (.int i :: va_rf (some a) :: S) G z c s = ((mK G a = 21 ∨ mK G a = 22 ∨ mK G a = 26) ∧ vp_in i (mN G a) ∧ WP d 7 R 48 L (.int (mE G a i.toNatClampNeg) :: S) G z c s) := q_bald cdE_7 dX0_waitBetween_47
theorem e_7_48 {d : Nat} {R : Rt} {L : Lo} {S : List Value} {G : Mem} {z c s : Nat} {x : Int32} : WP d 7 R 48 L (.int x :: S) G z c s = if x = 0 then WP d 7 R 51 L S G z c s else WP d 7 R 60 L S G z c s := q_ifne cdE_7 dX0_waitBetween_48 (by decide)
theorem e_7_51 {d : Nat} {R : Rt} {L : Lo} {S : List Value} {G : Mem} {z c s : Nat} : WP d 7 R 51 L S G z c s = (okR (lgo L 0) ∧ WP d 7 R 52 L (va_rf (vR (lgo L 0)) :: S) G z c s) := q_aload_n cdE_7 dX0_waitBetween_51 rfl
theorem e_7_52 {d : Nat} {R : Rt} {L : Lo} {S : List Value} {G : Mem} {z c s : Nat} {a : Nat} : WP d 7 R 52 L (va_rf (some a) :: S) G z c s = (mK G a = 0 ∧ WP d 7 R 55 L (va_rf (mR G 0 1 a) :: S) G z c s) := q_getR cdE_7 dX0_waitBetween_52 owE_7 rfl (by decide)
theorem e_7_55 {d : Nat} {R : Rt} {L : Lo} {S : List Value} {G : Mem} {z c s : Nat} : WP d 7 R 55 L S G z c s = (okI (lgo L 2) ∧ WP d 7 R 56 L (.int (vI (lgo L 2)) :: S) G z c s) := q_iload_n cdE_7 dX0_waitBetween_55 rfl
theorem e_7_56 {d : Nat} {R : Rt} {L : Lo} {S : List Value} {G : Mem} {z c s : Nat} {a : Nat} {i : Int32} : WP d 7 R 56 L (.int i :: va_rf (some a) :: S) G z c s = ((mK G a = 21 ∨ mK G a = 22 ∨ mK G a = 26) ∧ vp_in i (mN G a) ∧ WP d 7 R 57 L (.int (mE G a i.toNatClampNeg) :: S) G z c s) := q_bald cdE_7 dX0_waitBetween_56
theorem e_7_57 {d : Nat} {R : Rt} {L : Lo} {S : List Value} {G : Mem} {z c s : Nat} {x : Int32} : WP d 7 R 57 L (.int x :: S) G z c s = if x = 0 then WP d 7 R 64 L S G z c s else WP d 7 R 60 L S G z c s := q_ifeq cdE_7 dX0_waitBetween_57 (by decide)
theorem e_7_60 {d : Nat} {R : Rt} {L : Lo} {S : List Value} {G : Mem} {z c s : Nat} : WP d 7 R 60 L S G z c s = WP d 7 R 61 L (.int 2 :: S) G z c s := q_iconst cdE_7 dX0_waitBetween_60 (by decide)
theorem e_7_61 {d : Nat} {R : Rt} {L : Lo} {S : List Value} {G : Mem} {z c s : Nat} : WP d 7 R 61 L S G z c s = WP d 7 R 65 L S G z c s := q_goto cdE_7 dX0_waitBetween_61 (by decide)
theorem e_7_64 {d : Nat} {R : Rt} {L : Lo} {S : List Value} {G : Mem} {z c s : Nat} : WP d 7 R 64 L S G z c s = WP d 7 R 65 L (.int 1 :: S) G z c s := q_iconst cdE_7 dX0_waitBetween_64 (by decide)
theorem e_7_65 {d : Nat} {R : Rt} {L : Lo} {G : Mem} {z c s : Nat} {v : Int32} : WP d 7 R 65 L [.int v] G z c s = (c ≤ 0 ∧ s ≤ 0 ∧ R (some (.int v)) G z) := q_iret cdE_7 dX0_waitBetween_65 rfl mcE_7 msE_7
theorem e_8_0 {d : Nat} {R : Rt} {L : Lo} {S : List Value} {G : Mem} {z c s : Nat} : WP d 8 R 0 L S G z c s = (okR (lgo L 0) ∧ WP d 8 R 1 L (va_rf (vR (lgo L 0)) :: S) G z c s) := q_aload_n cdE_8 dX0_layLeast_0 rfl
theorem e_8_1 {d : Nat} {R : Rt} {L : Lo} {S : List Value} {G : Mem} {z c s : Nat} {b : Nat} : WP d 8 R 1 L (va_rf (some b) :: S) G z c s = ((mK G b = 0) ∧ S.length ≤ 4 ∧ c + 0 ≤ 0 ∧ s + 0 ≤ 0 ∧ CALL d 9 [va_rf (some b)] G z (rtn d 8 R 4 L S (c + 0) (s + 0))) := q_callV (as := []) cdE_8 dX0_layLeast_1 owE_8 rfl rfl rfl (by simp only [List.reverse_cons, List.reverse_nil, List.nil_append, List.cons_append, entL, isL_int, isL_long, isL_rf, Bool.false_eq_true, if_false, if_true, List.length_cons, List.length_nil, mxE_9]; decide) mcE_8 msE_8 mcE_9 msE_9
theorem e_8_4 {d : Nat} {R : Rt} {L : Lo} {S : List Value} {G : Mem} {z c s : Nat} {x : Int32} : WP d 8 R 4 L (.int x :: S) G z c s = (noL L 2 ∧ WP d 8 R 5 (lset L 2 (some (.int x))) S G z c s) := q_istore_n cdE_8 dX0_layLeast_4 rfl mxE_8 (by decide)
theorem e_8_5 {d : Nat} {R : Rt} {L : Lo} {S : List Value} {G : Mem} {z c s : Nat} : WP d 8 R 5 L S G z c s = (okI (lgo L 2) ∧ WP d 8 R 6 L (.int (vI (lgo L 2)) :: S) G z c s) := q_iload_n cdE_8 dX0_layLeast_5 rfl
theorem e_8_6 {d : Nat} {R : Rt} {L : Lo} {S : List Value} {G : Mem} {z c s : Nat} : WP d 8 R 6 L S G z c s = WP d 8 R 7 L (.int (-1) :: S) G z c s := q_iconst cdE_8 dX0_layLeast_6 (by decide)
theorem e_8_7 {d : Nat} {R : Rt} {L : Lo} {S : List Value} {G : Mem} {z c s : Nat} {x y : Int32} : WP d 8 R 7 L (.int y :: .int x :: S) G z c s = if x = y then WP d 8 R 10 L S G z c s else WP d 8 R 11 L S G z c s := q_icne cdE_8 dX0_layLeast_7 (by decide)
theorem e_8_10 {d : Nat} {R : Rt} {L : Lo} {G : Mem} {z c s : Nat} : WP d 8 R 10 L [] G z c s = (c ≤ 0 ∧ s ≤ 0 ∧ R none G z) := q_vret cdE_8 dX0_layLeast_10 rfl mcE_8 msE_8
theorem e_8_11 {d : Nat} {R : Rt} {L : Lo} {S : List Value} {G : Mem} {z c s : Nat} : WP d 8 R 11 L S G z c s = (okR (lgo L 0) ∧ WP d 8 R 12 L (va_rf (vR (lgo L 0)) :: S) G z c s) := q_aload_n cdE_8 dX0_layLeast_11 rfl
theorem e_8_12 {d : Nat} {R : Rt} {L : Lo} {S : List Value} {G : Mem} {z c s : Nat} : WP d 8 R 12 L S G z c s = (okR (lgo L 0) ∧ WP d 8 R 13 L (va_rf (vR (lgo L 0)) :: S) G z c s) := q_aload_n cdE_8 dX0_layLeast_12 rfl
theorem e_8_13 {d : Nat} {R : Rt} {L : Lo} {S : List Value} {G : Mem} {z c s : Nat} {a : Nat} : WP d 8 R 13 L (va_rf (some a) :: S) G z c s = (mK G a = 0 ∧ WP d 8 R 16 L (va_rf (mR G 0 3 a) :: S) G z c s) := q_getR cdE_8 dX0_layLeast_13 owE_8 rfl (by decide)
theorem e_8_16 {d : Nat} {R : Rt} {L : Lo} {S : List Value} {G : Mem} {z c s : Nat} : WP d 8 R 16 L S G z c s = WP d 8 R 17 L (.int 1 :: S) G z c s := q_iconst cdE_8 dX0_layLeast_16 (by decide)
theorem e_8_17 {d : Nat} {R : Rt} {L : Lo} {S : List Value} {G : Mem} {z c s : Nat} : WP d 8 R 17 L S G z c s = (okI (lgo L 2) ∧ WP d 8 R 18 L (.int (vI (lgo L 2)) :: S) G z c s) := q_iload_n cdE_8 dX0_layLeast_17 rfl
theorem e_8_18 {d : Nat} {R : Rt} {L : Lo} {S : List Value} {G : Mem} {z c s : Nat} {x y : Int32} : WP d 8 R 18 L (.int y :: .int x :: S) G z c s = WP d 8 R 19 L (.int (x <<< (y &&& 31)) :: S) G z c s := q_ishl cdE_8 dX0_layLeast_18
theorem e_8_19 {d : Nat} {R : Rt} {L : Lo} {S : List Value} {G : Mem} {z c s : Nat} : WP d 8 R 19 L S G z c s = WP d 8 R 21 L (.int 9 :: S) G z c s := q_bipush cdE_8 dX0_layLeast_19 (by decide)
theorem e_8_21 {d : Nat} {R : Rt} {L : Lo} {S : List Value} {G : Mem} {z c s : Nat} {x y : Int32} : WP d 8 R 21 L (.int y :: .int x :: S) G z c s = WP d 8 R 22 L (.int (x * y) :: S) G z c s := q_imul cdE_8 dX0_layLeast_21
theorem e_8_22 {d : Nat} {R : Rt} {L : Lo} {S : List Value} {G : Mem} {z c s : Nat} : WP d 8 R 22 L S G z c s = (okI (lgo L 2) ∧ WP d 8 R 23 L (.int (vI (lgo L 2)) :: S) G z c s) := q_iload_n cdE_8 dX0_layLeast_22 rfl
theorem e_8_23 {d : Nat} {R : Rt} {L : Lo} {S : List Value} {G : Mem} {z c s : Nat} {x y : Int32} : WP d 8 R 23 L (.int y :: .int x :: S) G z c s = WP d 8 R 24 L (.int (x + y) :: S) G z c s := q_iadd cdE_8 dX0_layLeast_23
theorem e_8_24 {d : Nat} {R : Rt} {L : Lo} {S : List Value} {G : Mem} {z c s : Nat} {a : Nat} {i : Int32} : WP d 8 R 24 L (.int i :: va_rf (some a) :: S) G z c s = ((mK G a = 20 ∨ mK G a = 25) ∧ vp_in i (mN G a) ∧ WP d 8 R 25 L (.int (mE G a i.toNatClampNeg) :: S) G z c s) := q_iald cdE_8 dX0_layLeast_24
theorem e_8_25 {d : Nat} {R : Rt} {L : Lo} {S : List Value} {G : Mem} {z c s : Nat} {a : Nat} {v : Int32} : WP d 8 R 25 L (.int v :: va_rf (some a) :: S) G z c s = (mK G a = 0 ∧ WP d 8 R 28 L S (pI G 0 6 a v) z c s) := q_putI cdE_8 dX0_layLeast_25 owE_8 rfl (by decide) rfl
theorem e_8_28 {d : Nat} {R : Rt} {L : Lo} {S : List Value} {G : Mem} {z c s : Nat} : WP d 8 R 28 L S G z c s = (okR (lgo L 0) ∧ WP d 8 R 29 L (va_rf (vR (lgo L 0)) :: S) G z c s) := q_aload_n cdE_8 dX0_layLeast_28 rfl
theorem e_8_29 {d : Nat} {R : Rt} {L : Lo} {S : List Value} {G : Mem} {z c s : Nat} {a : Nat} : WP d 8 R 29 L (va_rf (some a) :: S) G z c s = (mK G a = 0 ∧ WP d 8 R 32 L (va_rf (mR G 0 4 a) :: S) G z c s) := q_getR cdE_8 dX0_layLeast_29 owE_8 rfl (by decide)
theorem e_8_32 {d : Nat} {R : Rt} {L : Lo} {S : List Value} {G : Mem} {z c s : Nat} : WP d 8 R 32 L S G z c s = WP d 8 R 33 L (.int 0 :: S) G z c s := q_iconst cdE_8 dX0_layLeast_32 (by decide)
theorem e_8_33 {d : Nat} {R : Rt} {L : Lo} {S : List Value} {G : Mem} {z c s : Nat} : WP d 8 R 33 L S G z c s = (okR (lgo L 1) ∧ WP d 8 R 34 L (va_rf (vR (lgo L 1)) :: S) G z c s) := q_aload_n cdE_8 dX0_layLeast_33 rfl
theorem e_8_34 {d : Nat} {R : Rt} {L : Lo} {S : List Value} {G : Mem} {z c s : Nat} : WP d 8 R 34 L S G z c s = (okI (lgo L 2) ∧ WP d 8 R 35 L (.int (vI (lgo L 2)) :: S) G z c s) := q_iload_n cdE_8 dX0_layLeast_34 rfl
theorem e_8_35 {d : Nat} {R : Rt} {L : Lo} {S : List Value} {G : Mem} {z c s : Nat} {a0 : Int32} {b : Nat} : WP d 8 R 35 L (.int a0 :: va_rf (some b) :: S) G z c s = ((mK G b = 1) ∧ S.length ≤ 4 ∧ c + 0 ≤ 0 ∧ s + 0 ≤ 0 ∧ CALL d 15 [va_rf (some b), .int a0] G z (rtn d 8 R 38 L S (c + 0) (s + 0))) := q_callV (as := [.int a0]) cdE_8 dX0_layLeast_35 owE_8 rfl rfl rfl (by simp only [List.reverse_cons, List.reverse_nil, List.nil_append, List.cons_append, entL, isL_int, isL_long, isL_rf, Bool.false_eq_true, if_false, if_true, List.length_cons, List.length_nil, mxE_15]; decide) mcE_8 msE_8 mcE_15 msE_15
theorem e_8_38 {d : Nat} {R : Rt} {L : Lo} {S : List Value} {G : Mem} {z c s : Nat} {a : Nat} {i x : Int32} : WP d 8 R 38 L (.int x :: .int i :: va_rf (some a) :: S) G z c s = (mK G a = 20 ∧ vp_in i (mN G a) ∧ WP d 8 R 39 L S (pE G a i.toNatClampNeg x) z c s) := q_iast cdE_8 dX0_layLeast_38
theorem e_8_39 {d : Nat} {R : Rt} {L : Lo} {S : List Value} {G : Mem} {z c s : Nat} : WP d 8 R 39 L S G z c s = WP d 8 R 40 L (.int 1 :: S) G z c s := q_iconst cdE_8 dX0_layLeast_39 (by decide)
theorem e_8_40 {d : Nat} {R : Rt} {L : Lo} {S : List Value} {G : Mem} {z c s : Nat} : WP d 8 R 40 L S G z c s = (okI (lgo L 2) ∧ WP d 8 R 41 L (.int (vI (lgo L 2)) :: S) G z c s) := q_iload_n cdE_8 dX0_layLeast_40 rfl
theorem e_8_41 {d : Nat} {R : Rt} {L : Lo} {S : List Value} {G : Mem} {z c s : Nat} {x y : Int32} : WP d 8 R 41 L (.int y :: .int x :: S) G z c s = WP d 8 R 42 L (.int (x <<< (y &&& 31)) :: S) G z c s := q_ishl cdE_8 dX0_layLeast_41
theorem e_8_42 {d : Nat} {R : Rt} {L : Lo} {S : List Value} {G : Mem} {z c s : Nat} {x : Int32} : WP d 8 R 42 L (.int x :: S) G z c s = (noL L 3 ∧ WP d 8 R 43 (lset L 3 (some (.int x))) S G z c s) := q_istore_n cdE_8 dX0_layLeast_42 rfl mxE_8 (by decide)
theorem e_8_43 {d : Nat} {R : Rt} {L : Lo} {S : List Value} {G : Mem} {z c s : Nat} : WP d 8 R 43 L S G z c s = WP d 8 R 44 L (.int 1 :: S) G z c s := q_iconst cdE_8 dX0_layLeast_43 (by decide)
theorem e_8_44 {d : Nat} {R : Rt} {L : Lo} {S : List Value} {G : Mem} {z c s : Nat} {x : Int32} : WP d 8 R 44 L (.int x :: S) G z c s = (noL L 4 ∧ WP d 8 R 46 (lset L 4 (some (.int x))) S G z c s) := q_istore cdE_8 dX0_layLeast_44 mxE_8 (by decide)
theorem e_8_46 {d : Nat} {R : Rt} {L : Lo} {S : List Value} {G : Mem} {z c s : Nat} : WP d 8 R 46 L S G z c s = (okI (lgo L 4) ∧ WP d 8 R 48 L (.int (vI (lgo L 4)) :: S) G z c s) := q_iload cdE_8 dX0_layLeast_46
theorem e_8_48 {d : Nat} {R : Rt} {L : Lo} {S : List Value} {G : Mem} {z c s : Nat} : WP d 8 R 48 L S G z c s = (okR (lgo L 0) ∧ WP d 8 R 49 L (va_rf (vR (lgo L 0)) :: S) G z c s) := q_aload_n cdE_8 dX0_layLeast_48 rfl
theorem e_8_49 {d : Nat} {R : Rt} {L : Lo} {S : List Value} {G : Mem} {z c s : Nat} {a : Nat} : WP d 8 R 49 L (va_rf (some a) :: S) G z c s = (mK G a = 0 ∧ WP d 8 R 52 L (.int (mI G 0 5 a) :: S) G z c s) := q_getI cdE_8 dX0_layLeast_49 owE_8 rfl (by decide)
theorem e_8_52 {d : Nat} {R : Rt} {L : Lo} {S : List Value} {G : Mem} {z c s : Nat} {x y : Int32} : WP d 8 R 52 L (.int y :: .int x :: S) G z c s = if y ≤ x then WP d 8 R 102 L S G z c s else WP d 8 R 55 L S G z c s := q_icge cdE_8 dX0_layLeast_52 (by decide)
theorem e_8_55 {d : Nat} {R : Rt} {L : Lo} {S : List Value} {G : Mem} {z c s : Nat} : WP d 8 R 55 L S G z c s = (okI (lgo L 2) ∧ WP d 8 R 56 L (.int (vI (lgo L 2)) :: S) G z c s) := q_iload_n cdE_8 dX0_layLeast_55 rfl
theorem e_8_56 {d : Nat} {R : Rt} {L : Lo} {S : List Value} {G : Mem} {z c s : Nat} : WP d 8 R 56 L S G z c s = WP d 8 R 57 L (.int (-1) :: S) G z c s := q_iconst cdE_8 dX0_layLeast_56 (by decide)
theorem e_8_57 {d : Nat} {R : Rt} {L : Lo} {S : List Value} {G : Mem} {z c s : Nat} {x y : Int32} : WP d 8 R 57 L (.int y :: .int x :: S) G z c s = if x = y then WP d 8 R 102 L S G z c s else WP d 8 R 60 L S G z c s := q_iceq cdE_8 dX0_layLeast_57 (by decide)
theorem e_8_60 {d : Nat} {R : Rt} {L : Lo} {S : List Value} {G : Mem} {z c s : Nat} : WP d 8 R 60 L S G z c s = (okR (lgo L 0) ∧ WP d 8 R 61 L (va_rf (vR (lgo L 0)) :: S) G z c s) := q_aload_n cdE_8 dX0_layLeast_60 rfl
theorem e_8_61 {d : Nat} {R : Rt} {L : Lo} {S : List Value} {G : Mem} {z c s : Nat} : WP d 8 R 61 L S G z c s = (okI (lgo L 3) ∧ WP d 8 R 62 L (.int (vI (lgo L 3)) :: S) G z c s) := q_iload_n cdE_8 dX0_layLeast_61 rfl
theorem e_8_62 {d : Nat} {R : Rt} {L : Lo} {S : List Value} {G : Mem} {z c s : Nat} : WP d 8 R 62 L S G z c s = (okI (lgo L 4) ∧ WP d 8 R 64 L (.int (vI (lgo L 4)) :: S) G z c s) := q_iload cdE_8 dX0_layLeast_62
theorem e_8_64 {d : Nat} {R : Rt} {L : Lo} {S : List Value} {G : Mem} {z c s : Nat} : WP d 8 R 64 L S G z c s = (okI (lgo L 2) ∧ WP d 8 R 65 L (.int (vI (lgo L 2)) :: S) G z c s) := q_iload_n cdE_8 dX0_layLeast_64 rfl
theorem e_8_65 {d : Nat} {R : Rt} {L : Lo} {S : List Value} {G : Mem} {z c s : Nat} {a0 : Int32} {a1 : Int32} {a2 : Int32} {b : Nat} : WP d 8 R 65 L (.int a2 :: .int a1 :: .int a0 :: va_rf (some b) :: S) G z c s = ((mK G b = 0) ∧ S.length ≤ 4 ∧ c + 0 ≤ 0 ∧ s + 0 ≤ 0 ∧ CALL d 10 [va_rf (some b), .int a0, .int a1, .int a2] G z (rtn d 8 R 68 L S (c + 0) (s + 0))) := q_callV (as := [.int a2, .int a1, .int a0]) cdE_8 dX0_layLeast_65 owE_8 rfl rfl rfl (by simp only [List.reverse_cons, List.reverse_nil, List.nil_append, List.cons_append, entL, isL_int, isL_long, isL_rf, Bool.false_eq_true, if_false, if_true, List.length_cons, List.length_nil, mxE_10]; decide) mcE_8 msE_8 mcE_10 msE_10
theorem e_8_68 {d : Nat} {R : Rt} {L : Lo} {S : List Value} {G : Mem} {z c s : Nat} {x : Int32} : WP d 8 R 68 L (.int x :: S) G z c s = (noL L 2 ∧ WP d 8 R 69 (lset L 2 (some (.int x))) S G z c s) := q_istore_n cdE_8 dX0_layLeast_68 rfl mxE_8 (by decide)
theorem e_8_69 {d : Nat} {R : Rt} {L : Lo} {S : List Value} {G : Mem} {z c s : Nat} : WP d 8 R 69 L S G z c s = (okR (lgo L 0) ∧ WP d 8 R 70 L (va_rf (vR (lgo L 0)) :: S) G z c s) := q_aload_n cdE_8 dX0_layLeast_69 rfl
theorem e_8_70 {d : Nat} {R : Rt} {L : Lo} {S : List Value} {G : Mem} {z c s : Nat} {a : Nat} : WP d 8 R 70 L (va_rf (some a) :: S) G z c s = (mK G a = 0 ∧ WP d 8 R 73 L (va_rf (mR G 0 4 a) :: S) G z c s) := q_getR cdE_8 dX0_layLeast_70 owE_8 rfl (by decide)
theorem e_8_73 {d : Nat} {R : Rt} {L : Lo} {S : List Value} {G : Mem} {z c s : Nat} : WP d 8 R 73 L S G z c s = (okI (lgo L 4) ∧ WP d 8 R 75 L (.int (vI (lgo L 4)) :: S) G z c s) := q_iload cdE_8 dX0_layLeast_73
theorem e_8_75 {d : Nat} {R : Rt} {L : Lo} {S : List Value} {G : Mem} {z c s : Nat} : WP d 8 R 75 L S G z c s = (okR (lgo L 1) ∧ WP d 8 R 76 L (va_rf (vR (lgo L 1)) :: S) G z c s) := q_aload_n cdE_8 dX0_layLeast_75 rfl
theorem e_8_76 {d : Nat} {R : Rt} {L : Lo} {S : List Value} {G : Mem} {z c s : Nat} : WP d 8 R 76 L S G z c s = (okI (lgo L 2) ∧ WP d 8 R 77 L (.int (vI (lgo L 2)) :: S) G z c s) := q_iload_n cdE_8 dX0_layLeast_76 rfl
theorem e_8_77 {d : Nat} {R : Rt} {L : Lo} {S : List Value} {G : Mem} {z c s : Nat} {a0 : Int32} {b : Nat} : WP d 8 R 77 L (.int a0 :: va_rf (some b) :: S) G z c s = ((mK G b = 1) ∧ S.length ≤ 4 ∧ c + 0 ≤ 0 ∧ s + 0 ≤ 0 ∧ CALL d 15 [va_rf (some b), .int a0] G z (rtn d 8 R 80 L S (c + 0) (s + 0))) := q_callV (as := [.int a0]) cdE_8 dX0_layLeast_77 owE_8 rfl rfl rfl (by simp only [List.reverse_cons, List.reverse_nil, List.nil_append, List.cons_append, entL, isL_int, isL_long, isL_rf, Bool.false_eq_true, if_false, if_true, List.length_cons, List.length_nil, mxE_15]; decide) mcE_8 msE_8 mcE_15 msE_15
theorem e_8_80 {d : Nat} {R : Rt} {L : Lo} {S : List Value} {G : Mem} {z c s : Nat} {a : Nat} {i x : Int32} : WP d 8 R 80 L (.int x :: .int i :: va_rf (some a) :: S) G z c s = (mK G a = 20 ∧ vp_in i (mN G a) ∧ WP d 8 R 81 L S (pE G a i.toNatClampNeg x) z c s) := q_iast cdE_8 dX0_layLeast_80
theorem e_8_81 {d : Nat} {R : Rt} {L : Lo} {S : List Value} {G : Mem} {z c s : Nat} : WP d 8 R 81 L S G z c s = (okI (lgo L 3) ∧ WP d 8 R 82 L (.int (vI (lgo L 3)) :: S) G z c s) := q_iload_n cdE_8 dX0_layLeast_81 rfl
theorem e_8_82 {d : Nat} {R : Rt} {L : Lo} {S : List Value} {G : Mem} {z c s : Nat} : WP d 8 R 82 L S G z c s = (okI (lgo L 2) ∧ WP d 8 R 83 L (.int (vI (lgo L 2)) :: S) G z c s) := q_iload_n cdE_8 dX0_layLeast_82 rfl
theorem e_8_83 {d : Nat} {R : Rt} {L : Lo} {S : List Value} {G : Mem} {z c s : Nat} : WP d 8 R 83 L S G z c s = WP d 8 R 84 L (.int (-1) :: S) G z c s := q_iconst cdE_8 dX0_layLeast_83 (by decide)
theorem e_8_84 {d : Nat} {R : Rt} {L : Lo} {S : List Value} {G : Mem} {z c s : Nat} {x y : Int32} : WP d 8 R 84 L (.int y :: .int x :: S) G z c s = if x = y then WP d 8 R 87 L S G z c s else WP d 8 R 91 L S G z c s := q_icne cdE_8 dX0_layLeast_84 (by decide)
theorem e_8_87 {d : Nat} {R : Rt} {L : Lo} {S : List Value} {G : Mem} {z c s : Nat} : WP d 8 R 87 L S G z c s = WP d 8 R 88 L (.int 0 :: S) G z c s := q_iconst cdE_8 dX0_layLeast_87 (by decide)
theorem e_8_88 {d : Nat} {R : Rt} {L : Lo} {S : List Value} {G : Mem} {z c s : Nat} : WP d 8 R 88 L S G z c s = WP d 8 R 94 L S G z c s := q_goto cdE_8 dX0_layLeast_88 (by decide)
theorem e_8_91 {d : Nat} {R : Rt} {L : Lo} {S : List Value} {G : Mem} {z c s : Nat} : WP d 8 R 91 L S G z c s = WP d 8 R 92 L (.int 1 :: S) G z c s := q_iconst cdE_8 dX0_layLeast_91 (by decide)
theorem e_8_92 {d : Nat} {R : Rt} {L : Lo} {S : List Value} {G : Mem} {z c s : Nat} : WP d 8 R 92 L S G z c s = (okI (lgo L 2) ∧ WP d 8 R 93 L (.int (vI (lgo L 2)) :: S) G z c s) := q_iload_n cdE_8 dX0_layLeast_92 rfl
theorem e_8_93 {d : Nat} {R : Rt} {L : Lo} {S : List Value} {G : Mem} {z c s : Nat} {x y : Int32} : WP d 8 R 93 L (.int y :: .int x :: S) G z c s = WP d 8 R 94 L (.int (x <<< (y &&& 31)) :: S) G z c s := q_ishl cdE_8 dX0_layLeast_93
theorem e_8_94 {d : Nat} {R : Rt} {L : Lo} {S : List Value} {G : Mem} {z c s : Nat} {x y : Int32} : WP d 8 R 94 L (.int y :: .int x :: S) G z c s = WP d 8 R 95 L (.int (x ||| y) :: S) G z c s := q_ior cdE_8 dX0_layLeast_94
theorem e_8_95 {d : Nat} {R : Rt} {L : Lo} {S : List Value} {G : Mem} {z c s : Nat} {x : Int32} : WP d 8 R 95 L (.int x :: S) G z c s = (noL L 3 ∧ WP d 8 R 96 (lset L 3 (some (.int x))) S G z c s) := q_istore_n cdE_8 dX0_layLeast_95 rfl mxE_8 (by decide)
theorem e_8_96 {d : Nat} {R : Rt} {L : Lo} {S : List Value} {G : Mem} {z c s : Nat} : WP d 8 R 96 L S G z c s = (okI (lgo L 4) ∧ noL L 4 ∧ WP d 8 R 99 (lset L 4 (some (.int (vI (lgo L 4) + 1)))) S G z c s) := q_iinc cdE_8 dX0_layLeast_96 mxE_8 (by decide) (by decide)
theorem e_8_99 {d : Nat} {R : Rt} {L : Lo} {S : List Value} {G : Mem} {z c s : Nat} : WP d 8 R 99 L S G z c s = WP d 8 R 46 L S G z c s := q_goto cdE_8 dX0_layLeast_99 (by decide)
theorem e_8_102 {d : Nat} {R : Rt} {L : Lo} {G : Mem} {z c s : Nat} : WP d 8 R 102 L [] G z c s = (c ≤ 0 ∧ s ≤ 0 ∧ R none G z) := q_vret cdE_8 dX0_layLeast_102 rfl mcE_8 msE_8
theorem e_9_0 {d : Nat} {R : Rt} {L : Lo} {S : List Value} {G : Mem} {z c s : Nat} : WP d 9 R 0 L S G z c s = WP d 9 R 1 L (.int (-1) :: S) G z c s := q_iconst cdE_9 dX0_firstOfLeast_0 (by decide)
theorem e_9_1 {d : Nat} {R : Rt} {L : Lo} {S : List Value} {G : Mem} {z c s : Nat} {x : Int32} : WP d 9 R 1 L (.int x :: S) G z c s = (noL L 1 ∧ WP d 9 R 2 (lset L 1 (some (.int x))) S G z c s) := q_istore_n cdE_9 dX0_firstOfLeast_1 rfl mxE_9 (by decide)
theorem e_9_2 {d : Nat} {R : Rt} {L : Lo} {S : List Value} {G : Mem} {z c s : Nat} : WP d 9 R 2 L S G z c s = WP d 9 R 5 L (.int 1000 :: S) G z c s := q_sipush cdE_9 dX0_firstOfLeast_2 (by decide)
theorem e_9_5 {d : Nat} {R : Rt} {L : Lo} {S : List Value} {G : Mem} {z c s : Nat} {x : Int32} : WP d 9 R 5 L (.int x :: S) G z c s = (noL L 2 ∧ WP d 9 R 6 (lset L 2 (some (.int x))) S G z c s) := q_istore_n cdE_9 dX0_firstOfLeast_5 rfl mxE_9 (by decide)
theorem e_9_6 {d : Nat} {R : Rt} {L : Lo} {S : List Value} {G : Mem} {z c s : Nat} : WP d 9 R 6 L S G z c s = WP d 9 R 7 L (.int 0 :: S) G z c s := q_iconst cdE_9 dX0_firstOfLeast_6 (by decide)
theorem e_9_7 {d : Nat} {R : Rt} {L : Lo} {S : List Value} {G : Mem} {z c s : Nat} {x : Int32} : WP d 9 R 7 L (.int x :: S) G z c s = (noL L 3 ∧ WP d 9 R 8 (lset L 3 (some (.int x))) S G z c s) := q_istore_n cdE_9 dX0_firstOfLeast_7 rfl mxE_9 (by decide)
theorem e_9_8 {d : Nat} {R : Rt} {L : Lo} {S : List Value} {G : Mem} {z c s : Nat} : WP d 9 R 8 L S G z c s = (okI (lgo L 3) ∧ WP d 9 R 9 L (.int (vI (lgo L 3)) :: S) G z c s) := q_iload_n cdE_9 dX0_firstOfLeast_8 rfl
theorem e_9_9 {d : Nat} {R : Rt} {L : Lo} {S : List Value} {G : Mem} {z c s : Nat} : WP d 9 R 9 L S G z c s = (okR (lgo L 0) ∧ WP d 9 R 10 L (va_rf (vR (lgo L 0)) :: S) G z c s) := q_aload_n cdE_9 dX0_firstOfLeast_9 rfl
theorem e_9_10 {d : Nat} {R : Rt} {L : Lo} {S : List Value} {G : Mem} {z c s : Nat} {a : Nat} : WP d 9 R 10 L (va_rf (some a) :: S) G z c s = (mK G a = 0 ∧ WP d 9 R 13 L (.int (mI G 0 5 a) :: S) G z c s) := q_getI cdE_9 dX0_firstOfLeast_10 owE_9 rfl (by decide)
theorem e_9_13 {d : Nat} {R : Rt} {L : Lo} {S : List Value} {G : Mem} {z c s : Nat} {x y : Int32} : WP d 9 R 13 L (.int y :: .int x :: S) G z c s = if y ≤ x then WP d 9 R 68 L S G z c s else WP d 9 R 16 L S G z c s := q_icge cdE_9 dX0_firstOfLeast_13 (by decide)
theorem e_9_16 {d : Nat} {R : Rt} {L : Lo} {S : List Value} {G : Mem} {z c s : Nat} : WP d 9 R 16 L S G z c s = (okR (lgo L 0) ∧ WP d 9 R 17 L (va_rf (vR (lgo L 0)) :: S) G z c s) := q_aload_n cdE_9 dX0_firstOfLeast_16 rfl
theorem e_9_17 {d : Nat} {R : Rt} {L : Lo} {S : List Value} {G : Mem} {z c s : Nat} {a : Nat} : WP d 9 R 17 L (va_rf (some a) :: S) G z c s = (mK G a = 0 ∧ WP d 9 R 20 L (va_rf (mR G 0 2 a) :: S) G z c s) := q_getR cdE_9 dX0_firstOfLeast_17 owE_9 rfl (by decide)
theorem e_9_20 {d : Nat} {R : Rt} {L : Lo} {S : List Value} {G : Mem} {z c s : Nat} : WP d 9 R 20 L S G z c s = WP d 9 R 21 L (.int 0 :: S) G z c s := q_iconst cdE_9 dX0_firstOfLeast_20 (by decide)
theorem e_9_21 {d : Nat} {R : Rt} {L : Lo} {S : List Value} {G : Mem} {z c s : Nat} {a : Nat} {i : Int32} : WP d 9 R 21 L (.int i :: va_rf (some a) :: S) G z c s = ((mK G a = 20 ∨ mK G a = 25) ∧ vp_in i (mN G a) ∧ WP d 9 R 22 L (.int (mE G a i.toNatClampNeg) :: S) G z c s) := q_iald cdE_9 dX0_firstOfLeast_21
theorem e_9_22 {d : Nat} {R : Rt} {L : Lo} {S : List Value} {G : Mem} {z c s : Nat} : WP d 9 R 22 L S G z c s = (okI (lgo L 3) ∧ WP d 9 R 23 L (.int (vI (lgo L 3)) :: S) G z c s) := q_iload_n cdE_9 dX0_firstOfLeast_22 rfl
theorem e_9_23 {d : Nat} {R : Rt} {L : Lo} {S : List Value} {G : Mem} {z c s : Nat} {a0 : Int32} {a1 : Int32} : WP d 9 R 23 L (.int a1 :: .int a0 :: S) G z c s = (S.length ≤ 4 ∧ c + 0 ≤ 0 ∧ s + 0 ≤ 0 ∧ CALL d 11 [.int a0, .int a1] G z (rtn d 9 R 26 L S (c + 0) (s + 0))) := q_callS (as := [.int a1, .int a0]) cdE_9 dX0_firstOfLeast_23 owE_9 (Or.inl rfl) rfl rfl (by simp only [List.reverse_cons, List.reverse_nil, List.nil_append, List.cons_append, entL, isL_int, isL_long, isL_rf, Bool.false_eq_true, if_false, if_true, List.length_cons, List.length_nil, mxE_11]; decide) mcE_9 msE_9 mcE_11 msE_11
theorem e_9_26 {d : Nat} {R : Rt} {L : Lo} {S : List Value} {G : Mem} {z c s : Nat} {x : Int32} : WP d 9 R 26 L (.int x :: S) G z c s = if x = 0 then WP d 9 R 62 L S G z c s else WP d 9 R 29 L S G z c s := q_ifeq cdE_9 dX0_firstOfLeast_26 (by decide)
theorem e_9_29 {d : Nat} {R : Rt} {L : Lo} {S : List Value} {G : Mem} {z c s : Nat} : WP d 9 R 29 L S G z c s = (okR (lgo L 0) ∧ WP d 9 R 30 L (va_rf (vR (lgo L 0)) :: S) G z c s) := q_aload_n cdE_9 dX0_firstOfLeast_29 rfl
theorem e_9_30 {d : Nat} {R : Rt} {L : Lo} {S : List Value} {G : Mem} {z c s : Nat} {a : Nat} : WP d 9 R 30 L (va_rf (some a) :: S) G z c s = (mK G a = 0 ∧ WP d 9 R 33 L (va_rf (mR G 0 3 a) :: S) G z c s) := q_getR cdE_9 dX0_firstOfLeast_30 owE_9 rfl (by decide)
theorem e_9_33 {d : Nat} {R : Rt} {L : Lo} {S : List Value} {G : Mem} {z c s : Nat} : WP d 9 R 33 L S G z c s = WP d 9 R 34 L (.int 1 :: S) G z c s := q_iconst cdE_9 dX0_firstOfLeast_33 (by decide)
theorem e_9_34 {d : Nat} {R : Rt} {L : Lo} {S : List Value} {G : Mem} {z c s : Nat} : WP d 9 R 34 L S G z c s = (okI (lgo L 3) ∧ WP d 9 R 35 L (.int (vI (lgo L 3)) :: S) G z c s) := q_iload_n cdE_9 dX0_firstOfLeast_34 rfl
theorem e_9_35 {d : Nat} {R : Rt} {L : Lo} {S : List Value} {G : Mem} {z c s : Nat} {x y : Int32} : WP d 9 R 35 L (.int y :: .int x :: S) G z c s = WP d 9 R 36 L (.int (x <<< (y &&& 31)) :: S) G z c s := q_ishl cdE_9 dX0_firstOfLeast_35
theorem e_9_36 {d : Nat} {R : Rt} {L : Lo} {S : List Value} {G : Mem} {z c s : Nat} : WP d 9 R 36 L S G z c s = WP d 9 R 38 L (.int 9 :: S) G z c s := q_bipush cdE_9 dX0_firstOfLeast_36 (by decide)
theorem e_9_38 {d : Nat} {R : Rt} {L : Lo} {S : List Value} {G : Mem} {z c s : Nat} {x y : Int32} : WP d 9 R 38 L (.int y :: .int x :: S) G z c s = WP d 9 R 39 L (.int (x * y) :: S) G z c s := q_imul cdE_9 dX0_firstOfLeast_38
theorem e_9_39 {d : Nat} {R : Rt} {L : Lo} {S : List Value} {G : Mem} {z c s : Nat} : WP d 9 R 39 L S G z c s = (okI (lgo L 3) ∧ WP d 9 R 40 L (.int (vI (lgo L 3)) :: S) G z c s) := q_iload_n cdE_9 dX0_firstOfLeast_39 rfl
theorem e_9_40 {d : Nat} {R : Rt} {L : Lo} {S : List Value} {G : Mem} {z c s : Nat} {x y : Int32} : WP d 9 R 40 L (.int y :: .int x :: S) G z c s = WP d 9 R 41 L (.int (x + y) :: S) G z c s := q_iadd cdE_9 dX0_firstOfLeast_40
theorem e_9_41 {d : Nat} {R : Rt} {L : Lo} {S : List Value} {G : Mem} {z c s : Nat} {a : Nat} {i : Int32} : WP d 9 R 41 L (.int i :: va_rf (some a) :: S) G z c s = ((mK G a = 20 ∨ mK G a = 25) ∧ vp_in i (mN G a) ∧ WP d 9 R 42 L (.int (mE G a i.toNatClampNeg) :: S) G z c s) := q_iald cdE_9 dX0_firstOfLeast_41
theorem e_9_42 {d : Nat} {R : Rt} {L : Lo} {S : List Value} {G : Mem} {z c s : Nat} : WP d 9 R 42 L S G z c s = (okI (lgo L 2) ∧ WP d 9 R 43 L (.int (vI (lgo L 2)) :: S) G z c s) := q_iload_n cdE_9 dX0_firstOfLeast_42 rfl
theorem e_9_43 {d : Nat} {R : Rt} {L : Lo} {S : List Value} {G : Mem} {z c s : Nat} {x y : Int32} : WP d 9 R 43 L (.int y :: .int x :: S) G z c s = if y ≤ x then WP d 9 R 62 L S G z c s else WP d 9 R 46 L S G z c s := q_icge cdE_9 dX0_firstOfLeast_43 (by decide)
theorem e_9_46 {d : Nat} {R : Rt} {L : Lo} {S : List Value} {G : Mem} {z c s : Nat} : WP d 9 R 46 L S G z c s = (okR (lgo L 0) ∧ WP d 9 R 47 L (va_rf (vR (lgo L 0)) :: S) G z c s) := q_aload_n cdE_9 dX0_firstOfLeast_46 rfl
theorem e_9_47 {d : Nat} {R : Rt} {L : Lo} {S : List Value} {G : Mem} {z c s : Nat} {a : Nat} : WP d 9 R 47 L (va_rf (some a) :: S) G z c s = (mK G a = 0 ∧ WP d 9 R 50 L (va_rf (mR G 0 3 a) :: S) G z c s) := q_getR cdE_9 dX0_firstOfLeast_47 owE_9 rfl (by decide)
theorem e_9_50 {d : Nat} {R : Rt} {L : Lo} {S : List Value} {G : Mem} {z c s : Nat} : WP d 9 R 50 L S G z c s = WP d 9 R 51 L (.int 1 :: S) G z c s := q_iconst cdE_9 dX0_firstOfLeast_50 (by decide)
theorem e_9_51 {d : Nat} {R : Rt} {L : Lo} {S : List Value} {G : Mem} {z c s : Nat} : WP d 9 R 51 L S G z c s = (okI (lgo L 3) ∧ WP d 9 R 52 L (.int (vI (lgo L 3)) :: S) G z c s) := q_iload_n cdE_9 dX0_firstOfLeast_51 rfl
theorem e_9_52 {d : Nat} {R : Rt} {L : Lo} {S : List Value} {G : Mem} {z c s : Nat} {x y : Int32} : WP d 9 R 52 L (.int y :: .int x :: S) G z c s = WP d 9 R 53 L (.int (x <<< (y &&& 31)) :: S) G z c s := q_ishl cdE_9 dX0_firstOfLeast_52
theorem e_9_53 {d : Nat} {R : Rt} {L : Lo} {S : List Value} {G : Mem} {z c s : Nat} : WP d 9 R 53 L S G z c s = WP d 9 R 55 L (.int 9 :: S) G z c s := q_bipush cdE_9 dX0_firstOfLeast_53 (by decide)
theorem e_9_55 {d : Nat} {R : Rt} {L : Lo} {S : List Value} {G : Mem} {z c s : Nat} {x y : Int32} : WP d 9 R 55 L (.int y :: .int x :: S) G z c s = WP d 9 R 56 L (.int (x * y) :: S) G z c s := q_imul cdE_9 dX0_firstOfLeast_55
theorem e_9_56 {d : Nat} {R : Rt} {L : Lo} {S : List Value} {G : Mem} {z c s : Nat} : WP d 9 R 56 L S G z c s = (okI (lgo L 3) ∧ WP d 9 R 57 L (.int (vI (lgo L 3)) :: S) G z c s) := q_iload_n cdE_9 dX0_firstOfLeast_56 rfl
theorem e_9_57 {d : Nat} {R : Rt} {L : Lo} {S : List Value} {G : Mem} {z c s : Nat} {x y : Int32} : WP d 9 R 57 L (.int y :: .int x :: S) G z c s = WP d 9 R 58 L (.int (x + y) :: S) G z c s := q_iadd cdE_9 dX0_firstOfLeast_57
theorem e_9_58 {d : Nat} {R : Rt} {L : Lo} {S : List Value} {G : Mem} {z c s : Nat} {a : Nat} {i : Int32} : WP d 9 R 58 L (.int i :: va_rf (some a) :: S) G z c s = ((mK G a = 20 ∨ mK G a = 25) ∧ vp_in i (mN G a) ∧ WP d 9 R 59 L (.int (mE G a i.toNatClampNeg) :: S) G z c s) := q_iald cdE_9 dX0_firstOfLeast_58
theorem e_9_59 {d : Nat} {R : Rt} {L : Lo} {S : List Value} {G : Mem} {z c s : Nat} {x : Int32} : WP d 9 R 59 L (.int x :: S) G z c s = (noL L 2 ∧ WP d 9 R 60 (lset L 2 (some (.int x))) S G z c s) := q_istore_n cdE_9 dX0_firstOfLeast_59 rfl mxE_9 (by decide)
theorem e_9_60 {d : Nat} {R : Rt} {L : Lo} {S : List Value} {G : Mem} {z c s : Nat} : WP d 9 R 60 L S G z c s = (okI (lgo L 3) ∧ WP d 9 R 61 L (.int (vI (lgo L 3)) :: S) G z c s) := q_iload_n cdE_9 dX0_firstOfLeast_60 rfl
theorem e_9_61 {d : Nat} {R : Rt} {L : Lo} {S : List Value} {G : Mem} {z c s : Nat} {x : Int32} : WP d 9 R 61 L (.int x :: S) G z c s = (noL L 1 ∧ WP d 9 R 62 (lset L 1 (some (.int x))) S G z c s) := q_istore_n cdE_9 dX0_firstOfLeast_61 rfl mxE_9 (by decide)
theorem e_9_62 {d : Nat} {R : Rt} {L : Lo} {S : List Value} {G : Mem} {z c s : Nat} : WP d 9 R 62 L S G z c s = (okI (lgo L 3) ∧ noL L 3 ∧ WP d 9 R 65 (lset L 3 (some (.int (vI (lgo L 3) + 1)))) S G z c s) := q_iinc cdE_9 dX0_firstOfLeast_62 mxE_9 (by decide) (by decide)
theorem e_9_65 {d : Nat} {R : Rt} {L : Lo} {S : List Value} {G : Mem} {z c s : Nat} : WP d 9 R 65 L S G z c s = WP d 9 R 8 L S G z c s := q_goto cdE_9 dX0_firstOfLeast_65 (by decide)
theorem e_9_68 {d : Nat} {R : Rt} {L : Lo} {S : List Value} {G : Mem} {z c s : Nat} : WP d 9 R 68 L S G z c s = (okI (lgo L 1) ∧ WP d 9 R 69 L (.int (vI (lgo L 1)) :: S) G z c s) := q_iload_n cdE_9 dX0_firstOfLeast_68 rfl
theorem e_9_69 {d : Nat} {R : Rt} {L : Lo} {G : Mem} {z c s : Nat} {v : Int32} : WP d 9 R 69 L [.int v] G z c s = (c ≤ 0 ∧ s ≤ 0 ∧ R (some (.int v)) G z) := q_iret cdE_9 dX0_firstOfLeast_69 rfl mcE_9 msE_9
theorem e_10_0 {d : Nat} {R : Rt} {L : Lo} {S : List Value} {G : Mem} {z c s : Nat} : WP d 10 R 0 L S G z c s = (okR (lgo L 0) ∧ WP d 10 R 1 L (va_rf (vR (lgo L 0)) :: S) G z c s) := q_aload_n cdE_10 dX0_nextOfLeast_0 rfl
theorem e_10_1 {d : Nat} {R : Rt} {L : Lo} {S : List Value} {G : Mem} {z c s : Nat} {a : Nat} : WP d 10 R 1 L (va_rf (some a) :: S) G z c s = (mK G a = 0 ∧ WP d 10 R 4 L (va_rf (mR G 0 2 a) :: S) G z c s) := q_getR cdE_10 dX0_nextOfLeast_1 owE_10 rfl (by decide)
theorem e_10_4 {d : Nat} {R : Rt} {L : Lo} {S : List Value} {G : Mem} {z c s : Nat} : WP d 10 R 4 L S G z c s = (okI (lgo L 2) ∧ WP d 10 R 5 L (.int (vI (lgo L 2)) :: S) G z c s) := q_iload_n cdE_10 dX0_nextOfLeast_4 rfl
theorem e_10_5 {d : Nat} {R : Rt} {L : Lo} {S : List Value} {G : Mem} {z c s : Nat} {a : Nat} {i : Int32} : WP d 10 R 5 L (.int i :: va_rf (some a) :: S) G z c s = ((mK G a = 20 ∨ mK G a = 25) ∧ vp_in i (mN G a) ∧ WP d 10 R 6 L (.int (mE G a i.toNatClampNeg) :: S) G z c s) := q_iald cdE_10 dX0_nextOfLeast_5
theorem e_10_6 {d : Nat} {R : Rt} {L : Lo} {S : List Value} {G : Mem} {z c s : Nat} : WP d 10 R 6 L S G z c s = (okI (lgo L 1) ∧ WP d 10 R 7 L (.int (vI (lgo L 1)) :: S) G z c s) := q_iload_n cdE_10 dX0_nextOfLeast_6 rfl
theorem e_10_7 {d : Nat} {R : Rt} {L : Lo} {S : List Value} {G : Mem} {z c s : Nat} : WP d 10 R 7 L S G z c s = WP d 10 R 8 L (.int (-1) :: S) G z c s := q_iconst cdE_10 dX0_nextOfLeast_7 (by decide)
theorem e_10_8 {d : Nat} {R : Rt} {L : Lo} {S : List Value} {G : Mem} {z c s : Nat} {x y : Int32} : WP d 10 R 8 L (.int y :: .int x :: S) G z c s = WP d 10 R 9 L (.int (x ^^^ y) :: S) G z c s := q_ixor cdE_10 dX0_nextOfLeast_8
theorem e_10_9 {d : Nat} {R : Rt} {L : Lo} {S : List Value} {G : Mem} {z c s : Nat} {x y : Int32} : WP d 10 R 9 L (.int y :: .int x :: S) G z c s = WP d 10 R 10 L (.int (x &&& y) :: S) G z c s := q_iand cdE_10 dX0_nextOfLeast_9
theorem e_10_10 {d : Nat} {R : Rt} {L : Lo} {S : List Value} {G : Mem} {z c s : Nat} {x : Int32} : WP d 10 R 10 L (.int x :: S) G z c s = (noL L 4 ∧ WP d 10 R 12 (lset L 4 (some (.int x))) S G z c s) := q_istore cdE_10 dX0_nextOfLeast_10 mxE_10 (by decide)
theorem e_10_12 {d : Nat} {R : Rt} {L : Lo} {S : List Value} {G : Mem} {z c s : Nat} : WP d 10 R 12 L S G z c s = (okR (lgo L 0) ∧ WP d 10 R 13 L (va_rf (vR (lgo L 0)) :: S) G z c s) := q_aload_n cdE_10 dX0_nextOfLeast_12 rfl
theorem e_10_13 {d : Nat} {R : Rt} {L : Lo} {S : List Value} {G : Mem} {z c s : Nat} {a : Nat} : WP d 10 R 13 L (va_rf (some a) :: S) G z c s = (mK G a = 0 ∧ WP d 10 R 16 L (va_rf (mR G 0 3 a) :: S) G z c s) := q_getR cdE_10 dX0_nextOfLeast_13 owE_10 rfl (by decide)
theorem e_10_16 {d : Nat} {R : Rt} {L : Lo} {S : List Value} {G : Mem} {z c s : Nat} : WP d 10 R 16 L S G z c s = (okI (lgo L 1) ∧ WP d 10 R 17 L (.int (vI (lgo L 1)) :: S) G z c s) := q_iload_n cdE_10 dX0_nextOfLeast_16 rfl
theorem e_10_17 {d : Nat} {R : Rt} {L : Lo} {S : List Value} {G : Mem} {z c s : Nat} : WP d 10 R 17 L S G z c s = WP d 10 R 19 L (.int 9 :: S) G z c s := q_bipush cdE_10 dX0_nextOfLeast_17 (by decide)
theorem e_10_19 {d : Nat} {R : Rt} {L : Lo} {S : List Value} {G : Mem} {z c s : Nat} {x y : Int32} : WP d 10 R 19 L (.int y :: .int x :: S) G z c s = WP d 10 R 20 L (.int (x * y) :: S) G z c s := q_imul cdE_10 dX0_nextOfLeast_19
theorem e_10_20 {d : Nat} {R : Rt} {L : Lo} {S : List Value} {G : Mem} {z c s : Nat} : WP d 10 R 20 L S G z c s = (okI (lgo L 3) ∧ WP d 10 R 21 L (.int (vI (lgo L 3)) :: S) G z c s) := q_iload_n cdE_10 dX0_nextOfLeast_20 rfl
theorem e_10_21 {d : Nat} {R : Rt} {L : Lo} {S : List Value} {G : Mem} {z c s : Nat} {x y : Int32} : WP d 10 R 21 L (.int y :: .int x :: S) G z c s = WP d 10 R 22 L (.int (x + y) :: S) G z c s := q_iadd cdE_10 dX0_nextOfLeast_21
theorem e_10_22 {d : Nat} {R : Rt} {L : Lo} {S : List Value} {G : Mem} {z c s : Nat} {a : Nat} {i : Int32} : WP d 10 R 22 L (.int i :: va_rf (some a) :: S) G z c s = ((mK G a = 20 ∨ mK G a = 25) ∧ vp_in i (mN G a) ∧ WP d 10 R 23 L (.int (mE G a i.toNatClampNeg) :: S) G z c s) := q_iald cdE_10 dX0_nextOfLeast_22
theorem e_10_23 {d : Nat} {R : Rt} {L : Lo} {S : List Value} {G : Mem} {z c s : Nat} {x : Int32} : WP d 10 R 23 L (.int x :: S) G z c s = (noL L 5 ∧ WP d 10 R 25 (lset L 5 (some (.int x))) S G z c s) := q_istore cdE_10 dX0_nextOfLeast_23 mxE_10 (by decide)
theorem e_10_25 {d : Nat} {R : Rt} {L : Lo} {S : List Value} {G : Mem} {z c s : Nat} : WP d 10 R 25 L S G z c s = WP d 10 R 26 L (.int 0 :: S) G z c s := q_iconst cdE_10 dX0_nextOfLeast_25 (by decide)
theorem e_10_26 {d : Nat} {R : Rt} {L : Lo} {S : List Value} {G : Mem} {z c s : Nat} {x : Int32} : WP d 10 R 26 L (.int x :: S) G z c s = (noL L 6 ∧ WP d 10 R 28 (lset L 6 (some (.int x))) S G z c s) := q_istore cdE_10 dX0_nextOfLeast_26 mxE_10 (by decide)
theorem e_10_28 {d : Nat} {R : Rt} {L : Lo} {S : List Value} {G : Mem} {z c s : Nat} : WP d 10 R 28 L S G z c s = (okI (lgo L 6) ∧ WP d 10 R 30 L (.int (vI (lgo L 6)) :: S) G z c s) := q_iload cdE_10 dX0_nextOfLeast_28
theorem e_10_30 {d : Nat} {R : Rt} {L : Lo} {S : List Value} {G : Mem} {z c s : Nat} : WP d 10 R 30 L S G z c s = (okR (lgo L 0) ∧ WP d 10 R 31 L (va_rf (vR (lgo L 0)) :: S) G z c s) := q_aload_n cdE_10 dX0_nextOfLeast_30 rfl
theorem e_10_31 {d : Nat} {R : Rt} {L : Lo} {S : List Value} {G : Mem} {z c s : Nat} {a : Nat} : WP d 10 R 31 L (va_rf (some a) :: S) G z c s = (mK G a = 0 ∧ WP d 10 R 34 L (.int (mI G 0 5 a) :: S) G z c s) := q_getI cdE_10 dX0_nextOfLeast_31 owE_10 rfl (by decide)
theorem e_10_34 {d : Nat} {R : Rt} {L : Lo} {S : List Value} {G : Mem} {z c s : Nat} {x y : Int32} : WP d 10 R 34 L (.int y :: .int x :: S) G z c s = if y ≤ x then WP d 10 R 69 L S G z c s else WP d 10 R 37 L S G z c s := q_icge cdE_10 dX0_nextOfLeast_34 (by decide)
theorem e_10_37 {d : Nat} {R : Rt} {L : Lo} {S : List Value} {G : Mem} {z c s : Nat} : WP d 10 R 37 L S G z c s = (okI (lgo L 4) ∧ WP d 10 R 39 L (.int (vI (lgo L 4)) :: S) G z c s) := q_iload cdE_10 dX0_nextOfLeast_37
theorem e_10_39 {d : Nat} {R : Rt} {L : Lo} {S : List Value} {G : Mem} {z c s : Nat} : WP d 10 R 39 L S G z c s = (okI (lgo L 6) ∧ WP d 10 R 41 L (.int (vI (lgo L 6)) :: S) G z c s) := q_iload cdE_10 dX0_nextOfLeast_39
theorem e_10_41 {d : Nat} {R : Rt} {L : Lo} {S : List Value} {G : Mem} {z c s : Nat} {a0 : Int32} {a1 : Int32} : WP d 10 R 41 L (.int a1 :: .int a0 :: S) G z c s = (S.length ≤ 4 ∧ c + 0 ≤ 0 ∧ s + 0 ≤ 0 ∧ CALL d 11 [.int a0, .int a1] G z (rtn d 10 R 44 L S (c + 0) (s + 0))) := q_callS (as := [.int a1, .int a0]) cdE_10 dX0_nextOfLeast_41 owE_10 (Or.inl rfl) rfl rfl (by simp only [List.reverse_cons, List.reverse_nil, List.nil_append, List.cons_append, entL, isL_int, isL_long, isL_rf, Bool.false_eq_true, if_false, if_true, List.length_cons, List.length_nil, mxE_11]; decide) mcE_10 msE_10 mcE_11 msE_11
theorem e_10_44 {d : Nat} {R : Rt} {L : Lo} {S : List Value} {G : Mem} {z c s : Nat} {x : Int32} : WP d 10 R 44 L (.int x :: S) G z c s = if x = 0 then WP d 10 R 63 L S G z c s else WP d 10 R 47 L S G z c s := q_ifeq cdE_10 dX0_nextOfLeast_44 (by decide)
theorem e_10_47 {d : Nat} {R : Rt} {L : Lo} {S : List Value} {G : Mem} {z c s : Nat} : WP d 10 R 47 L S G z c s = (okR (lgo L 0) ∧ WP d 10 R 48 L (va_rf (vR (lgo L 0)) :: S) G z c s) := q_aload_n cdE_10 dX0_nextOfLeast_47 rfl
theorem e_10_48 {d : Nat} {R : Rt} {L : Lo} {S : List Value} {G : Mem} {z c s : Nat} : WP d 10 R 48 L S G z c s = (okI (lgo L 1) ∧ WP d 10 R 49 L (.int (vI (lgo L 1)) :: S) G z c s) := q_iload_n cdE_10 dX0_nextOfLeast_48 rfl
theorem e_10_49 {d : Nat} {R : Rt} {L : Lo} {S : List Value} {G : Mem} {z c s : Nat} : WP d 10 R 49 L S G z c s = (okI (lgo L 3) ∧ WP d 10 R 50 L (.int (vI (lgo L 3)) :: S) G z c s) := q_iload_n cdE_10 dX0_nextOfLeast_49 rfl
theorem e_10_50 {d : Nat} {R : Rt} {L : Lo} {S : List Value} {G : Mem} {z c s : Nat} : WP d 10 R 50 L S G z c s = (okI (lgo L 6) ∧ WP d 10 R 52 L (.int (vI (lgo L 6)) :: S) G z c s) := q_iload cdE_10 dX0_nextOfLeast_50
theorem e_10_52 {d : Nat} {R : Rt} {L : Lo} {S : List Value} {G : Mem} {z c s : Nat} {a0 : Int32} {a1 : Int32} {a2 : Int32} {b : Nat} : WP d 10 R 52 L (.int a2 :: .int a1 :: .int a0 :: va_rf (some b) :: S) G z c s = ((mK G b = 0) ∧ S.length ≤ 4 ∧ c + 0 ≤ 0 ∧ s + 0 ≤ 0 ∧ CALL d 6 [va_rf (some b), .int a0, .int a1, .int a2] G z (rtn d 10 R 55 L S (c + 0) (s + 0))) := q_callV (as := [.int a2, .int a1, .int a0]) cdE_10 dX0_nextOfLeast_52 owE_10 rfl rfl rfl (by simp only [List.reverse_cons, List.reverse_nil, List.nil_append, List.cons_append, entL, isL_int, isL_long, isL_rf, Bool.false_eq_true, if_false, if_true, List.length_cons, List.length_nil, mxE_6]; decide) mcE_10 msE_10 mcE_6 msE_6
theorem e_10_55 {d : Nat} {R : Rt} {L : Lo} {S : List Value} {G : Mem} {z c s : Nat} : WP d 10 R 55 L S G z c s = (okI (lgo L 5) ∧ WP d 10 R 57 L (.int (vI (lgo L 5)) :: S) G z c s) := q_iload cdE_10 dX0_nextOfLeast_55
theorem e_10_57 {d : Nat} {R : Rt} {L : Lo} {S : List Value} {G : Mem} {z c s : Nat} {x y : Int32} : WP d 10 R 57 L (.int y :: .int x :: S) G z c s = if x = y then WP d 10 R 60 L S G z c s else WP d 10 R 63 L S G z c s := q_icne cdE_10 dX0_nextOfLeast_57 (by decide)
theorem e_10_60 {d : Nat} {R : Rt} {L : Lo} {S : List Value} {G : Mem} {z c s : Nat} : WP d 10 R 60 L S G z c s = (okI (lgo L 6) ∧ WP d 10 R 62 L (.int (vI (lgo L 6)) :: S) G z c s) := q_iload cdE_10 dX0_nextOfLeast_60
theorem e_10_62 {d : Nat} {R : Rt} {L : Lo} {G : Mem} {z c s : Nat} {v : Int32} : WP d 10 R 62 L [.int v] G z c s = (c ≤ 0 ∧ s ≤ 0 ∧ R (some (.int v)) G z) := q_iret cdE_10 dX0_nextOfLeast_62 rfl mcE_10 msE_10
theorem e_10_63 {d : Nat} {R : Rt} {L : Lo} {S : List Value} {G : Mem} {z c s : Nat} : WP d 10 R 63 L S G z c s = (okI (lgo L 6) ∧ noL L 6 ∧ WP d 10 R 66 (lset L 6 (some (.int (vI (lgo L 6) + 1)))) S G z c s) := q_iinc cdE_10 dX0_nextOfLeast_63 mxE_10 (by decide) (by decide)
theorem e_10_66 {d : Nat} {R : Rt} {L : Lo} {S : List Value} {G : Mem} {z c s : Nat} : WP d 10 R 66 L S G z c s = WP d 10 R 28 L S G z c s := q_goto cdE_10 dX0_nextOfLeast_66 (by decide)
theorem e_10_69 {d : Nat} {R : Rt} {L : Lo} {S : List Value} {G : Mem} {z c s : Nat} : WP d 10 R 69 L S G z c s = WP d 10 R 70 L (.int (-1) :: S) G z c s := q_iconst cdE_10 dX0_nextOfLeast_69 (by decide)
theorem e_10_70 {d : Nat} {R : Rt} {L : Lo} {G : Mem} {z c s : Nat} {v : Int32} : WP d 10 R 70 L [.int v] G z c s = (c ≤ 0 ∧ s ≤ 0 ∧ R (some (.int v)) G z) := q_iret cdE_10 dX0_nextOfLeast_70 rfl mcE_10 msE_10
theorem e_11_0 {d : Nat} {R : Rt} {L : Lo} {S : List Value} {G : Mem} {z c s : Nat} : WP d 11 R 0 L S G z c s = (okI (lgo L 0) ∧ WP d 11 R 1 L (.int (vI (lgo L 0)) :: S) G z c s) := q_iload_n cdE_11 dX0_has_0 rfl
theorem e_11_1 {d : Nat} {R : Rt} {L : Lo} {S : List Value} {G : Mem} {z c s : Nat} : WP d 11 R 1 L S G z c s = (okI (lgo L 1) ∧ WP d 11 R 2 L (.int (vI (lgo L 1)) :: S) G z c s) := q_iload_n cdE_11 dX0_has_1 rfl
theorem e_11_2 {d : Nat} {R : Rt} {L : Lo} {S : List Value} {G : Mem} {z c s : Nat} {x y : Int32} : WP d 11 R 2 L (.int y :: .int x :: S) G z c s = WP d 11 R 3 L (.int (x >>> (y &&& 31)) :: S) G z c s := q_ishr cdE_11 dX0_has_2
theorem e_11_3 {d : Nat} {R : Rt} {L : Lo} {S : List Value} {G : Mem} {z c s : Nat} : WP d 11 R 3 L S G z c s = WP d 11 R 4 L (.int 1 :: S) G z c s := q_iconst cdE_11 dX0_has_3 (by decide)
theorem e_11_4 {d : Nat} {R : Rt} {L : Lo} {S : List Value} {G : Mem} {z c s : Nat} {x y : Int32} : WP d 11 R 4 L (.int y :: .int x :: S) G z c s = WP d 11 R 5 L (.int (x &&& y) :: S) G z c s := q_iand cdE_11 dX0_has_4
theorem e_11_5 {d : Nat} {R : Rt} {L : Lo} {S : List Value} {G : Mem} {z c s : Nat} {x : Int32} : WP d 11 R 5 L (.int x :: S) G z c s = if x = 0 then WP d 11 R 12 L S G z c s else WP d 11 R 8 L S G z c s := q_ifeq cdE_11 dX0_has_5 (by decide)
theorem e_11_8 {d : Nat} {R : Rt} {L : Lo} {S : List Value} {G : Mem} {z c s : Nat} : WP d 11 R 8 L S G z c s = WP d 11 R 9 L (.int 1 :: S) G z c s := q_iconst cdE_11 dX0_has_8 (by decide)
theorem e_11_9 {d : Nat} {R : Rt} {L : Lo} {S : List Value} {G : Mem} {z c s : Nat} : WP d 11 R 9 L S G z c s = WP d 11 R 13 L S G z c s := q_goto cdE_11 dX0_has_9 (by decide)
theorem e_11_12 {d : Nat} {R : Rt} {L : Lo} {S : List Value} {G : Mem} {z c s : Nat} : WP d 11 R 12 L S G z c s = WP d 11 R 13 L (.int 0 :: S) G z c s := q_iconst cdE_11 dX0_has_12 (by decide)
theorem e_11_13 {d : Nat} {R : Rt} {L : Lo} {G : Mem} {z c s : Nat} {v : Int32} : WP d 11 R 13 L [.int v] G z c s = (narrow .boolean (.int v) = .int v ∧ c ≤ 0 ∧ s ≤ 0 ∧ R (some (.int v)) G z) := q_nret cdE_11 dX0_has_13 rfl mcE_11 msE_11
theorem e_12_0 {d : Nat} {R : Rt} {L : Lo} {S : List Value} {G : Mem} {z c s : Nat} : WP d 12 R 0 L S G z c s = (okR (lgo L 0) ∧ WP d 12 R 1 L (va_rf (vR (lgo L 0)) :: S) G z c s) := q_aload_n cdE_12 dX1_init_0 rfl
theorem e_12_1 {d : Nat} {R : Rt} {L : Lo} {S : List Value} {G : Mem} {z c s : Nat} {b : Nat} : WP d 12 R 1 L (va_rf (some b) :: S) G z c s = (S.length ≤ 4 ∧ WP d 12 R 4 L S G z c s) := q_obj cdE_12 dX1_init_1 owE_12 (j2 := 0) rfl
theorem e_12_4 {d : Nat} {R : Rt} {L : Lo} {S : List Value} {G : Mem} {z c s : Nat} : WP d 12 R 4 L S G z c s = (okR (lgo L 0) ∧ WP d 12 R 5 L (va_rf (vR (lgo L 0)) :: S) G z c s) := q_aload_n cdE_12 dX1_init_4 rfl
theorem e_12_5 {d : Nat} {R : Rt} {L : Lo} {S : List Value} {G : Mem} {z c s : Nat} : WP d 12 R 5 L S G z c s = WP d 12 R 7 L (.int 9 :: S) G z c s := q_bipush cdE_12 dX1_init_5 (by decide)
theorem e_12_7 {d : Nat} {R : Rt} {L : Lo} {S : List Value} {G : Mem} {z c s : Nat} {n : Int32} : WP d 12 R 7 L (.int n :: S) G z c s = (¬ n < 0 ∧ n.toNatClampNeg ≤ 100000 ∧ c + 1 ≤ 1 ∧ s + n.toNatClampNeg ≤ 9 ∧ WP d 12 R 10 L (va_rf (some z) :: S) (nA G z 24 n.toNatClampNeg) (z + 1) (c + 1) (s + n.toNatClampNeg)) := q_anew cdE_12 dX1_init_7 owE_12 rfl rfl mcE_12 msE_12
theorem e_12_10 {d : Nat} {R : Rt} {L : Lo} {S : List Value} {G : Mem} {z c s : Nat} {a : Nat} {r : Option Nat} : WP d 12 R 10 L (va_rf r :: va_rf (some a) :: S) G z c s = (mK G a = 1 ∧ WP d 12 R 13 L S (pR G 1 0 a r) z c s) := q_putR cdE_12 dX1_init_10 owE_12 rfl (by decide) (by decide)
theorem e_12_13 {d : Nat} {R : Rt} {L : Lo} {G : Mem} {z c s : Nat} : WP d 12 R 13 L [] G z c s = (c ≤ 1 ∧ s ≤ 9 ∧ R none G z) := q_vret cdE_12 dX1_init_13 rfl mcE_12 msE_12
theorem e_13_0 {d : Nat} {R : Rt} {L : Lo} {S : List Value} {G : Mem} {z c s : Nat} : WP d 13 R 0 L S G z c s = (okR (lgo L 0) ∧ WP d 13 R 1 L (va_rf (vR (lgo L 0)) :: S) G z c s) := q_aload_n cdE_13 dX1_put_0 rfl
theorem e_13_1 {d : Nat} {R : Rt} {L : Lo} {S : List Value} {G : Mem} {z c s : Nat} {a : Nat} : WP d 13 R 1 L (va_rf (some a) :: S) G z c s = (mK G a = 1 ∧ WP d 13 R 4 L (.int (mI G 1 1 a) :: S) G z c s) := q_getI cdE_13 dX1_put_1 owE_13 rfl (by decide)
theorem e_13_4 {d : Nat} {R : Rt} {L : Lo} {S : List Value} {G : Mem} {z c s : Nat} : WP d 13 R 4 L S G z c s = WP d 13 R 6 L (.int 9 :: S) G z c s := q_bipush cdE_13 dX1_put_4 (by decide)
theorem e_13_6 {d : Nat} {R : Rt} {L : Lo} {S : List Value} {G : Mem} {z c s : Nat} {x y : Int32} : WP d 13 R 6 L (.int y :: .int x :: S) G z c s = if y ≤ x then WP d 13 R 29 L S G z c s else WP d 13 R 9 L S G z c s := q_icge cdE_13 dX1_put_6 (by decide)
theorem e_13_9 {d : Nat} {R : Rt} {L : Lo} {S : List Value} {G : Mem} {z c s : Nat} : WP d 13 R 9 L S G z c s = (okR (lgo L 0) ∧ WP d 13 R 10 L (va_rf (vR (lgo L 0)) :: S) G z c s) := q_aload_n cdE_13 dX1_put_9 rfl
theorem e_13_10 {d : Nat} {R : Rt} {L : Lo} {S : List Value} {G : Mem} {z c s : Nat} {a : Nat} : WP d 13 R 10 L (va_rf (some a) :: S) G z c s = (mK G a = 1 ∧ WP d 13 R 13 L (va_rf (mR G 1 0 a) :: S) G z c s) := q_getR cdE_13 dX1_put_10 owE_13 rfl (by decide)
theorem e_13_13 {d : Nat} {R : Rt} {L : Lo} {S : List Value} {G : Mem} {z c s : Nat} : WP d 13 R 13 L S G z c s = (okR (lgo L 0) ∧ WP d 13 R 14 L (va_rf (vR (lgo L 0)) :: S) G z c s) := q_aload_n cdE_13 dX1_put_13 rfl
theorem e_13_14 {d : Nat} {R : Rt} {L : Lo} {S : List Value} {G : Mem} {z c s : Nat} {a : Nat} : WP d 13 R 14 L (va_rf (some a) :: S) G z c s = (mK G a = 1 ∧ WP d 13 R 17 L (.int (mI G 1 1 a) :: S) G z c s) := q_getI cdE_13 dX1_put_14 owE_13 rfl (by decide)
theorem e_13_17 {d : Nat} {R : Rt} {L : Lo} {S : List Value} {G : Mem} {z c s : Nat} : WP d 13 R 17 L S G z c s = (okR (lgo L 1) ∧ WP d 13 R 18 L (va_rf (vR (lgo L 1)) :: S) G z c s) := q_aload_n cdE_13 dX1_put_17 rfl
theorem e_13_18 {d : Nat} {R : Rt} {L : Lo} {S : List Value} {G : Mem} {z c s : Nat} {a : Nat} {i : Int32} {r : Option Nat} : WP d 13 R 18 L (va_rf r :: .int i :: va_rf (some a) :: S) G z c s = (((mK G a = 23 ∧ ∀ b, r = some b → mK G b = 4) ∨ (mK G a = 24 ∧ ∀ b, r = some b → mK G b = 6)) ∧ vp_in i (mN G a) ∧ WP d 13 R 19 L S (pQ G a i.toNatClampNeg r) z c s) := q_aast cdE_13 dX1_put_18
theorem e_13_19 {d : Nat} {R : Rt} {L : Lo} {S : List Value} {G : Mem} {z c s : Nat} : WP d 13 R 19 L S G z c s = (okR (lgo L 0) ∧ WP d 13 R 20 L (va_rf (vR (lgo L 0)) :: S) G z c s) := q_aload_n cdE_13 dX1_put_19 rfl
theorem e_13_20 {d : Nat} {R : Rt} {L : Lo} {S : List Value} {G : Mem} {z c s : Nat} {v : Value} : WP d 13 R 20 L (v :: S) G z c s = (isL v = false ∧ WP d 13 R 21 L (v :: v :: S) G z c s) := q_dup cdE_13 dX1_put_20
theorem e_13_21 {d : Nat} {R : Rt} {L : Lo} {S : List Value} {G : Mem} {z c s : Nat} {a : Nat} : WP d 13 R 21 L (va_rf (some a) :: S) G z c s = (mK G a = 1 ∧ WP d 13 R 24 L (.int (mI G 1 1 a) :: S) G z c s) := q_getI cdE_13 dX1_put_21 owE_13 rfl (by decide)
theorem e_13_24 {d : Nat} {R : Rt} {L : Lo} {S : List Value} {G : Mem} {z c s : Nat} : WP d 13 R 24 L S G z c s = WP d 13 R 25 L (.int 1 :: S) G z c s := q_iconst cdE_13 dX1_put_24 (by decide)
theorem e_13_25 {d : Nat} {R : Rt} {L : Lo} {S : List Value} {G : Mem} {z c s : Nat} {x y : Int32} : WP d 13 R 25 L (.int y :: .int x :: S) G z c s = WP d 13 R 26 L (.int (x + y) :: S) G z c s := q_iadd cdE_13 dX1_put_25
theorem e_13_26 {d : Nat} {R : Rt} {L : Lo} {S : List Value} {G : Mem} {z c s : Nat} {a : Nat} {v : Int32} : WP d 13 R 26 L (.int v :: va_rf (some a) :: S) G z c s = (mK G a = 1 ∧ WP d 13 R 29 L S (pI G 1 1 a v) z c s) := q_putI cdE_13 dX1_put_26 owE_13 rfl (by decide) rfl
theorem e_13_29 {d : Nat} {R : Rt} {L : Lo} {G : Mem} {z c s : Nat} : WP d 13 R 29 L [] G z c s = (c ≤ 0 ∧ s ≤ 0 ∧ R none G z) := q_vret cdE_13 dX1_put_29 rfl mcE_13 msE_13
theorem e_14_0 {d : Nat} {R : Rt} {L : Lo} {S : List Value} {G : Mem} {z c s : Nat} : WP d 14 R 0 L S G z c s = (okI (lgo L 1) ∧ WP d 14 R 1 L (.int (vI (lgo L 1)) :: S) G z c s) := q_iload_n cdE_14 dX1_memberAt_0 rfl
theorem e_14_1 {d : Nat} {R : Rt} {L : Lo} {S : List Value} {G : Mem} {z c s : Nat} : WP d 14 R 1 L S G z c s = WP d 14 R 2 L (.int 0 :: S) G z c s := q_iconst cdE_14 dX1_memberAt_1 (by decide)
theorem e_14_2 {d : Nat} {R : Rt} {L : Lo} {S : List Value} {G : Mem} {z c s : Nat} : WP d 14 R 2 L S G z c s = (okR (lgo L 0) ∧ WP d 14 R 3 L (va_rf (vR (lgo L 0)) :: S) G z c s) := q_aload_n cdE_14 dX1_memberAt_2 rfl
theorem e_14_3 {d : Nat} {R : Rt} {L : Lo} {S : List Value} {G : Mem} {z c s : Nat} {a : Nat} : WP d 14 R 3 L (va_rf (some a) :: S) G z c s = (mK G a = 1 ∧ WP d 14 R 6 L (.int (mI G 1 1 a) :: S) G z c s) := q_getI cdE_14 dX1_memberAt_3 owE_14 rfl (by decide)
theorem e_14_6 {d : Nat} {R : Rt} {L : Lo} {S : List Value} {G : Mem} {z c s : Nat} : WP d 14 R 6 L S G z c s = WP d 14 R 7 L (.int 1 :: S) G z c s := q_iconst cdE_14 dX1_memberAt_6 (by decide)
theorem e_14_7 {d : Nat} {R : Rt} {L : Lo} {S : List Value} {G : Mem} {z c s : Nat} {x y : Int32} : WP d 14 R 7 L (.int y :: .int x :: S) G z c s = WP d 14 R 8 L (.int (x - y) :: S) G z c s := q_isub cdE_14 dX1_memberAt_7
theorem e_14_8 {d : Nat} {R : Rt} {L : Lo} {S : List Value} {G : Mem} {z c s : Nat} {a0 : Int32} {a1 : Int32} {a2 : Int32} : WP d 14 R 8 L (.int a2 :: .int a1 :: .int a0 :: S) G z c s = (S.length ≤ 4 ∧ c + 0 ≤ 0 ∧ s + 0 ≤ 0 ∧ CALL d 68 [.int a0, .int a1, .int a2] G z (rtn d 14 R 11 L S (c + 0) (s + 0))) := q_callS (as := [.int a2, .int a1, .int a0]) cdE_14 dX1_memberAt_8 owE_14 (Or.inr rfl) rfl rfl (by simp only [List.reverse_cons, List.reverse_nil, List.nil_append, List.cons_append, entL, isL_int, isL_long, isL_rf, Bool.false_eq_true, if_false, if_true, List.length_cons, List.length_nil, mxE_68]; decide) mcE_14 msE_14 mcE_68 msE_68
theorem e_14_11 {d : Nat} {R : Rt} {L : Lo} {S : List Value} {G : Mem} {z c s : Nat} {x : Int32} : WP d 14 R 11 L (.int x :: S) G z c s = if x = 0 then WP d 14 R 23 L S G z c s else WP d 14 R 14 L S G z c s := q_ifeq cdE_14 dX1_memberAt_11 (by decide)
theorem e_14_14 {d : Nat} {R : Rt} {L : Lo} {S : List Value} {G : Mem} {z c s : Nat} : WP d 14 R 14 L S G z c s = (okR (lgo L 0) ∧ WP d 14 R 15 L (va_rf (vR (lgo L 0)) :: S) G z c s) := q_aload_n cdE_14 dX1_memberAt_14 rfl
theorem e_14_15 {d : Nat} {R : Rt} {L : Lo} {S : List Value} {G : Mem} {z c s : Nat} {a : Nat} : WP d 14 R 15 L (va_rf (some a) :: S) G z c s = (mK G a = 1 ∧ WP d 14 R 18 L (va_rf (mR G 1 0 a) :: S) G z c s) := q_getR cdE_14 dX1_memberAt_15 owE_14 rfl (by decide)
theorem e_14_18 {d : Nat} {R : Rt} {L : Lo} {S : List Value} {G : Mem} {z c s : Nat} : WP d 14 R 18 L S G z c s = (okI (lgo L 1) ∧ WP d 14 R 19 L (.int (vI (lgo L 1)) :: S) G z c s) := q_iload_n cdE_14 dX1_memberAt_18 rfl
theorem e_14_19 {d : Nat} {R : Rt} {L : Lo} {S : List Value} {G : Mem} {z c s : Nat} {a : Nat} {i : Int32} : WP d 14 R 19 L (.int i :: va_rf (some a) :: S) G z c s = ((mK G a = 23 ∨ mK G a = 24) ∧ vp_in i (mN G a) ∧ WP d 14 R 20 L (va_rf (mQ G a i.toNatClampNeg) :: S) G z c s) := q_aald cdE_14 dX1_memberAt_19
theorem e_14_20 {d : Nat} {R : Rt} {L : Lo} {S : List Value} {G : Mem} {z c s : Nat} : WP d 14 R 20 L S G z c s = WP d 14 R 24 L S G z c s := q_goto cdE_14 dX1_memberAt_20 (by decide)
theorem e_14_23 {d : Nat} {R : Rt} {L : Lo} {S : List Value} {G : Mem} {z c s : Nat} : WP d 14 R 23 L S G z c s = WP d 14 R 24 L (va_rf none :: S) G z c s := q_null cdE_14 dX1_memberAt_23
theorem e_14_24 {d : Nat} {R : Rt} {L : Lo} {G : Mem} {z c s : Nat} {r : Option Nat} : WP d 14 R 24 L [va_rf r] G z c s = (c ≤ 0 ∧ s ≤ 0 ∧ R (some (va_rf r)) G z) := q_aret cdE_14 dX1_memberAt_24 rfl mcE_14 msE_14
theorem e_15_0 {d : Nat} {R : Rt} {L : Lo} {S : List Value} {G : Mem} {z c s : Nat} : WP d 15 R 0 L S G z c s = (okR (lgo L 0) ∧ WP d 15 R 1 L (va_rf (vR (lgo L 0)) :: S) G z c s) := q_aload_n cdE_15 dX1_numberAt_0 rfl
theorem e_15_1 {d : Nat} {R : Rt} {L : Lo} {S : List Value} {G : Mem} {z c s : Nat} : WP d 15 R 1 L S G z c s = (okI (lgo L 1) ∧ WP d 15 R 2 L (.int (vI (lgo L 1)) :: S) G z c s) := q_iload_n cdE_15 dX1_numberAt_1 rfl
theorem e_15_2 {d : Nat} {R : Rt} {L : Lo} {S : List Value} {G : Mem} {z c s : Nat} {a0 : Int32} {b : Nat} : WP d 15 R 2 L (.int a0 :: va_rf (some b) :: S) G z c s = ((mK G b = 1) ∧ S.length ≤ 4 ∧ c + 0 ≤ 0 ∧ s + 0 ≤ 0 ∧ CALL d 14 [va_rf (some b), .int a0] G z (rtn d 15 R 5 L S (c + 0) (s + 0))) := q_callV (as := [.int a0]) cdE_15 dX1_numberAt_2 owE_15 rfl rfl rfl (by simp only [List.reverse_cons, List.reverse_nil, List.nil_append, List.cons_append, entL, isL_int, isL_long, isL_rf, Bool.false_eq_true, if_false, if_true, List.length_cons, List.length_nil, mxE_14]; decide) mcE_15 msE_15 mcE_14 msE_14
theorem e_15_5 {d : Nat} {R : Rt} {L : Lo} {S : List Value} {G : Mem} {z c s : Nat} {r : Option Nat} : WP d 15 R 5 L (va_rf r :: S) G z c s = (noL L 2 ∧ WP d 15 R 6 (lset L 2 (some (va_rf r))) S G z c s) := q_astore_n cdE_15 dX1_numberAt_5 rfl mxE_15 (by decide)
theorem e_15_6 {d : Nat} {R : Rt} {L : Lo} {S : List Value} {G : Mem} {z c s : Nat} : WP d 15 R 6 L S G z c s = (okR (lgo L 2) ∧ WP d 15 R 7 L (va_rf (vR (lgo L 2)) :: S) G z c s) := q_aload_n cdE_15 dX1_numberAt_6 rfl
theorem e_15_7 {d : Nat} {R : Rt} {L : Lo} {S : List Value} {G : Mem} {z c s : Nat} {r : Option Nat} : WP d 15 R 7 L (va_rf r :: S) G z c s = if r = none then WP d 15 R 10 L S G z c s else WP d 15 R 14 L S G z c s := q_ifnonnull cdE_15 dX1_numberAt_7 (by decide)
theorem e_15_10 {d : Nat} {R : Rt} {L : Lo} {S : List Value} {G : Mem} {z c s : Nat} : WP d 15 R 10 L S G z c s = WP d 15 R 11 L (.int (-1) :: S) G z c s := q_iconst cdE_15 dX1_numberAt_10 (by decide)
theorem e_15_11 {d : Nat} {R : Rt} {L : Lo} {S : List Value} {G : Mem} {z c s : Nat} : WP d 15 R 11 L S G z c s = WP d 15 R 18 L S G z c s := q_goto cdE_15 dX1_numberAt_11 (by decide)
theorem e_15_14 {d : Nat} {R : Rt} {L : Lo} {S : List Value} {G : Mem} {z c s : Nat} : WP d 15 R 14 L S G z c s = (okR (lgo L 2) ∧ WP d 15 R 15 L (va_rf (vR (lgo L 2)) :: S) G z c s) := q_aload_n cdE_15 dX1_numberAt_14 rfl
theorem e_15_15 {d : Nat} {R : Rt} {L : Lo} {S : List Value} {G : Mem} {z c s : Nat} {a : Nat} : WP d 15 R 15 L (va_rf (some a) :: S) G z c s = (mK G a = 6 ∧ WP d 15 R 18 L (.int (mI G 6 0 a) :: S) G z c s) := q_getI cdE_15 dX1_numberAt_15 owE_15 rfl (by decide)
theorem e_15_18 {d : Nat} {R : Rt} {L : Lo} {G : Mem} {z c s : Nat} {v : Int32} : WP d 15 R 18 L [.int v] G z c s = (c ≤ 0 ∧ s ≤ 0 ∧ R (some (.int v)) G z) := q_iret cdE_15 dX1_numberAt_18 rfl mcE_15 msE_15
theorem e_16_0 {d : Nat} {R : Rt} {L : Lo} {S : List Value} {G : Mem} {z c s : Nat} : WP d 16 R 0 L S G z c s = WP d 16 R 1 L (.int 0 :: S) G z c s := q_iconst cdE_16 dX1_minutesOfAll_0 (by decide)
theorem e_16_1 {d : Nat} {R : Rt} {L : Lo} {S : List Value} {G : Mem} {z c s : Nat} {x : Int32} : WP d 16 R 1 L (.int x :: S) G z c s = (noL L 1 ∧ WP d 16 R 2 (lset L 1 (some (.int x))) S G z c s) := q_istore_n cdE_16 dX1_minutesOfAll_1 rfl mxE_16 (by decide)
theorem e_16_2 {d : Nat} {R : Rt} {L : Lo} {S : List Value} {G : Mem} {z c s : Nat} : WP d 16 R 2 L S G z c s = WP d 16 R 3 L (.int 0 :: S) G z c s := q_iconst cdE_16 dX1_minutesOfAll_2 (by decide)
theorem e_16_3 {d : Nat} {R : Rt} {L : Lo} {S : List Value} {G : Mem} {z c s : Nat} {x : Int32} : WP d 16 R 3 L (.int x :: S) G z c s = (noL L 2 ∧ WP d 16 R 4 (lset L 2 (some (.int x))) S G z c s) := q_istore_n cdE_16 dX1_minutesOfAll_3 rfl mxE_16 (by decide)
theorem e_16_4 {d : Nat} {R : Rt} {L : Lo} {S : List Value} {G : Mem} {z c s : Nat} : WP d 16 R 4 L S G z c s = (okI (lgo L 2) ∧ WP d 16 R 5 L (.int (vI (lgo L 2)) :: S) G z c s) := q_iload_n cdE_16 dX1_minutesOfAll_4 rfl
theorem e_16_5 {d : Nat} {R : Rt} {L : Lo} {S : List Value} {G : Mem} {z c s : Nat} : WP d 16 R 5 L S G z c s = (okR (lgo L 0) ∧ WP d 16 R 6 L (va_rf (vR (lgo L 0)) :: S) G z c s) := q_aload_n cdE_16 dX1_minutesOfAll_5 rfl
theorem e_16_6 {d : Nat} {R : Rt} {L : Lo} {S : List Value} {G : Mem} {z c s : Nat} {a : Nat} : WP d 16 R 6 L (va_rf (some a) :: S) G z c s = (mK G a = 1 ∧ WP d 16 R 9 L (.int (mI G 1 1 a) :: S) G z c s) := q_getI cdE_16 dX1_minutesOfAll_6 owE_16 rfl (by decide)
theorem e_16_9 {d : Nat} {R : Rt} {L : Lo} {S : List Value} {G : Mem} {z c s : Nat} {x y : Int32} : WP d 16 R 9 L (.int y :: .int x :: S) G z c s = if y ≤ x then WP d 16 R 39 L S G z c s else WP d 16 R 12 L S G z c s := q_icge cdE_16 dX1_minutesOfAll_9 (by decide)
theorem e_16_12 {d : Nat} {R : Rt} {L : Lo} {S : List Value} {G : Mem} {z c s : Nat} : WP d 16 R 12 L S G z c s = (okR (lgo L 0) ∧ WP d 16 R 13 L (va_rf (vR (lgo L 0)) :: S) G z c s) := q_aload_n cdE_16 dX1_minutesOfAll_12 rfl
theorem e_16_13 {d : Nat} {R : Rt} {L : Lo} {S : List Value} {G : Mem} {z c s : Nat} : WP d 16 R 13 L S G z c s = (okI (lgo L 2) ∧ WP d 16 R 14 L (.int (vI (lgo L 2)) :: S) G z c s) := q_iload_n cdE_16 dX1_minutesOfAll_13 rfl
theorem e_16_14 {d : Nat} {R : Rt} {L : Lo} {S : List Value} {G : Mem} {z c s : Nat} {a0 : Int32} {b : Nat} : WP d 16 R 14 L (.int a0 :: va_rf (some b) :: S) G z c s = ((mK G b = 1) ∧ S.length ≤ 4 ∧ c + 0 ≤ 0 ∧ s + 0 ≤ 0 ∧ CALL d 14 [va_rf (some b), .int a0] G z (rtn d 16 R 17 L S (c + 0) (s + 0))) := q_callV (as := [.int a0]) cdE_16 dX1_minutesOfAll_14 owE_16 rfl rfl rfl (by simp only [List.reverse_cons, List.reverse_nil, List.nil_append, List.cons_append, entL, isL_int, isL_long, isL_rf, Bool.false_eq_true, if_false, if_true, List.length_cons, List.length_nil, mxE_14]; decide) mcE_16 msE_16 mcE_14 msE_14
theorem e_16_17 {d : Nat} {R : Rt} {L : Lo} {S : List Value} {G : Mem} {z c s : Nat} {r : Option Nat} : WP d 16 R 17 L (va_rf r :: S) G z c s = (noL L 3 ∧ WP d 16 R 18 (lset L 3 (some (va_rf r))) S G z c s) := q_astore_n cdE_16 dX1_minutesOfAll_17 rfl mxE_16 (by decide)
theorem e_16_18 {d : Nat} {R : Rt} {L : Lo} {S : List Value} {G : Mem} {z c s : Nat} : WP d 16 R 18 L S G z c s = (okI (lgo L 1) ∧ WP d 16 R 19 L (.int (vI (lgo L 1)) :: S) G z c s) := q_iload_n cdE_16 dX1_minutesOfAll_18 rfl
theorem e_16_19 {d : Nat} {R : Rt} {L : Lo} {S : List Value} {G : Mem} {z c s : Nat} : WP d 16 R 19 L S G z c s = (okR (lgo L 3) ∧ WP d 16 R 20 L (va_rf (vR (lgo L 3)) :: S) G z c s) := q_aload_n cdE_16 dX1_minutesOfAll_19 rfl
theorem e_16_20 {d : Nat} {R : Rt} {L : Lo} {S : List Value} {G : Mem} {z c s : Nat} {r : Option Nat} : WP d 16 R 20 L (va_rf r :: S) G z c s = if r = none then WP d 16 R 23 L S G z c s else WP d 16 R 27 L S G z c s := q_ifnonnull cdE_16 dX1_minutesOfAll_20 (by decide)
theorem e_16_23 {d : Nat} {R : Rt} {L : Lo} {S : List Value} {G : Mem} {z c s : Nat} : WP d 16 R 23 L S G z c s = WP d 16 R 24 L (.int 0 :: S) G z c s := q_iconst cdE_16 dX1_minutesOfAll_23 (by decide)
theorem e_16_24 {d : Nat} {R : Rt} {L : Lo} {S : List Value} {G : Mem} {z c s : Nat} : WP d 16 R 24 L S G z c s = WP d 16 R 31 L S G z c s := q_goto cdE_16 dX1_minutesOfAll_24 (by decide)
theorem e_16_27 {d : Nat} {R : Rt} {L : Lo} {S : List Value} {G : Mem} {z c s : Nat} : WP d 16 R 27 L S G z c s = (okR (lgo L 3) ∧ WP d 16 R 28 L (va_rf (vR (lgo L 3)) :: S) G z c s) := q_aload_n cdE_16 dX1_minutesOfAll_27 rfl
theorem e_16_28 {d : Nat} {R : Rt} {L : Lo} {S : List Value} {G : Mem} {z c s : Nat} {a : Nat} : WP d 16 R 28 L (va_rf (some a) :: S) G z c s = (mK G a = 6 ∧ WP d 16 R 31 L (.int (mI G 6 1 a) :: S) G z c s) := q_getI cdE_16 dX1_minutesOfAll_28 owE_16 rfl (by decide)
theorem e_16_31 {d : Nat} {R : Rt} {L : Lo} {S : List Value} {G : Mem} {z c s : Nat} {x y : Int32} : WP d 16 R 31 L (.int y :: .int x :: S) G z c s = WP d 16 R 32 L (.int (x + y) :: S) G z c s := q_iadd cdE_16 dX1_minutesOfAll_31
theorem e_16_32 {d : Nat} {R : Rt} {L : Lo} {S : List Value} {G : Mem} {z c s : Nat} {x : Int32} : WP d 16 R 32 L (.int x :: S) G z c s = (noL L 1 ∧ WP d 16 R 33 (lset L 1 (some (.int x))) S G z c s) := q_istore_n cdE_16 dX1_minutesOfAll_32 rfl mxE_16 (by decide)
theorem e_16_33 {d : Nat} {R : Rt} {L : Lo} {S : List Value} {G : Mem} {z c s : Nat} : WP d 16 R 33 L S G z c s = (okI (lgo L 2) ∧ noL L 2 ∧ WP d 16 R 36 (lset L 2 (some (.int (vI (lgo L 2) + 1)))) S G z c s) := q_iinc cdE_16 dX1_minutesOfAll_33 mxE_16 (by decide) (by decide)
theorem e_16_36 {d : Nat} {R : Rt} {L : Lo} {S : List Value} {G : Mem} {z c s : Nat} : WP d 16 R 36 L S G z c s = WP d 16 R 4 L S G z c s := q_goto cdE_16 dX1_minutesOfAll_36 (by decide)
theorem e_16_39 {d : Nat} {R : Rt} {L : Lo} {S : List Value} {G : Mem} {z c s : Nat} : WP d 16 R 39 L S G z c s = (okI (lgo L 1) ∧ WP d 16 R 40 L (.int (vI (lgo L 1)) :: S) G z c s) := q_iload_n cdE_16 dX1_minutesOfAll_39 rfl
theorem e_16_40 {d : Nat} {R : Rt} {L : Lo} {G : Mem} {z c s : Nat} {v : Int32} : WP d 16 R 40 L [.int v] G z c s = (c ≤ 0 ∧ s ≤ 0 ∧ R (some (.int v)) G z) := q_iret cdE_16 dX1_minutesOfAll_40 rfl mcE_16 msE_16
theorem e_17_0 {d : Nat} {R : Rt} {L : Lo} {S : List Value} {G : Mem} {z c s : Nat} : WP d 17 R 0 L S G z c s = WP d 17 R 1 L (.int 0 :: S) G z c s := q_iconst cdE_17 dX1_payOfAll_0 (by decide)
theorem e_17_1 {d : Nat} {R : Rt} {L : Lo} {S : List Value} {G : Mem} {z c s : Nat} {x : Int32} : WP d 17 R 1 L (.int x :: S) G z c s = (noL L 3 ∧ WP d 17 R 2 (lset L 3 (some (.int x))) S G z c s) := q_istore_n cdE_17 dX1_payOfAll_1 rfl mxE_17 (by decide)
theorem e_17_2 {d : Nat} {R : Rt} {L : Lo} {S : List Value} {G : Mem} {z c s : Nat} : WP d 17 R 2 L S G z c s = WP d 17 R 3 L (.int 0 :: S) G z c s := q_iconst cdE_17 dX1_payOfAll_2 (by decide)
theorem e_17_3 {d : Nat} {R : Rt} {L : Lo} {S : List Value} {G : Mem} {z c s : Nat} {x : Int32} : WP d 17 R 3 L (.int x :: S) G z c s = (noL L 4 ∧ WP d 17 R 5 (lset L 4 (some (.int x))) S G z c s) := q_istore cdE_17 dX1_payOfAll_3 mxE_17 (by decide)
theorem e_17_5 {d : Nat} {R : Rt} {L : Lo} {S : List Value} {G : Mem} {z c s : Nat} : WP d 17 R 5 L S G z c s = (okI (lgo L 4) ∧ WP d 17 R 7 L (.int (vI (lgo L 4)) :: S) G z c s) := q_iload cdE_17 dX1_payOfAll_5
theorem e_17_7 {d : Nat} {R : Rt} {L : Lo} {S : List Value} {G : Mem} {z c s : Nat} : WP d 17 R 7 L S G z c s = (okR (lgo L 0) ∧ WP d 17 R 8 L (va_rf (vR (lgo L 0)) :: S) G z c s) := q_aload_n cdE_17 dX1_payOfAll_7 rfl
theorem e_17_8 {d : Nat} {R : Rt} {L : Lo} {S : List Value} {G : Mem} {z c s : Nat} {a : Nat} : WP d 17 R 8 L (va_rf (some a) :: S) G z c s = (mK G a = 1 ∧ WP d 17 R 11 L (.int (mI G 1 1 a) :: S) G z c s) := q_getI cdE_17 dX1_payOfAll_8 owE_17 rfl (by decide)
theorem e_17_11 {d : Nat} {R : Rt} {L : Lo} {S : List Value} {G : Mem} {z c s : Nat} {x y : Int32} : WP d 17 R 11 L (.int y :: .int x :: S) G z c s = if y ≤ x then WP d 17 R 64 L S G z c s else WP d 17 R 14 L S G z c s := q_icge cdE_17 dX1_payOfAll_11 (by decide)
theorem e_17_14 {d : Nat} {R : Rt} {L : Lo} {S : List Value} {G : Mem} {z c s : Nat} : WP d 17 R 14 L S G z c s = (okR (lgo L 0) ∧ WP d 17 R 15 L (va_rf (vR (lgo L 0)) :: S) G z c s) := q_aload_n cdE_17 dX1_payOfAll_14 rfl
theorem e_17_15 {d : Nat} {R : Rt} {L : Lo} {S : List Value} {G : Mem} {z c s : Nat} : WP d 17 R 15 L S G z c s = (okI (lgo L 4) ∧ WP d 17 R 17 L (.int (vI (lgo L 4)) :: S) G z c s) := q_iload cdE_17 dX1_payOfAll_15
theorem e_17_17 {d : Nat} {R : Rt} {L : Lo} {S : List Value} {G : Mem} {z c s : Nat} {a0 : Int32} {b : Nat} : WP d 17 R 17 L (.int a0 :: va_rf (some b) :: S) G z c s = ((mK G b = 1) ∧ S.length ≤ 4 ∧ c + 0 ≤ 0 ∧ s + 0 ≤ 0 ∧ CALL d 14 [va_rf (some b), .int a0] G z (rtn d 17 R 20 L S (c + 0) (s + 0))) := q_callV (as := [.int a0]) cdE_17 dX1_payOfAll_17 owE_17 rfl rfl rfl (by simp only [List.reverse_cons, List.reverse_nil, List.nil_append, List.cons_append, entL, isL_int, isL_long, isL_rf, Bool.false_eq_true, if_false, if_true, List.length_cons, List.length_nil, mxE_14]; decide) mcE_17 msE_17 mcE_14 msE_14
theorem e_17_20 {d : Nat} {R : Rt} {L : Lo} {S : List Value} {G : Mem} {z c s : Nat} {r : Option Nat} : WP d 17 R 20 L (va_rf r :: S) G z c s = (noL L 5 ∧ WP d 17 R 22 (lset L 5 (some (va_rf r))) S G z c s) := q_astore cdE_17 dX1_payOfAll_20 mxE_17 (by decide)
theorem e_17_22 {d : Nat} {R : Rt} {L : Lo} {S : List Value} {G : Mem} {z c s : Nat} : WP d 17 R 22 L S G z c s = (okR (lgo L 5) ∧ WP d 17 R 24 L (va_rf (vR (lgo L 5)) :: S) G z c s) := q_aload cdE_17 dX1_payOfAll_22
theorem e_17_24 {d : Nat} {R : Rt} {L : Lo} {S : List Value} {G : Mem} {z c s : Nat} {r : Option Nat} : WP d 17 R 24 L (va_rf r :: S) G z c s = if r = none then WP d 17 R 27 L S G z c s else WP d 17 R 31 L S G z c s := q_ifnonnull cdE_17 dX1_payOfAll_24 (by decide)
theorem e_17_27 {d : Nat} {R : Rt} {L : Lo} {S : List Value} {G : Mem} {z c s : Nat} : WP d 17 R 27 L S G z c s = WP d 17 R 28 L (va_rf none :: S) G z c s := q_null cdE_17 dX1_payOfAll_27
theorem e_17_28 {d : Nat} {R : Rt} {L : Lo} {S : List Value} {G : Mem} {z c s : Nat} : WP d 17 R 28 L S G z c s = WP d 17 R 38 L S G z c s := q_goto cdE_17 dX1_payOfAll_28 (by decide)
theorem e_17_31 {d : Nat} {R : Rt} {L : Lo} {S : List Value} {G : Mem} {z c s : Nat} : WP d 17 R 31 L S G z c s = (okR (lgo L 5) ∧ WP d 17 R 33 L (va_rf (vR (lgo L 5)) :: S) G z c s) := q_aload cdE_17 dX1_payOfAll_31
theorem e_17_33 {d : Nat} {R : Rt} {L : Lo} {S : List Value} {G : Mem} {z c s : Nat} : WP d 17 R 33 L S G z c s = (okI (lgo L 1) ∧ WP d 17 R 34 L (.int (vI (lgo L 1)) :: S) G z c s) := q_iload_n cdE_17 dX1_payOfAll_33 rfl
theorem e_17_34 {d : Nat} {R : Rt} {L : Lo} {S : List Value} {G : Mem} {z c s : Nat} : WP d 17 R 34 L S G z c s = (okI (lgo L 2) ∧ WP d 17 R 35 L (.int (vI (lgo L 2)) :: S) G z c s) := q_iload_n cdE_17 dX1_payOfAll_34 rfl
theorem e_17_35 {d : Nat} {R : Rt} {L : Lo} {S : List Value} {G : Mem} {z c s : Nat} {a0 : Int32} {a1 : Int32} {b : Nat} : WP d 17 R 35 L (.int a1 :: .int a0 :: va_rf (some b) :: S) G z c s = ((mK G b = 6) ∧ S.length ≤ 4 ∧ c + 0 ≤ 0 ∧ s + 0 ≤ 0 ∧ CALL d 47 [va_rf (some b), .int a0, .int a1] G z (rtn d 17 R 38 L S (c + 0) (s + 0))) := q_callV (as := [.int a1, .int a0]) cdE_17 dX1_payOfAll_35 owE_17 rfl rfl rfl (by simp only [List.reverse_cons, List.reverse_nil, List.nil_append, List.cons_append, entL, isL_int, isL_long, isL_rf, Bool.false_eq_true, if_false, if_true, List.length_cons, List.length_nil, mxE_47]; decide) mcE_17 msE_17 mcE_47 msE_47
theorem e_17_38 {d : Nat} {R : Rt} {L : Lo} {S : List Value} {G : Mem} {z c s : Nat} {r : Option Nat} : WP d 17 R 38 L (va_rf r :: S) G z c s = (noL L 6 ∧ WP d 17 R 40 (lset L 6 (some (va_rf r))) S G z c s) := q_astore cdE_17 dX1_payOfAll_38 mxE_17 (by decide)
theorem e_17_40 {d : Nat} {R : Rt} {L : Lo} {S : List Value} {G : Mem} {z c s : Nat} : WP d 17 R 40 L S G z c s = (okI (lgo L 3) ∧ WP d 17 R 41 L (.int (vI (lgo L 3)) :: S) G z c s) := q_iload_n cdE_17 dX1_payOfAll_40 rfl
theorem e_17_41 {d : Nat} {R : Rt} {L : Lo} {S : List Value} {G : Mem} {z c s : Nat} : WP d 17 R 41 L S G z c s = (okR (lgo L 6) ∧ WP d 17 R 43 L (va_rf (vR (lgo L 6)) :: S) G z c s) := q_aload cdE_17 dX1_payOfAll_41
theorem e_17_43 {d : Nat} {R : Rt} {L : Lo} {S : List Value} {G : Mem} {z c s : Nat} {r : Option Nat} : WP d 17 R 43 L (va_rf r :: S) G z c s = if r = none then WP d 17 R 46 L S G z c s else WP d 17 R 50 L S G z c s := q_ifnonnull cdE_17 dX1_payOfAll_43 (by decide)
theorem e_17_46 {d : Nat} {R : Rt} {L : Lo} {S : List Value} {G : Mem} {z c s : Nat} : WP d 17 R 46 L S G z c s = WP d 17 R 47 L (.int 0 :: S) G z c s := q_iconst cdE_17 dX1_payOfAll_46 (by decide)
theorem e_17_47 {d : Nat} {R : Rt} {L : Lo} {S : List Value} {G : Mem} {z c s : Nat} : WP d 17 R 47 L S G z c s = WP d 17 R 56 L S G z c s := q_goto cdE_17 dX1_payOfAll_47 (by decide)
theorem e_17_50 {d : Nat} {R : Rt} {L : Lo} {S : List Value} {G : Mem} {z c s : Nat} : WP d 17 R 50 L S G z c s = (okR (lgo L 6) ∧ WP d 17 R 52 L (va_rf (vR (lgo L 6)) :: S) G z c s) := q_aload cdE_17 dX1_payOfAll_50
theorem e_17_52 {d : Nat} {R : Rt} {L : Lo} {S : List Value} {G : Mem} {z c s : Nat} : WP d 17 R 52 L S G z c s = WP d 17 R 53 L (.int 4 :: S) G z c s := q_iconst cdE_17 dX1_payOfAll_52 (by decide)
theorem e_17_53 {d : Nat} {R : Rt} {L : Lo} {S : List Value} {G : Mem} {z c s : Nat} {a0 : Int32} {b : Nat} : WP d 17 R 53 L (.int a0 :: va_rf (some b) :: S) G z c s = ((mK G b = 2) ∧ S.length ≤ 4 ∧ c + 0 ≤ 0 ∧ s + 0 ≤ 0 ∧ CALL d 23 [va_rf (some b), .int a0] G z (rtn d 17 R 56 L S (c + 0) (s + 0))) := q_callV (as := [.int a0]) cdE_17 dX1_payOfAll_53 owE_17 rfl rfl rfl (by simp only [List.reverse_cons, List.reverse_nil, List.nil_append, List.cons_append, entL, isL_int, isL_long, isL_rf, Bool.false_eq_true, if_false, if_true, List.length_cons, List.length_nil, mxE_23]; decide) mcE_17 msE_17 mcE_23 msE_23
theorem e_17_56 {d : Nat} {R : Rt} {L : Lo} {S : List Value} {G : Mem} {z c s : Nat} {x y : Int32} : WP d 17 R 56 L (.int y :: .int x :: S) G z c s = WP d 17 R 57 L (.int (x + y) :: S) G z c s := q_iadd cdE_17 dX1_payOfAll_56
theorem e_17_57 {d : Nat} {R : Rt} {L : Lo} {S : List Value} {G : Mem} {z c s : Nat} {x : Int32} : WP d 17 R 57 L (.int x :: S) G z c s = (noL L 3 ∧ WP d 17 R 58 (lset L 3 (some (.int x))) S G z c s) := q_istore_n cdE_17 dX1_payOfAll_57 rfl mxE_17 (by decide)
theorem e_17_58 {d : Nat} {R : Rt} {L : Lo} {S : List Value} {G : Mem} {z c s : Nat} : WP d 17 R 58 L S G z c s = (okI (lgo L 4) ∧ noL L 4 ∧ WP d 17 R 61 (lset L 4 (some (.int (vI (lgo L 4) + 1)))) S G z c s) := q_iinc cdE_17 dX1_payOfAll_58 mxE_17 (by decide) (by decide)
theorem e_17_61 {d : Nat} {R : Rt} {L : Lo} {S : List Value} {G : Mem} {z c s : Nat} : WP d 17 R 61 L S G z c s = WP d 17 R 5 L S G z c s := q_goto cdE_17 dX1_payOfAll_61 (by decide)
theorem e_17_64 {d : Nat} {R : Rt} {L : Lo} {S : List Value} {G : Mem} {z c s : Nat} : WP d 17 R 64 L S G z c s = (okI (lgo L 3) ∧ WP d 17 R 65 L (.int (vI (lgo L 3)) :: S) G z c s) := q_iload_n cdE_17 dX1_payOfAll_64 rfl
theorem e_17_65 {d : Nat} {R : Rt} {L : Lo} {G : Mem} {z c s : Nat} {v : Int32} : WP d 17 R 65 L [.int v] G z c s = (c ≤ 0 ∧ s ≤ 0 ∧ R (some (.int v)) G z) := q_iret cdE_17 dX1_payOfAll_65 rfl mcE_17 msE_17
theorem e_18_0 {d : Nat} {R : Rt} {L : Lo} {S : List Value} {G : Mem} {z c s : Nat} : WP d 18 R 0 L S G z c s = WP d 18 R 1 L (.int 0 :: S) G z c s := q_iconst cdE_18 dX1_topCount_0 (by decide)
theorem e_18_1 {d : Nat} {R : Rt} {L : Lo} {S : List Value} {G : Mem} {z c s : Nat} {x : Int32} : WP d 18 R 1 L (.int x :: S) G z c s = (noL L 1 ∧ WP d 18 R 2 (lset L 1 (some (.int x))) S G z c s) := q_istore_n cdE_18 dX1_topCount_1 rfl mxE_18 (by decide)
theorem e_18_2 {d : Nat} {R : Rt} {L : Lo} {S : List Value} {G : Mem} {z c s : Nat} : WP d 18 R 2 L S G z c s = WP d 18 R 3 L (.int 0 :: S) G z c s := q_iconst cdE_18 dX1_topCount_2 (by decide)
theorem e_18_3 {d : Nat} {R : Rt} {L : Lo} {S : List Value} {G : Mem} {z c s : Nat} {x : Int32} : WP d 18 R 3 L (.int x :: S) G z c s = (noL L 2 ∧ WP d 18 R 4 (lset L 2 (some (.int x))) S G z c s) := q_istore_n cdE_18 dX1_topCount_3 rfl mxE_18 (by decide)
theorem e_18_4 {d : Nat} {R : Rt} {L : Lo} {S : List Value} {G : Mem} {z c s : Nat} : WP d 18 R 4 L S G z c s = (okI (lgo L 2) ∧ WP d 18 R 5 L (.int (vI (lgo L 2)) :: S) G z c s) := q_iload_n cdE_18 dX1_topCount_4 rfl
theorem e_18_5 {d : Nat} {R : Rt} {L : Lo} {S : List Value} {G : Mem} {z c s : Nat} : WP d 18 R 5 L S G z c s = (okR (lgo L 0) ∧ WP d 18 R 6 L (va_rf (vR (lgo L 0)) :: S) G z c s) := q_aload_n cdE_18 dX1_topCount_5 rfl
theorem e_18_6 {d : Nat} {R : Rt} {L : Lo} {S : List Value} {G : Mem} {z c s : Nat} {a : Nat} : WP d 18 R 6 L (va_rf (some a) :: S) G z c s = (mK G a = 1 ∧ WP d 18 R 9 L (.int (mI G 1 1 a) :: S) G z c s) := q_getI cdE_18 dX1_topCount_6 owE_18 rfl (by decide)
theorem e_18_9 {d : Nat} {R : Rt} {L : Lo} {S : List Value} {G : Mem} {z c s : Nat} {x y : Int32} : WP d 18 R 9 L (.int y :: .int x :: S) G z c s = if y ≤ x then WP d 18 R 44 L S G z c s else WP d 18 R 12 L S G z c s := q_icge cdE_18 dX1_topCount_9 (by decide)
theorem e_18_12 {d : Nat} {R : Rt} {L : Lo} {S : List Value} {G : Mem} {z c s : Nat} : WP d 18 R 12 L S G z c s = (okR (lgo L 0) ∧ WP d 18 R 13 L (va_rf (vR (lgo L 0)) :: S) G z c s) := q_aload_n cdE_18 dX1_topCount_12 rfl
theorem e_18_13 {d : Nat} {R : Rt} {L : Lo} {S : List Value} {G : Mem} {z c s : Nat} : WP d 18 R 13 L S G z c s = (okI (lgo L 2) ∧ WP d 18 R 14 L (.int (vI (lgo L 2)) :: S) G z c s) := q_iload_n cdE_18 dX1_topCount_13 rfl
theorem e_18_14 {d : Nat} {R : Rt} {L : Lo} {S : List Value} {G : Mem} {z c s : Nat} {a0 : Int32} {b : Nat} : WP d 18 R 14 L (.int a0 :: va_rf (some b) :: S) G z c s = ((mK G b = 1) ∧ S.length ≤ 4 ∧ c + 0 ≤ 0 ∧ s + 0 ≤ 0 ∧ CALL d 14 [va_rf (some b), .int a0] G z (rtn d 18 R 17 L S (c + 0) (s + 0))) := q_callV (as := [.int a0]) cdE_18 dX1_topCount_14 owE_18 rfl rfl rfl (by simp only [List.reverse_cons, List.reverse_nil, List.nil_append, List.cons_append, entL, isL_int, isL_long, isL_rf, Bool.false_eq_true, if_false, if_true, List.length_cons, List.length_nil, mxE_14]; decide) mcE_18 msE_18 mcE_14 msE_14
theorem e_18_17 {d : Nat} {R : Rt} {L : Lo} {S : List Value} {G : Mem} {z c s : Nat} {r : Option Nat} : WP d 18 R 17 L (va_rf r :: S) G z c s = (noL L 3 ∧ WP d 18 R 18 (lset L 3 (some (va_rf r))) S G z c s) := q_astore_n cdE_18 dX1_topCount_17 rfl mxE_18 (by decide)
theorem e_18_18 {d : Nat} {R : Rt} {L : Lo} {S : List Value} {G : Mem} {z c s : Nat} : WP d 18 R 18 L S G z c s = (okI (lgo L 1) ∧ WP d 18 R 19 L (.int (vI (lgo L 1)) :: S) G z c s) := q_iload_n cdE_18 dX1_topCount_18 rfl
theorem e_18_19 {d : Nat} {R : Rt} {L : Lo} {S : List Value} {G : Mem} {z c s : Nat} : WP d 18 R 19 L S G z c s = (okR (lgo L 3) ∧ WP d 18 R 20 L (va_rf (vR (lgo L 3)) :: S) G z c s) := q_aload_n cdE_18 dX1_topCount_19 rfl
theorem e_18_20 {d : Nat} {R : Rt} {L : Lo} {S : List Value} {G : Mem} {z c s : Nat} {r : Option Nat} : WP d 18 R 20 L (va_rf r :: S) G z c s = if r = none then WP d 18 R 35 L S G z c s else WP d 18 R 23 L S G z c s := q_ifnull cdE_18 dX1_topCount_20 (by decide)
theorem e_18_23 {d : Nat} {R : Rt} {L : Lo} {S : List Value} {G : Mem} {z c s : Nat} : WP d 18 R 23 L S G z c s = (okR (lgo L 3) ∧ WP d 18 R 24 L (va_rf (vR (lgo L 3)) :: S) G z c s) := q_aload_n cdE_18 dX1_topCount_23 rfl
theorem e_18_24 {d : Nat} {R : Rt} {L : Lo} {S : List Value} {G : Mem} {z c s : Nat} {a : Nat} : WP d 18 R 24 L (va_rf (some a) :: S) G z c s = (mK G a = 6 ∧ WP d 18 R 27 L (.int (mI G 6 2 a) :: S) G z c s) := q_getI cdE_18 dX1_topCount_24 owE_18 rfl (by decide)
theorem e_18_27 {d : Nat} {R : Rt} {L : Lo} {S : List Value} {G : Mem} {z c s : Nat} : WP d 18 R 27 L S G z c s = WP d 18 R 28 L (.int 1 :: S) G z c s := q_iconst cdE_18 dX1_topCount_27 (by decide)
theorem e_18_28 {d : Nat} {R : Rt} {L : Lo} {S : List Value} {G : Mem} {z c s : Nat} {x y : Int32} : WP d 18 R 28 L (.int y :: .int x :: S) G z c s = if x = y then WP d 18 R 31 L S G z c s else WP d 18 R 35 L S G z c s := q_icne cdE_18 dX1_topCount_28 (by decide)
theorem e_18_31 {d : Nat} {R : Rt} {L : Lo} {S : List Value} {G : Mem} {z c s : Nat} : WP d 18 R 31 L S G z c s = WP d 18 R 32 L (.int 1 :: S) G z c s := q_iconst cdE_18 dX1_topCount_31 (by decide)
theorem e_18_32 {d : Nat} {R : Rt} {L : Lo} {S : List Value} {G : Mem} {z c s : Nat} : WP d 18 R 32 L S G z c s = WP d 18 R 36 L S G z c s := q_goto cdE_18 dX1_topCount_32 (by decide)
theorem e_18_35 {d : Nat} {R : Rt} {L : Lo} {S : List Value} {G : Mem} {z c s : Nat} : WP d 18 R 35 L S G z c s = WP d 18 R 36 L (.int 0 :: S) G z c s := q_iconst cdE_18 dX1_topCount_35 (by decide)
theorem e_18_36 {d : Nat} {R : Rt} {L : Lo} {S : List Value} {G : Mem} {z c s : Nat} {x y : Int32} : WP d 18 R 36 L (.int y :: .int x :: S) G z c s = WP d 18 R 37 L (.int (x + y) :: S) G z c s := q_iadd cdE_18 dX1_topCount_36
theorem e_18_37 {d : Nat} {R : Rt} {L : Lo} {S : List Value} {G : Mem} {z c s : Nat} {x : Int32} : WP d 18 R 37 L (.int x :: S) G z c s = (noL L 1 ∧ WP d 18 R 38 (lset L 1 (some (.int x))) S G z c s) := q_istore_n cdE_18 dX1_topCount_37 rfl mxE_18 (by decide)
theorem e_18_38 {d : Nat} {R : Rt} {L : Lo} {S : List Value} {G : Mem} {z c s : Nat} : WP d 18 R 38 L S G z c s = (okI (lgo L 2) ∧ noL L 2 ∧ WP d 18 R 41 (lset L 2 (some (.int (vI (lgo L 2) + 1)))) S G z c s) := q_iinc cdE_18 dX1_topCount_38 mxE_18 (by decide) (by decide)
theorem e_18_41 {d : Nat} {R : Rt} {L : Lo} {S : List Value} {G : Mem} {z c s : Nat} : WP d 18 R 41 L S G z c s = WP d 18 R 4 L S G z c s := q_goto cdE_18 dX1_topCount_41 (by decide)
theorem e_18_44 {d : Nat} {R : Rt} {L : Lo} {S : List Value} {G : Mem} {z c s : Nat} : WP d 18 R 44 L S G z c s = (okI (lgo L 1) ∧ WP d 18 R 45 L (.int (vI (lgo L 1)) :: S) G z c s) := q_iload_n cdE_18 dX1_topCount_44 rfl
theorem e_18_45 {d : Nat} {R : Rt} {L : Lo} {G : Mem} {z c s : Nat} {v : Int32} : WP d 18 R 45 L [.int v] G z c s = (c ≤ 0 ∧ s ≤ 0 ∧ R (some (.int v)) G z) := q_iret cdE_18 dX1_topCount_45 rfl mcE_18 msE_18
theorem e_19_0 {d : Nat} {R : Rt} {L : Lo} {S : List Value} {G : Mem} {z c s : Nat} : WP d 19 R 0 L S G z c s = WP d 19 R 1 L (.int 0 :: S) G z c s := q_iconst cdE_19 dX1_drawOfTops_0 (by decide)
theorem e_19_1 {d : Nat} {R : Rt} {L : Lo} {S : List Value} {G : Mem} {z c s : Nat} {x : Int32} : WP d 19 R 1 L (.int x :: S) G z c s = (noL L 1 ∧ WP d 19 R 2 (lset L 1 (some (.int x))) S G z c s) := q_istore_n cdE_19 dX1_drawOfTops_1 rfl mxE_19 (by decide)
theorem e_19_2 {d : Nat} {R : Rt} {L : Lo} {S : List Value} {G : Mem} {z c s : Nat} : WP d 19 R 2 L S G z c s = WP d 19 R 3 L (.int 0 :: S) G z c s := q_iconst cdE_19 dX1_drawOfTops_2 (by decide)
theorem e_19_3 {d : Nat} {R : Rt} {L : Lo} {S : List Value} {G : Mem} {z c s : Nat} {x : Int32} : WP d 19 R 3 L (.int x :: S) G z c s = (noL L 2 ∧ WP d 19 R 4 (lset L 2 (some (.int x))) S G z c s) := q_istore_n cdE_19 dX1_drawOfTops_3 rfl mxE_19 (by decide)
theorem e_19_4 {d : Nat} {R : Rt} {L : Lo} {S : List Value} {G : Mem} {z c s : Nat} : WP d 19 R 4 L S G z c s = (okI (lgo L 2) ∧ WP d 19 R 5 L (.int (vI (lgo L 2)) :: S) G z c s) := q_iload_n cdE_19 dX1_drawOfTops_4 rfl
theorem e_19_5 {d : Nat} {R : Rt} {L : Lo} {S : List Value} {G : Mem} {z c s : Nat} : WP d 19 R 5 L S G z c s = (okR (lgo L 0) ∧ WP d 19 R 6 L (va_rf (vR (lgo L 0)) :: S) G z c s) := q_aload_n cdE_19 dX1_drawOfTops_5 rfl
theorem e_19_6 {d : Nat} {R : Rt} {L : Lo} {S : List Value} {G : Mem} {z c s : Nat} {a : Nat} : WP d 19 R 6 L (va_rf (some a) :: S) G z c s = (mK G a = 1 ∧ WP d 19 R 9 L (.int (mI G 1 1 a) :: S) G z c s) := q_getI cdE_19 dX1_drawOfTops_6 owE_19 rfl (by decide)
theorem e_19_9 {d : Nat} {R : Rt} {L : Lo} {S : List Value} {G : Mem} {z c s : Nat} {x y : Int32} : WP d 19 R 9 L (.int y :: .int x :: S) G z c s = if y ≤ x then WP d 19 R 47 L S G z c s else WP d 19 R 12 L S G z c s := q_icge cdE_19 dX1_drawOfTops_9 (by decide)
theorem e_19_12 {d : Nat} {R : Rt} {L : Lo} {S : List Value} {G : Mem} {z c s : Nat} : WP d 19 R 12 L S G z c s = (okR (lgo L 0) ∧ WP d 19 R 13 L (va_rf (vR (lgo L 0)) :: S) G z c s) := q_aload_n cdE_19 dX1_drawOfTops_12 rfl
theorem e_19_13 {d : Nat} {R : Rt} {L : Lo} {S : List Value} {G : Mem} {z c s : Nat} : WP d 19 R 13 L S G z c s = (okI (lgo L 2) ∧ WP d 19 R 14 L (.int (vI (lgo L 2)) :: S) G z c s) := q_iload_n cdE_19 dX1_drawOfTops_13 rfl
theorem e_19_14 {d : Nat} {R : Rt} {L : Lo} {S : List Value} {G : Mem} {z c s : Nat} {a0 : Int32} {b : Nat} : WP d 19 R 14 L (.int a0 :: va_rf (some b) :: S) G z c s = ((mK G b = 1) ∧ S.length ≤ 4 ∧ c + 0 ≤ 0 ∧ s + 0 ≤ 0 ∧ CALL d 14 [va_rf (some b), .int a0] G z (rtn d 19 R 17 L S (c + 0) (s + 0))) := q_callV (as := [.int a0]) cdE_19 dX1_drawOfTops_14 owE_19 rfl rfl rfl (by simp only [List.reverse_cons, List.reverse_nil, List.nil_append, List.cons_append, entL, isL_int, isL_long, isL_rf, Bool.false_eq_true, if_false, if_true, List.length_cons, List.length_nil, mxE_14]; decide) mcE_19 msE_19 mcE_14 msE_14
theorem e_19_17 {d : Nat} {R : Rt} {L : Lo} {S : List Value} {G : Mem} {z c s : Nat} {r : Option Nat} : WP d 19 R 17 L (va_rf r :: S) G z c s = (noL L 3 ∧ WP d 19 R 18 (lset L 3 (some (va_rf r))) S G z c s) := q_astore_n cdE_19 dX1_drawOfTops_17 rfl mxE_19 (by decide)
theorem e_19_18 {d : Nat} {R : Rt} {L : Lo} {S : List Value} {G : Mem} {z c s : Nat} : WP d 19 R 18 L S G z c s = (okI (lgo L 1) ∧ WP d 19 R 19 L (.int (vI (lgo L 1)) :: S) G z c s) := q_iload_n cdE_19 dX1_drawOfTops_18 rfl
theorem e_19_19 {d : Nat} {R : Rt} {L : Lo} {S : List Value} {G : Mem} {z c s : Nat} : WP d 19 R 19 L S G z c s = (okR (lgo L 3) ∧ WP d 19 R 20 L (va_rf (vR (lgo L 3)) :: S) G z c s) := q_aload_n cdE_19 dX1_drawOfTops_19 rfl
theorem e_19_20 {d : Nat} {R : Rt} {L : Lo} {S : List Value} {G : Mem} {z c s : Nat} {r : Option Nat} : WP d 19 R 20 L (va_rf r :: S) G z c s = if r = none then WP d 19 R 38 L S G z c s else WP d 19 R 23 L S G z c s := q_ifnull cdE_19 dX1_drawOfTops_20 (by decide)
theorem e_19_23 {d : Nat} {R : Rt} {L : Lo} {S : List Value} {G : Mem} {z c s : Nat} : WP d 19 R 23 L S G z c s = (okR (lgo L 3) ∧ WP d 19 R 24 L (va_rf (vR (lgo L 3)) :: S) G z c s) := q_aload_n cdE_19 dX1_drawOfTops_23 rfl
theorem e_19_24 {d : Nat} {R : Rt} {L : Lo} {S : List Value} {G : Mem} {z c s : Nat} {a : Nat} : WP d 19 R 24 L (va_rf (some a) :: S) G z c s = (mK G a = 6 ∧ WP d 19 R 27 L (.int (mI G 6 2 a) :: S) G z c s) := q_getI cdE_19 dX1_drawOfTops_24 owE_19 rfl (by decide)
theorem e_19_27 {d : Nat} {R : Rt} {L : Lo} {S : List Value} {G : Mem} {z c s : Nat} : WP d 19 R 27 L S G z c s = WP d 19 R 28 L (.int 1 :: S) G z c s := q_iconst cdE_19 dX1_drawOfTops_27 (by decide)
theorem e_19_28 {d : Nat} {R : Rt} {L : Lo} {S : List Value} {G : Mem} {z c s : Nat} {x y : Int32} : WP d 19 R 28 L (.int y :: .int x :: S) G z c s = if x = y then WP d 19 R 31 L S G z c s else WP d 19 R 38 L S G z c s := q_icne cdE_19 dX1_drawOfTops_28 (by decide)
theorem e_19_31 {d : Nat} {R : Rt} {L : Lo} {S : List Value} {G : Mem} {z c s : Nat} : WP d 19 R 31 L S G z c s = (okR (lgo L 3) ∧ WP d 19 R 32 L (va_rf (vR (lgo L 3)) :: S) G z c s) := q_aload_n cdE_19 dX1_drawOfTops_31 rfl
theorem e_19_32 {d : Nat} {R : Rt} {L : Lo} {S : List Value} {G : Mem} {z c s : Nat} {a : Nat} : WP d 19 R 32 L (va_rf (some a) :: S) G z c s = (mK G a = 6 ∧ WP d 19 R 35 L (.int (mI G 6 5 a) :: S) G z c s) := q_getI cdE_19 dX1_drawOfTops_32 owE_19 rfl (by decide)
theorem e_19_35 {d : Nat} {R : Rt} {L : Lo} {S : List Value} {G : Mem} {z c s : Nat} : WP d 19 R 35 L S G z c s = WP d 19 R 39 L S G z c s := q_goto cdE_19 dX1_drawOfTops_35 (by decide)
theorem e_19_38 {d : Nat} {R : Rt} {L : Lo} {S : List Value} {G : Mem} {z c s : Nat} : WP d 19 R 38 L S G z c s = WP d 19 R 39 L (.int 0 :: S) G z c s := q_iconst cdE_19 dX1_drawOfTops_38 (by decide)
theorem e_19_39 {d : Nat} {R : Rt} {L : Lo} {S : List Value} {G : Mem} {z c s : Nat} {x y : Int32} : WP d 19 R 39 L (.int y :: .int x :: S) G z c s = WP d 19 R 40 L (.int (x + y) :: S) G z c s := q_iadd cdE_19 dX1_drawOfTops_39
theorem e_19_40 {d : Nat} {R : Rt} {L : Lo} {S : List Value} {G : Mem} {z c s : Nat} {x : Int32} : WP d 19 R 40 L (.int x :: S) G z c s = (noL L 1 ∧ WP d 19 R 41 (lset L 1 (some (.int x))) S G z c s) := q_istore_n cdE_19 dX1_drawOfTops_40 rfl mxE_19 (by decide)
theorem e_19_41 {d : Nat} {R : Rt} {L : Lo} {S : List Value} {G : Mem} {z c s : Nat} : WP d 19 R 41 L S G z c s = (okI (lgo L 2) ∧ noL L 2 ∧ WP d 19 R 44 (lset L 2 (some (.int (vI (lgo L 2) + 1)))) S G z c s) := q_iinc cdE_19 dX1_drawOfTops_41 mxE_19 (by decide) (by decide)
theorem e_19_44 {d : Nat} {R : Rt} {L : Lo} {S : List Value} {G : Mem} {z c s : Nat} : WP d 19 R 44 L S G z c s = WP d 19 R 4 L S G z c s := q_goto cdE_19 dX1_drawOfTops_44 (by decide)
theorem e_19_47 {d : Nat} {R : Rt} {L : Lo} {S : List Value} {G : Mem} {z c s : Nat} : WP d 19 R 47 L S G z c s = (okI (lgo L 1) ∧ WP d 19 R 48 L (.int (vI (lgo L 1)) :: S) G z c s) := q_iload_n cdE_19 dX1_drawOfTops_47 rfl
theorem e_19_48 {d : Nat} {R : Rt} {L : Lo} {G : Mem} {z c s : Nat} {v : Int32} : WP d 19 R 48 L [.int v] G z c s = (c ≤ 0 ∧ s ≤ 0 ∧ R (some (.int v)) G z) := q_iret cdE_19 dX1_drawOfTops_48 rfl mcE_19 msE_19
theorem e_20_0 {d : Nat} {R : Rt} {L : Lo} {S : List Value} {G : Mem} {z c s : Nat} : WP d 20 R 0 L S G z c s = WP d 20 R 1 L (.int 0 :: S) G z c s := q_iconst cdE_20 dX1_hasLike_0 (by decide)
theorem e_20_1 {d : Nat} {R : Rt} {L : Lo} {S : List Value} {G : Mem} {z c s : Nat} {x : Int32} : WP d 20 R 1 L (.int x :: S) G z c s = (noL L 2 ∧ WP d 20 R 2 (lset L 2 (some (.int x))) S G z c s) := q_istore_n cdE_20 dX1_hasLike_1 rfl mxE_20 (by decide)
theorem e_20_2 {d : Nat} {R : Rt} {L : Lo} {S : List Value} {G : Mem} {z c s : Nat} : WP d 20 R 2 L S G z c s = (okI (lgo L 2) ∧ WP d 20 R 3 L (.int (vI (lgo L 2)) :: S) G z c s) := q_iload_n cdE_20 dX1_hasLike_2 rfl
theorem e_20_3 {d : Nat} {R : Rt} {L : Lo} {S : List Value} {G : Mem} {z c s : Nat} : WP d 20 R 3 L S G z c s = (okR (lgo L 0) ∧ WP d 20 R 4 L (va_rf (vR (lgo L 0)) :: S) G z c s) := q_aload_n cdE_20 dX1_hasLike_3 rfl
theorem e_20_4 {d : Nat} {R : Rt} {L : Lo} {S : List Value} {G : Mem} {z c s : Nat} {a : Nat} : WP d 20 R 4 L (va_rf (some a) :: S) G z c s = (mK G a = 1 ∧ WP d 20 R 7 L (.int (mI G 1 1 a) :: S) G z c s) := q_getI cdE_20 dX1_hasLike_4 owE_20 rfl (by decide)
theorem e_20_7 {d : Nat} {R : Rt} {L : Lo} {S : List Value} {G : Mem} {z c s : Nat} {x y : Int32} : WP d 20 R 7 L (.int y :: .int x :: S) G z c s = if y ≤ x then WP d 20 R 36 L S G z c s else WP d 20 R 10 L S G z c s := q_icge cdE_20 dX1_hasLike_7 (by decide)
theorem e_20_10 {d : Nat} {R : Rt} {L : Lo} {S : List Value} {G : Mem} {z c s : Nat} : WP d 20 R 10 L S G z c s = (okR (lgo L 0) ∧ WP d 20 R 11 L (va_rf (vR (lgo L 0)) :: S) G z c s) := q_aload_n cdE_20 dX1_hasLike_10 rfl
theorem e_20_11 {d : Nat} {R : Rt} {L : Lo} {S : List Value} {G : Mem} {z c s : Nat} : WP d 20 R 11 L S G z c s = (okI (lgo L 2) ∧ WP d 20 R 12 L (.int (vI (lgo L 2)) :: S) G z c s) := q_iload_n cdE_20 dX1_hasLike_11 rfl
theorem e_20_12 {d : Nat} {R : Rt} {L : Lo} {S : List Value} {G : Mem} {z c s : Nat} {a0 : Int32} {b : Nat} : WP d 20 R 12 L (.int a0 :: va_rf (some b) :: S) G z c s = ((mK G b = 1) ∧ S.length ≤ 4 ∧ c + 0 ≤ 0 ∧ s + 0 ≤ 0 ∧ CALL d 14 [va_rf (some b), .int a0] G z (rtn d 20 R 15 L S (c + 0) (s + 0))) := q_callV (as := [.int a0]) cdE_20 dX1_hasLike_12 owE_20 rfl rfl rfl (by simp only [List.reverse_cons, List.reverse_nil, List.nil_append, List.cons_append, entL, isL_int, isL_long, isL_rf, Bool.false_eq_true, if_false, if_true, List.length_cons, List.length_nil, mxE_14]; decide) mcE_20 msE_20 mcE_14 msE_14
theorem e_20_15 {d : Nat} {R : Rt} {L : Lo} {S : List Value} {G : Mem} {z c s : Nat} {r : Option Nat} : WP d 20 R 15 L (va_rf r :: S) G z c s = (noL L 3 ∧ WP d 20 R 16 (lset L 3 (some (va_rf r))) S G z c s) := q_astore_n cdE_20 dX1_hasLike_15 rfl mxE_20 (by decide)
theorem e_20_16 {d : Nat} {R : Rt} {L : Lo} {S : List Value} {G : Mem} {z c s : Nat} : WP d 20 R 16 L S G z c s = (okR (lgo L 3) ∧ WP d 20 R 17 L (va_rf (vR (lgo L 3)) :: S) G z c s) := q_aload_n cdE_20 dX1_hasLike_16 rfl
theorem e_20_17 {d : Nat} {R : Rt} {L : Lo} {S : List Value} {G : Mem} {z c s : Nat} {r : Option Nat} : WP d 20 R 17 L (va_rf r :: S) G z c s = if r = none then WP d 20 R 30 L S G z c s else WP d 20 R 20 L S G z c s := q_ifnull cdE_20 dX1_hasLike_17 (by decide)
theorem e_20_20 {d : Nat} {R : Rt} {L : Lo} {S : List Value} {G : Mem} {z c s : Nat} : WP d 20 R 20 L S G z c s = (okR (lgo L 3) ∧ WP d 20 R 21 L (va_rf (vR (lgo L 3)) :: S) G z c s) := q_aload_n cdE_20 dX1_hasLike_20 rfl
theorem e_20_21 {d : Nat} {R : Rt} {L : Lo} {S : List Value} {G : Mem} {z c s : Nat} {a : Nat} : WP d 20 R 21 L (va_rf (some a) :: S) G z c s = (mK G a = 6 ∧ WP d 20 R 24 L (.int (mI G 6 4 a) :: S) G z c s) := q_getI cdE_20 dX1_hasLike_21 owE_20 rfl (by decide)
theorem e_20_24 {d : Nat} {R : Rt} {L : Lo} {S : List Value} {G : Mem} {z c s : Nat} : WP d 20 R 24 L S G z c s = (okI (lgo L 1) ∧ WP d 20 R 25 L (.int (vI (lgo L 1)) :: S) G z c s) := q_iload_n cdE_20 dX1_hasLike_24 rfl
theorem e_20_25 {d : Nat} {R : Rt} {L : Lo} {S : List Value} {G : Mem} {z c s : Nat} {x y : Int32} : WP d 20 R 25 L (.int y :: .int x :: S) G z c s = if x = y then WP d 20 R 28 L S G z c s else WP d 20 R 30 L S G z c s := q_icne cdE_20 dX1_hasLike_25 (by decide)
theorem e_20_28 {d : Nat} {R : Rt} {L : Lo} {S : List Value} {G : Mem} {z c s : Nat} : WP d 20 R 28 L S G z c s = WP d 20 R 29 L (.int 1 :: S) G z c s := q_iconst cdE_20 dX1_hasLike_28 (by decide)
theorem e_20_29 {d : Nat} {R : Rt} {L : Lo} {G : Mem} {z c s : Nat} {v : Int32} : WP d 20 R 29 L [.int v] G z c s = (narrow .boolean (.int v) = .int v ∧ c ≤ 0 ∧ s ≤ 0 ∧ R (some (.int v)) G z) := q_nret cdE_20 dX1_hasLike_29 rfl mcE_20 msE_20
theorem e_20_30 {d : Nat} {R : Rt} {L : Lo} {S : List Value} {G : Mem} {z c s : Nat} : WP d 20 R 30 L S G z c s = (okI (lgo L 2) ∧ noL L 2 ∧ WP d 20 R 33 (lset L 2 (some (.int (vI (lgo L 2) + 1)))) S G z c s) := q_iinc cdE_20 dX1_hasLike_30 mxE_20 (by decide) (by decide)
theorem e_20_33 {d : Nat} {R : Rt} {L : Lo} {S : List Value} {G : Mem} {z c s : Nat} : WP d 20 R 33 L S G z c s = WP d 20 R 2 L S G z c s := q_goto cdE_20 dX1_hasLike_33 (by decide)
theorem e_20_36 {d : Nat} {R : Rt} {L : Lo} {S : List Value} {G : Mem} {z c s : Nat} : WP d 20 R 36 L S G z c s = WP d 20 R 37 L (.int 0 :: S) G z c s := q_iconst cdE_20 dX1_hasLike_36 (by decide)
theorem e_20_37 {d : Nat} {R : Rt} {L : Lo} {G : Mem} {z c s : Nat} {v : Int32} : WP d 20 R 37 L [.int v] G z c s = (narrow .boolean (.int v) = .int v ∧ c ≤ 0 ∧ s ≤ 0 ∧ R (some (.int v)) G z) := q_nret cdE_20 dX1_hasLike_37 rfl mcE_20 msE_20
theorem e_21_0 {d : Nat} {R : Rt} {L : Lo} {S : List Value} {G : Mem} {z c s : Nat} : WP d 21 R 0 L S G z c s = WP d 21 R 1 L (.int 0 :: S) G z c s := q_iconst cdE_21 dX1_isApartFrom_0 (by decide)
theorem e_21_1 {d : Nat} {R : Rt} {L : Lo} {S : List Value} {G : Mem} {z c s : Nat} {x : Int32} : WP d 21 R 1 L (.int x :: S) G z c s = (noL L 5 ∧ WP d 21 R 3 (lset L 5 (some (.int x))) S G z c s) := q_istore cdE_21 dX1_isApartFrom_1 mxE_21 (by decide)
theorem e_21_3 {d : Nat} {R : Rt} {L : Lo} {S : List Value} {G : Mem} {z c s : Nat} : WP d 21 R 3 L S G z c s = (okI (lgo L 5) ∧ WP d 21 R 5 L (.int (vI (lgo L 5)) :: S) G z c s) := q_iload cdE_21 dX1_isApartFrom_3
theorem e_21_5 {d : Nat} {R : Rt} {L : Lo} {S : List Value} {G : Mem} {z c s : Nat} : WP d 21 R 5 L S G z c s = (okR (lgo L 0) ∧ WP d 21 R 6 L (va_rf (vR (lgo L 0)) :: S) G z c s) := q_aload_n cdE_21 dX1_isApartFrom_5 rfl
theorem e_21_6 {d : Nat} {R : Rt} {L : Lo} {S : List Value} {G : Mem} {z c s : Nat} {a : Nat} : WP d 21 R 6 L (va_rf (some a) :: S) G z c s = (mK G a = 1 ∧ WP d 21 R 9 L (.int (mI G 1 1 a) :: S) G z c s) := q_getI cdE_21 dX1_isApartFrom_6 owE_21 rfl (by decide)
theorem e_21_9 {d : Nat} {R : Rt} {L : Lo} {S : List Value} {G : Mem} {z c s : Nat} {x y : Int32} : WP d 21 R 9 L (.int y :: .int x :: S) G z c s = if y ≤ x then WP d 21 R 81 L S G z c s else WP d 21 R 12 L S G z c s := q_icge cdE_21 dX1_isApartFrom_9 (by decide)
theorem e_21_12 {d : Nat} {R : Rt} {L : Lo} {S : List Value} {G : Mem} {z c s : Nat} : WP d 21 R 12 L S G z c s = (okR (lgo L 0) ∧ WP d 21 R 13 L (va_rf (vR (lgo L 0)) :: S) G z c s) := q_aload_n cdE_21 dX1_isApartFrom_12 rfl
theorem e_21_13 {d : Nat} {R : Rt} {L : Lo} {S : List Value} {G : Mem} {z c s : Nat} : WP d 21 R 13 L S G z c s = (okI (lgo L 5) ∧ WP d 21 R 15 L (.int (vI (lgo L 5)) :: S) G z c s) := q_iload cdE_21 dX1_isApartFrom_13
theorem e_21_15 {d : Nat} {R : Rt} {L : Lo} {S : List Value} {G : Mem} {z c s : Nat} {a0 : Int32} {b : Nat} : WP d 21 R 15 L (.int a0 :: va_rf (some b) :: S) G z c s = ((mK G b = 1) ∧ S.length ≤ 4 ∧ c + 0 ≤ 0 ∧ s + 0 ≤ 0 ∧ CALL d 14 [va_rf (some b), .int a0] G z (rtn d 21 R 18 L S (c + 0) (s + 0))) := q_callV (as := [.int a0]) cdE_21 dX1_isApartFrom_15 owE_21 rfl rfl rfl (by simp only [List.reverse_cons, List.reverse_nil, List.nil_append, List.cons_append, entL, isL_int, isL_long, isL_rf, Bool.false_eq_true, if_false, if_true, List.length_cons, List.length_nil, mxE_14]; decide) mcE_21 msE_21 mcE_14 msE_14
theorem e_21_18 {d : Nat} {R : Rt} {L : Lo} {S : List Value} {G : Mem} {z c s : Nat} {r : Option Nat} : WP d 21 R 18 L (va_rf r :: S) G z c s = (noL L 6 ∧ WP d 21 R 20 (lset L 6 (some (va_rf r))) S G z c s) := q_astore cdE_21 dX1_isApartFrom_18 mxE_21 (by decide)
theorem e_21_20 {d : Nat} {R : Rt} {L : Lo} {S : List Value} {G : Mem} {z c s : Nat} : WP d 21 R 20 L S G z c s = (okR (lgo L 6) ∧ WP d 21 R 22 L (va_rf (vR (lgo L 6)) :: S) G z c s) := q_aload cdE_21 dX1_isApartFrom_20
theorem e_21_22 {d : Nat} {R : Rt} {L : Lo} {S : List Value} {G : Mem} {z c s : Nat} {r : Option Nat} : WP d 21 R 22 L (va_rf r :: S) G z c s = if r = none then WP d 21 R 25 L S G z c s else WP d 21 R 29 L S G z c s := q_ifnonnull cdE_21 dX1_isApartFrom_22 (by decide)
theorem e_21_25 {d : Nat} {R : Rt} {L : Lo} {S : List Value} {G : Mem} {z c s : Nat} : WP d 21 R 25 L S G z c s = WP d 21 R 26 L (va_rf none :: S) G z c s := q_null cdE_21 dX1_isApartFrom_25
theorem e_21_26 {d : Nat} {R : Rt} {L : Lo} {S : List Value} {G : Mem} {z c s : Nat} : WP d 21 R 26 L S G z c s = WP d 21 R 37 L S G z c s := q_goto cdE_21 dX1_isApartFrom_26 (by decide)
theorem e_21_29 {d : Nat} {R : Rt} {L : Lo} {S : List Value} {G : Mem} {z c s : Nat} : WP d 21 R 29 L S G z c s = (okR (lgo L 6) ∧ WP d 21 R 31 L (va_rf (vR (lgo L 6)) :: S) G z c s) := q_aload cdE_21 dX1_isApartFrom_29
theorem e_21_31 {d : Nat} {R : Rt} {L : Lo} {S : List Value} {G : Mem} {z c s : Nat} : WP d 21 R 31 L S G z c s = (okI (lgo L 3) ∧ WP d 21 R 32 L (.int (vI (lgo L 3)) :: S) G z c s) := q_iload_n cdE_21 dX1_isApartFrom_31 rfl
theorem e_21_32 {d : Nat} {R : Rt} {L : Lo} {S : List Value} {G : Mem} {z c s : Nat} : WP d 21 R 32 L S G z c s = (okI (lgo L 4) ∧ WP d 21 R 34 L (.int (vI (lgo L 4)) :: S) G z c s) := q_iload cdE_21 dX1_isApartFrom_32
theorem e_21_34 {d : Nat} {R : Rt} {L : Lo} {S : List Value} {G : Mem} {z c s : Nat} {a0 : Int32} {a1 : Int32} {b : Nat} : WP d 21 R 34 L (.int a1 :: .int a0 :: va_rf (some b) :: S) G z c s = ((mK G b = 6) ∧ S.length ≤ 4 ∧ c + 0 ≤ 0 ∧ s + 0 ≤ 0 ∧ CALL d 47 [va_rf (some b), .int a0, .int a1] G z (rtn d 21 R 37 L S (c + 0) (s + 0))) := q_callV (as := [.int a1, .int a0]) cdE_21 dX1_isApartFrom_34 owE_21 rfl rfl rfl (by simp only [List.reverse_cons, List.reverse_nil, List.nil_append, List.cons_append, entL, isL_int, isL_long, isL_rf, Bool.false_eq_true, if_false, if_true, List.length_cons, List.length_nil, mxE_47]; decide) mcE_21 msE_21 mcE_47 msE_47
theorem e_21_37 {d : Nat} {R : Rt} {L : Lo} {S : List Value} {G : Mem} {z c s : Nat} {r : Option Nat} : WP d 21 R 37 L (va_rf r :: S) G z c s = (noL L 7 ∧ WP d 21 R 39 (lset L 7 (some (va_rf r))) S G z c s) := q_astore cdE_21 dX1_isApartFrom_37 mxE_21 (by decide)
theorem e_21_39 {d : Nat} {R : Rt} {L : Lo} {S : List Value} {G : Mem} {z c s : Nat} : WP d 21 R 39 L S G z c s = (okR (lgo L 7) ∧ WP d 21 R 41 L (va_rf (vR (lgo L 7)) :: S) G z c s) := q_aload cdE_21 dX1_isApartFrom_39
theorem e_21_41 {d : Nat} {R : Rt} {L : Lo} {S : List Value} {G : Mem} {z c s : Nat} {r : Option Nat} : WP d 21 R 41 L (va_rf r :: S) G z c s = if r = none then WP d 21 R 55 L S G z c s else WP d 21 R 44 L S G z c s := q_ifnull cdE_21 dX1_isApartFrom_41 (by decide)
theorem e_21_44 {d : Nat} {R : Rt} {L : Lo} {S : List Value} {G : Mem} {z c s : Nat} : WP d 21 R 44 L S G z c s = (okR (lgo L 7) ∧ WP d 21 R 46 L (va_rf (vR (lgo L 7)) :: S) G z c s) := q_aload cdE_21 dX1_isApartFrom_44
theorem e_21_46 {d : Nat} {R : Rt} {L : Lo} {S : List Value} {G : Mem} {z c s : Nat} : WP d 21 R 46 L S G z c s = (okR (lgo L 1) ∧ WP d 21 R 47 L (va_rf (vR (lgo L 1)) :: S) G z c s) := q_aload_n cdE_21 dX1_isApartFrom_46 rfl
theorem e_21_47 {d : Nat} {R : Rt} {L : Lo} {S : List Value} {G : Mem} {z c s : Nat} {a0 : Option Nat} {b : Nat} : WP d 21 R 47 L (va_rf a0 :: va_rf (some b) :: S) G z c s = ((mK G b = 2) ∧ S.length ≤ 4 ∧ c + 0 ≤ 0 ∧ s + 0 ≤ 0 ∧ CALL d 25 [va_rf (some b), va_rf a0] G z (rtn d 21 R 50 L S (c + 0) (s + 0))) := q_callV (as := [va_rf a0]) cdE_21 dX1_isApartFrom_47 owE_21 rfl rfl rfl (by simp only [List.reverse_cons, List.reverse_nil, List.nil_append, List.cons_append, entL, isL_int, isL_long, isL_rf, Bool.false_eq_true, if_false, if_true, List.length_cons, List.length_nil, mxE_25]; decide) mcE_21 msE_21 mcE_25 msE_25
theorem e_21_50 {d : Nat} {R : Rt} {L : Lo} {S : List Value} {G : Mem} {z c s : Nat} {x : Int32} : WP d 21 R 50 L (.int x :: S) G z c s = if x = 0 then WP d 21 R 55 L S G z c s else WP d 21 R 53 L S G z c s := q_ifeq cdE_21 dX1_isApartFrom_50 (by decide)
theorem e_21_53 {d : Nat} {R : Rt} {L : Lo} {S : List Value} {G : Mem} {z c s : Nat} : WP d 21 R 53 L S G z c s = WP d 21 R 54 L (.int 1 :: S) G z c s := q_iconst cdE_21 dX1_isApartFrom_53 (by decide)
theorem e_21_54 {d : Nat} {R : Rt} {L : Lo} {G : Mem} {z c s : Nat} {v : Int32} : WP d 21 R 54 L [.int v] G z c s = (narrow .boolean (.int v) = .int v ∧ c ≤ 0 ∧ s ≤ 0 ∧ R (some (.int v)) G z) := q_nret cdE_21 dX1_isApartFrom_54 rfl mcE_21 msE_21
theorem e_21_55 {d : Nat} {R : Rt} {L : Lo} {S : List Value} {G : Mem} {z c s : Nat} : WP d 21 R 55 L S G z c s = (okR (lgo L 6) ∧ WP d 21 R 57 L (va_rf (vR (lgo L 6)) :: S) G z c s) := q_aload cdE_21 dX1_isApartFrom_55
theorem e_21_57 {d : Nat} {R : Rt} {L : Lo} {S : List Value} {G : Mem} {z c s : Nat} {r : Option Nat} : WP d 21 R 57 L (va_rf r :: S) G z c s = if r = none then WP d 21 R 75 L S G z c s else WP d 21 R 60 L S G z c s := q_ifnull cdE_21 dX1_isApartFrom_57 (by decide)
theorem e_21_60 {d : Nat} {R : Rt} {L : Lo} {S : List Value} {G : Mem} {z c s : Nat} : WP d 21 R 60 L S G z c s = (okR (lgo L 2) ∧ WP d 21 R 61 L (va_rf (vR (lgo L 2)) :: S) G z c s) := q_aload_n cdE_21 dX1_isApartFrom_60 rfl
theorem e_21_61 {d : Nat} {R : Rt} {L : Lo} {S : List Value} {G : Mem} {z c s : Nat} {r : Option Nat} : WP d 21 R 61 L (va_rf r :: S) G z c s = if r = none then WP d 21 R 75 L S G z c s else WP d 21 R 64 L S G z c s := q_ifnull cdE_21 dX1_isApartFrom_61 (by decide)
theorem e_21_64 {d : Nat} {R : Rt} {L : Lo} {S : List Value} {G : Mem} {z c s : Nat} : WP d 21 R 64 L S G z c s = (okR (lgo L 2) ∧ WP d 21 R 65 L (va_rf (vR (lgo L 2)) :: S) G z c s) := q_aload_n cdE_21 dX1_isApartFrom_64 rfl
theorem e_21_65 {d : Nat} {R : Rt} {L : Lo} {S : List Value} {G : Mem} {z c s : Nat} : WP d 21 R 65 L S G z c s = (okR (lgo L 6) ∧ WP d 21 R 67 L (va_rf (vR (lgo L 6)) :: S) G z c s) := q_aload cdE_21 dX1_isApartFrom_65
theorem e_21_67 {d : Nat} {R : Rt} {L : Lo} {S : List Value} {G : Mem} {z c s : Nat} {a0 : Option Nat} {b : Nat} : WP d 21 R 67 L (va_rf a0 :: va_rf (some b) :: S) G z c s = ((mK G b = 2) ∧ S.length ≤ 4 ∧ c + 0 ≤ 0 ∧ s + 0 ≤ 0 ∧ CALL d 25 [va_rf (some b), va_rf a0] G z (rtn d 21 R 70 L S (c + 0) (s + 0))) := q_callV (as := [va_rf a0]) cdE_21 dX1_isApartFrom_67 owE_21 rfl rfl rfl (by simp only [List.reverse_cons, List.reverse_nil, List.nil_append, List.cons_append, entL, isL_int, isL_long, isL_rf, Bool.false_eq_true, if_false, if_true, List.length_cons, List.length_nil, mxE_25]; decide) mcE_21 msE_21 mcE_25 msE_25
theorem e_21_70 {d : Nat} {R : Rt} {L : Lo} {S : List Value} {G : Mem} {z c s : Nat} {x : Int32} : WP d 21 R 70 L (.int x :: S) G z c s = if x = 0 then WP d 21 R 75 L S G z c s else WP d 21 R 73 L S G z c s := q_ifeq cdE_21 dX1_isApartFrom_70 (by decide)
theorem e_21_73 {d : Nat} {R : Rt} {L : Lo} {S : List Value} {G : Mem} {z c s : Nat} : WP d 21 R 73 L S G z c s = WP d 21 R 74 L (.int 1 :: S) G z c s := q_iconst cdE_21 dX1_isApartFrom_73 (by decide)
theorem e_21_74 {d : Nat} {R : Rt} {L : Lo} {G : Mem} {z c s : Nat} {v : Int32} : WP d 21 R 74 L [.int v] G z c s = (narrow .boolean (.int v) = .int v ∧ c ≤ 0 ∧ s ≤ 0 ∧ R (some (.int v)) G z) := q_nret cdE_21 dX1_isApartFrom_74 rfl mcE_21 msE_21
theorem e_21_75 {d : Nat} {R : Rt} {L : Lo} {S : List Value} {G : Mem} {z c s : Nat} : WP d 21 R 75 L S G z c s = (okI (lgo L 5) ∧ noL L 5 ∧ WP d 21 R 78 (lset L 5 (some (.int (vI (lgo L 5) + 1)))) S G z c s) := q_iinc cdE_21 dX1_isApartFrom_75 mxE_21 (by decide) (by decide)
theorem e_21_78 {d : Nat} {R : Rt} {L : Lo} {S : List Value} {G : Mem} {z c s : Nat} : WP d 21 R 78 L S G z c s = WP d 21 R 3 L S G z c s := q_goto cdE_21 dX1_isApartFrom_78 (by decide)
theorem e_21_81 {d : Nat} {R : Rt} {L : Lo} {S : List Value} {G : Mem} {z c s : Nat} : WP d 21 R 81 L S G z c s = WP d 21 R 82 L (.int 0 :: S) G z c s := q_iconst cdE_21 dX1_isApartFrom_81 (by decide)
theorem e_21_82 {d : Nat} {R : Rt} {L : Lo} {G : Mem} {z c s : Nat} {v : Int32} : WP d 21 R 82 L [.int v] G z c s = (narrow .boolean (.int v) = .int v ∧ c ≤ 0 ∧ s ≤ 0 ∧ R (some (.int v)) G z) := q_nret cdE_21 dX1_isApartFrom_82 rfl mcE_21 msE_21
theorem e_22_0 {d : Nat} {R : Rt} {L : Lo} {S : List Value} {G : Mem} {z c s : Nat} : WP d 22 R 0 L S G z c s = (okR (lgo L 0) ∧ WP d 22 R 1 L (va_rf (vR (lgo L 0)) :: S) G z c s) := q_aload_n cdE_22 dX2_init_0 rfl
theorem e_22_1 {d : Nat} {R : Rt} {L : Lo} {S : List Value} {G : Mem} {z c s : Nat} {b : Nat} : WP d 22 R 1 L (va_rf (some b) :: S) G z c s = (S.length ≤ 4 ∧ WP d 22 R 4 L S G z c s) := q_obj cdE_22 dX2_init_1 owE_22 (j2 := 0) rfl
theorem e_22_4 {d : Nat} {R : Rt} {L : Lo} {S : List Value} {G : Mem} {z c s : Nat} : WP d 22 R 4 L S G z c s = (okR (lgo L 0) ∧ WP d 22 R 5 L (va_rf (vR (lgo L 0)) :: S) G z c s) := q_aload_n cdE_22 dX2_init_4 rfl
theorem e_22_5 {d : Nat} {R : Rt} {L : Lo} {S : List Value} {G : Mem} {z c s : Nat} : WP d 22 R 5 L S G z c s = (okI (lgo L 1) ∧ WP d 22 R 6 L (.int (vI (lgo L 1)) :: S) G z c s) := q_iload_n cdE_22 dX2_init_5 rfl
theorem e_22_6 {d : Nat} {R : Rt} {L : Lo} {S : List Value} {G : Mem} {z c s : Nat} {a : Nat} {v : Int32} : WP d 22 R 6 L (.int v :: va_rf (some a) :: S) G z c s = (mK G a = 2 ∧ WP d 22 R 9 L S (pI G 2 0 a v) z c s) := q_putI cdE_22 dX2_init_6 owE_22 rfl (by decide) rfl
theorem e_22_9 {d : Nat} {R : Rt} {L : Lo} {S : List Value} {G : Mem} {z c s : Nat} : WP d 22 R 9 L S G z c s = (okR (lgo L 0) ∧ WP d 22 R 10 L (va_rf (vR (lgo L 0)) :: S) G z c s) := q_aload_n cdE_22 dX2_init_9 rfl
theorem e_22_10 {d : Nat} {R : Rt} {L : Lo} {S : List Value} {G : Mem} {z c s : Nat} : WP d 22 R 10 L S G z c s = (okI (lgo L 2) ∧ WP d 22 R 11 L (.int (vI (lgo L 2)) :: S) G z c s) := q_iload_n cdE_22 dX2_init_10 rfl
theorem e_22_11 {d : Nat} {R : Rt} {L : Lo} {S : List Value} {G : Mem} {z c s : Nat} {a : Nat} {v : Int32} : WP d 22 R 11 L (.int v :: va_rf (some a) :: S) G z c s = (mK G a = 2 ∧ WP d 22 R 14 L S (pI G 2 1 a v) z c s) := q_putI cdE_22 dX2_init_11 owE_22 rfl (by decide) rfl
theorem e_22_14 {d : Nat} {R : Rt} {L : Lo} {S : List Value} {G : Mem} {z c s : Nat} : WP d 22 R 14 L S G z c s = (okR (lgo L 0) ∧ WP d 22 R 15 L (va_rf (vR (lgo L 0)) :: S) G z c s) := q_aload_n cdE_22 dX2_init_14 rfl
theorem e_22_15 {d : Nat} {R : Rt} {L : Lo} {S : List Value} {G : Mem} {z c s : Nat} : WP d 22 R 15 L S G z c s = (okI (lgo L 3) ∧ WP d 22 R 16 L (.int (vI (lgo L 3)) :: S) G z c s) := q_iload_n cdE_22 dX2_init_15 rfl
theorem e_22_16 {d : Nat} {R : Rt} {L : Lo} {S : List Value} {G : Mem} {z c s : Nat} {a : Nat} {v : Int32} : WP d 22 R 16 L (.int v :: va_rf (some a) :: S) G z c s = (mK G a = 2 ∧ WP d 22 R 19 L S (pI G 2 2 a v) z c s) := q_putI cdE_22 dX2_init_16 owE_22 rfl (by decide) rfl
theorem e_22_19 {d : Nat} {R : Rt} {L : Lo} {S : List Value} {G : Mem} {z c s : Nat} : WP d 22 R 19 L S G z c s = (okR (lgo L 0) ∧ WP d 22 R 20 L (va_rf (vR (lgo L 0)) :: S) G z c s) := q_aload_n cdE_22 dX2_init_19 rfl
theorem e_22_20 {d : Nat} {R : Rt} {L : Lo} {S : List Value} {G : Mem} {z c s : Nat} : WP d 22 R 20 L S G z c s = (okR (lgo L 4) ∧ WP d 22 R 22 L (va_rf (vR (lgo L 4)) :: S) G z c s) := q_aload cdE_22 dX2_init_20
theorem e_22_22 {d : Nat} {R : Rt} {L : Lo} {S : List Value} {G : Mem} {z c s : Nat} {a : Nat} {r : Option Nat} : WP d 22 R 22 L (va_rf r :: va_rf (some a) :: S) G z c s = (mK G a = 2 ∧ WP d 22 R 25 L S (pR G 2 4 a r) z c s) := q_putR cdE_22 dX2_init_22 owE_22 rfl (by decide) (by decide)
theorem e_22_25 {d : Nat} {R : Rt} {L : Lo} {S : List Value} {G : Mem} {z c s : Nat} : WP d 22 R 25 L S G z c s = (okR (lgo L 0) ∧ WP d 22 R 26 L (va_rf (vR (lgo L 0)) :: S) G z c s) := q_aload_n cdE_22 dX2_init_25 rfl
theorem e_22_26 {d : Nat} {R : Rt} {L : Lo} {S : List Value} {G : Mem} {z c s : Nat} : WP d 22 R 26 L S G z c s = (okR (lgo L 5) ∧ WP d 22 R 28 L (va_rf (vR (lgo L 5)) :: S) G z c s) := q_aload cdE_22 dX2_init_26
theorem e_22_28 {d : Nat} {R : Rt} {L : Lo} {S : List Value} {G : Mem} {z c s : Nat} {a : Nat} {r : Option Nat} : WP d 22 R 28 L (va_rf r :: va_rf (some a) :: S) G z c s = (mK G a = 2 ∧ WP d 22 R 31 L S (pR G 2 3 a r) z c s) := q_putR cdE_22 dX2_init_28 owE_22 rfl (by decide) (by decide)
theorem e_22_31 {d : Nat} {R : Rt} {L : Lo} {G : Mem} {z c s : Nat} : WP d 22 R 31 L [] G z c s = (c ≤ 0 ∧ s ≤ 0 ∧ R none G z) := q_vret cdE_22 dX2_init_31 rfl mcE_22 msE_22
theorem e_23_0 {d : Nat} {R : Rt} {L : Lo} {S : List Value} {G : Mem} {z c s : Nat} : WP d 23 R 0 L S G z c s = (okR (lgo L 0) ∧ WP d 23 R 1 L (va_rf (vR (lgo L 0)) :: S) G z c s) := q_aload_n cdE_23 dX2_lastNumber_0 rfl
theorem e_23_1 {d : Nat} {R : Rt} {L : Lo} {S : List Value} {G : Mem} {z c s : Nat} {a : Nat} : WP d 23 R 1 L (va_rf (some a) :: S) G z c s = (mK G a = 2 ∧ WP d 23 R 4 L (va_rf (mR G 2 4 a) :: S) G z c s) := q_getR cdE_23 dX2_lastNumber_1 owE_23 rfl (by decide)
theorem e_23_4 {d : Nat} {R : Rt} {L : Lo} {S : List Value} {G : Mem} {z c s : Nat} {r : Option Nat} : WP d 23 R 4 L (va_rf r :: S) G z c s = (noL L 2 ∧ WP d 23 R 5 (lset L 2 (some (va_rf r))) S G z c s) := q_astore_n cdE_23 dX2_lastNumber_4 rfl mxE_23 (by decide)
theorem e_23_5 {d : Nat} {R : Rt} {L : Lo} {S : List Value} {G : Mem} {z c s : Nat} : WP d 23 R 5 L S G z c s = (okR (lgo L 2) ∧ WP d 23 R 6 L (va_rf (vR (lgo L 2)) :: S) G z c s) := q_aload_n cdE_23 dX2_lastNumber_5 rfl
theorem e_23_6 {d : Nat} {R : Rt} {L : Lo} {S : List Value} {G : Mem} {z c s : Nat} {r : Option Nat} : WP d 23 R 6 L (va_rf r :: S) G z c s = if r = none then WP d 23 R 30 L S G z c s else WP d 23 R 9 L S G z c s := q_ifnull cdE_23 dX2_lastNumber_6 (by decide)
theorem e_23_9 {d : Nat} {R : Rt} {L : Lo} {S : List Value} {G : Mem} {z c s : Nat} : WP d 23 R 9 L S G z c s = (okR (lgo L 2) ∧ WP d 23 R 10 L (va_rf (vR (lgo L 2)) :: S) G z c s) := q_aload_n cdE_23 dX2_lastNumber_9 rfl
theorem e_23_10 {d : Nat} {R : Rt} {L : Lo} {S : List Value} {G : Mem} {z c s : Nat} {a : Nat} : WP d 23 R 10 L (va_rf (some a) :: S) G z c s = (mK G a = 5 ∧ WP d 23 R 13 L (.int (mI G 5 0 a) :: S) G z c s) := q_getI cdE_23 dX2_lastNumber_10 owE_23 rfl (by decide)
theorem e_23_13 {d : Nat} {R : Rt} {L : Lo} {S : List Value} {G : Mem} {z c s : Nat} : WP d 23 R 13 L S G z c s = (okI (lgo L 1) ∧ WP d 23 R 14 L (.int (vI (lgo L 1)) :: S) G z c s) := q_iload_n cdE_23 dX2_lastNumber_13 rfl
theorem e_23_14 {d : Nat} {R : Rt} {L : Lo} {S : List Value} {G : Mem} {z c s : Nat} {x y : Int32} : WP d 23 R 14 L (.int y :: .int x :: S) G z c s = if x = y then WP d 23 R 17 L S G z c s else WP d 23 R 22 L S G z c s := q_icne cdE_23 dX2_lastNumber_14 (by decide)
theorem e_23_17 {d : Nat} {R : Rt} {L : Lo} {S : List Value} {G : Mem} {z c s : Nat} : WP d 23 R 17 L S G z c s = (okR (lgo L 2) ∧ WP d 23 R 18 L (va_rf (vR (lgo L 2)) :: S) G z c s) := q_aload_n cdE_23 dX2_lastNumber_17 rfl
theorem e_23_18 {d : Nat} {R : Rt} {L : Lo} {S : List Value} {G : Mem} {z c s : Nat} {a : Nat} : WP d 23 R 18 L (va_rf (some a) :: S) G z c s = (mK G a = 5 ∧ WP d 23 R 21 L (.int (mI G 5 1 a) :: S) G z c s) := q_getI cdE_23 dX2_lastNumber_18 owE_23 rfl (by decide)
theorem e_23_21 {d : Nat} {R : Rt} {L : Lo} {G : Mem} {z c s : Nat} {v : Int32} : WP d 23 R 21 L [.int v] G z c s = (c ≤ 0 ∧ s ≤ 0 ∧ R (some (.int v)) G z) := q_iret cdE_23 dX2_lastNumber_21 rfl mcE_23 msE_23
theorem e_23_22 {d : Nat} {R : Rt} {L : Lo} {S : List Value} {G : Mem} {z c s : Nat} : WP d 23 R 22 L S G z c s = (okR (lgo L 2) ∧ WP d 23 R 23 L (va_rf (vR (lgo L 2)) :: S) G z c s) := q_aload_n cdE_23 dX2_lastNumber_22 rfl
theorem e_23_23 {d : Nat} {R : Rt} {L : Lo} {S : List Value} {G : Mem} {z c s : Nat} {a : Nat} : WP d 23 R 23 L (va_rf (some a) :: S) G z c s = (mK G a = 5 ∧ WP d 23 R 26 L (va_rf (mR G 5 3 a) :: S) G z c s) := q_getR cdE_23 dX2_lastNumber_23 owE_23 rfl (by decide)
theorem e_23_26 {d : Nat} {R : Rt} {L : Lo} {S : List Value} {G : Mem} {z c s : Nat} {r : Option Nat} : WP d 23 R 26 L (va_rf r :: S) G z c s = (noL L 2 ∧ WP d 23 R 27 (lset L 2 (some (va_rf r))) S G z c s) := q_astore_n cdE_23 dX2_lastNumber_26 rfl mxE_23 (by decide)
theorem e_23_27 {d : Nat} {R : Rt} {L : Lo} {S : List Value} {G : Mem} {z c s : Nat} : WP d 23 R 27 L S G z c s = WP d 23 R 5 L S G z c s := q_goto cdE_23 dX2_lastNumber_27 (by decide)
theorem e_23_30 {d : Nat} {R : Rt} {L : Lo} {S : List Value} {G : Mem} {z c s : Nat} : WP d 23 R 30 L S G z c s = WP d 23 R 31 L (.int 0 :: S) G z c s := q_iconst cdE_23 dX2_lastNumber_30 (by decide)
theorem e_23_31 {d : Nat} {R : Rt} {L : Lo} {G : Mem} {z c s : Nat} {v : Int32} : WP d 23 R 31 L [.int v] G z c s = (c ≤ 0 ∧ s ≤ 0 ∧ R (some (.int v)) G z) := q_iret cdE_23 dX2_lastNumber_31 rfl mcE_23 msE_23
theorem e_24_0 {d : Nat} {R : Rt} {L : Lo} {S : List Value} {G : Mem} {z c s : Nat} : WP d 24 R 0 L S G z c s = (okR (lgo L 0) ∧ WP d 24 R 1 L (va_rf (vR (lgo L 0)) :: S) G z c s) := q_aload_n cdE_24 dX2_isNeverIn_0 rfl
theorem e_24_1 {d : Nat} {R : Rt} {L : Lo} {S : List Value} {G : Mem} {z c s : Nat} : WP d 24 R 1 L S G z c s = WP d 24 R 2 L (.int 3 :: S) G z c s := q_iconst cdE_24 dX2_isNeverIn_1 (by decide)
theorem e_24_2 {d : Nat} {R : Rt} {L : Lo} {S : List Value} {G : Mem} {z c s : Nat} : WP d 24 R 2 L S G z c s = (okR (lgo L 1) ∧ WP d 24 R 3 L (va_rf (vR (lgo L 1)) :: S) G z c s) := q_aload_n cdE_24 dX2_isNeverIn_2 rfl
theorem e_24_3 {d : Nat} {R : Rt} {L : Lo} {S : List Value} {G : Mem} {z c s : Nat} {a : Nat} : WP d 24 R 3 L (va_rf (some a) :: S) G z c s = (mK G a = 4 ∧ WP d 24 R 6 L (.int (mI G 4 0 a) :: S) G z c s) := q_getI cdE_24 dX2_isNeverIn_3 owE_24 rfl (by decide)
theorem e_24_6 {d : Nat} {R : Rt} {L : Lo} {S : List Value} {G : Mem} {z c s : Nat} {a0 : Int32} {a1 : Int32} {b : Nat} : WP d 24 R 6 L (.int a1 :: .int a0 :: va_rf (some b) :: S) G z c s = ((mK G b = 2) ∧ S.length ≤ 4 ∧ c + 0 ≤ 0 ∧ s + 0 ≤ 0 ∧ CALL d 27 [va_rf (some b), .int a0, .int a1] G z (rtn d 24 R 9 L S (c + 0) (s + 0))) := q_callV (as := [.int a1, .int a0]) cdE_24 dX2_isNeverIn_6 owE_24 rfl rfl rfl (by simp only [List.reverse_cons, List.reverse_nil, List.nil_append, List.cons_append, entL, isL_int, isL_long, isL_rf, Bool.false_eq_true, if_false, if_true, List.length_cons, List.length_nil, mxE_27]; decide) mcE_24 msE_24 mcE_27 msE_27
theorem e_24_9 {d : Nat} {R : Rt} {L : Lo} {G : Mem} {z c s : Nat} {v : Int32} : WP d 24 R 9 L [.int v] G z c s = (narrow .boolean (.int v) = .int v ∧ c ≤ 0 ∧ s ≤ 0 ∧ R (some (.int v)) G z) := q_nret cdE_24 dX2_isNeverIn_9 rfl mcE_24 msE_24
theorem e_25_0 {d : Nat} {R : Rt} {L : Lo} {S : List Value} {G : Mem} {z c s : Nat} : WP d 25 R 0 L S G z c s = (okR (lgo L 0) ∧ WP d 25 R 1 L (va_rf (vR (lgo L 0)) :: S) G z c s) := q_aload_n cdE_25 dX2_isApartFrom_0 rfl
theorem e_25_1 {d : Nat} {R : Rt} {L : Lo} {S : List Value} {G : Mem} {z c s : Nat} : WP d 25 R 1 L S G z c s = WP d 25 R 2 L (.int 1 :: S) G z c s := q_iconst cdE_25 dX2_isApartFrom_1 (by decide)
theorem e_25_2 {d : Nat} {R : Rt} {L : Lo} {S : List Value} {G : Mem} {z c s : Nat} : WP d 25 R 2 L S G z c s = (okR (lgo L 1) ∧ WP d 25 R 3 L (va_rf (vR (lgo L 1)) :: S) G z c s) := q_aload_n cdE_25 dX2_isApartFrom_2 rfl
theorem e_25_3 {d : Nat} {R : Rt} {L : Lo} {S : List Value} {G : Mem} {z c s : Nat} {a : Nat} : WP d 25 R 3 L (va_rf (some a) :: S) G z c s = (mK G a = 6 ∧ WP d 25 R 6 L (.int (mI G 6 4 a) :: S) G z c s) := q_getI cdE_25 dX2_isApartFrom_3 owE_25 rfl (by decide)
theorem e_25_6 {d : Nat} {R : Rt} {L : Lo} {S : List Value} {G : Mem} {z c s : Nat} {a0 : Int32} {a1 : Int32} {b : Nat} : WP d 25 R 6 L (.int a1 :: .int a0 :: va_rf (some b) :: S) G z c s = ((mK G b = 2) ∧ S.length ≤ 4 ∧ c + 0 ≤ 0 ∧ s + 0 ≤ 0 ∧ CALL d 27 [va_rf (some b), .int a0, .int a1] G z (rtn d 25 R 9 L S (c + 0) (s + 0))) := q_callV (as := [.int a1, .int a0]) cdE_25 dX2_isApartFrom_6 owE_25 rfl rfl rfl (by simp only [List.reverse_cons, List.reverse_nil, List.nil_append, List.cons_append, entL, isL_int, isL_long, isL_rf, Bool.false_eq_true, if_false, if_true, List.length_cons, List.length_nil, mxE_27]; decide) mcE_25 msE_25 mcE_27 msE_27
theorem e_25_9 {d : Nat} {R : Rt} {L : Lo} {S : List Value} {G : Mem} {z c s : Nat} {x : Int32} : WP d 25 R 9 L (.int x :: S) G z c s = if x = 0 then WP d 25 R 12 L S G z c s else WP d 25 R 24 L S G z c s := q_ifne cdE_25 dX2_isApartFrom_9 (by decide)
theorem e_25_12 {d : Nat} {R : Rt} {L : Lo} {S : List Value} {G : Mem} {z c s : Nat} : WP d 25 R 12 L S G z c s = (okR (lgo L 0) ∧ WP d 25 R 13 L (va_rf (vR (lgo L 0)) :: S) G z c s) := q_aload_n cdE_25 dX2_isApartFrom_12 rfl
theorem e_25_13 {d : Nat} {R : Rt} {L : Lo} {S : List Value} {G : Mem} {z c s : Nat} : WP d 25 R 13 L S G z c s = WP d 25 R 14 L (.int 2 :: S) G z c s := q_iconst cdE_25 dX2_isApartFrom_13 (by decide)
theorem e_25_14 {d : Nat} {R : Rt} {L : Lo} {S : List Value} {G : Mem} {z c s : Nat} : WP d 25 R 14 L S G z c s = (okR (lgo L 1) ∧ WP d 25 R 15 L (va_rf (vR (lgo L 1)) :: S) G z c s) := q_aload_n cdE_25 dX2_isApartFrom_14 rfl
theorem e_25_15 {d : Nat} {R : Rt} {L : Lo} {S : List Value} {G : Mem} {z c s : Nat} {a : Nat} : WP d 25 R 15 L (va_rf (some a) :: S) G z c s = (mK G a = 6 ∧ WP d 25 R 18 L (.int (mI G 6 0 a) :: S) G z c s) := q_getI cdE_25 dX2_isApartFrom_15 owE_25 rfl (by decide)
theorem e_25_18 {d : Nat} {R : Rt} {L : Lo} {S : List Value} {G : Mem} {z c s : Nat} {a0 : Int32} {a1 : Int32} {b : Nat} : WP d 25 R 18 L (.int a1 :: .int a0 :: va_rf (some b) :: S) G z c s = ((mK G b = 2) ∧ S.length ≤ 4 ∧ c + 0 ≤ 0 ∧ s + 0 ≤ 0 ∧ CALL d 27 [va_rf (some b), .int a0, .int a1] G z (rtn d 25 R 21 L S (c + 0) (s + 0))) := q_callV (as := [.int a1, .int a0]) cdE_25 dX2_isApartFrom_18 owE_25 rfl rfl rfl (by simp only [List.reverse_cons, List.reverse_nil, List.nil_append, List.cons_append, entL, isL_int, isL_long, isL_rf, Bool.false_eq_true, if_false, if_true, List.length_cons, List.length_nil, mxE_27]; decide) mcE_25 msE_25 mcE_27 msE_27
theorem e_25_21 {d : Nat} {R : Rt} {L : Lo} {S : List Value} {G : Mem} {z c s : Nat} {x : Int32} : WP d 25 R 21 L (.int x :: S) G z c s = if x = 0 then WP d 25 R 28 L S G z c s else WP d 25 R 24 L S G z c s := q_ifeq cdE_25 dX2_isApartFrom_21 (by decide)
theorem e_25_24 {d : Nat} {R : Rt} {L : Lo} {S : List Value} {G : Mem} {z c s : Nat} : WP d 25 R 24 L S G z c s = WP d 25 R 25 L (.int 1 :: S) G z c s := q_iconst cdE_25 dX2_isApartFrom_24 (by decide)
theorem e_25_25 {d : Nat} {R : Rt} {L : Lo} {S : List Value} {G : Mem} {z c s : Nat} : WP d 25 R 25 L S G z c s = WP d 25 R 29 L S G z c s := q_goto cdE_25 dX2_isApartFrom_25 (by decide)
theorem e_25_28 {d : Nat} {R : Rt} {L : Lo} {S : List Value} {G : Mem} {z c s : Nat} : WP d 25 R 28 L S G z c s = WP d 25 R 29 L (.int 0 :: S) G z c s := q_iconst cdE_25 dX2_isApartFrom_28 (by decide)
theorem e_25_29 {d : Nat} {R : Rt} {L : Lo} {G : Mem} {z c s : Nat} {v : Int32} : WP d 25 R 29 L [.int v] G z c s = (narrow .boolean (.int v) = .int v ∧ c ≤ 0 ∧ s ≤ 0 ∧ R (some (.int v)) G z) := q_nret cdE_25 dX2_isApartFrom_29 rfl mcE_25 msE_25
theorem e_26_0 {d : Nat} {R : Rt} {L : Lo} {S : List Value} {G : Mem} {z c s : Nat} : WP d 26 R 0 L S G z c s = (okR (lgo L 0) ∧ WP d 26 R 1 L (va_rf (vR (lgo L 0)) :: S) G z c s) := q_aload_n cdE_26 dX2_hasBar_0 rfl
theorem e_26_1 {d : Nat} {R : Rt} {L : Lo} {S : List Value} {G : Mem} {z c s : Nat} {a : Nat} : WP d 26 R 1 L (va_rf (some a) :: S) G z c s = (mK G a = 2 ∧ WP d 26 R 4 L (va_rf (mR G 2 4 a) :: S) G z c s) := q_getR cdE_26 dX2_hasBar_1 owE_26 rfl (by decide)
theorem e_26_4 {d : Nat} {R : Rt} {L : Lo} {S : List Value} {G : Mem} {z c s : Nat} {r : Option Nat} : WP d 26 R 4 L (va_rf r :: S) G z c s = (noL L 3 ∧ WP d 26 R 5 (lset L 3 (some (va_rf r))) S G z c s) := q_astore_n cdE_26 dX2_hasBar_4 rfl mxE_26 (by decide)
theorem e_26_5 {d : Nat} {R : Rt} {L : Lo} {S : List Value} {G : Mem} {z c s : Nat} : WP d 26 R 5 L S G z c s = (okR (lgo L 3) ∧ WP d 26 R 6 L (va_rf (vR (lgo L 3)) :: S) G z c s) := q_aload_n cdE_26 dX2_hasBar_5 rfl
theorem e_26_6 {d : Nat} {R : Rt} {L : Lo} {S : List Value} {G : Mem} {z c s : Nat} {r : Option Nat} : WP d 26 R 6 L (va_rf r :: S) G z c s = if r = none then WP d 26 R 42 L S G z c s else WP d 26 R 9 L S G z c s := q_ifnull cdE_26 dX2_hasBar_6 (by decide)
theorem e_26_9 {d : Nat} {R : Rt} {L : Lo} {S : List Value} {G : Mem} {z c s : Nat} : WP d 26 R 9 L S G z c s = (okR (lgo L 3) ∧ WP d 26 R 10 L (va_rf (vR (lgo L 3)) :: S) G z c s) := q_aload_n cdE_26 dX2_hasBar_9 rfl
theorem e_26_10 {d : Nat} {R : Rt} {L : Lo} {S : List Value} {G : Mem} {z c s : Nat} {a : Nat} : WP d 26 R 10 L (va_rf (some a) :: S) G z c s = (mK G a = 5 ∧ WP d 26 R 13 L (.int (mI G 5 0 a) :: S) G z c s) := q_getI cdE_26 dX2_hasBar_10 owE_26 rfl (by decide)
theorem e_26_13 {d : Nat} {R : Rt} {L : Lo} {S : List Value} {G : Mem} {z c s : Nat} {x : Int32} : WP d 26 R 13 L (.int x :: S) G z c s = if x = 0 then WP d 26 R 16 L S G z c s else WP d 26 R 34 L S G z c s := q_ifne cdE_26 dX2_hasBar_13 (by decide)
theorem e_26_16 {d : Nat} {R : Rt} {L : Lo} {S : List Value} {G : Mem} {z c s : Nat} : WP d 26 R 16 L S G z c s = (okI (lgo L 1) ∧ WP d 26 R 17 L (.int (vI (lgo L 1)) :: S) G z c s) := q_iload_n cdE_26 dX2_hasBar_16 rfl
theorem e_26_17 {d : Nat} {R : Rt} {L : Lo} {S : List Value} {G : Mem} {z c s : Nat} : WP d 26 R 17 L S G z c s = (okR (lgo L 3) ∧ WP d 26 R 18 L (va_rf (vR (lgo L 3)) :: S) G z c s) := q_aload_n cdE_26 dX2_hasBar_17 rfl
theorem e_26_18 {d : Nat} {R : Rt} {L : Lo} {S : List Value} {G : Mem} {z c s : Nat} {a : Nat} : WP d 26 R 18 L (va_rf (some a) :: S) G z c s = (mK G a = 5 ∧ WP d 26 R 21 L (.int (mI G 5 1 a) :: S) G z c s) := q_getI cdE_26 dX2_hasBar_18 owE_26 rfl (by decide)
theorem e_26_21 {d : Nat} {R : Rt} {L : Lo} {S : List Value} {G : Mem} {z c s : Nat} {x y : Int32} : WP d 26 R 21 L (.int y :: .int x :: S) G z c s = if y ≤ x then WP d 26 R 34 L S G z c s else WP d 26 R 24 L S G z c s := q_icge cdE_26 dX2_hasBar_21 (by decide)
theorem e_26_24 {d : Nat} {R : Rt} {L : Lo} {S : List Value} {G : Mem} {z c s : Nat} : WP d 26 R 24 L S G z c s = (okI (lgo L 2) ∧ WP d 26 R 25 L (.int (vI (lgo L 2)) :: S) G z c s) := q_iload_n cdE_26 dX2_hasBar_24 rfl
theorem e_26_25 {d : Nat} {R : Rt} {L : Lo} {S : List Value} {G : Mem} {z c s : Nat} : WP d 26 R 25 L S G z c s = (okR (lgo L 3) ∧ WP d 26 R 26 L (va_rf (vR (lgo L 3)) :: S) G z c s) := q_aload_n cdE_26 dX2_hasBar_25 rfl
theorem e_26_26 {d : Nat} {R : Rt} {L : Lo} {S : List Value} {G : Mem} {z c s : Nat} {a : Nat} : WP d 26 R 26 L (va_rf (some a) :: S) G z c s = (mK G a = 5 ∧ WP d 26 R 29 L (.int (mI G 5 2 a) :: S) G z c s) := q_getI cdE_26 dX2_hasBar_26 owE_26 rfl (by decide)
theorem e_26_29 {d : Nat} {R : Rt} {L : Lo} {S : List Value} {G : Mem} {z c s : Nat} {x y : Int32} : WP d 26 R 29 L (.int y :: .int x :: S) G z c s = if y < x then WP d 26 R 34 L S G z c s else WP d 26 R 32 L S G z c s := q_icgt cdE_26 dX2_hasBar_29 (by decide)
theorem e_26_32 {d : Nat} {R : Rt} {L : Lo} {S : List Value} {G : Mem} {z c s : Nat} : WP d 26 R 32 L S G z c s = WP d 26 R 33 L (.int 1 :: S) G z c s := q_iconst cdE_26 dX2_hasBar_32 (by decide)
theorem e_26_33 {d : Nat} {R : Rt} {L : Lo} {G : Mem} {z c s : Nat} {v : Int32} : WP d 26 R 33 L [.int v] G z c s = (narrow .boolean (.int v) = .int v ∧ c ≤ 0 ∧ s ≤ 0 ∧ R (some (.int v)) G z) := q_nret cdE_26 dX2_hasBar_33 rfl mcE_26 msE_26
theorem e_26_34 {d : Nat} {R : Rt} {L : Lo} {S : List Value} {G : Mem} {z c s : Nat} : WP d 26 R 34 L S G z c s = (okR (lgo L 3) ∧ WP d 26 R 35 L (va_rf (vR (lgo L 3)) :: S) G z c s) := q_aload_n cdE_26 dX2_hasBar_34 rfl
theorem e_26_35 {d : Nat} {R : Rt} {L : Lo} {S : List Value} {G : Mem} {z c s : Nat} {a : Nat} : WP d 26 R 35 L (va_rf (some a) :: S) G z c s = (mK G a = 5 ∧ WP d 26 R 38 L (va_rf (mR G 5 3 a) :: S) G z c s) := q_getR cdE_26 dX2_hasBar_35 owE_26 rfl (by decide)
theorem e_26_38 {d : Nat} {R : Rt} {L : Lo} {S : List Value} {G : Mem} {z c s : Nat} {r : Option Nat} : WP d 26 R 38 L (va_rf r :: S) G z c s = (noL L 3 ∧ WP d 26 R 39 (lset L 3 (some (va_rf r))) S G z c s) := q_astore_n cdE_26 dX2_hasBar_38 rfl mxE_26 (by decide)
theorem e_26_39 {d : Nat} {R : Rt} {L : Lo} {S : List Value} {G : Mem} {z c s : Nat} : WP d 26 R 39 L S G z c s = WP d 26 R 5 L S G z c s := q_goto cdE_26 dX2_hasBar_39 (by decide)
theorem e_26_42 {d : Nat} {R : Rt} {L : Lo} {S : List Value} {G : Mem} {z c s : Nat} : WP d 26 R 42 L S G z c s = WP d 26 R 43 L (.int 0 :: S) G z c s := q_iconst cdE_26 dX2_hasBar_42 (by decide)
theorem e_26_43 {d : Nat} {R : Rt} {L : Lo} {G : Mem} {z c s : Nat} {v : Int32} : WP d 26 R 43 L [.int v] G z c s = (narrow .boolean (.int v) = .int v ∧ c ≤ 0 ∧ s ≤ 0 ∧ R (some (.int v)) G z) := q_nret cdE_26 dX2_hasBar_43 rfl mcE_26 msE_26
theorem e_27_0 {d : Nat} {R : Rt} {L : Lo} {S : List Value} {G : Mem} {z c s : Nat} : WP d 27 R 0 L S G z c s = (okR (lgo L 0) ∧ WP d 27 R 1 L (va_rf (vR (lgo L 0)) :: S) G z c s) := q_aload_n cdE_27 dX2_tells_0 rfl
theorem e_27_1 {d : Nat} {R : Rt} {L : Lo} {S : List Value} {G : Mem} {z c s : Nat} {a : Nat} : WP d 27 R 1 L (va_rf (some a) :: S) G z c s = (mK G a = 2 ∧ WP d 27 R 4 L (va_rf (mR G 2 4 a) :: S) G z c s) := q_getR cdE_27 dX2_tells_1 owE_27 rfl (by decide)
theorem e_27_4 {d : Nat} {R : Rt} {L : Lo} {S : List Value} {G : Mem} {z c s : Nat} {r : Option Nat} : WP d 27 R 4 L (va_rf r :: S) G z c s = (noL L 3 ∧ WP d 27 R 5 (lset L 3 (some (va_rf r))) S G z c s) := q_astore_n cdE_27 dX2_tells_4 rfl mxE_27 (by decide)
theorem e_27_5 {d : Nat} {R : Rt} {L : Lo} {S : List Value} {G : Mem} {z c s : Nat} : WP d 27 R 5 L S G z c s = (okR (lgo L 3) ∧ WP d 27 R 6 L (va_rf (vR (lgo L 3)) :: S) G z c s) := q_aload_n cdE_27 dX2_tells_5 rfl
theorem e_27_6 {d : Nat} {R : Rt} {L : Lo} {S : List Value} {G : Mem} {z c s : Nat} {r : Option Nat} : WP d 27 R 6 L (va_rf r :: S) G z c s = if r = none then WP d 27 R 35 L S G z c s else WP d 27 R 9 L S G z c s := q_ifnull cdE_27 dX2_tells_6 (by decide)
theorem e_27_9 {d : Nat} {R : Rt} {L : Lo} {S : List Value} {G : Mem} {z c s : Nat} : WP d 27 R 9 L S G z c s = (okR (lgo L 3) ∧ WP d 27 R 10 L (va_rf (vR (lgo L 3)) :: S) G z c s) := q_aload_n cdE_27 dX2_tells_9 rfl
theorem e_27_10 {d : Nat} {R : Rt} {L : Lo} {S : List Value} {G : Mem} {z c s : Nat} {a : Nat} : WP d 27 R 10 L (va_rf (some a) :: S) G z c s = (mK G a = 5 ∧ WP d 27 R 13 L (.int (mI G 5 0 a) :: S) G z c s) := q_getI cdE_27 dX2_tells_10 owE_27 rfl (by decide)
theorem e_27_13 {d : Nat} {R : Rt} {L : Lo} {S : List Value} {G : Mem} {z c s : Nat} : WP d 27 R 13 L S G z c s = (okI (lgo L 1) ∧ WP d 27 R 14 L (.int (vI (lgo L 1)) :: S) G z c s) := q_iload_n cdE_27 dX2_tells_13 rfl
theorem e_27_14 {d : Nat} {R : Rt} {L : Lo} {S : List Value} {G : Mem} {z c s : Nat} {x y : Int32} : WP d 27 R 14 L (.int y :: .int x :: S) G z c s = if x = y then WP d 27 R 17 L S G z c s else WP d 27 R 27 L S G z c s := q_icne cdE_27 dX2_tells_14 (by decide)
theorem e_27_17 {d : Nat} {R : Rt} {L : Lo} {S : List Value} {G : Mem} {z c s : Nat} : WP d 27 R 17 L S G z c s = (okR (lgo L 3) ∧ WP d 27 R 18 L (va_rf (vR (lgo L 3)) :: S) G z c s) := q_aload_n cdE_27 dX2_tells_17 rfl
theorem e_27_18 {d : Nat} {R : Rt} {L : Lo} {S : List Value} {G : Mem} {z c s : Nat} {a : Nat} : WP d 27 R 18 L (va_rf (some a) :: S) G z c s = (mK G a = 5 ∧ WP d 27 R 21 L (.int (mI G 5 1 a) :: S) G z c s) := q_getI cdE_27 dX2_tells_18 owE_27 rfl (by decide)
theorem e_27_21 {d : Nat} {R : Rt} {L : Lo} {S : List Value} {G : Mem} {z c s : Nat} : WP d 27 R 21 L S G z c s = (okI (lgo L 2) ∧ WP d 27 R 22 L (.int (vI (lgo L 2)) :: S) G z c s) := q_iload_n cdE_27 dX2_tells_21 rfl
theorem e_27_22 {d : Nat} {R : Rt} {L : Lo} {S : List Value} {G : Mem} {z c s : Nat} {x y : Int32} : WP d 27 R 22 L (.int y :: .int x :: S) G z c s = if x = y then WP d 27 R 25 L S G z c s else WP d 27 R 27 L S G z c s := q_icne cdE_27 dX2_tells_22 (by decide)
theorem e_27_25 {d : Nat} {R : Rt} {L : Lo} {S : List Value} {G : Mem} {z c s : Nat} : WP d 27 R 25 L S G z c s = WP d 27 R 26 L (.int 1 :: S) G z c s := q_iconst cdE_27 dX2_tells_25 (by decide)
theorem e_27_26 {d : Nat} {R : Rt} {L : Lo} {G : Mem} {z c s : Nat} {v : Int32} : WP d 27 R 26 L [.int v] G z c s = (narrow .boolean (.int v) = .int v ∧ c ≤ 0 ∧ s ≤ 0 ∧ R (some (.int v)) G z) := q_nret cdE_27 dX2_tells_26 rfl mcE_27 msE_27
theorem e_27_27 {d : Nat} {R : Rt} {L : Lo} {S : List Value} {G : Mem} {z c s : Nat} : WP d 27 R 27 L S G z c s = (okR (lgo L 3) ∧ WP d 27 R 28 L (va_rf (vR (lgo L 3)) :: S) G z c s) := q_aload_n cdE_27 dX2_tells_27 rfl
theorem e_27_28 {d : Nat} {R : Rt} {L : Lo} {S : List Value} {G : Mem} {z c s : Nat} {a : Nat} : WP d 27 R 28 L (va_rf (some a) :: S) G z c s = (mK G a = 5 ∧ WP d 27 R 31 L (va_rf (mR G 5 3 a) :: S) G z c s) := q_getR cdE_27 dX2_tells_28 owE_27 rfl (by decide)
theorem e_27_31 {d : Nat} {R : Rt} {L : Lo} {S : List Value} {G : Mem} {z c s : Nat} {r : Option Nat} : WP d 27 R 31 L (va_rf r :: S) G z c s = (noL L 3 ∧ WP d 27 R 32 (lset L 3 (some (va_rf r))) S G z c s) := q_astore_n cdE_27 dX2_tells_31 rfl mxE_27 (by decide)
theorem e_27_32 {d : Nat} {R : Rt} {L : Lo} {S : List Value} {G : Mem} {z c s : Nat} : WP d 27 R 32 L S G z c s = WP d 27 R 5 L S G z c s := q_goto cdE_27 dX2_tells_32 (by decide)
theorem e_27_35 {d : Nat} {R : Rt} {L : Lo} {S : List Value} {G : Mem} {z c s : Nat} : WP d 27 R 35 L S G z c s = WP d 27 R 36 L (.int 0 :: S) G z c s := q_iconst cdE_27 dX2_tells_35 (by decide)
theorem e_27_36 {d : Nat} {R : Rt} {L : Lo} {G : Mem} {z c s : Nat} {v : Int32} : WP d 27 R 36 L [.int v] G z c s = (narrow .boolean (.int v) = .int v ∧ c ≤ 0 ∧ s ≤ 0 ∧ R (some (.int v)) G z) := q_nret cdE_27 dX2_tells_36 rfl mcE_27 msE_27
theorem e_28_0 {d : Nat} {R : Rt} {L : Lo} {S : List Value} {G : Mem} {z c s : Nat} : WP d 28 R 0 L S G z c s = (okR (lgo L 0) ∧ WP d 28 R 1 L (va_rf (vR (lgo L 0)) :: S) G z c s) := q_aload_n cdE_28 dX3_init_0 rfl
theorem e_28_1 {d : Nat} {R : Rt} {L : Lo} {S : List Value} {G : Mem} {z c s : Nat} {b : Nat} : WP d 28 R 1 L (va_rf (some b) :: S) G z c s = (S.length ≤ 4 ∧ WP d 28 R 4 L S G z c s) := q_obj cdE_28 dX3_init_1 owE_28 (j2 := 0) rfl
theorem e_28_4 {d : Nat} {R : Rt} {L : Lo} {S : List Value} {G : Mem} {z c s : Nat} : WP d 28 R 4 L S G z c s = (okR (lgo L 0) ∧ WP d 28 R 5 L (va_rf (vR (lgo L 0)) :: S) G z c s) := q_aload_n cdE_28 dX3_init_4 rfl
theorem e_28_5 {d : Nat} {R : Rt} {L : Lo} {S : List Value} {G : Mem} {z c s : Nat} : WP d 28 R 5 L S G z c s = (okR (lgo L 1) ∧ WP d 28 R 6 L (va_rf (vR (lgo L 1)) :: S) G z c s) := q_aload_n cdE_28 dX3_init_5 rfl
theorem e_28_6 {d : Nat} {R : Rt} {L : Lo} {S : List Value} {G : Mem} {z c s : Nat} {a : Nat} {r : Option Nat} : WP d 28 R 6 L (va_rf r :: va_rf (some a) :: S) G z c s = (mK G a = 3 ∧ WP d 28 R 9 L S (pR G 3 0 a r) z c s) := q_putR cdE_28 dX3_init_6 owE_28 rfl (by decide) (by decide)
theorem e_28_9 {d : Nat} {R : Rt} {L : Lo} {S : List Value} {G : Mem} {z c s : Nat} : WP d 28 R 9 L S G z c s = (okR (lgo L 0) ∧ WP d 28 R 10 L (va_rf (vR (lgo L 0)) :: S) G z c s) := q_aload_n cdE_28 dX3_init_9 rfl
theorem e_28_10 {d : Nat} {R : Rt} {L : Lo} {S : List Value} {G : Mem} {z c s : Nat} : WP d 28 R 10 L S G z c s = (okI (lgo L 2) ∧ WP d 28 R 11 L (.int (vI (lgo L 2)) :: S) G z c s) := q_iload_n cdE_28 dX3_init_10 rfl
theorem e_28_11 {d : Nat} {R : Rt} {L : Lo} {S : List Value} {G : Mem} {z c s : Nat} : WP d 28 R 11 L S G z c s = (okR (lgo L 1) ∧ WP d 28 R 12 L (va_rf (vR (lgo L 1)) :: S) G z c s) := q_aload_n cdE_28 dX3_init_11 rfl
theorem e_28_12 {d : Nat} {R : Rt} {L : Lo} {S : List Value} {G : Mem} {z c s : Nat} {a : Nat} : WP d 28 R 12 L (va_rf (some a) :: S) G z c s = ((20 ≤ mK G a ∧ mK G a ≤ 26) ∧ WP d 28 R 13 L (.int (Int32.ofNat (mN G a)) :: S) G z c s) := q_alen cdE_28 dX3_init_12
theorem e_28_13 {d : Nat} {R : Rt} {L : Lo} {S : List Value} {G : Mem} {z c s : Nat} {x y : Int32} : WP d 28 R 13 L (.int y :: .int x :: S) G z c s = (S.length ≤ 4 ∧ c ≤ 0 ∧ s ≤ 0 ∧ WP d 28 R 16 L (.int (if y < x then y else x) :: S) G z c s) := q_min cdE_28 dX3_init_13 owE_28 (j2 := 0) rfl mcE_28 msE_28
theorem e_28_16 {d : Nat} {R : Rt} {L : Lo} {S : List Value} {G : Mem} {z c s : Nat} {a : Nat} {v : Int32} : WP d 28 R 16 L (.int v :: va_rf (some a) :: S) G z c s = (mK G a = 3 ∧ WP d 28 R 19 L S (pI G 3 1 a v) z c s) := q_putI cdE_28 dX3_init_16 owE_28 rfl (by decide) rfl
theorem e_28_19 {d : Nat} {R : Rt} {L : Lo} {G : Mem} {z c s : Nat} : WP d 28 R 19 L [] G z c s = (c ≤ 0 ∧ s ≤ 0 ∧ R none G z) := q_vret cdE_28 dX3_init_19 rfl mcE_28 msE_28
theorem e_29_0 {d : Nat} {R : Rt} {L : Lo} {S : List Value} {G : Mem} {z c s : Nat} : WP d 29 R 0 L S G z c s = WP d 29 R 1 L (.int 0 :: S) G z c s := q_iconst cdE_29 dX3_readText_0 (by decide)
theorem e_29_1 {d : Nat} {R : Rt} {L : Lo} {S : List Value} {G : Mem} {z c s : Nat} {x : Int32} : WP d 29 R 1 L (.int x :: S) G z c s = (noL L 1 ∧ WP d 29 R 2 (lset L 1 (some (.int x))) S G z c s) := q_istore_n cdE_29 dX3_readText_1 rfl mxE_29 (by decide)
theorem e_29_2 {d : Nat} {R : Rt} {L : Lo} {S : List Value} {G : Mem} {z c s : Nat} : WP d 29 R 2 L S G z c s = (okI (lgo L 1) ∧ WP d 29 R 3 L (.int (vI (lgo L 1)) :: S) G z c s) := q_iload_n cdE_29 dX3_readText_2 rfl
theorem e_29_3 {d : Nat} {R : Rt} {L : Lo} {S : List Value} {G : Mem} {z c s : Nat} : WP d 29 R 3 L S G z c s = WP d 29 R 5 L (.int 12 :: S) G z c s := q_bipush cdE_29 dX3_readText_3 (by decide)
theorem e_29_5 {d : Nat} {R : Rt} {L : Lo} {S : List Value} {G : Mem} {z c s : Nat} {x y : Int32} : WP d 29 R 5 L (.int y :: .int x :: S) G z c s = if y < x then WP d 29 R 46 L S G z c s else WP d 29 R 8 L S G z c s := q_icgt cdE_29 dX3_readText_5 (by decide)
theorem e_29_8 {d : Nat} {R : Rt} {L : Lo} {S : List Value} {G : Mem} {z c s : Nat} : WP d 29 R 8 L S G z c s = (okR (lgo L 0) ∧ WP d 29 R 9 L (va_rf (vR (lgo L 0)) :: S) G z c s) := q_aload_n cdE_29 dX3_readText_8 rfl
theorem e_29_9 {d : Nat} {R : Rt} {L : Lo} {S : List Value} {G : Mem} {z c s : Nat} {b : Nat} : WP d 29 R 9 L (va_rf (some b) :: S) G z c s = ((mK G b = 3) ∧ S.length ≤ 4 ∧ c + 0 ≤ 12 ∧ s + 0 ≤ 48 ∧ CALL d 34 [va_rf (some b)] G z (rtn d 29 R 12 L S (c + 0) (s + 0))) := q_callV (as := []) cdE_29 dX3_readText_9 owE_29 rfl rfl rfl (by simp only [List.reverse_cons, List.reverse_nil, List.nil_append, List.cons_append, entL, isL_int, isL_long, isL_rf, Bool.false_eq_true, if_false, if_true, List.length_cons, List.length_nil, mxE_34]; decide) mcE_29 msE_29 mcE_34 msE_34
theorem e_29_12 {d : Nat} {R : Rt} {L : Lo} {S : List Value} {G : Mem} {z c s : Nat} : WP d 29 R 12 L S G z c s = (okR (lgo L 0) ∧ WP d 29 R 13 L (va_rf (vR (lgo L 0)) :: S) G z c s) := q_aload_n cdE_29 dX3_readText_12 rfl
theorem e_29_13 {d : Nat} {R : Rt} {L : Lo} {S : List Value} {G : Mem} {z c s : Nat} {a : Nat} : WP d 29 R 13 L (va_rf (some a) :: S) G z c s = (mK G a = 3 ∧ WP d 29 R 16 L (.int (mI G 3 3 a) :: S) G z c s) := q_getI cdE_29 dX3_readText_13 owE_29 rfl (by decide)
theorem e_29_16 {d : Nat} {R : Rt} {L : Lo} {S : List Value} {G : Mem} {z c s : Nat} : WP d 29 R 16 L S G z c s = (okR (lgo L 0) ∧ WP d 29 R 17 L (va_rf (vR (lgo L 0)) :: S) G z c s) := q_aload_n cdE_29 dX3_readText_16 rfl
theorem e_29_17 {d : Nat} {R : Rt} {L : Lo} {S : List Value} {G : Mem} {z c s : Nat} {a : Nat} : WP d 29 R 17 L (va_rf (some a) :: S) G z c s = (mK G a = 3 ∧ WP d 29 R 20 L (.int (mI G 3 1 a) :: S) G z c s) := q_getI cdE_29 dX3_readText_17 owE_29 rfl (by decide)
theorem e_29_20 {d : Nat} {R : Rt} {L : Lo} {S : List Value} {G : Mem} {z c s : Nat} {x y : Int32} : WP d 29 R 20 L (.int y :: .int x :: S) G z c s = if x < y then WP d 29 R 25 L S G z c s else WP d 29 R 23 L S G z c s := q_iclt cdE_29 dX3_readText_20 (by decide)
theorem e_29_23 {d : Nat} {R : Rt} {L : Lo} {S : List Value} {G : Mem} {z c s : Nat} : WP d 29 R 23 L S G z c s = WP d 29 R 24 L (.int 1 :: S) G z c s := q_iconst cdE_29 dX3_readText_23 (by decide)
theorem e_29_24 {d : Nat} {R : Rt} {L : Lo} {G : Mem} {z c s : Nat} {v : Int32} : WP d 29 R 24 L [.int v] G z c s = (narrow .boolean (.int v) = .int v ∧ c ≤ 12 ∧ s ≤ 48 ∧ R (some (.int v)) G z) := q_nret cdE_29 dX3_readText_24 rfl mcE_29 msE_29
theorem e_29_25 {d : Nat} {R : Rt} {L : Lo} {S : List Value} {G : Mem} {z c s : Nat} : WP d 29 R 25 L S G z c s = (okI (lgo L 1) ∧ WP d 29 R 26 L (.int (vI (lgo L 1)) :: S) G z c s) := q_iload_n cdE_29 dX3_readText_25 rfl
theorem e_29_26 {d : Nat} {R : Rt} {L : Lo} {S : List Value} {G : Mem} {z c s : Nat} : WP d 29 R 26 L S G z c s = WP d 29 R 28 L (.int 12 :: S) G z c s := q_bipush cdE_29 dX3_readText_26 (by decide)
theorem e_29_28 {d : Nat} {R : Rt} {L : Lo} {S : List Value} {G : Mem} {z c s : Nat} {x y : Int32} : WP d 29 R 28 L (.int y :: .int x :: S) G z c s = if x = y then WP d 29 R 38 L S G z c s else WP d 29 R 31 L S G z c s := q_iceq cdE_29 dX3_readText_28 (by decide)
theorem e_29_31 {d : Nat} {R : Rt} {L : Lo} {S : List Value} {G : Mem} {z c s : Nat} : WP d 29 R 31 L S G z c s = (okR (lgo L 0) ∧ WP d 29 R 32 L (va_rf (vR (lgo L 0)) :: S) G z c s) := q_aload_n cdE_29 dX3_readText_31 rfl
theorem e_29_32 {d : Nat} {R : Rt} {L : Lo} {S : List Value} {G : Mem} {z c s : Nat} {b : Nat} : WP d 29 R 32 L (va_rf (some b) :: S) G z c s = ((mK G b = 3) ∧ S.length ≤ 4 ∧ c + 1 ≤ 12 ∧ s + 4 ≤ 48 ∧ CALL d 30 [va_rf (some b)] G z (rtn d 29 R 35 L S (c + 1) (s + 4))) := q_callV (as := []) cdE_29 dX3_readText_32 owE_29 rfl rfl rfl (by simp only [List.reverse_cons, List.reverse_nil, List.nil_append, List.cons_append, entL, isL_int, isL_long, isL_rf, Bool.false_eq_true, if_false, if_true, List.length_cons, List.length_nil, mxE_30]; decide) mcE_29 msE_29 mcE_30 msE_30
theorem e_29_35 {d : Nat} {R : Rt} {L : Lo} {S : List Value} {G : Mem} {z c s : Nat} {x : Int32} : WP d 29 R 35 L (.int x :: S) G z c s = if x = 0 then WP d 29 R 38 L S G z c s else WP d 29 R 40 L S G z c s := q_ifne cdE_29 dX3_readText_35 (by decide)
theorem e_29_38 {d : Nat} {R : Rt} {L : Lo} {S : List Value} {G : Mem} {z c s : Nat} : WP d 29 R 38 L S G z c s = WP d 29 R 39 L (.int 0 :: S) G z c s := q_iconst cdE_29 dX3_readText_38 (by decide)
theorem e_29_39 {d : Nat} {R : Rt} {L : Lo} {G : Mem} {z c s : Nat} {v : Int32} : WP d 29 R 39 L [.int v] G z c s = (narrow .boolean (.int v) = .int v ∧ c ≤ 12 ∧ s ≤ 48 ∧ R (some (.int v)) G z) := q_nret cdE_29 dX3_readText_39 rfl mcE_29 msE_29
theorem e_29_40 {d : Nat} {R : Rt} {L : Lo} {S : List Value} {G : Mem} {z c s : Nat} : WP d 29 R 40 L S G z c s = (okI (lgo L 1) ∧ noL L 1 ∧ WP d 29 R 43 (lset L 1 (some (.int (vI (lgo L 1) + 1)))) S G z c s) := q_iinc cdE_29 dX3_readText_40 mxE_29 (by decide) (by decide)
theorem e_29_43 {d : Nat} {R : Rt} {L : Lo} {S : List Value} {G : Mem} {z c s : Nat} : WP d 29 R 43 L S G z c s = WP d 29 R 2 L S G z c s := q_goto cdE_29 dX3_readText_43 (by decide)
theorem e_29_46 {d : Nat} {R : Rt} {L : Lo} {S : List Value} {G : Mem} {z c s : Nat} : WP d 29 R 46 L S G z c s = WP d 29 R 47 L (.int 0 :: S) G z c s := q_iconst cdE_29 dX3_readText_46 (by decide)
theorem e_29_47 {d : Nat} {R : Rt} {L : Lo} {G : Mem} {z c s : Nat} {v : Int32} : WP d 29 R 47 L [.int v] G z c s = (narrow .boolean (.int v) = .int v ∧ c ≤ 12 ∧ s ≤ 48 ∧ R (some (.int v)) G z) := q_nret cdE_29 dX3_readText_47 rfl mcE_29 msE_29
theorem e_30_0 {d : Nat} {R : Rt} {L : Lo} {S : List Value} {G : Mem} {z c s : Nat} : WP d 30 R 0 L S G z c s = (okR (lgo L 0) ∧ WP d 30 R 1 L (va_rf (vR (lgo L 0)) :: S) G z c s) := q_aload_n cdE_30 dX3_readStatement_0 rfl
theorem e_30_1 {d : Nat} {R : Rt} {L : Lo} {S : List Value} {G : Mem} {z c s : Nat} {b : Nat} : WP d 30 R 1 L (va_rf (some b) :: S) G z c s = ((mK G b = 3) ∧ S.length ≤ 4 ∧ c + 0 ≤ 1 ∧ s + 0 ≤ 4 ∧ CALL d 31 [va_rf (some b)] G z (rtn d 30 R 4 L S (c + 0) (s + 0))) := q_callV (as := []) cdE_30 dX3_readStatement_1 owE_30 rfl rfl rfl (by simp only [List.reverse_cons, List.reverse_nil, List.nil_append, List.cons_append, entL, isL_int, isL_long, isL_rf, Bool.false_eq_true, if_false, if_true, List.length_cons, List.length_nil, mxE_31]; decide) mcE_30 msE_30 mcE_31 msE_31
theorem e_30_4 {d : Nat} {R : Rt} {L : Lo} {S : List Value} {G : Mem} {z c s : Nat} {x : Int32} : WP d 30 R 4 L (.int x :: S) G z c s = (noL L 1 ∧ WP d 30 R 5 (lset L 1 (some (.int x))) S G z c s) := q_istore_n cdE_30 dX3_readStatement_4 rfl mxE_30 (by decide)
theorem e_30_5 {d : Nat} {R : Rt} {L : Lo} {S : List Value} {G : Mem} {z c s : Nat} : WP d 30 R 5 L S G z c s = (okI (lgo L 1) ∧ WP d 30 R 6 L (.int (vI (lgo L 1)) :: S) G z c s) := q_iload_n cdE_30 dX3_readStatement_5 rfl
theorem e_30_6 {d : Nat} {R : Rt} {L : Lo} {S : List Value} {G : Mem} {z c s : Nat} : WP d 30 R 6 L S G z c s = WP d 30 R 7 L (.int (-1) :: S) G z c s := q_iconst cdE_30 dX3_readStatement_6 (by decide)
theorem e_30_7 {d : Nat} {R : Rt} {L : Lo} {S : List Value} {G : Mem} {z c s : Nat} {x y : Int32} : WP d 30 R 7 L (.int y :: .int x :: S) G z c s = if x = y then WP d 30 R 10 L S G z c s else WP d 30 R 14 L S G z c s := q_icne cdE_30 dX3_readStatement_7 (by decide)
theorem e_30_10 {d : Nat} {R : Rt} {L : Lo} {S : List Value} {G : Mem} {z c s : Nat} : WP d 30 R 10 L S G z c s = WP d 30 R 11 L (.int (-1) :: S) G z c s := q_iconst cdE_30 dX3_readStatement_10 (by decide)
theorem e_30_11 {d : Nat} {R : Rt} {L : Lo} {S : List Value} {G : Mem} {z c s : Nat} : WP d 30 R 11 L S G z c s = WP d 30 R 18 L S G z c s := q_goto cdE_30 dX3_readStatement_11 (by decide)
theorem e_30_14 {d : Nat} {R : Rt} {L : Lo} {S : List Value} {G : Mem} {z c s : Nat} : WP d 30 R 14 L S G z c s = (okR (lgo L 0) ∧ WP d 30 R 15 L (va_rf (vR (lgo L 0)) :: S) G z c s) := q_aload_n cdE_30 dX3_readStatement_14 rfl
theorem e_30_15 {d : Nat} {R : Rt} {L : Lo} {S : List Value} {G : Mem} {z c s : Nat} {b : Nat} : WP d 30 R 15 L (va_rf (some b) :: S) G z c s = ((mK G b = 3) ∧ S.length ≤ 4 ∧ c + 0 ≤ 1 ∧ s + 0 ≤ 4 ∧ CALL d 33 [va_rf (some b)] G z (rtn d 30 R 18 L S (c + 0) (s + 0))) := q_callV (as := []) cdE_30 dX3_readStatement_15 owE_30 rfl rfl rfl (by simp only [List.reverse_cons, List.reverse_nil, List.nil_append, List.cons_append, entL, isL_int, isL_long, isL_rf, Bool.false_eq_true, if_false, if_true, List.length_cons, List.length_nil, mxE_33]; decide) mcE_30 msE_30 mcE_33 msE_33
theorem e_30_18 {d : Nat} {R : Rt} {L : Lo} {S : List Value} {G : Mem} {z c s : Nat} {x : Int32} : WP d 30 R 18 L (.int x :: S) G z c s = (noL L 2 ∧ WP d 30 R 19 (lset L 2 (some (.int x))) S G z c s) := q_istore_n cdE_30 dX3_readStatement_18 rfl mxE_30 (by decide)
theorem e_30_19 {d : Nat} {R : Rt} {L : Lo} {S : List Value} {G : Mem} {z c s : Nat} : WP d 30 R 19 L S G z c s = (okI (lgo L 2) ∧ WP d 30 R 20 L (.int (vI (lgo L 2)) :: S) G z c s) := q_iload_n cdE_30 dX3_readStatement_19 rfl
theorem e_30_20 {d : Nat} {R : Rt} {L : Lo} {S : List Value} {G : Mem} {z c s : Nat} : WP d 30 R 20 L S G z c s = WP d 30 R 21 L (.int (-1) :: S) G z c s := q_iconst cdE_30 dX3_readStatement_20 (by decide)
theorem e_30_21 {d : Nat} {R : Rt} {L : Lo} {S : List Value} {G : Mem} {z c s : Nat} {x y : Int32} : WP d 30 R 21 L (.int y :: .int x :: S) G z c s = if x = y then WP d 30 R 24 L S G z c s else WP d 30 R 26 L S G z c s := q_icne cdE_30 dX3_readStatement_21 (by decide)
theorem e_30_24 {d : Nat} {R : Rt} {L : Lo} {S : List Value} {G : Mem} {z c s : Nat} : WP d 30 R 24 L S G z c s = WP d 30 R 25 L (.int 0 :: S) G z c s := q_iconst cdE_30 dX3_readStatement_24 (by decide)
theorem e_30_25 {d : Nat} {R : Rt} {L : Lo} {G : Mem} {z c s : Nat} {v : Int32} : WP d 30 R 25 L [.int v] G z c s = (narrow .boolean (.int v) = .int v ∧ c ≤ 1 ∧ s ≤ 4 ∧ R (some (.int v)) G z) := q_nret cdE_30 dX3_readStatement_25 rfl mcE_30 msE_30
theorem e_30_26 {d : Nat} {R : Rt} {L : Lo} {S : List Value} {G : Mem} {z c s : Nat} : WP d 30 R 26 L S G z c s = WP d 30 R 27 L (.int 0 :: S) G z c s := q_iconst cdE_30 dX3_readStatement_26 (by decide)
theorem e_30_27 {d : Nat} {R : Rt} {L : Lo} {S : List Value} {G : Mem} {z c s : Nat} {x : Int32} : WP d 30 R 27 L (.int x :: S) G z c s = (noL L 3 ∧ WP d 30 R 28 (lset L 3 (some (.int x))) S G z c s) := q_istore_n cdE_30 dX3_readStatement_27 rfl mxE_30 (by decide)
theorem e_30_28 {d : Nat} {R : Rt} {L : Lo} {S : List Value} {G : Mem} {z c s : Nat} : WP d 30 R 28 L S G z c s = (okI (lgo L 1) ∧ WP d 30 R 29 L (.int (vI (lgo L 1)) :: S) G z c s) := q_iload_n cdE_30 dX3_readStatement_28 rfl
theorem e_30_29 {d : Nat} {R : Rt} {L : Lo} {S : List Value} {G : Mem} {z c s : Nat} {x : Int32} : WP d 30 R 29 L (.int x :: S) G z c s = if x = 0 then WP d 30 R 32 L S G z c s else WP d 30 R 50 L S G z c s := q_ifne cdE_30 dX3_readStatement_29 (by decide)
theorem e_30_32 {d : Nat} {R : Rt} {L : Lo} {S : List Value} {G : Mem} {z c s : Nat} : WP d 30 R 32 L S G z c s = (okR (lgo L 0) ∧ WP d 30 R 33 L (va_rf (vR (lgo L 0)) :: S) G z c s) := q_aload_n cdE_30 dX3_readStatement_32 rfl
theorem e_30_33 {d : Nat} {R : Rt} {L : Lo} {S : List Value} {G : Mem} {z c s : Nat} : WP d 30 R 33 L S G z c s = WP d 30 R 35 L (va_rf (mR G 31 8 0) :: S) G z c s := q_ldcS cdE_30 dX3_readStatement_33 owE_30 rfl rfl
theorem e_30_35 {d : Nat} {R : Rt} {L : Lo} {S : List Value} {G : Mem} {z c s : Nat} {a0 : Option Nat} {b : Nat} : WP d 30 R 35 L (va_rf a0 :: va_rf (some b) :: S) G z c s = ((mK G b = 3) ∧ S.length ≤ 4 ∧ c + 0 ≤ 1 ∧ s + 0 ≤ 4 ∧ CALL d 32 [va_rf (some b), va_rf a0] G z (rtn d 30 R 38 L S (c + 0) (s + 0))) := q_callV (as := [va_rf a0]) cdE_30 dX3_readStatement_35 owE_30 rfl rfl rfl (by simp only [List.reverse_cons, List.reverse_nil, List.nil_append, List.cons_append, entL, isL_int, isL_long, isL_rf, Bool.false_eq_true, if_false, if_true, List.length_cons, List.length_nil, mxE_32]; decide) mcE_30 msE_30 mcE_32 msE_32
theorem e_30_38 {d : Nat} {R : Rt} {L : Lo} {S : List Value} {G : Mem} {z c s : Nat} {x : Int32} : WP d 30 R 38 L (.int x :: S) G z c s = if x = 0 then WP d 30 R 48 L S G z c s else WP d 30 R 41 L S G z c s := q_ifeq cdE_30 dX3_readStatement_38 (by decide)
theorem e_30_41 {d : Nat} {R : Rt} {L : Lo} {S : List Value} {G : Mem} {z c s : Nat} : WP d 30 R 41 L S G z c s = (okR (lgo L 0) ∧ WP d 30 R 42 L (va_rf (vR (lgo L 0)) :: S) G z c s) := q_aload_n cdE_30 dX3_readStatement_41 rfl
theorem e_30_42 {d : Nat} {R : Rt} {L : Lo} {S : List Value} {G : Mem} {z c s : Nat} {b : Nat} : WP d 30 R 42 L (va_rf (some b) :: S) G z c s = ((mK G b = 3) ∧ S.length ≤ 4 ∧ c + 0 ≤ 1 ∧ s + 0 ≤ 4 ∧ CALL d 33 [va_rf (some b)] G z (rtn d 30 R 45 L S (c + 0) (s + 0))) := q_callV (as := []) cdE_30 dX3_readStatement_42 owE_30 rfl rfl rfl (by simp only [List.reverse_cons, List.reverse_nil, List.nil_append, List.cons_append, entL, isL_int, isL_long, isL_rf, Bool.false_eq_true, if_false, if_true, List.length_cons, List.length_nil, mxE_33]; decide) mcE_30 msE_30 mcE_33 msE_33
theorem e_30_45 {d : Nat} {R : Rt} {L : Lo} {S : List Value} {G : Mem} {z c s : Nat} : WP d 30 R 45 L S G z c s = WP d 30 R 49 L S G z c s := q_goto cdE_30 dX3_readStatement_45 (by decide)
theorem e_30_48 {d : Nat} {R : Rt} {L : Lo} {S : List Value} {G : Mem} {z c s : Nat} : WP d 30 R 48 L S G z c s = WP d 30 R 49 L (.int (-1) :: S) G z c s := q_iconst cdE_30 dX3_readStatement_48 (by decide)
theorem e_30_49 {d : Nat} {R : Rt} {L : Lo} {S : List Value} {G : Mem} {z c s : Nat} {x : Int32} : WP d 30 R 49 L (.int x :: S) G z c s = (noL L 3 ∧ WP d 30 R 50 (lset L 3 (some (.int x))) S G z c s) := q_istore_n cdE_30 dX3_readStatement_49 rfl mxE_30 (by decide)
theorem e_30_50 {d : Nat} {R : Rt} {L : Lo} {S : List Value} {G : Mem} {z c s : Nat} : WP d 30 R 50 L S G z c s = (okI (lgo L 3) ∧ WP d 30 R 51 L (.int (vI (lgo L 3)) :: S) G z c s) := q_iload_n cdE_30 dX3_readStatement_50 rfl
theorem e_30_51 {d : Nat} {R : Rt} {L : Lo} {S : List Value} {G : Mem} {z c s : Nat} : WP d 30 R 51 L S G z c s = WP d 30 R 52 L (.int (-1) :: S) G z c s := q_iconst cdE_30 dX3_readStatement_51 (by decide)
theorem e_30_52 {d : Nat} {R : Rt} {L : Lo} {S : List Value} {G : Mem} {z c s : Nat} {x y : Int32} : WP d 30 R 52 L (.int y :: .int x :: S) G z c s = if x = y then WP d 30 R 64 L S G z c s else WP d 30 R 55 L S G z c s := q_iceq cdE_30 dX3_readStatement_52 (by decide)
theorem e_30_55 {d : Nat} {R : Rt} {L : Lo} {S : List Value} {G : Mem} {z c s : Nat} : WP d 30 R 55 L S G z c s = (okR (lgo L 0) ∧ WP d 30 R 56 L (va_rf (vR (lgo L 0)) :: S) G z c s) := q_aload_n cdE_30 dX3_readStatement_55 rfl
theorem e_30_56 {d : Nat} {R : Rt} {L : Lo} {S : List Value} {G : Mem} {z c s : Nat} : WP d 30 R 56 L S G z c s = WP d 30 R 58 L (va_rf (mR G 31 9 0) :: S) G z c s := q_ldcS cdE_30 dX3_readStatement_56 owE_30 rfl rfl
theorem e_30_58 {d : Nat} {R : Rt} {L : Lo} {S : List Value} {G : Mem} {z c s : Nat} {a0 : Option Nat} {b : Nat} : WP d 30 R 58 L (va_rf a0 :: va_rf (some b) :: S) G z c s = ((mK G b = 3) ∧ S.length ≤ 4 ∧ c + 0 ≤ 1 ∧ s + 0 ≤ 4 ∧ CALL d 32 [va_rf (some b), va_rf a0] G z (rtn d 30 R 61 L S (c + 0) (s + 0))) := q_callV (as := [va_rf a0]) cdE_30 dX3_readStatement_58 owE_30 rfl rfl rfl (by simp only [List.reverse_cons, List.reverse_nil, List.nil_append, List.cons_append, entL, isL_int, isL_long, isL_rf, Bool.false_eq_true, if_false, if_true, List.length_cons, List.length_nil, mxE_32]; decide) mcE_30 msE_30 mcE_32 msE_32
theorem e_30_61 {d : Nat} {R : Rt} {L : Lo} {S : List Value} {G : Mem} {z c s : Nat} {x : Int32} : WP d 30 R 61 L (.int x :: S) G z c s = if x = 0 then WP d 30 R 64 L S G z c s else WP d 30 R 66 L S G z c s := q_ifne cdE_30 dX3_readStatement_61 (by decide)
theorem e_30_64 {d : Nat} {R : Rt} {L : Lo} {S : List Value} {G : Mem} {z c s : Nat} : WP d 30 R 64 L S G z c s = WP d 30 R 65 L (.int 0 :: S) G z c s := q_iconst cdE_30 dX3_readStatement_64 (by decide)
theorem e_30_65 {d : Nat} {R : Rt} {L : Lo} {G : Mem} {z c s : Nat} {v : Int32} : WP d 30 R 65 L [.int v] G z c s = (narrow .boolean (.int v) = .int v ∧ c ≤ 1 ∧ s ≤ 4 ∧ R (some (.int v)) G z) := q_nret cdE_30 dX3_readStatement_65 rfl mcE_30 msE_30
theorem e_30_66 {d : Nat} {R : Rt} {L : Lo} {S : List Value} {G : Mem} {z c s : Nat} : WP d 30 R 66 L S G z c s = (okR (lgo L 0) ∧ WP d 30 R 67 L (va_rf (vR (lgo L 0)) :: S) G z c s) := q_aload_n cdE_30 dX3_readStatement_66 rfl
theorem e_30_67 {d : Nat} {R : Rt} {L : Lo} {S : List Value} {G : Mem} {z c s : Nat} : WP d 30 R 67 L S G z c s = (c + 1 ≤ 1 ∧ s + 4 ≤ 4 ∧ WP d 30 R 70 L (va_rf (some z) :: S) (nO G z 5) (z + 1) (c + 1) (s + 4)) := q_new cdE_30 dX3_readStatement_67 owE_30 rfl (by decide) mcE_30 msE_30 rfl
theorem e_30_70 {d : Nat} {R : Rt} {L : Lo} {S : List Value} {G : Mem} {z c s : Nat} {v : Value} : WP d 30 R 70 L (v :: S) G z c s = (isL v = false ∧ WP d 30 R 71 L (v :: v :: S) G z c s) := q_dup cdE_30 dX3_readStatement_70
theorem e_30_71 {d : Nat} {R : Rt} {L : Lo} {S : List Value} {G : Mem} {z c s : Nat} : WP d 30 R 71 L S G z c s = (okI (lgo L 1) ∧ WP d 30 R 72 L (.int (vI (lgo L 1)) :: S) G z c s) := q_iload_n cdE_30 dX3_readStatement_71 rfl
theorem e_30_72 {d : Nat} {R : Rt} {L : Lo} {S : List Value} {G : Mem} {z c s : Nat} : WP d 30 R 72 L S G z c s = (okI (lgo L 2) ∧ WP d 30 R 73 L (.int (vI (lgo L 2)) :: S) G z c s) := q_iload_n cdE_30 dX3_readStatement_72 rfl
theorem e_30_73 {d : Nat} {R : Rt} {L : Lo} {S : List Value} {G : Mem} {z c s : Nat} : WP d 30 R 73 L S G z c s = (okI (lgo L 3) ∧ WP d 30 R 74 L (.int (vI (lgo L 3)) :: S) G z c s) := q_iload_n cdE_30 dX3_readStatement_73 rfl
theorem e_30_74 {d : Nat} {R : Rt} {L : Lo} {S : List Value} {G : Mem} {z c s : Nat} : WP d 30 R 74 L S G z c s = (okR (lgo L 0) ∧ WP d 30 R 75 L (va_rf (vR (lgo L 0)) :: S) G z c s) := q_aload_n cdE_30 dX3_readStatement_74 rfl
theorem e_30_75 {d : Nat} {R : Rt} {L : Lo} {S : List Value} {G : Mem} {z c s : Nat} {a : Nat} : WP d 30 R 75 L (va_rf (some a) :: S) G z c s = (mK G a = 3 ∧ WP d 30 R 78 L (va_rf (mR G 3 4 a) :: S) G z c s) := q_getR cdE_30 dX3_readStatement_75 owE_30 rfl (by decide)
theorem e_30_78 {d : Nat} {R : Rt} {L : Lo} {S : List Value} {G : Mem} {z c s : Nat} {a0 : Int32} {a1 : Int32} {a2 : Int32} {a3 : Option Nat} {b : Nat} : WP d 30 R 78 L (va_rf a3 :: .int a2 :: .int a1 :: .int a0 :: va_rf (some b) :: S) G z c s = (S.length ≤ 4 ∧ c + 0 ≤ 1 ∧ s + 0 ≤ 4 ∧ CALL d 42 [va_rf (some b), .int a0, .int a1, .int a2, va_rf a3] G z (rtn d 30 R 81 L S (c + 0) (s + 0))) := q_callI (as := [va_rf a3, .int a2, .int a1, .int a0]) cdE_30 dX3_readStatement_78 owE_30 rfl rfl rfl (by simp only [List.reverse_cons, List.reverse_nil, List.nil_append, List.cons_append, entL, isL_int, isL_long, isL_rf, Bool.false_eq_true, if_false, if_true, List.length_cons, List.length_nil, mxE_42]; decide) mcE_30 msE_30 mcE_42 msE_42
theorem e_30_81 {d : Nat} {R : Rt} {L : Lo} {S : List Value} {G : Mem} {z c s : Nat} {a : Nat} {r : Option Nat} : WP d 30 R 81 L (va_rf r :: va_rf (some a) :: S) G z c s = (mK G a = 3 ∧ WP d 30 R 84 L S (pR G 3 4 a r) z c s) := q_putR cdE_30 dX3_readStatement_81 owE_30 rfl (by decide) (by decide)
theorem e_30_84 {d : Nat} {R : Rt} {L : Lo} {S : List Value} {G : Mem} {z c s : Nat} : WP d 30 R 84 L S G z c s = WP d 30 R 85 L (.int 1 :: S) G z c s := q_iconst cdE_30 dX3_readStatement_84 (by decide)
theorem e_30_85 {d : Nat} {R : Rt} {L : Lo} {G : Mem} {z c s : Nat} {v : Int32} : WP d 30 R 85 L [.int v] G z c s = (narrow .boolean (.int v) = .int v ∧ c ≤ 1 ∧ s ≤ 4 ∧ R (some (.int v)) G z) := q_nret cdE_30 dX3_readStatement_85 rfl mcE_30 msE_30
theorem e_31_0 {d : Nat} {R : Rt} {L : Lo} {S : List Value} {G : Mem} {z c s : Nat} : WP d 31 R 0 L S G z c s = (okR (lgo L 0) ∧ WP d 31 R 1 L (va_rf (vR (lgo L 0)) :: S) G z c s) := q_aload_n cdE_31 dX3_readOpening_0 rfl
theorem e_31_1 {d : Nat} {R : Rt} {L : Lo} {S : List Value} {G : Mem} {z c s : Nat} : WP d 31 R 1 L S G z c s = WP d 31 R 3 L (va_rf (mR G 31 0 0) :: S) G z c s := q_ldcS cdE_31 dX3_readOpening_1 owE_31 rfl rfl
theorem e_31_3 {d : Nat} {R : Rt} {L : Lo} {S : List Value} {G : Mem} {z c s : Nat} {a0 : Option Nat} {b : Nat} : WP d 31 R 3 L (va_rf a0 :: va_rf (some b) :: S) G z c s = ((mK G b = 3) ∧ S.length ≤ 4 ∧ c + 0 ≤ 0 ∧ s + 0 ≤ 0 ∧ CALL d 35 [va_rf (some b), va_rf a0] G z (rtn d 31 R 6 L S (c + 0) (s + 0))) := q_callV (as := [va_rf a0]) cdE_31 dX3_readOpening_3 owE_31 rfl rfl rfl (by simp only [List.reverse_cons, List.reverse_nil, List.nil_append, List.cons_append, entL, isL_int, isL_long, isL_rf, Bool.false_eq_true, if_false, if_true, List.length_cons, List.length_nil, mxE_35]; decide) mcE_31 msE_31 mcE_35 msE_35
theorem e_31_6 {d : Nat} {R : Rt} {L : Lo} {S : List Value} {G : Mem} {z c s : Nat} {x : Int32} : WP d 31 R 6 L (.int x :: S) G z c s = if x = 0 then WP d 31 R 11 L S G z c s else WP d 31 R 9 L S G z c s := q_ifeq cdE_31 dX3_readOpening_6 (by decide)
theorem e_31_9 {d : Nat} {R : Rt} {L : Lo} {S : List Value} {G : Mem} {z c s : Nat} : WP d 31 R 9 L S G z c s = WP d 31 R 10 L (.int 0 :: S) G z c s := q_iconst cdE_31 dX3_readOpening_9 (by decide)
theorem e_31_10 {d : Nat} {R : Rt} {L : Lo} {G : Mem} {z c s : Nat} {v : Int32} : WP d 31 R 10 L [.int v] G z c s = (c ≤ 0 ∧ s ≤ 0 ∧ R (some (.int v)) G z) := q_iret cdE_31 dX3_readOpening_10 rfl mcE_31 msE_31
theorem e_31_11 {d : Nat} {R : Rt} {L : Lo} {S : List Value} {G : Mem} {z c s : Nat} : WP d 31 R 11 L S G z c s = (okR (lgo L 0) ∧ WP d 31 R 12 L (va_rf (vR (lgo L 0)) :: S) G z c s) := q_aload_n cdE_31 dX3_readOpening_11 rfl
theorem e_31_12 {d : Nat} {R : Rt} {L : Lo} {S : List Value} {G : Mem} {z c s : Nat} : WP d 31 R 12 L S G z c s = WP d 31 R 14 L (va_rf (mR G 31 1 0) :: S) G z c s := q_ldcS cdE_31 dX3_readOpening_12 owE_31 rfl rfl
theorem e_31_14 {d : Nat} {R : Rt} {L : Lo} {S : List Value} {G : Mem} {z c s : Nat} {a0 : Option Nat} {b : Nat} : WP d 31 R 14 L (va_rf a0 :: va_rf (some b) :: S) G z c s = ((mK G b = 3) ∧ S.length ≤ 4 ∧ c + 0 ≤ 0 ∧ s + 0 ≤ 0 ∧ CALL d 35 [va_rf (some b), va_rf a0] G z (rtn d 31 R 17 L S (c + 0) (s + 0))) := q_callV (as := [va_rf a0]) cdE_31 dX3_readOpening_14 owE_31 rfl rfl rfl (by simp only [List.reverse_cons, List.reverse_nil, List.nil_append, List.cons_append, entL, isL_int, isL_long, isL_rf, Bool.false_eq_true, if_false, if_true, List.length_cons, List.length_nil, mxE_35]; decide) mcE_31 msE_31 mcE_35 msE_35
theorem e_31_17 {d : Nat} {R : Rt} {L : Lo} {S : List Value} {G : Mem} {z c s : Nat} {x : Int32} : WP d 31 R 17 L (.int x :: S) G z c s = if x = 0 then WP d 31 R 22 L S G z c s else WP d 31 R 20 L S G z c s := q_ifeq cdE_31 dX3_readOpening_17 (by decide)
theorem e_31_20 {d : Nat} {R : Rt} {L : Lo} {S : List Value} {G : Mem} {z c s : Nat} : WP d 31 R 20 L S G z c s = WP d 31 R 21 L (.int 4 :: S) G z c s := q_iconst cdE_31 dX3_readOpening_20 (by decide)
theorem e_31_21 {d : Nat} {R : Rt} {L : Lo} {G : Mem} {z c s : Nat} {v : Int32} : WP d 31 R 21 L [.int v] G z c s = (c ≤ 0 ∧ s ≤ 0 ∧ R (some (.int v)) G z) := q_iret cdE_31 dX3_readOpening_21 rfl mcE_31 msE_31
theorem e_31_22 {d : Nat} {R : Rt} {L : Lo} {S : List Value} {G : Mem} {z c s : Nat} : WP d 31 R 22 L S G z c s = (okR (lgo L 0) ∧ WP d 31 R 23 L (va_rf (vR (lgo L 0)) :: S) G z c s) := q_aload_n cdE_31 dX3_readOpening_22 rfl
theorem e_31_23 {d : Nat} {R : Rt} {L : Lo} {S : List Value} {G : Mem} {z c s : Nat} : WP d 31 R 23 L S G z c s = WP d 31 R 25 L (va_rf (mR G 31 2 0) :: S) G z c s := q_ldcS cdE_31 dX3_readOpening_23 owE_31 rfl rfl
theorem e_31_25 {d : Nat} {R : Rt} {L : Lo} {S : List Value} {G : Mem} {z c s : Nat} {a0 : Option Nat} {b : Nat} : WP d 31 R 25 L (va_rf a0 :: va_rf (some b) :: S) G z c s = ((mK G b = 3) ∧ S.length ≤ 4 ∧ c + 0 ≤ 0 ∧ s + 0 ≤ 0 ∧ CALL d 35 [va_rf (some b), va_rf a0] G z (rtn d 31 R 28 L S (c + 0) (s + 0))) := q_callV (as := [va_rf a0]) cdE_31 dX3_readOpening_25 owE_31 rfl rfl rfl (by simp only [List.reverse_cons, List.reverse_nil, List.nil_append, List.cons_append, entL, isL_int, isL_long, isL_rf, Bool.false_eq_true, if_false, if_true, List.length_cons, List.length_nil, mxE_35]; decide) mcE_31 msE_31 mcE_35 msE_35
theorem e_31_28 {d : Nat} {R : Rt} {L : Lo} {S : List Value} {G : Mem} {z c s : Nat} {x : Int32} : WP d 31 R 28 L (.int x :: S) G z c s = if x = 0 then WP d 31 R 33 L S G z c s else WP d 31 R 31 L S G z c s := q_ifeq cdE_31 dX3_readOpening_28 (by decide)
theorem e_31_31 {d : Nat} {R : Rt} {L : Lo} {S : List Value} {G : Mem} {z c s : Nat} : WP d 31 R 31 L S G z c s = WP d 31 R 32 L (.int 5 :: S) G z c s := q_iconst cdE_31 dX3_readOpening_31 (by decide)
theorem e_31_32 {d : Nat} {R : Rt} {L : Lo} {G : Mem} {z c s : Nat} {v : Int32} : WP d 31 R 32 L [.int v] G z c s = (c ≤ 0 ∧ s ≤ 0 ∧ R (some (.int v)) G z) := q_iret cdE_31 dX3_readOpening_32 rfl mcE_31 msE_31
theorem e_31_33 {d : Nat} {R : Rt} {L : Lo} {S : List Value} {G : Mem} {z c s : Nat} : WP d 31 R 33 L S G z c s = (okR (lgo L 0) ∧ WP d 31 R 34 L (va_rf (vR (lgo L 0)) :: S) G z c s) := q_aload_n cdE_31 dX3_readOpening_33 rfl
theorem e_31_34 {d : Nat} {R : Rt} {L : Lo} {S : List Value} {G : Mem} {z c s : Nat} : WP d 31 R 34 L S G z c s = WP d 31 R 36 L (va_rf (mR G 31 3 0) :: S) G z c s := q_ldcS cdE_31 dX3_readOpening_34 owE_31 rfl rfl
theorem e_31_36 {d : Nat} {R : Rt} {L : Lo} {S : List Value} {G : Mem} {z c s : Nat} {a0 : Option Nat} {b : Nat} : WP d 31 R 36 L (va_rf a0 :: va_rf (some b) :: S) G z c s = ((mK G b = 3) ∧ S.length ≤ 4 ∧ c + 0 ≤ 0 ∧ s + 0 ≤ 0 ∧ CALL d 35 [va_rf (some b), va_rf a0] G z (rtn d 31 R 39 L S (c + 0) (s + 0))) := q_callV (as := [va_rf a0]) cdE_31 dX3_readOpening_36 owE_31 rfl rfl rfl (by simp only [List.reverse_cons, List.reverse_nil, List.nil_append, List.cons_append, entL, isL_int, isL_long, isL_rf, Bool.false_eq_true, if_false, if_true, List.length_cons, List.length_nil, mxE_35]; decide) mcE_31 msE_31 mcE_35 msE_35
theorem e_31_39 {d : Nat} {R : Rt} {L : Lo} {S : List Value} {G : Mem} {z c s : Nat} {x : Int32} : WP d 31 R 39 L (.int x :: S) G z c s = if x = 0 then WP d 31 R 57 L S G z c s else WP d 31 R 42 L S G z c s := q_ifeq cdE_31 dX3_readOpening_39 (by decide)
theorem e_31_42 {d : Nat} {R : Rt} {L : Lo} {S : List Value} {G : Mem} {z c s : Nat} : WP d 31 R 42 L S G z c s = (okR (lgo L 0) ∧ WP d 31 R 43 L (va_rf (vR (lgo L 0)) :: S) G z c s) := q_aload_n cdE_31 dX3_readOpening_42 rfl
theorem e_31_43 {d : Nat} {R : Rt} {L : Lo} {S : List Value} {G : Mem} {z c s : Nat} : WP d 31 R 43 L S G z c s = WP d 31 R 45 L (va_rf (mR G 31 4 0) :: S) G z c s := q_ldcS cdE_31 dX3_readOpening_43 owE_31 rfl rfl
theorem e_31_45 {d : Nat} {R : Rt} {L : Lo} {S : List Value} {G : Mem} {z c s : Nat} {a0 : Option Nat} {b : Nat} : WP d 31 R 45 L (va_rf a0 :: va_rf (some b) :: S) G z c s = ((mK G b = 3) ∧ S.length ≤ 4 ∧ c + 0 ≤ 0 ∧ s + 0 ≤ 0 ∧ CALL d 32 [va_rf (some b), va_rf a0] G z (rtn d 31 R 48 L S (c + 0) (s + 0))) := q_callV (as := [va_rf a0]) cdE_31 dX3_readOpening_45 owE_31 rfl rfl rfl (by simp only [List.reverse_cons, List.reverse_nil, List.nil_append, List.cons_append, entL, isL_int, isL_long, isL_rf, Bool.false_eq_true, if_false, if_true, List.length_cons, List.length_nil, mxE_32]; decide) mcE_31 msE_31 mcE_32 msE_32
theorem e_31_48 {d : Nat} {R : Rt} {L : Lo} {S : List Value} {G : Mem} {z c s : Nat} {x : Int32} : WP d 31 R 48 L (.int x :: S) G z c s = if x = 0 then WP d 31 R 55 L S G z c s else WP d 31 R 51 L S G z c s := q_ifeq cdE_31 dX3_readOpening_48 (by decide)
theorem e_31_51 {d : Nat} {R : Rt} {L : Lo} {S : List Value} {G : Mem} {z c s : Nat} : WP d 31 R 51 L S G z c s = WP d 31 R 52 L (.int 3 :: S) G z c s := q_iconst cdE_31 dX3_readOpening_51 (by decide)
theorem e_31_52 {d : Nat} {R : Rt} {L : Lo} {S : List Value} {G : Mem} {z c s : Nat} : WP d 31 R 52 L S G z c s = WP d 31 R 56 L S G z c s := q_goto cdE_31 dX3_readOpening_52 (by decide)
theorem e_31_55 {d : Nat} {R : Rt} {L : Lo} {S : List Value} {G : Mem} {z c s : Nat} : WP d 31 R 55 L S G z c s = WP d 31 R 56 L (.int (-1) :: S) G z c s := q_iconst cdE_31 dX3_readOpening_55 (by decide)
theorem e_31_56 {d : Nat} {R : Rt} {L : Lo} {G : Mem} {z c s : Nat} {v : Int32} : WP d 31 R 56 L [.int v] G z c s = (c ≤ 0 ∧ s ≤ 0 ∧ R (some (.int v)) G z) := q_iret cdE_31 dX3_readOpening_56 rfl mcE_31 msE_31
theorem e_31_57 {d : Nat} {R : Rt} {L : Lo} {S : List Value} {G : Mem} {z c s : Nat} : WP d 31 R 57 L S G z c s = (okR (lgo L 0) ∧ WP d 31 R 58 L (va_rf (vR (lgo L 0)) :: S) G z c s) := q_aload_n cdE_31 dX3_readOpening_57 rfl
theorem e_31_58 {d : Nat} {R : Rt} {L : Lo} {S : List Value} {G : Mem} {z c s : Nat} : WP d 31 R 58 L S G z c s = WP d 31 R 60 L (va_rf (mR G 31 5 0) :: S) G z c s := q_ldcS cdE_31 dX3_readOpening_58 owE_31 rfl rfl
theorem e_31_60 {d : Nat} {R : Rt} {L : Lo} {S : List Value} {G : Mem} {z c s : Nat} {a0 : Option Nat} {b : Nat} : WP d 31 R 60 L (va_rf a0 :: va_rf (some b) :: S) G z c s = ((mK G b = 3) ∧ S.length ≤ 4 ∧ c + 0 ≤ 0 ∧ s + 0 ≤ 0 ∧ CALL d 35 [va_rf (some b), va_rf a0] G z (rtn d 31 R 63 L S (c + 0) (s + 0))) := q_callV (as := [va_rf a0]) cdE_31 dX3_readOpening_60 owE_31 rfl rfl rfl (by simp only [List.reverse_cons, List.reverse_nil, List.nil_append, List.cons_append, entL, isL_int, isL_long, isL_rf, Bool.false_eq_true, if_false, if_true, List.length_cons, List.length_nil, mxE_35]; decide) mcE_31 msE_31 mcE_35 msE_35
theorem e_31_63 {d : Nat} {R : Rt} {L : Lo} {S : List Value} {G : Mem} {z c s : Nat} {x : Int32} : WP d 31 R 63 L (.int x :: S) G z c s = if x = 0 then WP d 31 R 66 L S G z c s else WP d 31 R 68 L S G z c s := q_ifne cdE_31 dX3_readOpening_63 (by decide)
theorem e_31_66 {d : Nat} {R : Rt} {L : Lo} {S : List Value} {G : Mem} {z c s : Nat} : WP d 31 R 66 L S G z c s = WP d 31 R 67 L (.int (-1) :: S) G z c s := q_iconst cdE_31 dX3_readOpening_66 (by decide)
theorem e_31_67 {d : Nat} {R : Rt} {L : Lo} {G : Mem} {z c s : Nat} {v : Int32} : WP d 31 R 67 L [.int v] G z c s = (c ≤ 0 ∧ s ≤ 0 ∧ R (some (.int v)) G z) := q_iret cdE_31 dX3_readOpening_67 rfl mcE_31 msE_31
theorem e_31_68 {d : Nat} {R : Rt} {L : Lo} {S : List Value} {G : Mem} {z c s : Nat} : WP d 31 R 68 L S G z c s = (okR (lgo L 0) ∧ WP d 31 R 69 L (va_rf (vR (lgo L 0)) :: S) G z c s) := q_aload_n cdE_31 dX3_readOpening_68 rfl
theorem e_31_69 {d : Nat} {R : Rt} {L : Lo} {S : List Value} {G : Mem} {z c s : Nat} : WP d 31 R 69 L S G z c s = WP d 31 R 71 L (va_rf (mR G 31 6 0) :: S) G z c s := q_ldcS cdE_31 dX3_readOpening_69 owE_31 rfl rfl
theorem e_31_71 {d : Nat} {R : Rt} {L : Lo} {S : List Value} {G : Mem} {z c s : Nat} {a0 : Option Nat} {b : Nat} : WP d 31 R 71 L (va_rf a0 :: va_rf (some b) :: S) G z c s = ((mK G b = 3) ∧ S.length ≤ 4 ∧ c + 0 ≤ 0 ∧ s + 0 ≤ 0 ∧ CALL d 32 [va_rf (some b), va_rf a0] G z (rtn d 31 R 74 L S (c + 0) (s + 0))) := q_callV (as := [va_rf a0]) cdE_31 dX3_readOpening_71 owE_31 rfl rfl rfl (by simp only [List.reverse_cons, List.reverse_nil, List.nil_append, List.cons_append, entL, isL_int, isL_long, isL_rf, Bool.false_eq_true, if_false, if_true, List.length_cons, List.length_nil, mxE_32]; decide) mcE_31 msE_31 mcE_32 msE_32
theorem e_31_74 {d : Nat} {R : Rt} {L : Lo} {S : List Value} {G : Mem} {z c s : Nat} {x : Int32} : WP d 31 R 74 L (.int x :: S) G z c s = if x = 0 then WP d 31 R 79 L S G z c s else WP d 31 R 77 L S G z c s := q_ifeq cdE_31 dX3_readOpening_74 (by decide)
theorem e_31_77 {d : Nat} {R : Rt} {L : Lo} {S : List Value} {G : Mem} {z c s : Nat} : WP d 31 R 77 L S G z c s = WP d 31 R 78 L (.int 1 :: S) G z c s := q_iconst cdE_31 dX3_readOpening_77 (by decide)
theorem e_31_78 {d : Nat} {R : Rt} {L : Lo} {G : Mem} {z c s : Nat} {v : Int32} : WP d 31 R 78 L [.int v] G z c s = (c ≤ 0 ∧ s ≤ 0 ∧ R (some (.int v)) G z) := q_iret cdE_31 dX3_readOpening_78 rfl mcE_31 msE_31
theorem e_31_79 {d : Nat} {R : Rt} {L : Lo} {S : List Value} {G : Mem} {z c s : Nat} : WP d 31 R 79 L S G z c s = (okR (lgo L 0) ∧ WP d 31 R 80 L (va_rf (vR (lgo L 0)) :: S) G z c s) := q_aload_n cdE_31 dX3_readOpening_79 rfl
theorem e_31_80 {d : Nat} {R : Rt} {L : Lo} {S : List Value} {G : Mem} {z c s : Nat} : WP d 31 R 80 L S G z c s = WP d 31 R 82 L (va_rf (mR G 31 7 0) :: S) G z c s := q_ldcS cdE_31 dX3_readOpening_80 owE_31 rfl rfl
theorem e_31_82 {d : Nat} {R : Rt} {L : Lo} {S : List Value} {G : Mem} {z c s : Nat} {a0 : Option Nat} {b : Nat} : WP d 31 R 82 L (va_rf a0 :: va_rf (some b) :: S) G z c s = ((mK G b = 3) ∧ S.length ≤ 4 ∧ c + 0 ≤ 0 ∧ s + 0 ≤ 0 ∧ CALL d 35 [va_rf (some b), va_rf a0] G z (rtn d 31 R 85 L S (c + 0) (s + 0))) := q_callV (as := [va_rf a0]) cdE_31 dX3_readOpening_82 owE_31 rfl rfl rfl (by simp only [List.reverse_cons, List.reverse_nil, List.nil_append, List.cons_append, entL, isL_int, isL_long, isL_rf, Bool.false_eq_true, if_false, if_true, List.length_cons, List.length_nil, mxE_35]; decide) mcE_31 msE_31 mcE_35 msE_35
theorem e_31_85 {d : Nat} {R : Rt} {L : Lo} {S : List Value} {G : Mem} {z c s : Nat} {x : Int32} : WP d 31 R 85 L (.int x :: S) G z c s = if x = 0 then WP d 31 R 92 L S G z c s else WP d 31 R 88 L S G z c s := q_ifeq cdE_31 dX3_readOpening_85 (by decide)
theorem e_31_88 {d : Nat} {R : Rt} {L : Lo} {S : List Value} {G : Mem} {z c s : Nat} : WP d 31 R 88 L S G z c s = WP d 31 R 89 L (.int 2 :: S) G z c s := q_iconst cdE_31 dX3_readOpening_88 (by decide)
theorem e_31_89 {d : Nat} {R : Rt} {L : Lo} {S : List Value} {G : Mem} {z c s : Nat} : WP d 31 R 89 L S G z c s = WP d 31 R 93 L S G z c s := q_goto cdE_31 dX3_readOpening_89 (by decide)
theorem e_31_92 {d : Nat} {R : Rt} {L : Lo} {S : List Value} {G : Mem} {z c s : Nat} : WP d 31 R 92 L S G z c s = WP d 31 R 93 L (.int (-1) :: S) G z c s := q_iconst cdE_31 dX3_readOpening_92 (by decide)
theorem e_31_93 {d : Nat} {R : Rt} {L : Lo} {G : Mem} {z c s : Nat} {v : Int32} : WP d 31 R 93 L [.int v] G z c s = (c ≤ 0 ∧ s ≤ 0 ∧ R (some (.int v)) G z) := q_iret cdE_31 dX3_readOpening_93 rfl mcE_31 msE_31
theorem e_32_0 {d : Nat} {R : Rt} {L : Lo} {S : List Value} {G : Mem} {z c s : Nat} : WP d 32 R 0 L S G z c s = (okR (lgo L 0) ∧ WP d 32 R 1 L (va_rf (vR (lgo L 0)) :: S) G z c s) := q_aload_n cdE_32 dX3_stepTo_0 rfl
theorem e_32_1 {d : Nat} {R : Rt} {L : Lo} {S : List Value} {G : Mem} {z c s : Nat} {b : Nat} : WP d 32 R 1 L (va_rf (some b) :: S) G z c s = ((mK G b = 3) ∧ S.length ≤ 4 ∧ c + 0 ≤ 0 ∧ s + 0 ≤ 0 ∧ CALL d 34 [va_rf (some b)] G z (rtn d 32 R 4 L S (c + 0) (s + 0))) := q_callV (as := []) cdE_32 dX3_stepTo_1 owE_32 rfl rfl rfl (by simp only [List.reverse_cons, List.reverse_nil, List.nil_append, List.cons_append, entL, isL_int, isL_long, isL_rf, Bool.false_eq_true, if_false, if_true, List.length_cons, List.length_nil, mxE_34]; decide) mcE_32 msE_32 mcE_34 msE_34
theorem e_32_4 {d : Nat} {R : Rt} {L : Lo} {S : List Value} {G : Mem} {z c s : Nat} : WP d 32 R 4 L S G z c s = (okR (lgo L 0) ∧ WP d 32 R 5 L (va_rf (vR (lgo L 0)) :: S) G z c s) := q_aload_n cdE_32 dX3_stepTo_4 rfl
theorem e_32_5 {d : Nat} {R : Rt} {L : Lo} {S : List Value} {G : Mem} {z c s : Nat} : WP d 32 R 5 L S G z c s = (okR (lgo L 1) ∧ WP d 32 R 6 L (va_rf (vR (lgo L 1)) :: S) G z c s) := q_aload_n cdE_32 dX3_stepTo_5 rfl
theorem e_32_6 {d : Nat} {R : Rt} {L : Lo} {S : List Value} {G : Mem} {z c s : Nat} {a0 : Option Nat} {b : Nat} : WP d 32 R 6 L (va_rf a0 :: va_rf (some b) :: S) G z c s = ((mK G b = 3) ∧ S.length ≤ 4 ∧ c + 0 ≤ 0 ∧ s + 0 ≤ 0 ∧ CALL d 35 [va_rf (some b), va_rf a0] G z (rtn d 32 R 9 L S (c + 0) (s + 0))) := q_callV (as := [va_rf a0]) cdE_32 dX3_stepTo_6 owE_32 rfl rfl rfl (by simp only [List.reverse_cons, List.reverse_nil, List.nil_append, List.cons_append, entL, isL_int, isL_long, isL_rf, Bool.false_eq_true, if_false, if_true, List.length_cons, List.length_nil, mxE_35]; decide) mcE_32 msE_32 mcE_35 msE_35
theorem e_32_9 {d : Nat} {R : Rt} {L : Lo} {G : Mem} {z c s : Nat} {v : Int32} : WP d 32 R 9 L [.int v] G z c s = (narrow .boolean (.int v) = .int v ∧ c ≤ 0 ∧ s ≤ 0 ∧ R (some (.int v)) G z) := q_nret cdE_32 dX3_stepTo_9 rfl mcE_32 msE_32
theorem e_33_0 {d : Nat} {R : Rt} {L : Lo} {S : List Value} {G : Mem} {z c s : Nat} : WP d 33 R 0 L S G z c s = (okR (lgo L 0) ∧ WP d 33 R 1 L (va_rf (vR (lgo L 0)) :: S) G z c s) := q_aload_n cdE_33 dX3_stepToNumber_0 rfl
theorem e_33_1 {d : Nat} {R : Rt} {L : Lo} {S : List Value} {G : Mem} {z c s : Nat} {b : Nat} : WP d 33 R 1 L (va_rf (some b) :: S) G z c s = ((mK G b = 3) ∧ S.length ≤ 4 ∧ c + 0 ≤ 0 ∧ s + 0 ≤ 0 ∧ CALL d 34 [va_rf (some b)] G z (rtn d 33 R 4 L S (c + 0) (s + 0))) := q_callV (as := []) cdE_33 dX3_stepToNumber_1 owE_33 rfl rfl rfl (by simp only [List.reverse_cons, List.reverse_nil, List.nil_append, List.cons_append, entL, isL_int, isL_long, isL_rf, Bool.false_eq_true, if_false, if_true, List.length_cons, List.length_nil, mxE_34]; decide) mcE_33 msE_33 mcE_34 msE_34
theorem e_33_4 {d : Nat} {R : Rt} {L : Lo} {S : List Value} {G : Mem} {z c s : Nat} : WP d 33 R 4 L S G z c s = (okR (lgo L 0) ∧ WP d 33 R 5 L (va_rf (vR (lgo L 0)) :: S) G z c s) := q_aload_n cdE_33 dX3_stepToNumber_4 rfl
theorem e_33_5 {d : Nat} {R : Rt} {L : Lo} {S : List Value} {G : Mem} {z c s : Nat} : WP d 33 R 5 L S G z c s = (okR (lgo L 0) ∧ WP d 33 R 6 L (va_rf (vR (lgo L 0)) :: S) G z c s) := q_aload_n cdE_33 dX3_stepToNumber_5 rfl
theorem e_33_6 {d : Nat} {R : Rt} {L : Lo} {S : List Value} {G : Mem} {z c s : Nat} {a : Nat} : WP d 33 R 6 L (va_rf (some a) :: S) G z c s = (mK G a = 3 ∧ WP d 33 R 9 L (.int (mI G 3 3 a) :: S) G z c s) := q_getI cdE_33 dX3_stepToNumber_6 owE_33 rfl (by decide)
theorem e_33_9 {d : Nat} {R : Rt} {L : Lo} {S : List Value} {G : Mem} {z c s : Nat} {a0 : Int32} {b : Nat} : WP d 33 R 9 L (.int a0 :: va_rf (some b) :: S) G z c s = ((mK G b = 3) ∧ S.length ≤ 4 ∧ c + 0 ≤ 0 ∧ s + 0 ≤ 0 ∧ CALL d 39 [va_rf (some b), .int a0] G z (rtn d 33 R 12 L S (c + 0) (s + 0))) := q_callV (as := [.int a0]) cdE_33 dX3_stepToNumber_9 owE_33 rfl rfl rfl (by simp only [List.reverse_cons, List.reverse_nil, List.nil_append, List.cons_append, entL, isL_int, isL_long, isL_rf, Bool.false_eq_true, if_false, if_true, List.length_cons, List.length_nil, mxE_39]; decide) mcE_33 msE_33 mcE_39 msE_39
theorem e_33_12 {d : Nat} {R : Rt} {L : Lo} {S : List Value} {G : Mem} {z c s : Nat} {x : Int32} : WP d 33 R 12 L (.int x :: S) G z c s = if x = 0 then WP d 33 R 28 L S G z c s else WP d 33 R 15 L S G z c s := q_ifeq cdE_33 dX3_stepToNumber_12 (by decide)
theorem e_33_15 {d : Nat} {R : Rt} {L : Lo} {S : List Value} {G : Mem} {z c s : Nat} : WP d 33 R 15 L S G z c s = (okR (lgo L 0) ∧ WP d 33 R 16 L (va_rf (vR (lgo L 0)) :: S) G z c s) := q_aload_n cdE_33 dX3_stepToNumber_15 rfl
theorem e_33_16 {d : Nat} {R : Rt} {L : Lo} {S : List Value} {G : Mem} {z c s : Nat} {a : Nat} : WP d 33 R 16 L (va_rf (some a) :: S) G z c s = (mK G a = 3 ∧ WP d 33 R 19 L (.int (mI G 3 2 a) :: S) G z c s) := q_getI cdE_33 dX3_stepToNumber_16 owE_33 rfl (by decide)
theorem e_33_19 {d : Nat} {R : Rt} {L : Lo} {S : List Value} {G : Mem} {z c s : Nat} : WP d 33 R 19 L S G z c s = (okR (lgo L 0) ∧ WP d 33 R 20 L (va_rf (vR (lgo L 0)) :: S) G z c s) := q_aload_n cdE_33 dX3_stepToNumber_19 rfl
theorem e_33_20 {d : Nat} {R : Rt} {L : Lo} {S : List Value} {G : Mem} {z c s : Nat} {a : Nat} : WP d 33 R 20 L (va_rf (some a) :: S) G z c s = (mK G a = 3 ∧ WP d 33 R 23 L (.int (mI G 3 3 a) :: S) G z c s) := q_getI cdE_33 dX3_stepToNumber_20 owE_33 rfl (by decide)
theorem e_33_23 {d : Nat} {R : Rt} {L : Lo} {S : List Value} {G : Mem} {z c s : Nat} {x y : Int32} : WP d 33 R 23 L (.int y :: .int x :: S) G z c s = WP d 33 R 24 L (.int (x - y) :: S) G z c s := q_isub cdE_33 dX3_stepToNumber_23
theorem e_33_24 {d : Nat} {R : Rt} {L : Lo} {S : List Value} {G : Mem} {z c s : Nat} : WP d 33 R 24 L S G z c s = WP d 33 R 25 L (.int 3 :: S) G z c s := q_iconst cdE_33 dX3_stepToNumber_24 (by decide)
theorem e_33_25 {d : Nat} {R : Rt} {L : Lo} {S : List Value} {G : Mem} {z c s : Nat} {x y : Int32} : WP d 33 R 25 L (.int y :: .int x :: S) G z c s = if x ≤ y then WP d 33 R 30 L S G z c s else WP d 33 R 28 L S G z c s := q_icle cdE_33 dX3_stepToNumber_25 (by decide)
theorem e_33_28 {d : Nat} {R : Rt} {L : Lo} {S : List Value} {G : Mem} {z c s : Nat} : WP d 33 R 28 L S G z c s = WP d 33 R 29 L (.int (-1) :: S) G z c s := q_iconst cdE_33 dX3_stepToNumber_28 (by decide)
theorem e_33_29 {d : Nat} {R : Rt} {L : Lo} {G : Mem} {z c s : Nat} {v : Int32} : WP d 33 R 29 L [.int v] G z c s = (c ≤ 0 ∧ s ≤ 0 ∧ R (some (.int v)) G z) := q_iret cdE_33 dX3_stepToNumber_29 rfl mcE_33 msE_33
theorem e_33_30 {d : Nat} {R : Rt} {L : Lo} {S : List Value} {G : Mem} {z c s : Nat} : WP d 33 R 30 L S G z c s = WP d 33 R 31 L (.int 0 :: S) G z c s := q_iconst cdE_33 dX3_stepToNumber_30 (by decide)
theorem e_33_31 {d : Nat} {R : Rt} {L : Lo} {S : List Value} {G : Mem} {z c s : Nat} {x : Int32} : WP d 33 R 31 L (.int x :: S) G z c s = (noL L 1 ∧ WP d 33 R 32 (lset L 1 (some (.int x))) S G z c s) := q_istore_n cdE_33 dX3_stepToNumber_31 rfl mxE_33 (by decide)
theorem e_33_32 {d : Nat} {R : Rt} {L : Lo} {S : List Value} {G : Mem} {z c s : Nat} : WP d 33 R 32 L S G z c s = (okR (lgo L 0) ∧ WP d 33 R 33 L (va_rf (vR (lgo L 0)) :: S) G z c s) := q_aload_n cdE_33 dX3_stepToNumber_32 rfl
theorem e_33_33 {d : Nat} {R : Rt} {L : Lo} {S : List Value} {G : Mem} {z c s : Nat} {a : Nat} : WP d 33 R 33 L (va_rf (some a) :: S) G z c s = (mK G a = 3 ∧ WP d 33 R 36 L (.int (mI G 3 3 a) :: S) G z c s) := q_getI cdE_33 dX3_stepToNumber_33 owE_33 rfl (by decide)
theorem e_33_36 {d : Nat} {R : Rt} {L : Lo} {S : List Value} {G : Mem} {z c s : Nat} {x : Int32} : WP d 33 R 36 L (.int x :: S) G z c s = (noL L 2 ∧ WP d 33 R 37 (lset L 2 (some (.int x))) S G z c s) := q_istore_n cdE_33 dX3_stepToNumber_36 rfl mxE_33 (by decide)
theorem e_33_37 {d : Nat} {R : Rt} {L : Lo} {S : List Value} {G : Mem} {z c s : Nat} : WP d 33 R 37 L S G z c s = (okI (lgo L 2) ∧ WP d 33 R 38 L (.int (vI (lgo L 2)) :: S) G z c s) := q_iload_n cdE_33 dX3_stepToNumber_37 rfl
theorem e_33_38 {d : Nat} {R : Rt} {L : Lo} {S : List Value} {G : Mem} {z c s : Nat} : WP d 33 R 38 L S G z c s = (okR (lgo L 0) ∧ WP d 33 R 39 L (va_rf (vR (lgo L 0)) :: S) G z c s) := q_aload_n cdE_33 dX3_stepToNumber_38 rfl
theorem e_33_39 {d : Nat} {R : Rt} {L : Lo} {S : List Value} {G : Mem} {z c s : Nat} {a : Nat} : WP d 33 R 39 L (va_rf (some a) :: S) G z c s = (mK G a = 3 ∧ WP d 33 R 42 L (.int (mI G 3 2 a) :: S) G z c s) := q_getI cdE_33 dX3_stepToNumber_39 owE_33 rfl (by decide)
theorem e_33_42 {d : Nat} {R : Rt} {L : Lo} {S : List Value} {G : Mem} {z c s : Nat} {x y : Int32} : WP d 33 R 42 L (.int y :: .int x :: S) G z c s = if y ≤ x then WP d 33 R 65 L S G z c s else WP d 33 R 45 L S G z c s := q_icge cdE_33 dX3_stepToNumber_42 (by decide)
theorem e_33_45 {d : Nat} {R : Rt} {L : Lo} {S : List Value} {G : Mem} {z c s : Nat} : WP d 33 R 45 L S G z c s = (okI (lgo L 1) ∧ WP d 33 R 46 L (.int (vI (lgo L 1)) :: S) G z c s) := q_iload_n cdE_33 dX3_stepToNumber_45 rfl
theorem e_33_46 {d : Nat} {R : Rt} {L : Lo} {S : List Value} {G : Mem} {z c s : Nat} : WP d 33 R 46 L S G z c s = WP d 33 R 48 L (.int 10 :: S) G z c s := q_bipush cdE_33 dX3_stepToNumber_46 (by decide)
theorem e_33_48 {d : Nat} {R : Rt} {L : Lo} {S : List Value} {G : Mem} {z c s : Nat} {x y : Int32} : WP d 33 R 48 L (.int y :: .int x :: S) G z c s = WP d 33 R 49 L (.int (x * y) :: S) G z c s := q_imul cdE_33 dX3_stepToNumber_48
theorem e_33_49 {d : Nat} {R : Rt} {L : Lo} {S : List Value} {G : Mem} {z c s : Nat} : WP d 33 R 49 L S G z c s = (okR (lgo L 0) ∧ WP d 33 R 50 L (va_rf (vR (lgo L 0)) :: S) G z c s) := q_aload_n cdE_33 dX3_stepToNumber_49 rfl
theorem e_33_50 {d : Nat} {R : Rt} {L : Lo} {S : List Value} {G : Mem} {z c s : Nat} : WP d 33 R 50 L S G z c s = (okI (lgo L 2) ∧ WP d 33 R 51 L (.int (vI (lgo L 2)) :: S) G z c s) := q_iload_n cdE_33 dX3_stepToNumber_50 rfl
theorem e_33_51 {d : Nat} {R : Rt} {L : Lo} {S : List Value} {G : Mem} {z c s : Nat} {a0 : Int32} {b : Nat} : WP d 33 R 51 L (.int a0 :: va_rf (some b) :: S) G z c s = ((mK G b = 3) ∧ S.length ≤ 4 ∧ c + 0 ≤ 0 ∧ s + 0 ≤ 0 ∧ CALL d 36 [va_rf (some b), .int a0] G z (rtn d 33 R 54 L S (c + 0) (s + 0))) := q_callV (as := [.int a0]) cdE_33 dX3_stepToNumber_51 owE_33 rfl rfl rfl (by simp only [List.reverse_cons, List.reverse_nil, List.nil_append, List.cons_append, entL, isL_int, isL_long, isL_rf, Bool.false_eq_true, if_false, if_true, List.length_cons, List.length_nil, mxE_36]; decide) mcE_33 msE_33 mcE_36 msE_36
theorem e_33_54 {d : Nat} {R : Rt} {L : Lo} {S : List Value} {G : Mem} {z c s : Nat} {x y : Int32} : WP d 33 R 54 L (.int y :: .int x :: S) G z c s = WP d 33 R 55 L (.int (x + y) :: S) G z c s := q_iadd cdE_33 dX3_stepToNumber_54
theorem e_33_55 {d : Nat} {R : Rt} {L : Lo} {S : List Value} {G : Mem} {z c s : Nat} : WP d 33 R 55 L S G z c s = WP d 33 R 57 L (.int 48 :: S) G z c s := q_bipush cdE_33 dX3_stepToNumber_55 (by decide)
theorem e_33_57 {d : Nat} {R : Rt} {L : Lo} {S : List Value} {G : Mem} {z c s : Nat} {x y : Int32} : WP d 33 R 57 L (.int y :: .int x :: S) G z c s = WP d 33 R 58 L (.int (x - y) :: S) G z c s := q_isub cdE_33 dX3_stepToNumber_57
theorem e_33_58 {d : Nat} {R : Rt} {L : Lo} {S : List Value} {G : Mem} {z c s : Nat} {x : Int32} : WP d 33 R 58 L (.int x :: S) G z c s = (noL L 1 ∧ WP d 33 R 59 (lset L 1 (some (.int x))) S G z c s) := q_istore_n cdE_33 dX3_stepToNumber_58 rfl mxE_33 (by decide)
theorem e_33_59 {d : Nat} {R : Rt} {L : Lo} {S : List Value} {G : Mem} {z c s : Nat} : WP d 33 R 59 L S G z c s = (okI (lgo L 2) ∧ noL L 2 ∧ WP d 33 R 62 (lset L 2 (some (.int (vI (lgo L 2) + 1)))) S G z c s) := q_iinc cdE_33 dX3_stepToNumber_59 mxE_33 (by decide) (by decide)
theorem e_33_62 {d : Nat} {R : Rt} {L : Lo} {S : List Value} {G : Mem} {z c s : Nat} : WP d 33 R 62 L S G z c s = WP d 33 R 37 L S G z c s := q_goto cdE_33 dX3_stepToNumber_62 (by decide)
theorem e_33_65 {d : Nat} {R : Rt} {L : Lo} {S : List Value} {G : Mem} {z c s : Nat} : WP d 33 R 65 L S G z c s = (okI (lgo L 1) ∧ WP d 33 R 66 L (.int (vI (lgo L 1)) :: S) G z c s) := q_iload_n cdE_33 dX3_stepToNumber_65 rfl
theorem e_33_66 {d : Nat} {R : Rt} {L : Lo} {G : Mem} {z c s : Nat} {v : Int32} : WP d 33 R 66 L [.int v] G z c s = (c ≤ 0 ∧ s ≤ 0 ∧ R (some (.int v)) G z) := q_iret cdE_33 dX3_stepToNumber_66 rfl mcE_33 msE_33
theorem e_34_0 {d : Nat} {R : Rt} {L : Lo} {S : List Value} {G : Mem} {z c s : Nat} : WP d 34 R 0 L S G z c s = (okR (lgo L 0) ∧ WP d 34 R 1 L (va_rf (vR (lgo L 0)) :: S) G z c s) := q_aload_n cdE_34 dX3_step_0 rfl
theorem e_34_1 {d : Nat} {R : Rt} {L : Lo} {S : List Value} {G : Mem} {z c s : Nat} : WP d 34 R 1 L S G z c s = (okR (lgo L 0) ∧ WP d 34 R 2 L (va_rf (vR (lgo L 0)) :: S) G z c s) := q_aload_n cdE_34 dX3_step_1 rfl
theorem e_34_2 {d : Nat} {R : Rt} {L : Lo} {S : List Value} {G : Mem} {z c s : Nat} {a : Nat} : WP d 34 R 2 L (va_rf (some a) :: S) G z c s = (mK G a = 3 ∧ WP d 34 R 5 L (.int (mI G 3 2 a) :: S) G z c s) := q_getI cdE_34 dX3_step_2 owE_34 rfl (by decide)
theorem e_34_5 {d : Nat} {R : Rt} {L : Lo} {S : List Value} {G : Mem} {z c s : Nat} {a : Nat} {v : Int32} : WP d 34 R 5 L (.int v :: va_rf (some a) :: S) G z c s = (mK G a = 3 ∧ WP d 34 R 8 L S (pI G 3 3 a v) z c s) := q_putI cdE_34 dX3_step_5 owE_34 rfl (by decide) rfl
theorem e_34_8 {d : Nat} {R : Rt} {L : Lo} {S : List Value} {G : Mem} {z c s : Nat} : WP d 34 R 8 L S G z c s = (okR (lgo L 0) ∧ WP d 34 R 9 L (va_rf (vR (lgo L 0)) :: S) G z c s) := q_aload_n cdE_34 dX3_step_8 rfl
theorem e_34_9 {d : Nat} {R : Rt} {L : Lo} {S : List Value} {G : Mem} {z c s : Nat} {a : Nat} : WP d 34 R 9 L (va_rf (some a) :: S) G z c s = (mK G a = 3 ∧ WP d 34 R 12 L (.int (mI G 3 3 a) :: S) G z c s) := q_getI cdE_34 dX3_step_9 owE_34 rfl (by decide)
theorem e_34_12 {d : Nat} {R : Rt} {L : Lo} {S : List Value} {G : Mem} {z c s : Nat} : WP d 34 R 12 L S G z c s = (okR (lgo L 0) ∧ WP d 34 R 13 L (va_rf (vR (lgo L 0)) :: S) G z c s) := q_aload_n cdE_34 dX3_step_12 rfl
theorem e_34_13 {d : Nat} {R : Rt} {L : Lo} {S : List Value} {G : Mem} {z c s : Nat} {a : Nat} : WP d 34 R 13 L (va_rf (some a) :: S) G z c s = (mK G a = 3 ∧ WP d 34 R 16 L (.int (mI G 3 1 a) :: S) G z c s) := q_getI cdE_34 dX3_step_13 owE_34 rfl (by decide)
theorem e_34_16 {d : Nat} {R : Rt} {L : Lo} {S : List Value} {G : Mem} {z c s : Nat} {x y : Int32} : WP d 34 R 16 L (.int y :: .int x :: S) G z c s = if y ≤ x then WP d 34 R 43 L S G z c s else WP d 34 R 19 L S G z c s := q_icge cdE_34 dX3_step_16 (by decide)
theorem e_34_19 {d : Nat} {R : Rt} {L : Lo} {S : List Value} {G : Mem} {z c s : Nat} : WP d 34 R 19 L S G z c s = (okR (lgo L 0) ∧ WP d 34 R 20 L (va_rf (vR (lgo L 0)) :: S) G z c s) := q_aload_n cdE_34 dX3_step_19 rfl
theorem e_34_20 {d : Nat} {R : Rt} {L : Lo} {S : List Value} {G : Mem} {z c s : Nat} : WP d 34 R 20 L S G z c s = (okR (lgo L 0) ∧ WP d 34 R 21 L (va_rf (vR (lgo L 0)) :: S) G z c s) := q_aload_n cdE_34 dX3_step_20 rfl
theorem e_34_21 {d : Nat} {R : Rt} {L : Lo} {S : List Value} {G : Mem} {z c s : Nat} {a : Nat} : WP d 34 R 21 L (va_rf (some a) :: S) G z c s = (mK G a = 3 ∧ WP d 34 R 24 L (.int (mI G 3 3 a) :: S) G z c s) := q_getI cdE_34 dX3_step_21 owE_34 rfl (by decide)
theorem e_34_24 {d : Nat} {R : Rt} {L : Lo} {S : List Value} {G : Mem} {z c s : Nat} {a0 : Int32} {b : Nat} : WP d 34 R 24 L (.int a0 :: va_rf (some b) :: S) G z c s = ((mK G b = 3) ∧ S.length ≤ 4 ∧ c + 0 ≤ 0 ∧ s + 0 ≤ 0 ∧ CALL d 37 [va_rf (some b), .int a0] G z (rtn d 34 R 27 L S (c + 0) (s + 0))) := q_callV (as := [.int a0]) cdE_34 dX3_step_24 owE_34 rfl rfl rfl (by simp only [List.reverse_cons, List.reverse_nil, List.nil_append, List.cons_append, entL, isL_int, isL_long, isL_rf, Bool.false_eq_true, if_false, if_true, List.length_cons, List.length_nil, mxE_37]; decide) mcE_34 msE_34 mcE_37 msE_37
theorem e_34_27 {d : Nat} {R : Rt} {L : Lo} {S : List Value} {G : Mem} {z c s : Nat} {x : Int32} : WP d 34 R 27 L (.int x :: S) G z c s = if x = 0 then WP d 34 R 43 L S G z c s else WP d 34 R 30 L S G z c s := q_ifeq cdE_34 dX3_step_27 (by decide)
theorem e_34_30 {d : Nat} {R : Rt} {L : Lo} {S : List Value} {G : Mem} {z c s : Nat} : WP d 34 R 30 L S G z c s = (okR (lgo L 0) ∧ WP d 34 R 31 L (va_rf (vR (lgo L 0)) :: S) G z c s) := q_aload_n cdE_34 dX3_step_30 rfl
theorem e_34_31 {d : Nat} {R : Rt} {L : Lo} {S : List Value} {G : Mem} {z c s : Nat} {v : Value} : WP d 34 R 31 L (v :: S) G z c s = (isL v = false ∧ WP d 34 R 32 L (v :: v :: S) G z c s) := q_dup cdE_34 dX3_step_31
theorem e_34_32 {d : Nat} {R : Rt} {L : Lo} {S : List Value} {G : Mem} {z c s : Nat} {a : Nat} : WP d 34 R 32 L (va_rf (some a) :: S) G z c s = (mK G a = 3 ∧ WP d 34 R 35 L (.int (mI G 3 3 a) :: S) G z c s) := q_getI cdE_34 dX3_step_32 owE_34 rfl (by decide)
theorem e_34_35 {d : Nat} {R : Rt} {L : Lo} {S : List Value} {G : Mem} {z c s : Nat} : WP d 34 R 35 L S G z c s = WP d 34 R 36 L (.int 1 :: S) G z c s := q_iconst cdE_34 dX3_step_35 (by decide)
theorem e_34_36 {d : Nat} {R : Rt} {L : Lo} {S : List Value} {G : Mem} {z c s : Nat} {x y : Int32} : WP d 34 R 36 L (.int y :: .int x :: S) G z c s = WP d 34 R 37 L (.int (x + y) :: S) G z c s := q_iadd cdE_34 dX3_step_36
theorem e_34_37 {d : Nat} {R : Rt} {L : Lo} {S : List Value} {G : Mem} {z c s : Nat} {a : Nat} {v : Int32} : WP d 34 R 37 L (.int v :: va_rf (some a) :: S) G z c s = (mK G a = 3 ∧ WP d 34 R 40 L S (pI G 3 3 a v) z c s) := q_putI cdE_34 dX3_step_37 owE_34 rfl (by decide) rfl
theorem e_34_40 {d : Nat} {R : Rt} {L : Lo} {S : List Value} {G : Mem} {z c s : Nat} : WP d 34 R 40 L S G z c s = WP d 34 R 8 L S G z c s := q_goto cdE_34 dX3_step_40 (by decide)
theorem e_34_43 {d : Nat} {R : Rt} {L : Lo} {S : List Value} {G : Mem} {z c s : Nat} : WP d 34 R 43 L S G z c s = (okR (lgo L 0) ∧ WP d 34 R 44 L (va_rf (vR (lgo L 0)) :: S) G z c s) := q_aload_n cdE_34 dX3_step_43 rfl
theorem e_34_44 {d : Nat} {R : Rt} {L : Lo} {S : List Value} {G : Mem} {z c s : Nat} : WP d 34 R 44 L S G z c s = (okR (lgo L 0) ∧ WP d 34 R 45 L (va_rf (vR (lgo L 0)) :: S) G z c s) := q_aload_n cdE_34 dX3_step_44 rfl
theorem e_34_45 {d : Nat} {R : Rt} {L : Lo} {S : List Value} {G : Mem} {z c s : Nat} {a : Nat} : WP d 34 R 45 L (va_rf (some a) :: S) G z c s = (mK G a = 3 ∧ WP d 34 R 48 L (.int (mI G 3 3 a) :: S) G z c s) := q_getI cdE_34 dX3_step_45 owE_34 rfl (by decide)
theorem e_34_48 {d : Nat} {R : Rt} {L : Lo} {S : List Value} {G : Mem} {z c s : Nat} {a : Nat} {v : Int32} : WP d 34 R 48 L (.int v :: va_rf (some a) :: S) G z c s = (mK G a = 3 ∧ WP d 34 R 51 L S (pI G 3 2 a v) z c s) := q_putI cdE_34 dX3_step_48 owE_34 rfl (by decide) rfl
theorem e_34_51 {d : Nat} {R : Rt} {L : Lo} {S : List Value} {G : Mem} {z c s : Nat} : WP d 34 R 51 L S G z c s = (okR (lgo L 0) ∧ WP d 34 R 52 L (va_rf (vR (lgo L 0)) :: S) G z c s) := q_aload_n cdE_34 dX3_step_51 rfl
theorem e_34_52 {d : Nat} {R : Rt} {L : Lo} {S : List Value} {G : Mem} {z c s : Nat} : WP d 34 R 52 L S G z c s = (okR (lgo L 0) ∧ WP d 34 R 53 L (va_rf (vR (lgo L 0)) :: S) G z c s) := q_aload_n cdE_34 dX3_step_52 rfl
theorem e_34_53 {d : Nat} {R : Rt} {L : Lo} {S : List Value} {G : Mem} {z c s : Nat} {a : Nat} : WP d 34 R 53 L (va_rf (some a) :: S) G z c s = (mK G a = 3 ∧ WP d 34 R 56 L (.int (mI G 3 3 a) :: S) G z c s) := q_getI cdE_34 dX3_step_53 owE_34 rfl (by decide)
theorem e_34_56 {d : Nat} {R : Rt} {L : Lo} {S : List Value} {G : Mem} {z c s : Nat} {a0 : Int32} {b : Nat} : WP d 34 R 56 L (.int a0 :: va_rf (some b) :: S) G z c s = ((mK G b = 3) ∧ S.length ≤ 4 ∧ c + 0 ≤ 0 ∧ s + 0 ≤ 0 ∧ CALL d 38 [va_rf (some b), .int a0] G z (rtn d 34 R 59 L S (c + 0) (s + 0))) := q_callV (as := [.int a0]) cdE_34 dX3_step_56 owE_34 rfl rfl rfl (by simp only [List.reverse_cons, List.reverse_nil, List.nil_append, List.cons_append, entL, isL_int, isL_long, isL_rf, Bool.false_eq_true, if_false, if_true, List.length_cons, List.length_nil, mxE_38]; decide) mcE_34 msE_34 mcE_38 msE_38
theorem e_34_59 {d : Nat} {R : Rt} {L : Lo} {S : List Value} {G : Mem} {z c s : Nat} {x : Int32} : WP d 34 R 59 L (.int x :: S) G z c s = if x = 0 then WP d 34 R 97 L S G z c s else WP d 34 R 62 L S G z c s := q_ifeq cdE_34 dX3_step_59 (by decide)
theorem e_34_62 {d : Nat} {R : Rt} {L : Lo} {S : List Value} {G : Mem} {z c s : Nat} : WP d 34 R 62 L S G z c s = (okR (lgo L 0) ∧ WP d 34 R 63 L (va_rf (vR (lgo L 0)) :: S) G z c s) := q_aload_n cdE_34 dX3_step_62 rfl
theorem e_34_63 {d : Nat} {R : Rt} {L : Lo} {S : List Value} {G : Mem} {z c s : Nat} {a : Nat} : WP d 34 R 63 L (va_rf (some a) :: S) G z c s = (mK G a = 3 ∧ WP d 34 R 66 L (.int (mI G 3 2 a) :: S) G z c s) := q_getI cdE_34 dX3_step_63 owE_34 rfl (by decide)
theorem e_34_66 {d : Nat} {R : Rt} {L : Lo} {S : List Value} {G : Mem} {z c s : Nat} : WP d 34 R 66 L S G z c s = (okR (lgo L 0) ∧ WP d 34 R 67 L (va_rf (vR (lgo L 0)) :: S) G z c s) := q_aload_n cdE_34 dX3_step_66 rfl
theorem e_34_67 {d : Nat} {R : Rt} {L : Lo} {S : List Value} {G : Mem} {z c s : Nat} {a : Nat} : WP d 34 R 67 L (va_rf (some a) :: S) G z c s = (mK G a = 3 ∧ WP d 34 R 70 L (.int (mI G 3 1 a) :: S) G z c s) := q_getI cdE_34 dX3_step_67 owE_34 rfl (by decide)
theorem e_34_70 {d : Nat} {R : Rt} {L : Lo} {S : List Value} {G : Mem} {z c s : Nat} {x y : Int32} : WP d 34 R 70 L (.int y :: .int x :: S) G z c s = if y ≤ x then WP d 34 R 164 L S G z c s else WP d 34 R 73 L S G z c s := q_icge cdE_34 dX3_step_70 (by decide)
theorem e_34_73 {d : Nat} {R : Rt} {L : Lo} {S : List Value} {G : Mem} {z c s : Nat} : WP d 34 R 73 L S G z c s = (okR (lgo L 0) ∧ WP d 34 R 74 L (va_rf (vR (lgo L 0)) :: S) G z c s) := q_aload_n cdE_34 dX3_step_73 rfl
theorem e_34_74 {d : Nat} {R : Rt} {L : Lo} {S : List Value} {G : Mem} {z c s : Nat} : WP d 34 R 74 L S G z c s = (okR (lgo L 0) ∧ WP d 34 R 75 L (va_rf (vR (lgo L 0)) :: S) G z c s) := q_aload_n cdE_34 dX3_step_74 rfl
theorem e_34_75 {d : Nat} {R : Rt} {L : Lo} {S : List Value} {G : Mem} {z c s : Nat} {a : Nat} : WP d 34 R 75 L (va_rf (some a) :: S) G z c s = (mK G a = 3 ∧ WP d 34 R 78 L (.int (mI G 3 2 a) :: S) G z c s) := q_getI cdE_34 dX3_step_75 owE_34 rfl (by decide)
theorem e_34_78 {d : Nat} {R : Rt} {L : Lo} {S : List Value} {G : Mem} {z c s : Nat} {a0 : Int32} {b : Nat} : WP d 34 R 78 L (.int a0 :: va_rf (some b) :: S) G z c s = ((mK G b = 3) ∧ S.length ≤ 4 ∧ c + 0 ≤ 0 ∧ s + 0 ≤ 0 ∧ CALL d 38 [va_rf (some b), .int a0] G z (rtn d 34 R 81 L S (c + 0) (s + 0))) := q_callV (as := [.int a0]) cdE_34 dX3_step_78 owE_34 rfl rfl rfl (by simp only [List.reverse_cons, List.reverse_nil, List.nil_append, List.cons_append, entL, isL_int, isL_long, isL_rf, Bool.false_eq_true, if_false, if_true, List.length_cons, List.length_nil, mxE_38]; decide) mcE_34 msE_34 mcE_38 msE_38
theorem e_34_81 {d : Nat} {R : Rt} {L : Lo} {S : List Value} {G : Mem} {z c s : Nat} {x : Int32} : WP d 34 R 81 L (.int x :: S) G z c s = if x = 0 then WP d 34 R 164 L S G z c s else WP d 34 R 84 L S G z c s := q_ifeq cdE_34 dX3_step_81 (by decide)
theorem e_34_84 {d : Nat} {R : Rt} {L : Lo} {S : List Value} {G : Mem} {z c s : Nat} : WP d 34 R 84 L S G z c s = (okR (lgo L 0) ∧ WP d 34 R 85 L (va_rf (vR (lgo L 0)) :: S) G z c s) := q_aload_n cdE_34 dX3_step_84 rfl
theorem e_34_85 {d : Nat} {R : Rt} {L : Lo} {S : List Value} {G : Mem} {z c s : Nat} {v : Value} : WP d 34 R 85 L (v :: S) G z c s = (isL v = false ∧ WP d 34 R 86 L (v :: v :: S) G z c s) := q_dup cdE_34 dX3_step_85
theorem e_34_86 {d : Nat} {R : Rt} {L : Lo} {S : List Value} {G : Mem} {z c s : Nat} {a : Nat} : WP d 34 R 86 L (va_rf (some a) :: S) G z c s = (mK G a = 3 ∧ WP d 34 R 89 L (.int (mI G 3 2 a) :: S) G z c s) := q_getI cdE_34 dX3_step_86 owE_34 rfl (by decide)
theorem e_34_89 {d : Nat} {R : Rt} {L : Lo} {S : List Value} {G : Mem} {z c s : Nat} : WP d 34 R 89 L S G z c s = WP d 34 R 90 L (.int 1 :: S) G z c s := q_iconst cdE_34 dX3_step_89 (by decide)
theorem e_34_90 {d : Nat} {R : Rt} {L : Lo} {S : List Value} {G : Mem} {z c s : Nat} {x y : Int32} : WP d 34 R 90 L (.int y :: .int x :: S) G z c s = WP d 34 R 91 L (.int (x + y) :: S) G z c s := q_iadd cdE_34 dX3_step_90
theorem e_34_91 {d : Nat} {R : Rt} {L : Lo} {S : List Value} {G : Mem} {z c s : Nat} {a : Nat} {v : Int32} : WP d 34 R 91 L (.int v :: va_rf (some a) :: S) G z c s = (mK G a = 3 ∧ WP d 34 R 94 L S (pI G 3 2 a v) z c s) := q_putI cdE_34 dX3_step_91 owE_34 rfl (by decide) rfl
theorem e_34_94 {d : Nat} {R : Rt} {L : Lo} {S : List Value} {G : Mem} {z c s : Nat} : WP d 34 R 94 L S G z c s = WP d 34 R 62 L S G z c s := q_goto cdE_34 dX3_step_94 (by decide)
theorem e_34_97 {d : Nat} {R : Rt} {L : Lo} {S : List Value} {G : Mem} {z c s : Nat} : WP d 34 R 97 L S G z c s = (okR (lgo L 0) ∧ WP d 34 R 98 L (va_rf (vR (lgo L 0)) :: S) G z c s) := q_aload_n cdE_34 dX3_step_97 rfl
theorem e_34_98 {d : Nat} {R : Rt} {L : Lo} {S : List Value} {G : Mem} {z c s : Nat} : WP d 34 R 98 L S G z c s = (okR (lgo L 0) ∧ WP d 34 R 99 L (va_rf (vR (lgo L 0)) :: S) G z c s) := q_aload_n cdE_34 dX3_step_98 rfl
theorem e_34_99 {d : Nat} {R : Rt} {L : Lo} {S : List Value} {G : Mem} {z c s : Nat} {a : Nat} : WP d 34 R 99 L (va_rf (some a) :: S) G z c s = (mK G a = 3 ∧ WP d 34 R 102 L (.int (mI G 3 3 a) :: S) G z c s) := q_getI cdE_34 dX3_step_99 owE_34 rfl (by decide)
theorem e_34_102 {d : Nat} {R : Rt} {L : Lo} {S : List Value} {G : Mem} {z c s : Nat} {a0 : Int32} {b : Nat} : WP d 34 R 102 L (.int a0 :: va_rf (some b) :: S) G z c s = ((mK G b = 3) ∧ S.length ≤ 4 ∧ c + 0 ≤ 0 ∧ s + 0 ≤ 0 ∧ CALL d 39 [va_rf (some b), .int a0] G z (rtn d 34 R 105 L S (c + 0) (s + 0))) := q_callV (as := [.int a0]) cdE_34 dX3_step_102 owE_34 rfl rfl rfl (by simp only [List.reverse_cons, List.reverse_nil, List.nil_append, List.cons_append, entL, isL_int, isL_long, isL_rf, Bool.false_eq_true, if_false, if_true, List.length_cons, List.length_nil, mxE_39]; decide) mcE_34 msE_34 mcE_39 msE_39
theorem e_34_105 {d : Nat} {R : Rt} {L : Lo} {S : List Value} {G : Mem} {z c s : Nat} {x : Int32} : WP d 34 R 105 L (.int x :: S) G z c s = if x = 0 then WP d 34 R 143 L S G z c s else WP d 34 R 108 L S G z c s := q_ifeq cdE_34 dX3_step_105 (by decide)
theorem e_34_108 {d : Nat} {R : Rt} {L : Lo} {S : List Value} {G : Mem} {z c s : Nat} : WP d 34 R 108 L S G z c s = (okR (lgo L 0) ∧ WP d 34 R 109 L (va_rf (vR (lgo L 0)) :: S) G z c s) := q_aload_n cdE_34 dX3_step_108 rfl
theorem e_34_109 {d : Nat} {R : Rt} {L : Lo} {S : List Value} {G : Mem} {z c s : Nat} {a : Nat} : WP d 34 R 109 L (va_rf (some a) :: S) G z c s = (mK G a = 3 ∧ WP d 34 R 112 L (.int (mI G 3 2 a) :: S) G z c s) := q_getI cdE_34 dX3_step_109 owE_34 rfl (by decide)
theorem e_34_112 {d : Nat} {R : Rt} {L : Lo} {S : List Value} {G : Mem} {z c s : Nat} : WP d 34 R 112 L S G z c s = (okR (lgo L 0) ∧ WP d 34 R 113 L (va_rf (vR (lgo L 0)) :: S) G z c s) := q_aload_n cdE_34 dX3_step_112 rfl
theorem e_34_113 {d : Nat} {R : Rt} {L : Lo} {S : List Value} {G : Mem} {z c s : Nat} {a : Nat} : WP d 34 R 113 L (va_rf (some a) :: S) G z c s = (mK G a = 3 ∧ WP d 34 R 116 L (.int (mI G 3 1 a) :: S) G z c s) := q_getI cdE_34 dX3_step_113 owE_34 rfl (by decide)
theorem e_34_116 {d : Nat} {R : Rt} {L : Lo} {S : List Value} {G : Mem} {z c s : Nat} {x y : Int32} : WP d 34 R 116 L (.int y :: .int x :: S) G z c s = if y ≤ x then WP d 34 R 164 L S G z c s else WP d 34 R 119 L S G z c s := q_icge cdE_34 dX3_step_116 (by decide)
theorem e_34_119 {d : Nat} {R : Rt} {L : Lo} {S : List Value} {G : Mem} {z c s : Nat} : WP d 34 R 119 L S G z c s = (okR (lgo L 0) ∧ WP d 34 R 120 L (va_rf (vR (lgo L 0)) :: S) G z c s) := q_aload_n cdE_34 dX3_step_119 rfl
theorem e_34_120 {d : Nat} {R : Rt} {L : Lo} {S : List Value} {G : Mem} {z c s : Nat} : WP d 34 R 120 L S G z c s = (okR (lgo L 0) ∧ WP d 34 R 121 L (va_rf (vR (lgo L 0)) :: S) G z c s) := q_aload_n cdE_34 dX3_step_120 rfl
theorem e_34_121 {d : Nat} {R : Rt} {L : Lo} {S : List Value} {G : Mem} {z c s : Nat} {a : Nat} : WP d 34 R 121 L (va_rf (some a) :: S) G z c s = (mK G a = 3 ∧ WP d 34 R 124 L (.int (mI G 3 2 a) :: S) G z c s) := q_getI cdE_34 dX3_step_121 owE_34 rfl (by decide)
theorem e_34_124 {d : Nat} {R : Rt} {L : Lo} {S : List Value} {G : Mem} {z c s : Nat} {a0 : Int32} {b : Nat} : WP d 34 R 124 L (.int a0 :: va_rf (some b) :: S) G z c s = ((mK G b = 3) ∧ S.length ≤ 4 ∧ c + 0 ≤ 0 ∧ s + 0 ≤ 0 ∧ CALL d 39 [va_rf (some b), .int a0] G z (rtn d 34 R 127 L S (c + 0) (s + 0))) := q_callV (as := [.int a0]) cdE_34 dX3_step_124 owE_34 rfl rfl rfl (by simp only [List.reverse_cons, List.reverse_nil, List.nil_append, List.cons_append, entL, isL_int, isL_long, isL_rf, Bool.false_eq_true, if_false, if_true, List.length_cons, List.length_nil, mxE_39]; decide) mcE_34 msE_34 mcE_39 msE_39
theorem e_34_127 {d : Nat} {R : Rt} {L : Lo} {S : List Value} {G : Mem} {z c s : Nat} {x : Int32} : WP d 34 R 127 L (.int x :: S) G z c s = if x = 0 then WP d 34 R 164 L S G z c s else WP d 34 R 130 L S G z c s := q_ifeq cdE_34 dX3_step_127 (by decide)
theorem e_34_130 {d : Nat} {R : Rt} {L : Lo} {S : List Value} {G : Mem} {z c s : Nat} : WP d 34 R 130 L S G z c s = (okR (lgo L 0) ∧ WP d 34 R 131 L (va_rf (vR (lgo L 0)) :: S) G z c s) := q_aload_n cdE_34 dX3_step_130 rfl
theorem e_34_131 {d : Nat} {R : Rt} {L : Lo} {S : List Value} {G : Mem} {z c s : Nat} {v : Value} : WP d 34 R 131 L (v :: S) G z c s = (isL v = false ∧ WP d 34 R 132 L (v :: v :: S) G z c s) := q_dup cdE_34 dX3_step_131
theorem e_34_132 {d : Nat} {R : Rt} {L : Lo} {S : List Value} {G : Mem} {z c s : Nat} {a : Nat} : WP d 34 R 132 L (va_rf (some a) :: S) G z c s = (mK G a = 3 ∧ WP d 34 R 135 L (.int (mI G 3 2 a) :: S) G z c s) := q_getI cdE_34 dX3_step_132 owE_34 rfl (by decide)
theorem e_34_135 {d : Nat} {R : Rt} {L : Lo} {S : List Value} {G : Mem} {z c s : Nat} : WP d 34 R 135 L S G z c s = WP d 34 R 136 L (.int 1 :: S) G z c s := q_iconst cdE_34 dX3_step_135 (by decide)
theorem e_34_136 {d : Nat} {R : Rt} {L : Lo} {S : List Value} {G : Mem} {z c s : Nat} {x y : Int32} : WP d 34 R 136 L (.int y :: .int x :: S) G z c s = WP d 34 R 137 L (.int (x + y) :: S) G z c s := q_iadd cdE_34 dX3_step_136
theorem e_34_137 {d : Nat} {R : Rt} {L : Lo} {S : List Value} {G : Mem} {z c s : Nat} {a : Nat} {v : Int32} : WP d 34 R 137 L (.int v :: va_rf (some a) :: S) G z c s = (mK G a = 3 ∧ WP d 34 R 140 L S (pI G 3 2 a v) z c s) := q_putI cdE_34 dX3_step_137 owE_34 rfl (by decide) rfl
theorem e_34_140 {d : Nat} {R : Rt} {L : Lo} {S : List Value} {G : Mem} {z c s : Nat} : WP d 34 R 140 L S G z c s = WP d 34 R 108 L S G z c s := q_goto cdE_34 dX3_step_140 (by decide)
theorem e_34_143 {d : Nat} {R : Rt} {L : Lo} {S : List Value} {G : Mem} {z c s : Nat} : WP d 34 R 143 L S G z c s = (okR (lgo L 0) ∧ WP d 34 R 144 L (va_rf (vR (lgo L 0)) :: S) G z c s) := q_aload_n cdE_34 dX3_step_143 rfl
theorem e_34_144 {d : Nat} {R : Rt} {L : Lo} {S : List Value} {G : Mem} {z c s : Nat} {a : Nat} : WP d 34 R 144 L (va_rf (some a) :: S) G z c s = (mK G a = 3 ∧ WP d 34 R 147 L (.int (mI G 3 3 a) :: S) G z c s) := q_getI cdE_34 dX3_step_144 owE_34 rfl (by decide)
theorem e_34_147 {d : Nat} {R : Rt} {L : Lo} {S : List Value} {G : Mem} {z c s : Nat} : WP d 34 R 147 L S G z c s = (okR (lgo L 0) ∧ WP d 34 R 148 L (va_rf (vR (lgo L 0)) :: S) G z c s) := q_aload_n cdE_34 dX3_step_147 rfl
theorem e_34_148 {d : Nat} {R : Rt} {L : Lo} {S : List Value} {G : Mem} {z c s : Nat} {a : Nat} : WP d 34 R 148 L (va_rf (some a) :: S) G z c s = (mK G a = 3 ∧ WP d 34 R 151 L (.int (mI G 3 1 a) :: S) G z c s) := q_getI cdE_34 dX3_step_148 owE_34 rfl (by decide)
theorem e_34_151 {d : Nat} {R : Rt} {L : Lo} {S : List Value} {G : Mem} {z c s : Nat} {x y : Int32} : WP d 34 R 151 L (.int y :: .int x :: S) G z c s = if y ≤ x then WP d 34 R 164 L S G z c s else WP d 34 R 154 L S G z c s := q_icge cdE_34 dX3_step_151 (by decide)
theorem e_34_154 {d : Nat} {R : Rt} {L : Lo} {S : List Value} {G : Mem} {z c s : Nat} : WP d 34 R 154 L S G z c s = (okR (lgo L 0) ∧ WP d 34 R 155 L (va_rf (vR (lgo L 0)) :: S) G z c s) := q_aload_n cdE_34 dX3_step_154 rfl
theorem e_34_155 {d : Nat} {R : Rt} {L : Lo} {S : List Value} {G : Mem} {z c s : Nat} {v : Value} : WP d 34 R 155 L (v :: S) G z c s = (isL v = false ∧ WP d 34 R 156 L (v :: v :: S) G z c s) := q_dup cdE_34 dX3_step_155
theorem e_34_156 {d : Nat} {R : Rt} {L : Lo} {S : List Value} {G : Mem} {z c s : Nat} {a : Nat} : WP d 34 R 156 L (va_rf (some a) :: S) G z c s = (mK G a = 3 ∧ WP d 34 R 159 L (.int (mI G 3 2 a) :: S) G z c s) := q_getI cdE_34 dX3_step_156 owE_34 rfl (by decide)
theorem e_34_159 {d : Nat} {R : Rt} {L : Lo} {S : List Value} {G : Mem} {z c s : Nat} : WP d 34 R 159 L S G z c s = WP d 34 R 160 L (.int 1 :: S) G z c s := q_iconst cdE_34 dX3_step_159 (by decide)
theorem e_34_160 {d : Nat} {R : Rt} {L : Lo} {S : List Value} {G : Mem} {z c s : Nat} {x y : Int32} : WP d 34 R 160 L (.int y :: .int x :: S) G z c s = WP d 34 R 161 L (.int (x + y) :: S) G z c s := q_iadd cdE_34 dX3_step_160
theorem e_34_161 {d : Nat} {R : Rt} {L : Lo} {S : List Value} {G : Mem} {z c s : Nat} {a : Nat} {v : Int32} : WP d 34 R 161 L (.int v :: va_rf (some a) :: S) G z c s = (mK G a = 3 ∧ WP d 34 R 164 L S (pI G 3 2 a v) z c s) := q_putI cdE_34 dX3_step_161 owE_34 rfl (by decide) rfl
theorem e_34_164 {d : Nat} {R : Rt} {L : Lo} {G : Mem} {z c s : Nat} : WP d 34 R 164 L [] G z c s = (c ≤ 0 ∧ s ≤ 0 ∧ R none G z) := q_vret cdE_34 dX3_step_164 rfl mcE_34 msE_34
theorem e_35_0 {d : Nat} {R : Rt} {L : Lo} {S : List Value} {G : Mem} {z c s : Nat} : WP d 35 R 0 L S G z c s = (okR (lgo L 0) ∧ WP d 35 R 1 L (va_rf (vR (lgo L 0)) :: S) G z c s) := q_aload_n cdE_35 dX3_holds_0 rfl
theorem e_35_1 {d : Nat} {R : Rt} {L : Lo} {S : List Value} {G : Mem} {z c s : Nat} {a : Nat} : WP d 35 R 1 L (va_rf (some a) :: S) G z c s = (mK G a = 3 ∧ WP d 35 R 4 L (.int (mI G 3 2 a) :: S) G z c s) := q_getI cdE_35 dX3_holds_1 owE_35 rfl (by decide)
theorem e_35_4 {d : Nat} {R : Rt} {L : Lo} {S : List Value} {G : Mem} {z c s : Nat} : WP d 35 R 4 L S G z c s = (okR (lgo L 0) ∧ WP d 35 R 5 L (va_rf (vR (lgo L 0)) :: S) G z c s) := q_aload_n cdE_35 dX3_holds_4 rfl
theorem e_35_5 {d : Nat} {R : Rt} {L : Lo} {S : List Value} {G : Mem} {z c s : Nat} {a : Nat} : WP d 35 R 5 L (va_rf (some a) :: S) G z c s = (mK G a = 3 ∧ WP d 35 R 8 L (.int (mI G 3 3 a) :: S) G z c s) := q_getI cdE_35 dX3_holds_5 owE_35 rfl (by decide)
theorem e_35_8 {d : Nat} {R : Rt} {L : Lo} {S : List Value} {G : Mem} {z c s : Nat} {x y : Int32} : WP d 35 R 8 L (.int y :: .int x :: S) G z c s = WP d 35 R 9 L (.int (x - y) :: S) G z c s := q_isub cdE_35 dX3_holds_8
theorem e_35_9 {d : Nat} {R : Rt} {L : Lo} {S : List Value} {G : Mem} {z c s : Nat} : WP d 35 R 9 L S G z c s = (okR (lgo L 1) ∧ WP d 35 R 10 L (va_rf (vR (lgo L 1)) :: S) G z c s) := q_aload_n cdE_35 dX3_holds_9 rfl
theorem e_35_10 {d : Nat} {R : Rt} {L : Lo} {S : List Value} {G : Mem} {z c s : Nat} {b : Nat} : WP d 35 R 10 L (va_rf (some b) :: S) G z c s = ((mI G 33 0 b = 1) ∧ S.length ≤ 4 ∧ c + 0 ≤ 0 ∧ s + 0 ≤ 0 ∧ CALL d 130 [va_rf (some b)] G z (rtn d 35 R 13 L S (c + 0) (s + 0))) := q_callV (as := []) cdE_35 dX3_holds_10 owE_35 rfl rfl rfl (by simp only [List.reverse_cons, List.reverse_nil, List.nil_append, List.cons_append, entL, isL_int, isL_long, isL_rf, Bool.false_eq_true, if_false, if_true, List.length_cons, List.length_nil, mxE_130]; decide) mcE_35 msE_35 mcE_130 msE_130
theorem e_35_13 {d : Nat} {R : Rt} {L : Lo} {S : List Value} {G : Mem} {z c s : Nat} {x y : Int32} : WP d 35 R 13 L (.int y :: .int x :: S) G z c s = if x = y then WP d 35 R 18 L S G z c s else WP d 35 R 16 L S G z c s := q_iceq cdE_35 dX3_holds_13 (by decide)
theorem e_35_16 {d : Nat} {R : Rt} {L : Lo} {S : List Value} {G : Mem} {z c s : Nat} : WP d 35 R 16 L S G z c s = WP d 35 R 17 L (.int 0 :: S) G z c s := q_iconst cdE_35 dX3_holds_16 (by decide)
theorem e_35_17 {d : Nat} {R : Rt} {L : Lo} {G : Mem} {z c s : Nat} {v : Int32} : WP d 35 R 17 L [.int v] G z c s = (narrow .boolean (.int v) = .int v ∧ c ≤ 0 ∧ s ≤ 0 ∧ R (some (.int v)) G z) := q_nret cdE_35 dX3_holds_17 rfl mcE_35 msE_35
theorem e_35_18 {d : Nat} {R : Rt} {L : Lo} {S : List Value} {G : Mem} {z c s : Nat} : WP d 35 R 18 L S G z c s = WP d 35 R 19 L (.int 0 :: S) G z c s := q_iconst cdE_35 dX3_holds_18 (by decide)
theorem e_35_19 {d : Nat} {R : Rt} {L : Lo} {S : List Value} {G : Mem} {z c s : Nat} {x : Int32} : WP d 35 R 19 L (.int x :: S) G z c s = (noL L 2 ∧ WP d 35 R 20 (lset L 2 (some (.int x))) S G z c s) := q_istore_n cdE_35 dX3_holds_19 rfl mxE_35 (by decide)
theorem e_35_20 {d : Nat} {R : Rt} {L : Lo} {S : List Value} {G : Mem} {z c s : Nat} : WP d 35 R 20 L S G z c s = (okI (lgo L 2) ∧ WP d 35 R 21 L (.int (vI (lgo L 2)) :: S) G z c s) := q_iload_n cdE_35 dX3_holds_20 rfl
theorem e_35_21 {d : Nat} {R : Rt} {L : Lo} {S : List Value} {G : Mem} {z c s : Nat} : WP d 35 R 21 L S G z c s = (okR (lgo L 1) ∧ WP d 35 R 22 L (va_rf (vR (lgo L 1)) :: S) G z c s) := q_aload_n cdE_35 dX3_holds_21 rfl
theorem e_35_22 {d : Nat} {R : Rt} {L : Lo} {S : List Value} {G : Mem} {z c s : Nat} {b : Nat} : WP d 35 R 22 L (va_rf (some b) :: S) G z c s = ((mI G 33 0 b = 1) ∧ S.length ≤ 4 ∧ c + 0 ≤ 0 ∧ s + 0 ≤ 0 ∧ CALL d 130 [va_rf (some b)] G z (rtn d 35 R 25 L S (c + 0) (s + 0))) := q_callV (as := []) cdE_35 dX3_holds_22 owE_35 rfl rfl rfl (by simp only [List.reverse_cons, List.reverse_nil, List.nil_append, List.cons_append, entL, isL_int, isL_long, isL_rf, Bool.false_eq_true, if_false, if_true, List.length_cons, List.length_nil, mxE_130]; decide) mcE_35 msE_35 mcE_130 msE_130
theorem e_35_25 {d : Nat} {R : Rt} {L : Lo} {S : List Value} {G : Mem} {z c s : Nat} {x y : Int32} : WP d 35 R 25 L (.int y :: .int x :: S) G z c s = if y ≤ x then WP d 35 R 54 L S G z c s else WP d 35 R 28 L S G z c s := q_icge cdE_35 dX3_holds_25 (by decide)
theorem e_35_28 {d : Nat} {R : Rt} {L : Lo} {S : List Value} {G : Mem} {z c s : Nat} : WP d 35 R 28 L S G z c s = (okR (lgo L 0) ∧ WP d 35 R 29 L (va_rf (vR (lgo L 0)) :: S) G z c s) := q_aload_n cdE_35 dX3_holds_28 rfl
theorem e_35_29 {d : Nat} {R : Rt} {L : Lo} {S : List Value} {G : Mem} {z c s : Nat} : WP d 35 R 29 L S G z c s = (okR (lgo L 0) ∧ WP d 35 R 30 L (va_rf (vR (lgo L 0)) :: S) G z c s) := q_aload_n cdE_35 dX3_holds_29 rfl
theorem e_35_30 {d : Nat} {R : Rt} {L : Lo} {S : List Value} {G : Mem} {z c s : Nat} {a : Nat} : WP d 35 R 30 L (va_rf (some a) :: S) G z c s = (mK G a = 3 ∧ WP d 35 R 33 L (.int (mI G 3 3 a) :: S) G z c s) := q_getI cdE_35 dX3_holds_30 owE_35 rfl (by decide)
theorem e_35_33 {d : Nat} {R : Rt} {L : Lo} {S : List Value} {G : Mem} {z c s : Nat} : WP d 35 R 33 L S G z c s = (okI (lgo L 2) ∧ WP d 35 R 34 L (.int (vI (lgo L 2)) :: S) G z c s) := q_iload_n cdE_35 dX3_holds_33 rfl
theorem e_35_34 {d : Nat} {R : Rt} {L : Lo} {S : List Value} {G : Mem} {z c s : Nat} {x y : Int32} : WP d 35 R 34 L (.int y :: .int x :: S) G z c s = WP d 35 R 35 L (.int (x + y) :: S) G z c s := q_iadd cdE_35 dX3_holds_34
theorem e_35_35 {d : Nat} {R : Rt} {L : Lo} {S : List Value} {G : Mem} {z c s : Nat} {a0 : Int32} {b : Nat} : WP d 35 R 35 L (.int a0 :: va_rf (some b) :: S) G z c s = ((mK G b = 3) ∧ S.length ≤ 4 ∧ c + 0 ≤ 0 ∧ s + 0 ≤ 0 ∧ CALL d 36 [va_rf (some b), .int a0] G z (rtn d 35 R 38 L S (c + 0) (s + 0))) := q_callV (as := [.int a0]) cdE_35 dX3_holds_35 owE_35 rfl rfl rfl (by simp only [List.reverse_cons, List.reverse_nil, List.nil_append, List.cons_append, entL, isL_int, isL_long, isL_rf, Bool.false_eq_true, if_false, if_true, List.length_cons, List.length_nil, mxE_36]; decide) mcE_35 msE_35 mcE_36 msE_36
theorem e_35_38 {d : Nat} {R : Rt} {L : Lo} {S : List Value} {G : Mem} {z c s : Nat} : WP d 35 R 38 L S G z c s = (okR (lgo L 1) ∧ WP d 35 R 39 L (va_rf (vR (lgo L 1)) :: S) G z c s) := q_aload_n cdE_35 dX3_holds_38 rfl
theorem e_35_39 {d : Nat} {R : Rt} {L : Lo} {S : List Value} {G : Mem} {z c s : Nat} : WP d 35 R 39 L S G z c s = (okI (lgo L 2) ∧ WP d 35 R 40 L (.int (vI (lgo L 2)) :: S) G z c s) := q_iload_n cdE_35 dX3_holds_39 rfl
theorem e_35_40 {d : Nat} {R : Rt} {L : Lo} {S : List Value} {G : Mem} {z c s : Nat} {a0 : Int32} {b : Nat} : WP d 35 R 40 L (.int a0 :: va_rf (some b) :: S) G z c s = ((mI G 33 0 b = 1) ∧ S.length ≤ 4 ∧ c + 0 ≤ 0 ∧ s + 0 ≤ 0 ∧ CALL d 131 [va_rf (some b), .int a0] G z (rtn d 35 R 43 L S (c + 0) (s + 0))) := q_callV (as := [.int a0]) cdE_35 dX3_holds_40 owE_35 rfl rfl rfl (by simp only [List.reverse_cons, List.reverse_nil, List.nil_append, List.cons_append, entL, isL_int, isL_long, isL_rf, Bool.false_eq_true, if_false, if_true, List.length_cons, List.length_nil, mxE_131]; decide) mcE_35 msE_35 mcE_131 msE_131
theorem e_35_43 {d : Nat} {R : Rt} {L : Lo} {S : List Value} {G : Mem} {z c s : Nat} {x y : Int32} : WP d 35 R 43 L (.int y :: .int x :: S) G z c s = if x = y then WP d 35 R 48 L S G z c s else WP d 35 R 46 L S G z c s := q_iceq cdE_35 dX3_holds_43 (by decide)
theorem e_35_46 {d : Nat} {R : Rt} {L : Lo} {S : List Value} {G : Mem} {z c s : Nat} : WP d 35 R 46 L S G z c s = WP d 35 R 47 L (.int 0 :: S) G z c s := q_iconst cdE_35 dX3_holds_46 (by decide)
theorem e_35_47 {d : Nat} {R : Rt} {L : Lo} {G : Mem} {z c s : Nat} {v : Int32} : WP d 35 R 47 L [.int v] G z c s = (narrow .boolean (.int v) = .int v ∧ c ≤ 0 ∧ s ≤ 0 ∧ R (some (.int v)) G z) := q_nret cdE_35 dX3_holds_47 rfl mcE_35 msE_35
theorem e_35_48 {d : Nat} {R : Rt} {L : Lo} {S : List Value} {G : Mem} {z c s : Nat} : WP d 35 R 48 L S G z c s = (okI (lgo L 2) ∧ noL L 2 ∧ WP d 35 R 51 (lset L 2 (some (.int (vI (lgo L 2) + 1)))) S G z c s) := q_iinc cdE_35 dX3_holds_48 mxE_35 (by decide) (by decide)
theorem e_35_51 {d : Nat} {R : Rt} {L : Lo} {S : List Value} {G : Mem} {z c s : Nat} : WP d 35 R 51 L S G z c s = WP d 35 R 20 L S G z c s := q_goto cdE_35 dX3_holds_51 (by decide)
theorem e_35_54 {d : Nat} {R : Rt} {L : Lo} {S : List Value} {G : Mem} {z c s : Nat} : WP d 35 R 54 L S G z c s = WP d 35 R 55 L (.int 1 :: S) G z c s := q_iconst cdE_35 dX3_holds_54 (by decide)
theorem e_35_55 {d : Nat} {R : Rt} {L : Lo} {G : Mem} {z c s : Nat} {v : Int32} : WP d 35 R 55 L [.int v] G z c s = (narrow .boolean (.int v) = .int v ∧ c ≤ 0 ∧ s ≤ 0 ∧ R (some (.int v)) G z) := q_nret cdE_35 dX3_holds_55 rfl mcE_35 msE_35
theorem e_36_0 {d : Nat} {R : Rt} {L : Lo} {S : List Value} {G : Mem} {z c s : Nat} : WP d 36 R 0 L S G z c s = (okI (lgo L 1) ∧ WP d 36 R 1 L (.int (vI (lgo L 1)) :: S) G z c s) := q_iload_n cdE_36 dX3_byteAt_0 rfl
theorem e_36_1 {d : Nat} {R : Rt} {L : Lo} {S : List Value} {G : Mem} {z c s : Nat} {x : Int32} : WP d 36 R 1 L (.int x :: S) G z c s = if x < 0 then WP d 36 R 21 L S G z c s else WP d 36 R 4 L S G z c s := q_iflt cdE_36 dX3_byteAt_1 (by decide)
theorem e_36_4 {d : Nat} {R : Rt} {L : Lo} {S : List Value} {G : Mem} {z c s : Nat} : WP d 36 R 4 L S G z c s = (okI (lgo L 1) ∧ WP d 36 R 5 L (.int (vI (lgo L 1)) :: S) G z c s) := q_iload_n cdE_36 dX3_byteAt_4 rfl
theorem e_36_5 {d : Nat} {R : Rt} {L : Lo} {S : List Value} {G : Mem} {z c s : Nat} : WP d 36 R 5 L S G z c s = (okR (lgo L 0) ∧ WP d 36 R 6 L (va_rf (vR (lgo L 0)) :: S) G z c s) := q_aload_n cdE_36 dX3_byteAt_5 rfl
theorem e_36_6 {d : Nat} {R : Rt} {L : Lo} {S : List Value} {G : Mem} {z c s : Nat} {a : Nat} : WP d 36 R 6 L (va_rf (some a) :: S) G z c s = (mK G a = 3 ∧ WP d 36 R 9 L (.int (mI G 3 1 a) :: S) G z c s) := q_getI cdE_36 dX3_byteAt_6 owE_36 rfl (by decide)
theorem e_36_9 {d : Nat} {R : Rt} {L : Lo} {S : List Value} {G : Mem} {z c s : Nat} {x y : Int32} : WP d 36 R 9 L (.int y :: .int x :: S) G z c s = if y ≤ x then WP d 36 R 21 L S G z c s else WP d 36 R 12 L S G z c s := q_icge cdE_36 dX3_byteAt_9 (by decide)
theorem e_36_12 {d : Nat} {R : Rt} {L : Lo} {S : List Value} {G : Mem} {z c s : Nat} : WP d 36 R 12 L S G z c s = (okR (lgo L 0) ∧ WP d 36 R 13 L (va_rf (vR (lgo L 0)) :: S) G z c s) := q_aload_n cdE_36 dX3_byteAt_12 rfl
theorem e_36_13 {d : Nat} {R : Rt} {L : Lo} {S : List Value} {G : Mem} {z c s : Nat} {a : Nat} : WP d 36 R 13 L (va_rf (some a) :: S) G z c s = (mK G a = 3 ∧ WP d 36 R 16 L (va_rf (mR G 3 0 a) :: S) G z c s) := q_getR cdE_36 dX3_byteAt_13 owE_36 rfl (by decide)
theorem e_36_16 {d : Nat} {R : Rt} {L : Lo} {S : List Value} {G : Mem} {z c s : Nat} : WP d 36 R 16 L S G z c s = (okI (lgo L 1) ∧ WP d 36 R 17 L (.int (vI (lgo L 1)) :: S) G z c s) := q_iload_n cdE_36 dX3_byteAt_16 rfl
theorem e_36_17 {d : Nat} {R : Rt} {L : Lo} {S : List Value} {G : Mem} {z c s : Nat} {a : Nat} {i : Int32} : WP d 36 R 17 L (.int i :: va_rf (some a) :: S) G z c s = ((mK G a = 21 ∨ mK G a = 22 ∨ mK G a = 26) ∧ vp_in i (mN G a) ∧ WP d 36 R 18 L (.int (mE G a i.toNatClampNeg) :: S) G z c s) := q_bald cdE_36 dX3_byteAt_17
theorem e_36_18 {d : Nat} {R : Rt} {L : Lo} {S : List Value} {G : Mem} {z c s : Nat} : WP d 36 R 18 L S G z c s = WP d 36 R 22 L S G z c s := q_goto cdE_36 dX3_byteAt_18 (by decide)
theorem e_36_21 {d : Nat} {R : Rt} {L : Lo} {S : List Value} {G : Mem} {z c s : Nat} : WP d 36 R 21 L S G z c s = WP d 36 R 22 L (.int 0 :: S) G z c s := q_iconst cdE_36 dX3_byteAt_21 (by decide)
theorem e_36_22 {d : Nat} {R : Rt} {L : Lo} {G : Mem} {z c s : Nat} {v : Int32} : WP d 36 R 22 L [.int v] G z c s = (c ≤ 0 ∧ s ≤ 0 ∧ R (some (.int v)) G z) := q_iret cdE_36 dX3_byteAt_22 rfl mcE_36 msE_36
theorem e_37_0 {d : Nat} {R : Rt} {L : Lo} {S : List Value} {G : Mem} {z c s : Nat} : WP d 37 R 0 L S G z c s = (okR (lgo L 0) ∧ WP d 37 R 1 L (va_rf (vR (lgo L 0)) :: S) G z c s) := q_aload_n cdE_37 dX3_isBlank_0 rfl
theorem e_37_1 {d : Nat} {R : Rt} {L : Lo} {S : List Value} {G : Mem} {z c s : Nat} : WP d 37 R 1 L S G z c s = (okI (lgo L 1) ∧ WP d 37 R 2 L (.int (vI (lgo L 1)) :: S) G z c s) := q_iload_n cdE_37 dX3_isBlank_1 rfl
theorem e_37_2 {d : Nat} {R : Rt} {L : Lo} {S : List Value} {G : Mem} {z c s : Nat} {a0 : Int32} {b : Nat} : WP d 37 R 2 L (.int a0 :: va_rf (some b) :: S) G z c s = ((mK G b = 3) ∧ S.length ≤ 4 ∧ c + 0 ≤ 0 ∧ s + 0 ≤ 0 ∧ CALL d 36 [va_rf (some b), .int a0] G z (rtn d 37 R 5 L S (c + 0) (s + 0))) := q_callV (as := [.int a0]) cdE_37 dX3_isBlank_2 owE_37 rfl rfl rfl (by simp only [List.reverse_cons, List.reverse_nil, List.nil_append, List.cons_append, entL, isL_int, isL_long, isL_rf, Bool.false_eq_true, if_false, if_true, List.length_cons, List.length_nil, mxE_36]; decide) mcE_37 msE_37 mcE_36 msE_36
theorem e_37_5 {d : Nat} {R : Rt} {L : Lo} {S : List Value} {G : Mem} {z c s : Nat} : WP d 37 R 5 L S G z c s = WP d 37 R 7 L (.int 32 :: S) G z c s := q_bipush cdE_37 dX3_isBlank_5 (by decide)
theorem e_37_7 {d : Nat} {R : Rt} {L : Lo} {S : List Value} {G : Mem} {z c s : Nat} {x y : Int32} : WP d 37 R 7 L (.int y :: .int x :: S) G z c s = if x = y then WP d 37 R 20 L S G z c s else WP d 37 R 10 L S G z c s := q_iceq cdE_37 dX3_isBlank_7 (by decide)
theorem e_37_10 {d : Nat} {R : Rt} {L : Lo} {S : List Value} {G : Mem} {z c s : Nat} : WP d 37 R 10 L S G z c s = (okR (lgo L 0) ∧ WP d 37 R 11 L (va_rf (vR (lgo L 0)) :: S) G z c s) := q_aload_n cdE_37 dX3_isBlank_10 rfl
theorem e_37_11 {d : Nat} {R : Rt} {L : Lo} {S : List Value} {G : Mem} {z c s : Nat} : WP d 37 R 11 L S G z c s = (okI (lgo L 1) ∧ WP d 37 R 12 L (.int (vI (lgo L 1)) :: S) G z c s) := q_iload_n cdE_37 dX3_isBlank_11 rfl
theorem e_37_12 {d : Nat} {R : Rt} {L : Lo} {S : List Value} {G : Mem} {z c s : Nat} {a0 : Int32} {b : Nat} : WP d 37 R 12 L (.int a0 :: va_rf (some b) :: S) G z c s = ((mK G b = 3) ∧ S.length ≤ 4 ∧ c + 0 ≤ 0 ∧ s + 0 ≤ 0 ∧ CALL d 36 [va_rf (some b), .int a0] G z (rtn d 37 R 15 L S (c + 0) (s + 0))) := q_callV (as := [.int a0]) cdE_37 dX3_isBlank_12 owE_37 rfl rfl rfl (by simp only [List.reverse_cons, List.reverse_nil, List.nil_append, List.cons_append, entL, isL_int, isL_long, isL_rf, Bool.false_eq_true, if_false, if_true, List.length_cons, List.length_nil, mxE_36]; decide) mcE_37 msE_37 mcE_36 msE_36
theorem e_37_15 {d : Nat} {R : Rt} {L : Lo} {S : List Value} {G : Mem} {z c s : Nat} : WP d 37 R 15 L S G z c s = WP d 37 R 17 L (.int 10 :: S) G z c s := q_bipush cdE_37 dX3_isBlank_15 (by decide)
theorem e_37_17 {d : Nat} {R : Rt} {L : Lo} {S : List Value} {G : Mem} {z c s : Nat} {x y : Int32} : WP d 37 R 17 L (.int y :: .int x :: S) G z c s = if x = y then WP d 37 R 20 L S G z c s else WP d 37 R 24 L S G z c s := q_icne cdE_37 dX3_isBlank_17 (by decide)
theorem e_37_20 {d : Nat} {R : Rt} {L : Lo} {S : List Value} {G : Mem} {z c s : Nat} : WP d 37 R 20 L S G z c s = WP d 37 R 21 L (.int 1 :: S) G z c s := q_iconst cdE_37 dX3_isBlank_20 (by decide)
theorem e_37_21 {d : Nat} {R : Rt} {L : Lo} {S : List Value} {G : Mem} {z c s : Nat} : WP d 37 R 21 L S G z c s = WP d 37 R 25 L S G z c s := q_goto cdE_37 dX3_isBlank_21 (by decide)
theorem e_37_24 {d : Nat} {R : Rt} {L : Lo} {S : List Value} {G : Mem} {z c s : Nat} : WP d 37 R 24 L S G z c s = WP d 37 R 25 L (.int 0 :: S) G z c s := q_iconst cdE_37 dX3_isBlank_24 (by decide)
theorem e_37_25 {d : Nat} {R : Rt} {L : Lo} {G : Mem} {z c s : Nat} {v : Int32} : WP d 37 R 25 L [.int v] G z c s = (narrow .boolean (.int v) = .int v ∧ c ≤ 0 ∧ s ≤ 0 ∧ R (some (.int v)) G z) := q_nret cdE_37 dX3_isBlank_25 rfl mcE_37 msE_37
theorem e_38_0 {d : Nat} {R : Rt} {L : Lo} {S : List Value} {G : Mem} {z c s : Nat} : WP d 38 R 0 L S G z c s = (okR (lgo L 0) ∧ WP d 38 R 1 L (va_rf (vR (lgo L 0)) :: S) G z c s) := q_aload_n cdE_38 dX3_isLetter_0 rfl
theorem e_38_1 {d : Nat} {R : Rt} {L : Lo} {S : List Value} {G : Mem} {z c s : Nat} : WP d 38 R 1 L S G z c s = (okI (lgo L 1) ∧ WP d 38 R 2 L (.int (vI (lgo L 1)) :: S) G z c s) := q_iload_n cdE_38 dX3_isLetter_1 rfl
theorem e_38_2 {d : Nat} {R : Rt} {L : Lo} {S : List Value} {G : Mem} {z c s : Nat} {a0 : Int32} {b : Nat} : WP d 38 R 2 L (.int a0 :: va_rf (some b) :: S) G z c s = ((mK G b = 3) ∧ S.length ≤ 4 ∧ c + 0 ≤ 0 ∧ s + 0 ≤ 0 ∧ CALL d 36 [va_rf (some b), .int a0] G z (rtn d 38 R 5 L S (c + 0) (s + 0))) := q_callV (as := [.int a0]) cdE_38 dX3_isLetter_2 owE_38 rfl rfl rfl (by simp only [List.reverse_cons, List.reverse_nil, List.nil_append, List.cons_append, entL, isL_int, isL_long, isL_rf, Bool.false_eq_true, if_false, if_true, List.length_cons, List.length_nil, mxE_36]; decide) mcE_38 msE_38 mcE_36 msE_36
theorem e_38_5 {d : Nat} {R : Rt} {L : Lo} {S : List Value} {G : Mem} {z c s : Nat} : WP d 38 R 5 L S G z c s = WP d 38 R 7 L (.int 97 :: S) G z c s := q_bipush cdE_38 dX3_isLetter_5 (by decide)
theorem e_38_7 {d : Nat} {R : Rt} {L : Lo} {S : List Value} {G : Mem} {z c s : Nat} : WP d 38 R 7 L S G z c s = WP d 38 R 9 L (.int 122 :: S) G z c s := q_bipush cdE_38 dX3_isLetter_7 (by decide)
theorem e_38_9 {d : Nat} {R : Rt} {L : Lo} {S : List Value} {G : Mem} {z c s : Nat} {a0 : Int32} {a1 : Int32} {a2 : Int32} : WP d 38 R 9 L (.int a2 :: .int a1 :: .int a0 :: S) G z c s = (S.length ≤ 4 ∧ c + 0 ≤ 0 ∧ s + 0 ≤ 0 ∧ CALL d 68 [.int a0, .int a1, .int a2] G z (rtn d 38 R 12 L S (c + 0) (s + 0))) := q_callS (as := [.int a2, .int a1, .int a0]) cdE_38 dX3_isLetter_9 owE_38 (Or.inr rfl) rfl rfl (by simp only [List.reverse_cons, List.reverse_nil, List.nil_append, List.cons_append, entL, isL_int, isL_long, isL_rf, Bool.false_eq_true, if_false, if_true, List.length_cons, List.length_nil, mxE_68]; decide) mcE_38 msE_38 mcE_68 msE_68
theorem e_38_12 {d : Nat} {R : Rt} {L : Lo} {G : Mem} {z c s : Nat} {v : Int32} : WP d 38 R 12 L [.int v] G z c s = (narrow .boolean (.int v) = .int v ∧ c ≤ 0 ∧ s ≤ 0 ∧ R (some (.int v)) G z) := q_nret cdE_38 dX3_isLetter_12 rfl mcE_38 msE_38
theorem e_39_0 {d : Nat} {R : Rt} {L : Lo} {S : List Value} {G : Mem} {z c s : Nat} : WP d 39 R 0 L S G z c s = (okR (lgo L 0) ∧ WP d 39 R 1 L (va_rf (vR (lgo L 0)) :: S) G z c s) := q_aload_n cdE_39 dX3_isDigit_0 rfl
theorem e_39_1 {d : Nat} {R : Rt} {L : Lo} {S : List Value} {G : Mem} {z c s : Nat} : WP d 39 R 1 L S G z c s = (okI (lgo L 1) ∧ WP d 39 R 2 L (.int (vI (lgo L 1)) :: S) G z c s) := q_iload_n cdE_39 dX3_isDigit_1 rfl
theorem e_39_2 {d : Nat} {R : Rt} {L : Lo} {S : List Value} {G : Mem} {z c s : Nat} {a0 : Int32} {b : Nat} : WP d 39 R 2 L (.int a0 :: va_rf (some b) :: S) G z c s = ((mK G b = 3) ∧ S.length ≤ 4 ∧ c + 0 ≤ 0 ∧ s + 0 ≤ 0 ∧ CALL d 36 [va_rf (some b), .int a0] G z (rtn d 39 R 5 L S (c + 0) (s + 0))) := q_callV (as := [.int a0]) cdE_39 dX3_isDigit_2 owE_39 rfl rfl rfl (by simp only [List.reverse_cons, List.reverse_nil, List.nil_append, List.cons_append, entL, isL_int, isL_long, isL_rf, Bool.false_eq_true, if_false, if_true, List.length_cons, List.length_nil, mxE_36]; decide) mcE_39 msE_39 mcE_36 msE_36
theorem e_39_5 {d : Nat} {R : Rt} {L : Lo} {S : List Value} {G : Mem} {z c s : Nat} : WP d 39 R 5 L S G z c s = WP d 39 R 7 L (.int 48 :: S) G z c s := q_bipush cdE_39 dX3_isDigit_5 (by decide)
theorem e_39_7 {d : Nat} {R : Rt} {L : Lo} {S : List Value} {G : Mem} {z c s : Nat} : WP d 39 R 7 L S G z c s = WP d 39 R 9 L (.int 57 :: S) G z c s := q_bipush cdE_39 dX3_isDigit_7 (by decide)
theorem e_39_9 {d : Nat} {R : Rt} {L : Lo} {S : List Value} {G : Mem} {z c s : Nat} {a0 : Int32} {a1 : Int32} {a2 : Int32} : WP d 39 R 9 L (.int a2 :: .int a1 :: .int a0 :: S) G z c s = (S.length ≤ 4 ∧ c + 0 ≤ 0 ∧ s + 0 ≤ 0 ∧ CALL d 68 [.int a0, .int a1, .int a2] G z (rtn d 39 R 12 L S (c + 0) (s + 0))) := q_callS (as := [.int a2, .int a1, .int a0]) cdE_39 dX3_isDigit_9 owE_39 (Or.inr rfl) rfl rfl (by simp only [List.reverse_cons, List.reverse_nil, List.nil_append, List.cons_append, entL, isL_int, isL_long, isL_rf, Bool.false_eq_true, if_false, if_true, List.length_cons, List.length_nil, mxE_68]; decide) mcE_39 msE_39 mcE_68 msE_68
theorem e_39_12 {d : Nat} {R : Rt} {L : Lo} {G : Mem} {z c s : Nat} {v : Int32} : WP d 39 R 12 L [.int v] G z c s = (narrow .boolean (.int v) = .int v ∧ c ≤ 0 ∧ s ≤ 0 ∧ R (some (.int v)) G z) := q_nret cdE_39 dX3_isDigit_12 rfl mcE_39 msE_39
theorem e_40_0 {d : Nat} {R : Rt} {L : Lo} {S : List Value} {G : Mem} {z c s : Nat} : WP d 40 R 0 L S G z c s = (okR (lgo L 0) ∧ WP d 40 R 1 L (va_rf (vR (lgo L 0)) :: S) G z c s) := q_aload_n cdE_40 dX4_init_0 rfl
theorem e_40_1 {d : Nat} {R : Rt} {L : Lo} {S : List Value} {G : Mem} {z c s : Nat} {b : Nat} : WP d 40 R 1 L (va_rf (some b) :: S) G z c s = (S.length ≤ 4 ∧ WP d 40 R 4 L S G z c s) := q_obj cdE_40 dX4_init_1 owE_40 (j2 := 0) rfl
theorem e_40_4 {d : Nat} {R : Rt} {L : Lo} {S : List Value} {G : Mem} {z c s : Nat} : WP d 40 R 4 L S G z c s = (okR (lgo L 0) ∧ WP d 40 R 5 L (va_rf (vR (lgo L 0)) :: S) G z c s) := q_aload_n cdE_40 dX4_init_4 rfl
theorem e_40_5 {d : Nat} {R : Rt} {L : Lo} {S : List Value} {G : Mem} {z c s : Nat} : WP d 40 R 5 L S G z c s = (okI (lgo L 1) ∧ WP d 40 R 6 L (.int (vI (lgo L 1)) :: S) G z c s) := q_iload_n cdE_40 dX4_init_5 rfl
theorem e_40_6 {d : Nat} {R : Rt} {L : Lo} {S : List Value} {G : Mem} {z c s : Nat} {a : Nat} {v : Int32} : WP d 40 R 6 L (.int v :: va_rf (some a) :: S) G z c s = (mK G a = 4 ∧ WP d 40 R 9 L S (pI G 4 0 a v) z c s) := q_putI cdE_40 dX4_init_6 owE_40 rfl (by decide) rfl
theorem e_40_9 {d : Nat} {R : Rt} {L : Lo} {S : List Value} {G : Mem} {z c s : Nat} : WP d 40 R 9 L S G z c s = (okR (lgo L 0) ∧ WP d 40 R 10 L (va_rf (vR (lgo L 0)) :: S) G z c s) := q_aload_n cdE_40 dX4_init_9 rfl
theorem e_40_10 {d : Nat} {R : Rt} {L : Lo} {S : List Value} {G : Mem} {z c s : Nat} : WP d 40 R 10 L S G z c s = (okI (lgo L 2) ∧ WP d 40 R 11 L (.int (vI (lgo L 2)) :: S) G z c s) := q_iload_n cdE_40 dX4_init_10 rfl
theorem e_40_11 {d : Nat} {R : Rt} {L : Lo} {S : List Value} {G : Mem} {z c s : Nat} {a : Nat} {v : Int32} : WP d 40 R 11 L (.int v :: va_rf (some a) :: S) G z c s = (mK G a = 4 ∧ WP d 40 R 14 L S (pI G 4 1 a v) z c s) := q_putI cdE_40 dX4_init_11 owE_40 rfl (by decide) rfl
theorem e_40_14 {d : Nat} {R : Rt} {L : Lo} {S : List Value} {G : Mem} {z c s : Nat} : WP d 40 R 14 L S G z c s = (okR (lgo L 0) ∧ WP d 40 R 15 L (va_rf (vR (lgo L 0)) :: S) G z c s) := q_aload_n cdE_40 dX4_init_14 rfl
theorem e_40_15 {d : Nat} {R : Rt} {L : Lo} {S : List Value} {G : Mem} {z c s : Nat} : WP d 40 R 15 L S G z c s = (okI (lgo L 3) ∧ WP d 40 R 16 L (.int (vI (lgo L 3)) :: S) G z c s) := q_iload_n cdE_40 dX4_init_15 rfl
theorem e_40_16 {d : Nat} {R : Rt} {L : Lo} {S : List Value} {G : Mem} {z c s : Nat} {a : Nat} {v : Int32} : WP d 40 R 16 L (.int v :: va_rf (some a) :: S) G z c s = (mK G a = 4 ∧ WP d 40 R 19 L S (pI G 4 2 a v) z c s) := q_putI cdE_40 dX4_init_16 owE_40 rfl (by decide) rfl
theorem e_40_19 {d : Nat} {R : Rt} {L : Lo} {S : List Value} {G : Mem} {z c s : Nat} : WP d 40 R 19 L S G z c s = (okR (lgo L 0) ∧ WP d 40 R 20 L (va_rf (vR (lgo L 0)) :: S) G z c s) := q_aload_n cdE_40 dX4_init_19 rfl
theorem e_40_20 {d : Nat} {R : Rt} {L : Lo} {S : List Value} {G : Mem} {z c s : Nat} : WP d 40 R 20 L S G z c s = (okI (lgo L 4) ∧ WP d 40 R 22 L (.int (vI (lgo L 4)) :: S) G z c s) := q_iload cdE_40 dX4_init_20
theorem e_40_22 {d : Nat} {R : Rt} {L : Lo} {S : List Value} {G : Mem} {z c s : Nat} {a : Nat} {v : Int32} : WP d 40 R 22 L (.int v :: va_rf (some a) :: S) G z c s = (mK G a = 4 ∧ WP d 40 R 25 L S (pI G 4 3 a v) z c s) := q_putI cdE_40 dX4_init_22 owE_40 rfl (by decide) rfl
theorem e_40_25 {d : Nat} {R : Rt} {L : Lo} {G : Mem} {z c s : Nat} : WP d 40 R 25 L [] G z c s = (c ≤ 0 ∧ s ≤ 0 ∧ R none G z) := q_vret cdE_40 dX4_init_25 rfl mcE_40 msE_40
theorem e_41_0 {d : Nat} {R : Rt} {L : Lo} {S : List Value} {G : Mem} {z c s : Nat} : WP d 41 R 0 L S G z c s = (okR (lgo L 0) ∧ WP d 41 R 1 L (va_rf (vR (lgo L 0)) :: S) G z c s) := q_aload_n cdE_41 dX4_milesTo_0 rfl
theorem e_41_1 {d : Nat} {R : Rt} {L : Lo} {S : List Value} {G : Mem} {z c s : Nat} {a : Nat} : WP d 41 R 1 L (va_rf (some a) :: S) G z c s = (mK G a = 4 ∧ WP d 41 R 4 L (.int (mI G 4 1 a) :: S) G z c s) := q_getI cdE_41 dX4_milesTo_1 owE_41 rfl (by decide)
theorem e_41_4 {d : Nat} {R : Rt} {L : Lo} {S : List Value} {G : Mem} {z c s : Nat} : WP d 41 R 4 L S G z c s = (okR (lgo L 1) ∧ WP d 41 R 5 L (va_rf (vR (lgo L 1)) :: S) G z c s) := q_aload_n cdE_41 dX4_milesTo_4 rfl
theorem e_41_5 {d : Nat} {R : Rt} {L : Lo} {S : List Value} {G : Mem} {z c s : Nat} {a : Nat} : WP d 41 R 5 L (va_rf (some a) :: S) G z c s = (mK G a = 4 ∧ WP d 41 R 8 L (.int (mI G 4 1 a) :: S) G z c s) := q_getI cdE_41 dX4_milesTo_5 owE_41 rfl (by decide)
theorem e_41_8 {d : Nat} {R : Rt} {L : Lo} {S : List Value} {G : Mem} {z c s : Nat} {x y : Int32} : WP d 41 R 8 L (.int y :: .int x :: S) G z c s = WP d 41 R 9 L (.int (x - y) :: S) G z c s := q_isub cdE_41 dX4_milesTo_8
theorem e_41_9 {d : Nat} {R : Rt} {L : Lo} {S : List Value} {G : Mem} {z c s : Nat} {x : Int32} : WP d 41 R 9 L (.int x :: S) G z c s = (S.length ≤ 4 ∧ c ≤ 0 ∧ s ≤ 0 ∧ WP d 41 R 12 L (.int (if 0 ≤ x then x else 0 - x) :: S) G z c s) := q_abs cdE_41 dX4_milesTo_9 owE_41 (j2 := 0) rfl mcE_41 msE_41
theorem e_41_12 {d : Nat} {R : Rt} {L : Lo} {G : Mem} {z c s : Nat} {v : Int32} : WP d 41 R 12 L [.int v] G z c s = (c ≤ 0 ∧ s ≤ 0 ∧ R (some (.int v)) G z) := q_iret cdE_41 dX4_milesTo_12 rfl mcE_41 msE_41
theorem e_42_0 {d : Nat} {R : Rt} {L : Lo} {S : List Value} {G : Mem} {z c s : Nat} : WP d 42 R 0 L S G z c s = (okR (lgo L 0) ∧ WP d 42 R 1 L (va_rf (vR (lgo L 0)) :: S) G z c s) := q_aload_n cdE_42 dX5_init_0 rfl
theorem e_42_1 {d : Nat} {R : Rt} {L : Lo} {S : List Value} {G : Mem} {z c s : Nat} {b : Nat} : WP d 42 R 1 L (va_rf (some b) :: S) G z c s = (S.length ≤ 4 ∧ WP d 42 R 4 L S G z c s) := q_obj cdE_42 dX5_init_1 owE_42 (j2 := 0) rfl
theorem e_42_4 {d : Nat} {R : Rt} {L : Lo} {S : List Value} {G : Mem} {z c s : Nat} : WP d 42 R 4 L S G z c s = (okR (lgo L 0) ∧ WP d 42 R 5 L (va_rf (vR (lgo L 0)) :: S) G z c s) := q_aload_n cdE_42 dX5_init_4 rfl
theorem e_42_5 {d : Nat} {R : Rt} {L : Lo} {S : List Value} {G : Mem} {z c s : Nat} : WP d 42 R 5 L S G z c s = (okI (lgo L 1) ∧ WP d 42 R 6 L (.int (vI (lgo L 1)) :: S) G z c s) := q_iload_n cdE_42 dX5_init_5 rfl
theorem e_42_6 {d : Nat} {R : Rt} {L : Lo} {S : List Value} {G : Mem} {z c s : Nat} {a : Nat} {v : Int32} : WP d 42 R 6 L (.int v :: va_rf (some a) :: S) G z c s = (mK G a = 5 ∧ WP d 42 R 9 L S (pI G 5 0 a v) z c s) := q_putI cdE_42 dX5_init_6 owE_42 rfl (by decide) rfl
theorem e_42_9 {d : Nat} {R : Rt} {L : Lo} {S : List Value} {G : Mem} {z c s : Nat} : WP d 42 R 9 L S G z c s = (okR (lgo L 0) ∧ WP d 42 R 10 L (va_rf (vR (lgo L 0)) :: S) G z c s) := q_aload_n cdE_42 dX5_init_9 rfl
theorem e_42_10 {d : Nat} {R : Rt} {L : Lo} {S : List Value} {G : Mem} {z c s : Nat} : WP d 42 R 10 L S G z c s = (okI (lgo L 2) ∧ WP d 42 R 11 L (.int (vI (lgo L 2)) :: S) G z c s) := q_iload_n cdE_42 dX5_init_10 rfl
theorem e_42_11 {d : Nat} {R : Rt} {L : Lo} {S : List Value} {G : Mem} {z c s : Nat} {a : Nat} {v : Int32} : WP d 42 R 11 L (.int v :: va_rf (some a) :: S) G z c s = (mK G a = 5 ∧ WP d 42 R 14 L S (pI G 5 1 a v) z c s) := q_putI cdE_42 dX5_init_11 owE_42 rfl (by decide) rfl
theorem e_42_14 {d : Nat} {R : Rt} {L : Lo} {S : List Value} {G : Mem} {z c s : Nat} : WP d 42 R 14 L S G z c s = (okR (lgo L 0) ∧ WP d 42 R 15 L (va_rf (vR (lgo L 0)) :: S) G z c s) := q_aload_n cdE_42 dX5_init_14 rfl
theorem e_42_15 {d : Nat} {R : Rt} {L : Lo} {S : List Value} {G : Mem} {z c s : Nat} : WP d 42 R 15 L S G z c s = (okI (lgo L 3) ∧ WP d 42 R 16 L (.int (vI (lgo L 3)) :: S) G z c s) := q_iload_n cdE_42 dX5_init_15 rfl
theorem e_42_16 {d : Nat} {R : Rt} {L : Lo} {S : List Value} {G : Mem} {z c s : Nat} {a : Nat} {v : Int32} : WP d 42 R 16 L (.int v :: va_rf (some a) :: S) G z c s = (mK G a = 5 ∧ WP d 42 R 19 L S (pI G 5 2 a v) z c s) := q_putI cdE_42 dX5_init_16 owE_42 rfl (by decide) rfl
theorem e_42_19 {d : Nat} {R : Rt} {L : Lo} {S : List Value} {G : Mem} {z c s : Nat} : WP d 42 R 19 L S G z c s = (okR (lgo L 0) ∧ WP d 42 R 20 L (va_rf (vR (lgo L 0)) :: S) G z c s) := q_aload_n cdE_42 dX5_init_19 rfl
theorem e_42_20 {d : Nat} {R : Rt} {L : Lo} {S : List Value} {G : Mem} {z c s : Nat} : WP d 42 R 20 L S G z c s = (okR (lgo L 4) ∧ WP d 42 R 22 L (va_rf (vR (lgo L 4)) :: S) G z c s) := q_aload cdE_42 dX5_init_20
theorem e_42_22 {d : Nat} {R : Rt} {L : Lo} {S : List Value} {G : Mem} {z c s : Nat} {a : Nat} {r : Option Nat} : WP d 42 R 22 L (va_rf r :: va_rf (some a) :: S) G z c s = (mK G a = 5 ∧ WP d 42 R 25 L S (pR G 5 3 a r) z c s) := q_putR cdE_42 dX5_init_22 owE_42 rfl (by decide) (by decide)
theorem e_42_25 {d : Nat} {R : Rt} {L : Lo} {G : Mem} {z c s : Nat} : WP d 42 R 25 L [] G z c s = (c ≤ 0 ∧ s ≤ 0 ∧ R none G z) := q_vret cdE_42 dX5_init_25 rfl mcE_42 msE_42
theorem e_43_0 {d : Nat} {R : Rt} {L : Lo} {S : List Value} {G : Mem} {z c s : Nat} : WP d 43 R 0 L S G z c s = (okR (lgo L 0) ∧ WP d 43 R 1 L (va_rf (vR (lgo L 0)) :: S) G z c s) := q_aload_n cdE_43 dX6_init_0 rfl
theorem e_43_1 {d : Nat} {R : Rt} {L : Lo} {S : List Value} {G : Mem} {z c s : Nat} {b : Nat} : WP d 43 R 1 L (va_rf (some b) :: S) G z c s = (S.length ≤ 4 ∧ WP d 43 R 4 L S G z c s) := q_obj cdE_43 dX6_init_1 owE_43 (j2 := 0) rfl
theorem e_43_4 {d : Nat} {R : Rt} {L : Lo} {S : List Value} {G : Mem} {z c s : Nat} : WP d 43 R 4 L S G z c s = (okR (lgo L 0) ∧ WP d 43 R 5 L (va_rf (vR (lgo L 0)) :: S) G z c s) := q_aload_n cdE_43 dX6_init_4 rfl
theorem e_43_5 {d : Nat} {R : Rt} {L : Lo} {S : List Value} {G : Mem} {z c s : Nat} : WP d 43 R 5 L S G z c s = (okI (lgo L 1) ∧ WP d 43 R 6 L (.int (vI (lgo L 1)) :: S) G z c s) := q_iload_n cdE_43 dX6_init_5 rfl
theorem e_43_6 {d : Nat} {R : Rt} {L : Lo} {S : List Value} {G : Mem} {z c s : Nat} {a : Nat} {v : Int32} : WP d 43 R 6 L (.int v :: va_rf (some a) :: S) G z c s = (mK G a = 6 ∧ WP d 43 R 9 L S (pI G 6 0 a v) z c s) := q_putI cdE_43 dX6_init_6 owE_43 rfl (by decide) rfl
theorem e_43_9 {d : Nat} {R : Rt} {L : Lo} {S : List Value} {G : Mem} {z c s : Nat} : WP d 43 R 9 L S G z c s = (okR (lgo L 0) ∧ WP d 43 R 10 L (va_rf (vR (lgo L 0)) :: S) G z c s) := q_aload_n cdE_43 dX6_init_9 rfl
theorem e_43_10 {d : Nat} {R : Rt} {L : Lo} {S : List Value} {G : Mem} {z c s : Nat} : WP d 43 R 10 L S G z c s = (okI (lgo L 2) ∧ WP d 43 R 11 L (.int (vI (lgo L 2)) :: S) G z c s) := q_iload_n cdE_43 dX6_init_10 rfl
theorem e_43_11 {d : Nat} {R : Rt} {L : Lo} {S : List Value} {G : Mem} {z c s : Nat} {a : Nat} {v : Int32} : WP d 43 R 11 L (.int v :: va_rf (some a) :: S) G z c s = (mK G a = 6 ∧ WP d 43 R 14 L S (pI G 6 1 a v) z c s) := q_putI cdE_43 dX6_init_11 owE_43 rfl (by decide) rfl
theorem e_43_14 {d : Nat} {R : Rt} {L : Lo} {S : List Value} {G : Mem} {z c s : Nat} : WP d 43 R 14 L S G z c s = (okR (lgo L 0) ∧ WP d 43 R 15 L (va_rf (vR (lgo L 0)) :: S) G z c s) := q_aload_n cdE_43 dX6_init_14 rfl
theorem e_43_15 {d : Nat} {R : Rt} {L : Lo} {S : List Value} {G : Mem} {z c s : Nat} : WP d 43 R 15 L S G z c s = (okI (lgo L 3) ∧ WP d 43 R 16 L (.int (vI (lgo L 3)) :: S) G z c s) := q_iload_n cdE_43 dX6_init_15 rfl
theorem e_43_16 {d : Nat} {R : Rt} {L : Lo} {S : List Value} {G : Mem} {z c s : Nat} {a : Nat} {v : Int32} : WP d 43 R 16 L (.int v :: va_rf (some a) :: S) G z c s = (mK G a = 6 ∧ WP d 43 R 19 L S (pI G 6 2 a v) z c s) := q_putI cdE_43 dX6_init_16 owE_43 rfl (by decide) rfl
theorem e_43_19 {d : Nat} {R : Rt} {L : Lo} {S : List Value} {G : Mem} {z c s : Nat} : WP d 43 R 19 L S G z c s = (okR (lgo L 0) ∧ WP d 43 R 20 L (va_rf (vR (lgo L 0)) :: S) G z c s) := q_aload_n cdE_43 dX6_init_19 rfl
theorem e_43_20 {d : Nat} {R : Rt} {L : Lo} {S : List Value} {G : Mem} {z c s : Nat} : WP d 43 R 20 L S G z c s = (okI (lgo L 4) ∧ WP d 43 R 22 L (.int (vI (lgo L 4)) :: S) G z c s) := q_iload cdE_43 dX6_init_20
theorem e_43_22 {d : Nat} {R : Rt} {L : Lo} {S : List Value} {G : Mem} {z c s : Nat} {a : Nat} {v : Int32} : WP d 43 R 22 L (.int v :: va_rf (some a) :: S) G z c s = (mK G a = 6 ∧ (v = 0 ∨ v = 1) ∧ WP d 43 R 25 L S (pI G 6 3 a v) z c s) := q_putZ cdE_43 dX6_init_22 owE_43 rfl (by decide) rfl
theorem e_43_25 {d : Nat} {R : Rt} {L : Lo} {S : List Value} {G : Mem} {z c s : Nat} : WP d 43 R 25 L S G z c s = (okR (lgo L 0) ∧ WP d 43 R 26 L (va_rf (vR (lgo L 0)) :: S) G z c s) := q_aload_n cdE_43 dX6_init_25 rfl
theorem e_43_26 {d : Nat} {R : Rt} {L : Lo} {S : List Value} {G : Mem} {z c s : Nat} : WP d 43 R 26 L S G z c s = (okI (lgo L 5) ∧ WP d 43 R 28 L (.int (vI (lgo L 5)) :: S) G z c s) := q_iload cdE_43 dX6_init_26
theorem e_43_28 {d : Nat} {R : Rt} {L : Lo} {S : List Value} {G : Mem} {z c s : Nat} {a : Nat} {v : Int32} : WP d 43 R 28 L (.int v :: va_rf (some a) :: S) G z c s = (mK G a = 6 ∧ WP d 43 R 31 L S (pI G 6 4 a v) z c s) := q_putI cdE_43 dX6_init_28 owE_43 rfl (by decide) rfl
theorem e_43_31 {d : Nat} {R : Rt} {L : Lo} {S : List Value} {G : Mem} {z c s : Nat} : WP d 43 R 31 L S G z c s = (okR (lgo L 0) ∧ WP d 43 R 32 L (va_rf (vR (lgo L 0)) :: S) G z c s) := q_aload_n cdE_43 dX6_init_31 rfl
theorem e_43_32 {d : Nat} {R : Rt} {L : Lo} {S : List Value} {G : Mem} {z c s : Nat} : WP d 43 R 32 L S G z c s = (okI (lgo L 6) ∧ WP d 43 R 34 L (.int (vI (lgo L 6)) :: S) G z c s) := q_iload cdE_43 dX6_init_32
theorem e_43_34 {d : Nat} {R : Rt} {L : Lo} {S : List Value} {G : Mem} {z c s : Nat} {a : Nat} {v : Int32} : WP d 43 R 34 L (.int v :: va_rf (some a) :: S) G z c s = (mK G a = 6 ∧ WP d 43 R 37 L S (pI G 6 5 a v) z c s) := q_putI cdE_43 dX6_init_34 owE_43 rfl (by decide) rfl
theorem e_43_37 {d : Nat} {R : Rt} {L : Lo} {S : List Value} {G : Mem} {z c s : Nat} : WP d 43 R 37 L S G z c s = (okR (lgo L 0) ∧ WP d 43 R 38 L (va_rf (vR (lgo L 0)) :: S) G z c s) := q_aload_n cdE_43 dX6_init_37 rfl
theorem e_43_38 {d : Nat} {R : Rt} {L : Lo} {S : List Value} {G : Mem} {z c s : Nat} : WP d 43 R 38 L S G z c s = WP d 43 R 40 L (.int 60 :: S) G z c s := q_bipush cdE_43 dX6_init_38 (by decide)
theorem e_43_40 {d : Nat} {R : Rt} {L : Lo} {S : List Value} {G : Mem} {z c s : Nat} {n : Int32} : WP d 43 R 40 L (.int n :: S) G z c s = (¬ n < 0 ∧ n.toNatClampNeg ≤ 100000 ∧ c + 1 ≤ 1 ∧ s + n.toNatClampNeg ≤ 60 ∧ WP d 43 R 43 L (va_rf (some z) :: S) (nA G z 23 n.toNatClampNeg) (z + 1) (c + 1) (s + n.toNatClampNeg)) := q_anew cdE_43 dX6_init_40 owE_43 rfl rfl mcE_43 msE_43
theorem e_43_43 {d : Nat} {R : Rt} {L : Lo} {S : List Value} {G : Mem} {z c s : Nat} {a : Nat} {r : Option Nat} : WP d 43 R 43 L (va_rf r :: va_rf (some a) :: S) G z c s = (mK G a = 6 ∧ WP d 43 R 46 L S (pR G 6 6 a r) z c s) := q_putR cdE_43 dX6_init_43 owE_43 rfl (by decide) (by decide)
theorem e_43_46 {d : Nat} {R : Rt} {L : Lo} {G : Mem} {z c s : Nat} : WP d 43 R 46 L [] G z c s = (c ≤ 1 ∧ s ≤ 60 ∧ R none G z) := q_vret cdE_43 dX6_init_46 rfl mcE_43 msE_43
theorem e_44_0 {d : Nat} {R : Rt} {L : Lo} {S : List Value} {G : Mem} {z c s : Nat} : WP d 44 R 0 L S G z c s = (okI (lgo L 1) ∧ WP d 44 R 1 L (.int (vI (lgo L 1)) :: S) G z c s) := q_iload_n cdE_44 dX6_hallIn_0 rfl
theorem e_44_1 {d : Nat} {R : Rt} {L : Lo} {S : List Value} {G : Mem} {z c s : Nat} {a0 : Int32} : WP d 44 R 1 L (.int a0 :: S) G z c s = (S.length ≤ 4 ∧ c + 0 ≤ 0 ∧ s + 0 ≤ 0 ∧ CALL d 69 [.int a0] G z (rtn d 44 R 4 L S (c + 0) (s + 0))) := q_callS (as := [.int a0]) cdE_44 dX6_hallIn_1 owE_44 (Or.inr rfl) rfl rfl (by simp only [List.reverse_cons, List.reverse_nil, List.nil_append, List.cons_append, entL, isL_int, isL_long, isL_rf, Bool.false_eq_true, if_false, if_true, List.length_cons, List.length_nil, mxE_69]; decide) mcE_44 msE_44 mcE_69 msE_69
theorem e_44_4 {d : Nat} {R : Rt} {L : Lo} {S : List Value} {G : Mem} {z c s : Nat} {x : Int32} : WP d 44 R 4 L (.int x :: S) G z c s = if x = 0 then WP d 44 R 16 L S G z c s else WP d 44 R 7 L S G z c s := q_ifeq cdE_44 dX6_hallIn_4 (by decide)
theorem e_44_7 {d : Nat} {R : Rt} {L : Lo} {S : List Value} {G : Mem} {z c s : Nat} : WP d 44 R 7 L S G z c s = (okR (lgo L 0) ∧ WP d 44 R 8 L (va_rf (vR (lgo L 0)) :: S) G z c s) := q_aload_n cdE_44 dX6_hallIn_7 rfl
theorem e_44_8 {d : Nat} {R : Rt} {L : Lo} {S : List Value} {G : Mem} {z c s : Nat} {a : Nat} : WP d 44 R 8 L (va_rf (some a) :: S) G z c s = (mK G a = 6 ∧ WP d 44 R 11 L (va_rf (mR G 6 6 a) :: S) G z c s) := q_getR cdE_44 dX6_hallIn_8 owE_44 rfl (by decide)
theorem e_44_11 {d : Nat} {R : Rt} {L : Lo} {S : List Value} {G : Mem} {z c s : Nat} : WP d 44 R 11 L S G z c s = (okI (lgo L 1) ∧ WP d 44 R 12 L (.int (vI (lgo L 1)) :: S) G z c s) := q_iload_n cdE_44 dX6_hallIn_11 rfl
theorem e_44_12 {d : Nat} {R : Rt} {L : Lo} {S : List Value} {G : Mem} {z c s : Nat} {a : Nat} {i : Int32} : WP d 44 R 12 L (.int i :: va_rf (some a) :: S) G z c s = ((mK G a = 23 ∨ mK G a = 24) ∧ vp_in i (mN G a) ∧ WP d 44 R 13 L (va_rf (mQ G a i.toNatClampNeg) :: S) G z c s) := q_aald cdE_44 dX6_hallIn_12
theorem e_44_13 {d : Nat} {R : Rt} {L : Lo} {S : List Value} {G : Mem} {z c s : Nat} : WP d 44 R 13 L S G z c s = WP d 44 R 17 L S G z c s := q_goto cdE_44 dX6_hallIn_13 (by decide)
theorem e_44_16 {d : Nat} {R : Rt} {L : Lo} {S : List Value} {G : Mem} {z c s : Nat} : WP d 44 R 16 L S G z c s = WP d 44 R 17 L (va_rf none :: S) G z c s := q_null cdE_44 dX6_hallIn_16
theorem e_44_17 {d : Nat} {R : Rt} {L : Lo} {G : Mem} {z c s : Nat} {r : Option Nat} : WP d 44 R 17 L [va_rf r] G z c s = (c ≤ 0 ∧ s ≤ 0 ∧ R (some (va_rf r)) G z) := q_aret cdE_44 dX6_hallIn_17 rfl mcE_44 msE_44
theorem e_45_0 {d : Nat} {R : Rt} {L : Lo} {S : List Value} {G : Mem} {z c s : Nat} : WP d 45 R 0 L S G z c s = (okI (lgo L 1) ∧ WP d 45 R 1 L (.int (vI (lgo L 1)) :: S) G z c s) := q_iload_n cdE_45 dX6_setHallIn_0 rfl
theorem e_45_1 {d : Nat} {R : Rt} {L : Lo} {S : List Value} {G : Mem} {z c s : Nat} {a0 : Int32} : WP d 45 R 1 L (.int a0 :: S) G z c s = (S.length ≤ 4 ∧ c + 0 ≤ 0 ∧ s + 0 ≤ 0 ∧ CALL d 69 [.int a0] G z (rtn d 45 R 4 L S (c + 0) (s + 0))) := q_callS (as := [.int a0]) cdE_45 dX6_setHallIn_1 owE_45 (Or.inr rfl) rfl rfl (by simp only [List.reverse_cons, List.reverse_nil, List.nil_append, List.cons_append, entL, isL_int, isL_long, isL_rf, Bool.false_eq_true, if_false, if_true, List.length_cons, List.length_nil, mxE_69]; decide) mcE_45 msE_45 mcE_69 msE_69
theorem e_45_4 {d : Nat} {R : Rt} {L : Lo} {S : List Value} {G : Mem} {z c s : Nat} {x : Int32} : WP d 45 R 4 L (.int x :: S) G z c s = if x = 0 then WP d 45 R 14 L S G z c s else WP d 45 R 7 L S G z c s := q_ifeq cdE_45 dX6_setHallIn_4 (by decide)
theorem e_45_7 {d : Nat} {R : Rt} {L : Lo} {S : List Value} {G : Mem} {z c s : Nat} : WP d 45 R 7 L S G z c s = (okR (lgo L 0) ∧ WP d 45 R 8 L (va_rf (vR (lgo L 0)) :: S) G z c s) := q_aload_n cdE_45 dX6_setHallIn_7 rfl
theorem e_45_8 {d : Nat} {R : Rt} {L : Lo} {S : List Value} {G : Mem} {z c s : Nat} {a : Nat} : WP d 45 R 8 L (va_rf (some a) :: S) G z c s = (mK G a = 6 ∧ WP d 45 R 11 L (va_rf (mR G 6 6 a) :: S) G z c s) := q_getR cdE_45 dX6_setHallIn_8 owE_45 rfl (by decide)
theorem e_45_11 {d : Nat} {R : Rt} {L : Lo} {S : List Value} {G : Mem} {z c s : Nat} : WP d 45 R 11 L S G z c s = (okI (lgo L 1) ∧ WP d 45 R 12 L (.int (vI (lgo L 1)) :: S) G z c s) := q_iload_n cdE_45 dX6_setHallIn_11 rfl
theorem e_45_12 {d : Nat} {R : Rt} {L : Lo} {S : List Value} {G : Mem} {z c s : Nat} : WP d 45 R 12 L S G z c s = (okR (lgo L 2) ∧ WP d 45 R 13 L (va_rf (vR (lgo L 2)) :: S) G z c s) := q_aload_n cdE_45 dX6_setHallIn_12 rfl
theorem e_45_13 {d : Nat} {R : Rt} {L : Lo} {S : List Value} {G : Mem} {z c s : Nat} {a : Nat} {i : Int32} {r : Option Nat} : WP d 45 R 13 L (va_rf r :: .int i :: va_rf (some a) :: S) G z c s = (((mK G a = 23 ∧ ∀ b, r = some b → mK G b = 4) ∨ (mK G a = 24 ∧ ∀ b, r = some b → mK G b = 6)) ∧ vp_in i (mN G a) ∧ WP d 45 R 14 L S (pQ G a i.toNatClampNeg r) z c s) := q_aast cdE_45 dX6_setHallIn_13
theorem e_45_14 {d : Nat} {R : Rt} {L : Lo} {G : Mem} {z c s : Nat} : WP d 45 R 14 L [] G z c s = (c ≤ 0 ∧ s ≤ 0 ∧ R none G z) := q_vret cdE_45 dX6_setHallIn_14 rfl mcE_45 msE_45
theorem e_46_0 {d : Nat} {R : Rt} {L : Lo} {S : List Value} {G : Mem} {z c s : Nat} : WP d 46 R 0 L S G z c s = (okI (lgo L 2) ∧ WP d 46 R 1 L (.int (vI (lgo L 2)) :: S) G z c s) := q_iload_n cdE_46 dX6_isSoonIn_0 rfl
theorem e_46_1 {d : Nat} {R : Rt} {L : Lo} {S : List Value} {G : Mem} {z c s : Nat} : WP d 46 R 1 L S G z c s = WP d 46 R 3 L (.int 8 :: S) G z c s := q_bipush cdE_46 dX6_isSoonIn_1 (by decide)
theorem e_46_3 {d : Nat} {R : Rt} {L : Lo} {S : List Value} {G : Mem} {z c s : Nat} {x y : Int32} : WP d 46 R 3 L (.int y :: .int x :: S) G z c s = WP d 46 R 4 L (.int (x - y) :: S) G z c s := q_isub cdE_46 dX6_isSoonIn_3
theorem e_46_4 {d : Nat} {R : Rt} {L : Lo} {S : List Value} {G : Mem} {z c s : Nat} : WP d 46 R 4 L S G z c s = WP d 46 R 5 L (.int 1 :: S) G z c s := q_iconst cdE_46 dX6_isSoonIn_4 (by decide)
theorem e_46_5 {d : Nat} {R : Rt} {L : Lo} {S : List Value} {G : Mem} {z c s : Nat} {x y : Int32} : WP d 46 R 5 L (.int y :: .int x :: S) G z c s = WP d 46 R 6 L (.int (x + y) :: S) G z c s := q_iadd cdE_46 dX6_isSoonIn_5
theorem e_46_6 {d : Nat} {R : Rt} {L : Lo} {S : List Value} {G : Mem} {z c s : Nat} {x : Int32} : WP d 46 R 6 L (.int x :: S) G z c s = (noL L 3 ∧ WP d 46 R 7 (lset L 3 (some (.int x))) S G z c s) := q_istore_n cdE_46 dX6_isSoonIn_6 rfl mxE_46 (by decide)
theorem e_46_7 {d : Nat} {R : Rt} {L : Lo} {S : List Value} {G : Mem} {z c s : Nat} : WP d 46 R 7 L S G z c s = (okI (lgo L 3) ∧ WP d 46 R 8 L (.int (vI (lgo L 3)) :: S) G z c s) := q_iload_n cdE_46 dX6_isSoonIn_7 rfl
theorem e_46_8 {d : Nat} {R : Rt} {L : Lo} {S : List Value} {G : Mem} {z c s : Nat} : WP d 46 R 8 L S G z c s = (okI (lgo L 2) ∧ WP d 46 R 9 L (.int (vI (lgo L 2)) :: S) G z c s) := q_iload_n cdE_46 dX6_isSoonIn_8 rfl
theorem e_46_9 {d : Nat} {R : Rt} {L : Lo} {S : List Value} {G : Mem} {z c s : Nat} : WP d 46 R 9 L S G z c s = WP d 46 R 11 L (.int 8 :: S) G z c s := q_bipush cdE_46 dX6_isSoonIn_9 (by decide)
theorem e_46_11 {d : Nat} {R : Rt} {L : Lo} {S : List Value} {G : Mem} {z c s : Nat} {x y : Int32} : WP d 46 R 11 L (.int y :: .int x :: S) G z c s = WP d 46 R 12 L (.int (x + y) :: S) G z c s := q_iadd cdE_46 dX6_isSoonIn_11
theorem e_46_12 {d : Nat} {R : Rt} {L : Lo} {S : List Value} {G : Mem} {z c s : Nat} {x y : Int32} : WP d 46 R 12 L (.int y :: .int x :: S) G z c s = if y ≤ x then WP d 46 R 32 L S G z c s else WP d 46 R 15 L S G z c s := q_icge cdE_46 dX6_isSoonIn_12 (by decide)
theorem e_46_15 {d : Nat} {R : Rt} {L : Lo} {S : List Value} {G : Mem} {z c s : Nat} : WP d 46 R 15 L S G z c s = (okR (lgo L 0) ∧ WP d 46 R 16 L (va_rf (vR (lgo L 0)) :: S) G z c s) := q_aload_n cdE_46 dX6_isSoonIn_15 rfl
theorem e_46_16 {d : Nat} {R : Rt} {L : Lo} {S : List Value} {G : Mem} {z c s : Nat} : WP d 46 R 16 L S G z c s = (okI (lgo L 3) ∧ WP d 46 R 17 L (.int (vI (lgo L 3)) :: S) G z c s) := q_iload_n cdE_46 dX6_isSoonIn_16 rfl
theorem e_46_17 {d : Nat} {R : Rt} {L : Lo} {S : List Value} {G : Mem} {z c s : Nat} {a0 : Int32} {b : Nat} : WP d 46 R 17 L (.int a0 :: va_rf (some b) :: S) G z c s = ((mK G b = 6) ∧ S.length ≤ 4 ∧ c + 0 ≤ 0 ∧ s + 0 ≤ 0 ∧ CALL d 44 [va_rf (some b), .int a0] G z (rtn d 46 R 20 L S (c + 0) (s + 0))) := q_callV (as := [.int a0]) cdE_46 dX6_isSoonIn_17 owE_46 rfl rfl rfl (by simp only [List.reverse_cons, List.reverse_nil, List.nil_append, List.cons_append, entL, isL_int, isL_long, isL_rf, Bool.false_eq_true, if_false, if_true, List.length_cons, List.length_nil, mxE_44]; decide) mcE_46 msE_46 mcE_44 msE_44
theorem e_46_20 {d : Nat} {R : Rt} {L : Lo} {S : List Value} {G : Mem} {z c s : Nat} : WP d 46 R 20 L S G z c s = (okR (lgo L 1) ∧ WP d 46 R 21 L (va_rf (vR (lgo L 1)) :: S) G z c s) := q_aload_n cdE_46 dX6_isSoonIn_20 rfl
theorem e_46_21 {d : Nat} {R : Rt} {L : Lo} {S : List Value} {G : Mem} {z c s : Nat} {x y : Option Nat} : WP d 46 R 21 L (va_rf y :: va_rf x :: S) G z c s = if x = y then WP d 46 R 24 L S G z c s else WP d 46 R 26 L S G z c s := q_acmpne cdE_46 dX6_isSoonIn_21 (by decide)
theorem e_46_24 {d : Nat} {R : Rt} {L : Lo} {S : List Value} {G : Mem} {z c s : Nat} : WP d 46 R 24 L S G z c s = WP d 46 R 25 L (.int 1 :: S) G z c s := q_iconst cdE_46 dX6_isSoonIn_24 (by decide)
theorem e_46_25 {d : Nat} {R : Rt} {L : Lo} {G : Mem} {z c s : Nat} {v : Int32} : WP d 46 R 25 L [.int v] G z c s = (narrow .boolean (.int v) = .int v ∧ c ≤ 0 ∧ s ≤ 0 ∧ R (some (.int v)) G z) := q_nret cdE_46 dX6_isSoonIn_25 rfl mcE_46 msE_46
theorem e_46_26 {d : Nat} {R : Rt} {L : Lo} {S : List Value} {G : Mem} {z c s : Nat} : WP d 46 R 26 L S G z c s = (okI (lgo L 3) ∧ noL L 3 ∧ WP d 46 R 29 (lset L 3 (some (.int (vI (lgo L 3) + 1)))) S G z c s) := q_iinc cdE_46 dX6_isSoonIn_26 mxE_46 (by decide) (by decide)
theorem e_46_29 {d : Nat} {R : Rt} {L : Lo} {S : List Value} {G : Mem} {z c s : Nat} : WP d 46 R 29 L S G z c s = WP d 46 R 7 L S G z c s := q_goto cdE_46 dX6_isSoonIn_29 (by decide)
theorem e_46_32 {d : Nat} {R : Rt} {L : Lo} {S : List Value} {G : Mem} {z c s : Nat} : WP d 46 R 32 L S G z c s = WP d 46 R 33 L (.int 0 :: S) G z c s := q_iconst cdE_46 dX6_isSoonIn_32 (by decide)
theorem e_46_33 {d : Nat} {R : Rt} {L : Lo} {G : Mem} {z c s : Nat} {v : Int32} : WP d 46 R 33 L [.int v] G z c s = (narrow .boolean (.int v) = .int v ∧ c ≤ 0 ∧ s ≤ 0 ∧ R (some (.int v)) G z) := q_nret cdE_46 dX6_isSoonIn_33 rfl mcE_46 msE_46
theorem e_47_0 {d : Nat} {R : Rt} {L : Lo} {S : List Value} {G : Mem} {z c s : Nat} : WP d 47 R 0 L S G z c s = WP d 47 R 1 L (va_rf none :: S) G z c s := q_null cdE_47 dX6_contractIn_0
theorem e_47_1 {d : Nat} {R : Rt} {L : Lo} {S : List Value} {G : Mem} {z c s : Nat} {r : Option Nat} : WP d 47 R 1 L (va_rf r :: S) G z c s = (noL L 3 ∧ WP d 47 R 2 (lset L 3 (some (va_rf r))) S G z c s) := q_astore_n cdE_47 dX6_contractIn_1 rfl mxE_47 (by decide)
theorem e_47_2 {d : Nat} {R : Rt} {L : Lo} {S : List Value} {G : Mem} {z c s : Nat} : WP d 47 R 2 L S G z c s = (okR (lgo L 0) ∧ WP d 47 R 3 L (va_rf (vR (lgo L 0)) :: S) G z c s) := q_aload_n cdE_47 dX6_contractIn_2 rfl
theorem e_47_3 {d : Nat} {R : Rt} {L : Lo} {S : List Value} {G : Mem} {z c s : Nat} {a : Nat} : WP d 47 R 3 L (va_rf (some a) :: S) G z c s = (mK G a = 6 ∧ WP d 47 R 6 L (va_rf (mR G 6 7 a) :: S) G z c s) := q_getR cdE_47 dX6_contractIn_3 owE_47 rfl (by decide)
theorem e_47_6 {d : Nat} {R : Rt} {L : Lo} {S : List Value} {G : Mem} {z c s : Nat} {r : Option Nat} : WP d 47 R 6 L (va_rf r :: S) G z c s = (noL L 4 ∧ WP d 47 R 8 (lset L 4 (some (va_rf r))) S G z c s) := q_astore cdE_47 dX6_contractIn_6 mxE_47 (by decide)
theorem e_47_8 {d : Nat} {R : Rt} {L : Lo} {S : List Value} {G : Mem} {z c s : Nat} : WP d 47 R 8 L S G z c s = (okR (lgo L 4) ∧ WP d 47 R 10 L (va_rf (vR (lgo L 4)) :: S) G z c s) := q_aload cdE_47 dX6_contractIn_8
theorem e_47_10 {d : Nat} {R : Rt} {L : Lo} {S : List Value} {G : Mem} {z c s : Nat} {r : Option Nat} : WP d 47 R 10 L (va_rf r :: S) G z c s = if r = none then WP d 47 R 72 L S G z c s else WP d 47 R 13 L S G z c s := q_ifnull cdE_47 dX6_contractIn_10 (by decide)
theorem e_47_13 {d : Nat} {R : Rt} {L : Lo} {S : List Value} {G : Mem} {z c s : Nat} : WP d 47 R 13 L S G z c s = (okR (lgo L 4) ∧ WP d 47 R 15 L (va_rf (vR (lgo L 4)) :: S) G z c s) := q_aload cdE_47 dX6_contractIn_13
theorem e_47_15 {d : Nat} {R : Rt} {L : Lo} {S : List Value} {G : Mem} {z c s : Nat} {a : Nat} : WP d 47 R 15 L (va_rf (some a) :: S) G z c s = (mK G a = 2 ∧ WP d 47 R 18 L (.int (mI G 2 2 a) :: S) G z c s) := q_getI cdE_47 dX6_contractIn_15 owE_47 rfl (by decide)
theorem e_47_18 {d : Nat} {R : Rt} {L : Lo} {S : List Value} {G : Mem} {z c s : Nat} : WP d 47 R 18 L S G z c s = (okI (lgo L 2) ∧ WP d 47 R 19 L (.int (vI (lgo L 2)) :: S) G z c s) := q_iload_n cdE_47 dX6_contractIn_18 rfl
theorem e_47_19 {d : Nat} {R : Rt} {L : Lo} {S : List Value} {G : Mem} {z c s : Nat} {x y : Int32} : WP d 47 R 19 L (.int y :: .int x :: S) G z c s = if y < x then WP d 47 R 35 L S G z c s else WP d 47 R 22 L S G z c s := q_icgt cdE_47 dX6_contractIn_19 (by decide)
theorem e_47_22 {d : Nat} {R : Rt} {L : Lo} {S : List Value} {G : Mem} {z c s : Nat} : WP d 47 R 22 L S G z c s = (okR (lgo L 4) ∧ WP d 47 R 24 L (va_rf (vR (lgo L 4)) :: S) G z c s) := q_aload cdE_47 dX6_contractIn_22
theorem e_47_24 {d : Nat} {R : Rt} {L : Lo} {S : List Value} {G : Mem} {z c s : Nat} {a : Nat} : WP d 47 R 24 L (va_rf (some a) :: S) G z c s = (mK G a = 2 ∧ WP d 47 R 27 L (.int (mI G 2 1 a) :: S) G z c s) := q_getI cdE_47 dX6_contractIn_24 owE_47 rfl (by decide)
theorem e_47_27 {d : Nat} {R : Rt} {L : Lo} {S : List Value} {G : Mem} {z c s : Nat} : WP d 47 R 27 L S G z c s = (okI (lgo L 1) ∧ WP d 47 R 28 L (.int (vI (lgo L 1)) :: S) G z c s) := q_iload_n cdE_47 dX6_contractIn_27 rfl
theorem e_47_28 {d : Nat} {R : Rt} {L : Lo} {S : List Value} {G : Mem} {z c s : Nat} {x y : Int32} : WP d 47 R 28 L (.int y :: .int x :: S) G z c s = if y < x then WP d 47 R 35 L S G z c s else WP d 47 R 31 L S G z c s := q_icgt cdE_47 dX6_contractIn_28 (by decide)
theorem e_47_31 {d : Nat} {R : Rt} {L : Lo} {S : List Value} {G : Mem} {z c s : Nat} : WP d 47 R 31 L S G z c s = WP d 47 R 32 L (.int 1 :: S) G z c s := q_iconst cdE_47 dX6_contractIn_31 (by decide)
theorem e_47_32 {d : Nat} {R : Rt} {L : Lo} {S : List Value} {G : Mem} {z c s : Nat} : WP d 47 R 32 L S G z c s = WP d 47 R 36 L S G z c s := q_goto cdE_47 dX6_contractIn_32 (by decide)
theorem e_47_35 {d : Nat} {R : Rt} {L : Lo} {S : List Value} {G : Mem} {z c s : Nat} : WP d 47 R 35 L S G z c s = WP d 47 R 36 L (.int 0 :: S) G z c s := q_iconst cdE_47 dX6_contractIn_35 (by decide)
theorem e_47_36 {d : Nat} {R : Rt} {L : Lo} {S : List Value} {G : Mem} {z c s : Nat} {x : Int32} : WP d 47 R 36 L (.int x :: S) G z c s = (noL L 5 ∧ WP d 47 R 38 (lset L 5 (some (.int x))) S G z c s) := q_istore cdE_47 dX6_contractIn_36 mxE_47 (by decide)
theorem e_47_38 {d : Nat} {R : Rt} {L : Lo} {S : List Value} {G : Mem} {z c s : Nat} : WP d 47 R 38 L S G z c s = (okI (lgo L 5) ∧ WP d 47 R 40 L (.int (vI (lgo L 5)) :: S) G z c s) := q_iload cdE_47 dX6_contractIn_38
theorem e_47_40 {d : Nat} {R : Rt} {L : Lo} {S : List Value} {G : Mem} {z c s : Nat} {x : Int32} : WP d 47 R 40 L (.int x :: S) G z c s = if x = 0 then WP d 47 R 62 L S G z c s else WP d 47 R 43 L S G z c s := q_ifeq cdE_47 dX6_contractIn_40 (by decide)
theorem e_47_43 {d : Nat} {R : Rt} {L : Lo} {S : List Value} {G : Mem} {z c s : Nat} : WP d 47 R 43 L S G z c s = (okR (lgo L 3) ∧ WP d 47 R 44 L (va_rf (vR (lgo L 3)) :: S) G z c s) := q_aload_n cdE_47 dX6_contractIn_43 rfl
theorem e_47_44 {d : Nat} {R : Rt} {L : Lo} {S : List Value} {G : Mem} {z c s : Nat} {r : Option Nat} : WP d 47 R 44 L (va_rf r :: S) G z c s = if r = none then WP d 47 R 59 L S G z c s else WP d 47 R 47 L S G z c s := q_ifnull cdE_47 dX6_contractIn_44 (by decide)
theorem e_47_47 {d : Nat} {R : Rt} {L : Lo} {S : List Value} {G : Mem} {z c s : Nat} : WP d 47 R 47 L S G z c s = (okR (lgo L 4) ∧ WP d 47 R 49 L (va_rf (vR (lgo L 4)) :: S) G z c s) := q_aload cdE_47 dX6_contractIn_47
theorem e_47_49 {d : Nat} {R : Rt} {L : Lo} {S : List Value} {G : Mem} {z c s : Nat} {a : Nat} : WP d 47 R 49 L (va_rf (some a) :: S) G z c s = (mK G a = 2 ∧ WP d 47 R 52 L (.int (mI G 2 1 a) :: S) G z c s) := q_getI cdE_47 dX6_contractIn_49 owE_47 rfl (by decide)
theorem e_47_52 {d : Nat} {R : Rt} {L : Lo} {S : List Value} {G : Mem} {z c s : Nat} : WP d 47 R 52 L S G z c s = (okR (lgo L 3) ∧ WP d 47 R 53 L (va_rf (vR (lgo L 3)) :: S) G z c s) := q_aload_n cdE_47 dX6_contractIn_52 rfl
theorem e_47_53 {d : Nat} {R : Rt} {L : Lo} {S : List Value} {G : Mem} {z c s : Nat} {a : Nat} : WP d 47 R 53 L (va_rf (some a) :: S) G z c s = (mK G a = 2 ∧ WP d 47 R 56 L (.int (mI G 2 1 a) :: S) G z c s) := q_getI cdE_47 dX6_contractIn_53 owE_47 rfl (by decide)
theorem e_47_56 {d : Nat} {R : Rt} {L : Lo} {S : List Value} {G : Mem} {z c s : Nat} {x y : Int32} : WP d 47 R 56 L (.int y :: .int x :: S) G z c s = if x ≤ y then WP d 47 R 62 L S G z c s else WP d 47 R 59 L S G z c s := q_icle cdE_47 dX6_contractIn_56 (by decide)
theorem e_47_59 {d : Nat} {R : Rt} {L : Lo} {S : List Value} {G : Mem} {z c s : Nat} : WP d 47 R 59 L S G z c s = (okR (lgo L 4) ∧ WP d 47 R 61 L (va_rf (vR (lgo L 4)) :: S) G z c s) := q_aload cdE_47 dX6_contractIn_59
theorem e_47_61 {d : Nat} {R : Rt} {L : Lo} {S : List Value} {G : Mem} {z c s : Nat} {r : Option Nat} : WP d 47 R 61 L (va_rf r :: S) G z c s = (noL L 3 ∧ WP d 47 R 62 (lset L 3 (some (va_rf r))) S G z c s) := q_astore_n cdE_47 dX6_contractIn_61 rfl mxE_47 (by decide)
theorem e_47_62 {d : Nat} {R : Rt} {L : Lo} {S : List Value} {G : Mem} {z c s : Nat} : WP d 47 R 62 L S G z c s = (okR (lgo L 4) ∧ WP d 47 R 64 L (va_rf (vR (lgo L 4)) :: S) G z c s) := q_aload cdE_47 dX6_contractIn_62
theorem e_47_64 {d : Nat} {R : Rt} {L : Lo} {S : List Value} {G : Mem} {z c s : Nat} {a : Nat} : WP d 47 R 64 L (va_rf (some a) :: S) G z c s = (mK G a = 2 ∧ WP d 47 R 67 L (va_rf (mR G 2 3 a) :: S) G z c s) := q_getR cdE_47 dX6_contractIn_64 owE_47 rfl (by decide)
theorem e_47_67 {d : Nat} {R : Rt} {L : Lo} {S : List Value} {G : Mem} {z c s : Nat} {r : Option Nat} : WP d 47 R 67 L (va_rf r :: S) G z c s = (noL L 4 ∧ WP d 47 R 69 (lset L 4 (some (va_rf r))) S G z c s) := q_astore cdE_47 dX6_contractIn_67 mxE_47 (by decide)
theorem e_47_69 {d : Nat} {R : Rt} {L : Lo} {S : List Value} {G : Mem} {z c s : Nat} : WP d 47 R 69 L S G z c s = WP d 47 R 8 L S G z c s := q_goto cdE_47 dX6_contractIn_69 (by decide)
theorem e_47_72 {d : Nat} {R : Rt} {L : Lo} {S : List Value} {G : Mem} {z c s : Nat} : WP d 47 R 72 L S G z c s = (okR (lgo L 3) ∧ WP d 47 R 73 L (va_rf (vR (lgo L 3)) :: S) G z c s) := q_aload_n cdE_47 dX6_contractIn_72 rfl
theorem e_47_73 {d : Nat} {R : Rt} {L : Lo} {G : Mem} {z c s : Nat} {r : Option Nat} : WP d 47 R 73 L [va_rf r] G z c s = (c ≤ 0 ∧ s ≤ 0 ∧ R (some (va_rf r)) G z) := q_aret cdE_47 dX6_contractIn_73 rfl mcE_47 msE_47
