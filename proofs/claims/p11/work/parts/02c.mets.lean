/-- methods: name, code, locals, what it returns, owner, arguments, kind (0 static, 1 virtual, 2 made), words: code, kind, selects, initialized -/
abbrev xMrow : Type := MethodName × ByteArray × Nat × Option FieldType × Nat × Nat × Nat × Nat × Nat × Nat × Nat
def xMet_0 : List xMrow := [
  (yX11_init, cX11_init, 2, none, 11, 0, 2, 1026, 1025, 0, 1001),
  (yX9_init, cX9_init, 2, none, 9, 0, 2, 1034, 1033, 0, 1002),
  (yX1_init, cX1_init, 1, none, 1, 0, 2, 1046, 1045, 0, 1003),
  (yX5_init, cX5_init, 1, none, 5, 0, 2, 1064, 1063, 0, 1004),
  (yX4_init, cX4_init, 1, none, 4, 0, 2, 1091, 1090, 0, 1005),
  (yX2_init, cX2_init, 1, none, 2, 0, 2, 1104, 1103, 0, 1006),
  (yX3_init, cX3_init, 1, none, 3, 0, 2, 1153, 1152, 0, 1007)]
def xMet_1 : List xMrow := [
  (yX0_init, cX0_init, 1, none, 0, 0, 2, 1229, 1228, 0, 1008),
  (yX6_init, cX6_init, 1, none, 6, 0, 2, 2106, 2105, 0, 1009),
  (yX8_init, cX8_init, 1, none, 8, 0, 2, 2112, 2111, 0, 1010),
  (yX7_init, cX7_init, 1, none, 7, 0, 2, 2136, 2135, 0, 1011),
  (yX10_init, cX10_init, 1, none, 10, 0, 2, 2176, 2175, 0, 1012),
  (yX12_init, cX12_init, 2, none, 12, 0, 2, 5180, 5179, 0, 1013),
  (yX11_hall, cX11_hall, 2, (some .int), 11, 1, 1, 2228, 2226, 2227, 1001)]
def xMet_2 : List xMrow := [
  (yX11_within, cX11_within, 3, (some .boolean), 11, 3, 0, 2231, 2230, 0, 1001),
  (yX2_build, cX2_build, 2, none, 2, 1, 1, 2235, 2233, 2234, 1006),
  (yJ7_fill_53178, cJ7_fill_53178, 4, none, 27, 2, 0, 2238, 2237, 0, 1014),
  (yX12_hall, cX12_hall, 4, (some .int), 12, 1, 1, 6074, 6072, 6073, 1013),
  (yX12_in, cX12_in, 3, (some .boolean), 12, 3, 0, 6077, 6076, 0, 1013),
  (yX11_bar, cX11_bar, 3, (some .boolean), 11, 2, 1, 3002, 3000, 3001, 1001),
  (yX9_hasHall, cX9_hasHall, 2, (some .boolean), 9, 1, 1, 3006, 3004, 3005, 1002)]
def xMet_3 : List xMrow := [
  (yX12_bar, cX12_bar, 3, (some .boolean), 12, 2, 1, 6081, 6079, 6080, 1013),
  (yX12_isHall, cX12_isHall, 2, (some .boolean), 12, 1, 1, 6085, 6084, 44, 1013),
  (yX11_link, cX11_link, 8, (some .int), 11, 5, 1, 3010, 3008, 3009, 1001),
  (yX3_build, cX3_build, 6, none, 3, 5, 1, 3014, 3012, 3013, 1007),
  (yX12_link, cX12_link, 10, (some .int), 12, 5, 1, 6089, 6087, 6088, 1013),
  (yX12_tells, cX12_tells, 4, none, 12, 3, 1, 6093, 6092, 45, 1013),
  (yX11_turn, cX11_turn, 3, (some .boolean), 11, 2, 1, 3019, 3017, 3018, 1001)]
def xMet_4 : List xMrow := [
  (yX9_hasStepped, cX9_hasStepped, 2, (some .boolean), 9, 1, 1, 3023, 3021, 3022, 1002),
  (yX9_hasLink, cX9_hasLink, 2, (some .boolean), 9, 1, 1, 3027, 3025, 3026, 1002),
  (yX3_turnTo, cX3_turnTo, 2, none, 3, 1, 1, 3031, 3029, 3030, 1007),
  (yX12_turn, cX12_turn, 3, (some .boolean), 12, 2, 1, 6097, 6095, 6096, 1013),
  (yX12_isStairs, cX12_isStairs, 2, (some .boolean), 12, 1, 1, 6101, 6100, 46, 1013),
  (yX12_isLink, cX12_isLink, 2, (some .boolean), 12, 1, 1, 6105, 6104, 47, 1013),
  (yX12_linkOf, cX12_linkOf, 3, (some .int), 12, 2, 1, 6109, 6108, 48, 1013)]
def xMet_5 : List xMrow := [
  (yX12_loadOf, cX12_loadOf, 4, (some .int), 12, 1, 1, 6113, 6112, 49, 1013),
  (yX11_mode, cX11_mode, 3, (some .boolean), 11, 2, 1, 3035, 3033, 3034, 1001),
  (yX9_hasStair, cX9_hasStair, 2, (some .boolean), 9, 1, 1, 3039, 3037, 3038, 1002),
  (yX12_mode, cX12_mode, 3, (some .boolean), 12, 2, 1, 6117, 6115, 6116, 1013),
  (yX11_reset, cX11_reset, 2, (some .boolean), 11, 1, 1, 3043, 3041, 3042, 1001),
  (yX12_reset, cX12_reset, 2, (some .boolean), 12, 1, 1, 6121, 6119, 6120, 1013),
  (yX11_burst, cX11_burst, 11, (some .int), 11, 7, 1, 3048, 3046, 3047, 1001)]
def xMet_6 : List xMrow := [
  (yX12_burst, cX12_burst, 10, (some .int), 12, 7, 1, 6125, 6123, 6124, 1013),
  (yX11_feed, cX11_feed, 6, (some .int), 11, 5, 1, 3053, 3051, 3052, 1001),
  (yX7_hasRoomFor, cX7_hasRoomFor, 2, (some .boolean), 7, 1, 1, 3057, 3055, 3056, 1011),
  (yX7_append, cX7_append, 3, none, 7, 1, 1, 3061, 3059, 3060, 1011),
  (yX12_feed, cX12_feed, 6, (some .int), 12, 5, 1, 6130, 6128, 6129, 1013),
  (yX12_put, cX12_put, 3, none, 12, 1, 1, 6134, 6133, 50, 1013),
  (yX11_end, cX11_end, 2, (some .int), 11, 1, 1, 3065, 3063, 3064, 1001)]
def xMet_7 : List xMrow := [
  (yX12_end, cX12_end, 2, (some .int), 12, 1, 1, 6138, 6136, 6137, 1013),
  (yX11_text, cX11_text, 1, (some .int), 11, 0, 1, 3069, 3067, 3068, 1001),
  (yX7_readInto, cX7_readInto, 3, (some .boolean), 7, 1, 1, 3073, 3071, 3072, 1011),
  (yX7_cut, cX7_cut, 3, none, 7, 0, 1, 3077, 3076, 0, 1011),
  (yX7_cutOne, cX7_cutOne, 5, (some .int), 7, 1, 1, 3081, 3080, 1, 1011),
  (yX7_byteAt, cX7_byteAt, 2, (some .int), 7, 1, 1, 3085, 3084, 2, 1011),
  (yX7_isLetter, cX7_isLetter, 1, (some .boolean), 7, 1, 0, 3088, 3087, 0, 1011)]
def xMet_8 : List xMrow := [
  (yX7_addWord, cX7_addWord, 6, none, 7, 2, 1, 3092, 3091, 3, 1011),
  (yJ0_length_8abf5, cJ0_length_8abf5, 1, (some .int), 20, 0, 1, 3097, 3095, 3096, 1015),
  (yJ0_coder_7d493, cJ0_coder_7d493, 1, (some .byte), 20, 0, 1, 3101, 3099, 3100, 1015),
  (yJ0_charAt_5068e, cJ0_charAt_5068e, 2, (some .char), 20, 1, 1, 3107, 3105, 3106, 1015),
  (yJ0_isLatin1_aae02, cJ0_isLatin1_aae02, 1, (some .boolean), 20, 0, 1, 3111, 3109, 3110, 1015),
  (yJ1_charAt_3b067, cJ1_charAt_3b067, 2, (some .char), 21, 2, 0, 3114, 3113, 0, 1016),
  (yJ0_checkIndex_df160, cJ0_checkIndex_df160, 2, none, 20, 2, 0, 3117, 3116, 0, 1015)]
def xMet_9 : List xMrow := [
  (yJ3_checkIndex_8e157, cJ3_checkIndex_8e157, 3, (some .int), 23, 3, 0, 3122, 3121, 0, 1017),
  (yJ2_charAt_3b067, cJ2_charAt_3b067, 2, (some .char), 22, 2, 0, 3125, 3124, 0, 1018),
  (yJ2_checkIndex_2214a, cJ2_checkIndex_2214a, 2, none, 22, 2, 0, 3128, 3127, 0, 1018),
  (yJ2_length_9d52b, cJ2_length_9d52b, 1, (some .int), 22, 1, 0, 3131, 3130, 0, 1018),
  (yJ2_getChar_3b067, cJ2_getChar_3b067, 2, (some .char), 22, 2, 0, 3135, 3134, 0, 1018),
  (yX7_isWord, cX7_isWord, 6, (some .boolean), 7, 4, 1, 3145, 3144, 4, 1011),
  (yX7_addToken, cX7_addToken, 4, none, 7, 3, 1, 3152, 3151, 5, 1011)]
def xMet_10 : List xMrow := [
  (yX7_isDigit, cX7_isDigit, 1, (some .boolean), 7, 1, 0, 3155, 3154, 0, 1011),
  (yX7_signOf, cX7_signOf, 1, (some .int), 7, 1, 0, 3158, 3157, 0, 1011),
  (yX7_kind, cX7_kind, 1, (some .int), 7, 0, 1, 3162, 3161, 6, 1011),
  (yX7_readClause, cX7_readClause, 3, (some .boolean), 7, 1, 1, 3166, 3165, 7, 1011),
  (yX7_fails, cX7_fails, 2, (some .boolean), 7, 1, 1, 3170, 3169, 8, 1011),
  (yX10_has, cX10_has, 3, (some .boolean), 10, 1, 1, 3174, 3172, 3173, 1012),
  (yX10_open, cX10_open, 2, none, 10, 1, 1, 3178, 3176, 3177, 1012)]
def xMet_11 : List xMrow := [
  (yX7_readSum, cX7_readSum, 6, (some .boolean), 7, 2, 1, 3182, 3181, 9, 1011),
  (yX10_add, cX10_add, 3, none, 10, 2, 1, 3198, 3196, 3197, 1012),
  (yX7_readOne, cX7_readOne, 5, (some .boolean), 7, 2, 1, 3190, 3189, 11, 1011),
  (yX7_value, cX7_value, 1, (some .int), 7, 0, 1, 3194, 3193, 12, 1011),
  (yX7_readProduct, cX7_readProduct, 6, (some .boolean), 7, 2, 1, 3186, 3185, 10, 1011),
  (yX7_readEither, cX7_readEither, 4, (some .boolean), 7, 1, 1, 3202, 3201, 13, 1011),
  (yX7_readBoth, cX7_readBoth, 4, (some .boolean), 7, 1, 1, 3206, 3205, 14, 1011)]
def xMet_12 : List xMrow := [
  (yX7_readAsk, cX7_readAsk, 5, (some .boolean), 7, 2, 1, 3210, 3209, 15, 1011),
  (yX10_close, cX10_close, 1, none, 10, 0, 1, 3214, 3212, 3213, 1012),
  (yX12_text, cX12_text, 1, (some .int), 12, 0, 1, 6142, 6140, 6141, 1013),
  (yX12_next, cX12_next, 5, none, 12, 0, 1, 6146, 6145, 51, 1013),
  (yX12_isLetter, cX12_isLetter, 1, (some .boolean), 12, 1, 0, 6149, 6148, 0, 1013),
  (yX12_wordOf, cX12_wordOf, 2, (some .int), 12, 1, 0, 6153, 6152, 0, 1013),
  (yX12_asks, cX12_asks, 2, none, 12, 0, 1, 6171, 6170, 52, 1013)]
def xMet_13 : List xMrow := [
  (yX12_isWord, cX12_isWord, 2, (some .boolean), 12, 1, 1, 6175, 6174, 53, 1013),
  (yX12_opensSign, cX12_opensSign, 2, (some .boolean), 12, 1, 1, 6179, 6178, 54, 1013),
  (yX12_errs, cX12_errs, 2, none, 12, 1, 1, 6183, 6182, 55, 1013),
  (yX12_opensFrame, cX12_opensFrame, 2, none, 12, 1, 1, 6187, 6186, 56, 1013),
  (yX12_begins, cX12_begins, 2, none, 12, 0, 1, 6191, 6190, 57, 1013),
  (yX12_emits, cX12_emits, 3, none, 12, 2, 1, 6195, 6194, 58, 1013),
  (yX12_oneIsOver, cX12_oneIsOver, 1, none, 12, 0, 1, 6199, 6198, 59, 1013)]
def xMet_14 : List xMrow := [
  (yX12_top, cX12_top, 1, (some .int), 12, 0, 1, 6203, 6202, 60, 1013),
  (yX12_isSign, cX12_isSign, 2, (some .boolean), 12, 1, 1, 6207, 6206, 61, 1013),
  (yX12_goesOn, cX12_goesOn, 3, none, 12, 0, 1, 6211, 6210, 62, 1013),
  (yX12_waitsFor, cX12_waitsFor, 2, none, 12, 1, 1, 6215, 6214, 63, 1013),
  (yX12_rank, cX12_rank, 1, (some .int), 12, 1, 0, 6218, 6217, 0, 1013),
  (yX12_works, cX12_works, 2, none, 12, 1, 1, 6222, 6221, 64, 1013),
  (yX12_isAsking, cX12_isAsking, 1, (some .boolean), 12, 1, 0, 6225, 6224, 0, 1013)]
def xMet_15 : List xMrow := [
  (yX12_askIsOver, cX12_askIsOver, 1, none, 12, 0, 1, 6229, 6228, 65, 1013),
  (yX12_clauseIsOver, cX12_clauseIsOver, 1, none, 12, 0, 1, 6233, 6232, 66, 1013),
  (yX12_asksOn, cX12_asksOn, 1, none, 12, 0, 1, 6237, 6236, 67, 1013),
  (yX12_clause, cX12_clause, 1, none, 12, 0, 1, 7001, 7000, 68, 1013),
  (yX12_wasWalk, cX12_wasWalk, 3, (some .boolean), 12, 0, 1, 7005, 7004, 69, 1013),
  (yX12_keepsText, cX12_keepsText, 3, none, 12, 1, 1, 7009, 7008, 70, 1013),
  (yX11_fault, cX11_fault, 2, (some .int), 11, 1, 1, 3219, 3217, 3218, 1001)]
def xMet_16 : List xMrow := [
  (yX12_fault, cX12_fault, 2, (some .int), 12, 1, 1, 7013, 7011, 7012, 1013),
  (yX11_by, cX11_by, 2, (some .boolean), 11, 1, 1, 3223, 3221, 3222, 1001),
  (yX12_by, cX12_by, 2, (some .boolean), 12, 1, 1, 7017, 7015, 7016, 1013),
  (yX11_run, cX11_run, 4, (some .int), 11, 1, 1, 3227, 3225, 3226, 1001),
  (yX11_mayRun, cX11_mayRun, 2, (some .boolean), 11, 1, 1, 3231, 3230, 16, 1001),
  (yX11_law, cX11_law, 1, (some (.object "MovingStairs$Text")), 11, 0, 1, 3235, 3234, 17, 1001),
  (yX6_forgetRoutes, cX6_forgetRoutes, 1, none, 6, 0, 1, 3239, 3237, 3238, 1009)]
def xMet_17 : List xMrow := [
  (yX8_forget, cX8_forget, 1, none, 8, 0, 1, 4003, 4001, 4002, 1010),
  (yX6_passSecond, cX6_passSecond, 3, none, 6, 2, 1, 4007, 4005, 4006, 1009),
  (yX6_comeInBursts, cX6_comeInBursts, 5, none, 6, 2, 1, 4011, 4010, 18, 1009),
  (yX0_isDue, cX0_isDue, 2, (some .boolean), 0, 1, 1, 4015, 4013, 4014, 1008),
  (yX9_comeTo, cX9_comeTo, 5, none, 9, 4, 1, 4020, 4018, 4019, 1002),
  (yX2_change, cX2_change, 5, none, 2, 3, 1, 4025, 4023, 4024, 1006),
  (yX6_isSo, cX6_isSo, 6, (some .boolean), 6, 4, 1, 4029, 4028, 19, 1009)]
def xMet_18 : List xMrow := [
  (yX10_anySo, cX10_anySo, 5, (some .boolean), 10, 2, 1, 4033, 4031, 4032, 1012),
  (yX10_worth, cX10_worth, 10, (some .int), 10, 3, 1, 4037, 4036, 20, 1012),
  (yX10_joined, cX10_joined, 5, (some .long), 10, 3, 0, 4043, 4042, 0, 1012),
  (yX2_changeOutside, cX2_changeOutside, 5, none, 2, 3, 1, 4055, 4053, 4054, 1006),
  (yX6_openHalls, cX6_openHalls, 5, none, 6, 2, 1, 4059, 4058, 21, 1009),
  (yX6_letIn, cX6_letIn, 8, none, 6, 2, 1, 4063, 4062, 22, 1009),
  (yX6_turnEmptyLinks, cX6_turnEmptyLinks, 3, none, 6, 1, 1, 4068, 4067, 23, 1009)]
def xMet_19 : List xMrow := [
  (yX8_find, cX8_find, 5, none, 8, 1, 1, 4072, 4070, 4071, 1010),
  (yX3_takesNow, cX3_takesNow, 1, (some .boolean), 3, 0, 1, 4076, 4074, 4075, 1007),
  (yX8_findFor, cX8_findFor, 6, none, 8, 2, 1, 4080, 4079, 24, 1010),
  (yX8_leads, cX8_leads, 4, (some .boolean), 8, 3, 1, 4086, 4085, 25, 1010),
  (yX3_foot, cX3_foot, 1, (some .int), 3, 0, 1, 4090, 4088, 4089, 1007),
  (yX3_seconds, cX3_seconds, 1, (some .int), 3, 0, 1, 4094, 4092, 4093, 1007),
  (yX8_shorten, cX8_shorten, 5, none, 8, 3, 1, 4098, 4097, 26, 1010)]
def xMet_20 : List xMrow := [
  (yX8_between, cX8_between, 4, (some .int), 8, 2, 1, 4102, 4101, 27, 1010),
  (yX8_lowestFirst, cX8_lowestFirst, 10, (some .int), 8, 4, 1, 4106, 4105, 28, 1010),
  (yX6_moveLinks, cX6_moveLinks, 6, none, 6, 2, 1, 4110, 4109, 29, 1009),
  (yX6_lift, cX6_lift, 8, none, 6, 4, 1, 4114, 4113, 30, 1009),
  (yX6_goalOfMost, cX6_goalOfMost, 9, (some .int), 6, 4, 1, 4119, 4118, 31, 1009),
  (yX2_waiting, cX2_waiting, 4, (some .int), 2, 2, 1, 4123, 4121, 4122, 1006),
  (yX8_firstLink, cX8_firstLink, 5, (some .int), 8, 3, 1, 4127, 4125, 4126, 1010)]
def xMet_21 : List xMrow := [
  (yX9_admits, cX9_admits, 3, (some .boolean), 9, 2, 1, 4131, 4129, 4130, 1002),
  (yX6_walkOf, cX6_walkOf, 4, (some .int), 6, 3, 1, 4136, 4135, 32, 1009),
  (yX10_walk, cX10_walk, 4, (some .int), 10, 1, 1, 4141, 4139, 4140, 1012),
  (yX6_moveStair, cX6_moveStair, 5, none, 6, 2, 1, 4146, 4144, 4145, 1009),
  (yX3_goesOn, cX3_goesOn, 4, (some .boolean), 3, 2, 1, 4150, 4148, 4149, 1007),
  (yX3_who, cX3_who, 4, (some .int), 3, 2, 1, 4154, 4152, 4153, 1007),
  (yX3_move, cX3_move, 3, none, 3, 2, 1, 4158, 4156, 4157, 1007)]
def xMet_22 : List xMrow := [
  (yX3_put, cX3_put, 5, none, 3, 3, 1, 4162, 4160, 4161, 1007),
  (yX6_stepOff, cX6_stepOff, 7, (some .boolean), 6, 3, 1, 4166, 4165, 33, 1009),
  (yX3_head, cX3_head, 1, (some .int), 3, 0, 1, 4171, 4169, 4170, 1007),
  (yX6_moveFixed, cX6_moveFixed, 5, none, 6, 2, 1, 4176, 4175, 34, 1009),
  (yX6_takeUpToTwo, cX6_takeUpToTwo, 11, none, 6, 3, 1, 4181, 4179, 4180, 1009),
  (yX3_sideFor, cX3_sideFor, 4, (some .int), 3, 2, 1, 4187, 4185, 4186, 1007),
  (yX6_countSecond, cX6_countSecond, 6, none, 6, 1, 1, 4191, 4190, 35, 1009)]
def xMet_23 : List xMrow := [
  (yX2_isOver, cX2_isOver, 1, (some .boolean), 2, 0, 1, 4195, 4193, 4194, 1006),
  (yX12_run, cX12_run, 3, (some .int), 12, 1, 1, 7042, 7040, 7041, 1013),
  (yX12_isRun, cX12_isRun, 2, (some .boolean), 12, 1, 1, 7046, 7045, 75, 1013),
  (yX12_second, cX12_second, 4, none, 12, 0, 1, 7050, 7049, 76, 1013),
  (yX12_bursts, cX12_bursts, 6, none, 12, 1, 1, 7054, 7053, 77, 1013),
  (yX12_comes, cX12_comes, 5, none, 12, 4, 1, 7058, 7057, 78, 1013),
  (yX12_isSome, cX12_isSome, 6, (some .boolean), 12, 2, 1, 7062, 7061, 79, 1013)]
def xMet_24 : List xMrow := [
  (yX12_inHall, cX12_inHall, 2, (some .int), 12, 1, 1, 7066, 7065, 80, 1013),
  (yX12_countOf, cX12_countOf, 5, (some .int), 12, 2, 1, 7070, 7069, 81, 1013),
  (yX12_hallOf, cX12_hallOf, 3, (some .int), 12, 2, 1, 7074, 7073, 82, 1013),
  (yX12_saysOf, cX12_saysOf, 5, (some .long), 12, 1, 1, 7078, 7077, 83, 1013),
  (yX12_worked, cX12_worked, 5, (some .long), 12, 3, 0, 7081, 7080, 0, 1013),
  (yX12_bound, cX12_bound, 2, (some .long), 12, 1, 0, 7084, 7083, 0, 1013),
  (yX12_lets, cX12_lets, 4, none, 12, 1, 1, 7090, 7089, 84, 1013)]
def xMet_25 : List xMrow := [
  (yX12_allRoutes, cX12_allRoutes, 2, none, 12, 0, 1, 7094, 7093, 85, 1013),
  (yX12_routes, cX12_routes, 8, none, 12, 2, 1, 7025, 7024, 71, 1013),
  (yX12_costFrom, cX12_costFrom, 5, (some .int), 12, 3, 1, 7030, 7029, 72, 1013),
  (yX12_footOf, cX12_footOf, 2, (some .int), 12, 1, 1, 7034, 7033, 73, 1013),
  (yX12_otherEnd, cX12_otherEnd, 3, (some .int), 12, 2, 1, 7038, 7037, 74, 1013),
  (yX12_stairs, cX12_stairs, 5, none, 12, 2, 1, 7098, 7097, 86, 1013),
  (yX12_walkOf, cX12_walkOf, 6, (some .int), 12, 1, 1, 7102, 7101, 87, 1013)]
def xMet_26 : List xMrow := [
  (yX12_climbs, cX12_climbs, 7, none, 12, 2, 1, 7108, 7107, 88, 1013),
  (yX12_placeOf, cX12_placeOf, 4, (some .int), 12, 3, 1, 7112, 7111, 89, 1013),
  (yX12_stepsOff, cX12_stepsOff, 5, (some .boolean), 12, 2, 1, 7116, 7115, 90, 1013),
  (yX12_headOf, cX12_headOf, 2, (some .int), 12, 1, 1, 7120, 7119, 91, 1013),
  (yX12_moves, cX12_moves, 7, (some .boolean), 12, 2, 1, 7124, 7123, 92, 1013),
  (yX12_trips, cX12_trips, 2, none, 12, 1, 1, 7128, 7127, 93, 1013),
  (yX12_takes, cX12_takes, 9, none, 12, 2, 1, 7132, 7131, 94, 1013)]
def xMet_27 : List xMrow := [
  (yX12_mostOf, cX12_mostOf, 8, (some .int), 12, 3, 1, 7136, 7135, 95, 1013),
  (yX12_sideFor, cX12_sideFor, 4, (some .int), 12, 2, 1, 7140, 7139, 96, 1013),
  (yX12_lifts, cX12_lifts, 6, none, 12, 3, 1, 7144, 7143, 97, 1013),
  (yX12_isOver, cX12_isOver, 2, (some .boolean), 12, 1, 1, 7148, 7147, 98, 1013),
  (yX11_of, cX11_of, 4, (some .int), 11, 2, 1, 4201, 4199, 4200, 1001),
  (yX12_of, cX12_of, 3, (some .int), 12, 2, 1, 7152, 7150, 7151, 1013),
  (yX11_on, cX11_on, 4, (some .int), 11, 2, 1, 4205, 4203, 4204, 1001)]
def xMet_28 : List xMrow := [
  (yX12_on, cX12_on, 3, (some .int), 12, 2, 1, 7156, 7154, 7155, 1013),
  (yX11_step, cX11_step, 4, (some .int), 11, 3, 1, 4209, 4207, 4208, 1001),
  (yX12_step, cX12_step, 4, (some .int), 12, 3, 1, 7160, 7158, 7159, 1013),
  (yX11_route, cX11_route, 4, (some .int), 11, 3, 1, 4214, 4212, 4213, 1001),
  (yX12_route, cX12_route, 4, (some .int), 12, 3, 1, 7021, 7019, 7020, 1013),
  (yX11_all, cX11_all, 2, (some .int), 11, 1, 1, 4220, 4218, 4219, 1001),
  (yX12_all, cX12_all, 2, (some .int), 12, 1, 1, 7164, 7162, 7163, 1013)]
def xMet_29 : List xMrow := [
  (yX11_ways, cX11_ways, 9, (some .int), 11, 3, 1, 4224, 4222, 4223, 1001),
  (yX11_mayTurn, cX11_mayTurn, 4, (some .boolean), 11, 1, 1, 4228, 4227, 36, 1001),
  (yJ6_bitCount_0f7a4, cJ6_bitCount_0f7a4, 1, (some .int), 26, 1, 0, 4231, 4230, 0, 1020),
  (yX11_waitedByWays, cX11_waitedByWays, 6, (some .int), 11, 3, 1, 4238, 4237, 37, 1001),
  (yX11_beginTrial, cX11_beginTrial, 1, (some (.object "MovingStairs$Text")), 11, 0, 1, 5002, 5001, 38, 1001),
  (yX9_copyMoving, cX9_copyMoving, 3, none, 9, 1, 1, 5006, 5004, 5005, 1002),
  (yX2_copy, cX2_copy, 2, none, 2, 1, 1, 5010, 5008, 5009, 1006)]
def xMet_30 : List xMrow := [
  (yX3_copy, cX3_copy, 2, none, 3, 1, 1, 5017, 5015, 5016, 1007),
  (yX0_copy, cX0_copy, 2, none, 0, 1, 1, 5022, 5020, 5021, 1008),
  (yX12_ways, cX12_ways, 9, (some .int), 12, 3, 1, 7168, 7166, 7167, 1013),
  (yX12_areStairs, cX12_areStairs, 5, (some .boolean), 12, 1, 1, 7172, 7171, 99, 1013),
  (yX12_saves, cX12_saves, 2, none, 12, 0, 1, 7176, 7175, 100, 1013),
  (yX12_runs, cX12_runs, 3, none, 12, 1, 1, 7181, 7180, 101, 1013),
  (yX12_putsBack, cX12_putsBack, 2, none, 12, 0, 1, 7185, 7184, 102, 1013)]
def xMet_31 : List xMrow := [
  (yX11_least, cX11_least, 6, (some .int), 11, 3, 1, 5026, 5024, 5025, 1001),
  (yX11_shutByBar, cX11_shutByBar, 6, (some .int), 11, 3, 1, 5030, 5029, 39, 1001),
  (yX9_anyHallOver, cX9_anyHallOver, 2, (some .boolean), 9, 0, 1, 5034, 5032, 5033, 1002),
  (yX12_least, cX12_least, 8, (some .int), 12, 3, 1, 7189, 7187, 7188, 1013),
  (yX11_felt, cX11_felt, 6, (some .int), 11, 2, 1, 5039, 5037, 5038, 1001),
  (yX12_felt, cX12_felt, 7, (some .int), 12, 2, 1, 7193, 7191, 7192, 1013),
  (yX12_isStair, cX12_isStair, 2, (some .boolean), 12, 1, 1, 7197, 7196, 103, 1013)]
def xMet_32 : List xMrow := [
  (yX11_standing, cX11_standing, 3, (some .int), 11, 2, 1, 5045, 5043, 5044, 1001),
  (yX11_offByMode, cX11_offByMode, 6, (some .int), 11, 3, 1, 5050, 5049, 40, 1001),
  (yX12_standing, cX12_standing, 5, (some .int), 12, 2, 1, 7201, 7199, 7200, 1013),
  (yX11_alone, cX11_alone, 5, (some .int), 11, 4, 1, 5054, 5052, 5053, 1001),
  (yX11_mayStandAlone, cX11_mayStandAlone, 2, (some .boolean), 11, 2, 0, 5057, 5056, 0, 1001),
  (yX11_carriedAlone, cX11_carriedAlone, 7, (some .int), 11, 4, 1, 5061, 5060, 41, 1001),
  (yX9_buildAlone, cX9_buildAlone, 4, none, 9, 3, 1, 5065, 5063, 5064, 1002)]
def xMet_33 : List xMrow := [
  (yX12_alone, cX12_alone, 5, (some .int), 12, 4, 1, 7206, 7204, 7205, 1013),
  (yX12_carries, cX12_carries, 12, (some .int), 12, 4, 1, 7210, 7209, 104, 1013),
  (yX12_loneMoves, cX12_loneMoves, 8, (some .int), 12, 2, 1, 7214, 7213, 105, 1013),
  (yX11_crossing, cX11_crossing, 5, (some .int), 11, 2, 1, 5074, 5072, 5073, 1001),
  (yX12_crossing, cX12_crossing, 5, (some .int), 12, 2, 1, 7218, 7216, 7217, 1013),
  (yX11_day, cX11_day, 4, (some .int), 11, 3, 1, 5078, 5076, 5077, 1001),
  (yX1_tell, cX1_tell, 5, (some .int), 1, 3, 1, 5082, 5080, 5081, 1003)]
def xMet_34 : List xMrow := [
  (yX12_day, cX12_day, 5, (some .int), 12, 3, 1, 7222, 7220, 7221, 1013),
  (yX11_effect, cX11_effect, 1, (some .int), 11, 0, 1, 5086, 5084, 5085, 1001),
  (yX1_meanEffect, cX1_meanEffect, 11, (some .int), 1, 0, 1, 5090, 5088, 5089, 1003),
  (yX12_effect, cX12_effect, 6, (some .int), 12, 0, 1, 7226, 7224, 7225, 1013),
  (yX12_daysOf, cX12_daysOf, 7, (some .int), 12, 3, 1, 7230, 7229, 106, 1013),
  (yX11_mend, cX11_mend, 6, (some .int), 11, 4, 1, 5096, 5094, 5095, 1001),
  (yX5_tell, cX5_tell, 5, (some .int), 5, 4, 1, 5100, 5098, 5099, 1004)]
def xMet_35 : List xMrow := [
  (yX12_mend, cX12_mend, 6, (some .int), 12, 4, 1, 7235, 7233, 7234, 1013),
  (yX11_order, cX11_order, 2, (some .int), 11, 1, 1, 5104, 5102, 5103, 1001),
  (yX5_weigh, cX5_weigh, 4, none, 5, 0, 1, 5108, 5106, 5107, 1004),
  (yX5_bestNext, cX5_bestNext, 6, (some .int), 5, 1, 1, 5113, 5112, 42, 1004),
  (yX5_countBy, cX5_countBy, 8, (some .int), 5, 2, 1, 5117, 5116, 43, 1004),
  (yX5_inTurn, cX5_inTurn, 5, (some .int), 5, 1, 1, 5121, 5119, 5120, 1004),
  (yX12_order, cX12_order, 8, (some .int), 12, 1, 1, 7239, 7237, 7238, 1013)]
def xMet_36 : List xMrow := [
  (yX12_countsBy, cX12_countsBy, 10, (some .int), 12, 3, 1, 8003, 8002, 107, 1013),
  (yX12_aboveOf, cX12_aboveOf, 6, (some .int), 12, 2, 1, 8007, 8006, 108, 1013),
  (yX11_load, cX11_load, 2, (some .int), 11, 1, 1, 5125, 5123, 5124, 1001),
  (yX4_tell, cX4_tell, 2, (some .int), 4, 1, 1, 5129, 5127, 5128, 1005),
  (yX12_load, cX12_load, 2, (some .int), 12, 1, 1, 8011, 8009, 8010, 1013),
  (yX11_unload, cX11_unload, 2, (some .int), 11, 0, 1, 5133, 5131, 5132, 1001),
  (yX12_unload, cX12_unload, 2, (some .int), 12, 0, 1, 8015, 8013, 8014, 1013)]
def xMet_37 : List xMrow := [
  (yX11_taken, cX11_taken, 3, (some .int), 11, 2, 1, 5137, 5135, 5136, 1001),
  (yX4_steppedOn, cX4_steppedOn, 14, (some .int), 4, 2, 1, 5141, 5139, 5140, 1005),
  (yX12_taken, cX12_taken, 9, (some .int), 12, 2, 1, 8019, 8017, 8018, 1013),
  (yX12_chain, cX12_chain, 7, (some .int), 12, 3, 1, 8023, 8022, 109, 1013),
  (yX11_image, cX11_image, 1, (some .int), 11, 0, 1, 5147, 5145, 5146, 1001),
  (yX9_copyAll, cX9_copyAll, 2, none, 9, 1, 1, 5151, 5149, 5150, 1002),
  (yX1_copy, cX1_copy, 2, none, 1, 1, 1, 5156, 5154, 5155, 1003)]
def xMet_38 : List xMrow := [
  (yX5_copy, cX5_copy, 2, none, 5, 1, 1, 5161, 5159, 5160, 1004),
  (yX4_copy, cX4_copy, 2, none, 4, 1, 1, 5166, 5164, 5165, 1005),
  (yX12_image, cX12_image, 2, (some .int), 12, 0, 1, 8027, 8025, 8026, 1013),
  (yX11_back, cX11_back, 1, (some .int), 11, 0, 1, 5171, 5169, 5170, 1001),
  (yX12_back, cX12_back, 2, (some .int), 12, 0, 1, 8031, 8029, 8030, 1013),
  (yX11_about, cX11_about, 2, (some .int), 11, 1, 1, 5175, 5173, 5174, 1001),
  (yX12_about, cX12_about, 2, (some .int), 12, 1, 1, 8035, 8033, 8034, 1013)]
def xMet (z : Nat) : Option xMrow := match z / 7 with
  | 0 => xMet_0[z % 7]?
  | 1 => xMet_1[z % 7]?
  | 2 => xMet_2[z % 7]?
  | 3 => xMet_3[z % 7]?
  | 4 => xMet_4[z % 7]?
  | 5 => xMet_5[z % 7]?
  | 6 => xMet_6[z % 7]?
  | 7 => xMet_7[z % 7]?
  | 8 => xMet_8[z % 7]?
  | 9 => xMet_9[z % 7]?
  | 10 => xMet_10[z % 7]?
  | 11 => xMet_11[z % 7]?
  | 12 => xMet_12[z % 7]?
  | 13 => xMet_13[z % 7]?
  | 14 => xMet_14[z % 7]?
  | 15 => xMet_15[z % 7]?
  | 16 => xMet_16[z % 7]?
  | 17 => xMet_17[z % 7]?
  | 18 => xMet_18[z % 7]?
  | 19 => xMet_19[z % 7]?
  | 20 => xMet_20[z % 7]?
  | 21 => xMet_21[z % 7]?
  | 22 => xMet_22[z % 7]?
  | 23 => xMet_23[z % 7]?
  | 24 => xMet_24[z % 7]?
  | 25 => xMet_25[z % 7]?
  | 26 => xMet_26[z % 7]?
  | 27 => xMet_27[z % 7]?
  | 28 => xMet_28[z % 7]?
  | 29 => xMet_29[z % 7]?
  | 30 => xMet_30[z % 7]?
  | 31 => xMet_31[z % 7]?
  | 32 => xMet_32[z % 7]?
  | 33 => xMet_33[z % 7]?
  | 34 => xMet_34[z % 7]?
  | 35 => xMet_35[z % 7]?
  | 36 => xMet_36[z % 7]?
  | 37 => xMet_37[z % 7]?
  | 38 => xMet_38[z % 7]?
  | _ => none
def bEq : List UInt8 → List UInt8 → Bool
  | [], [] => true
  | a :: r, b :: t => decide (a.toNat = b.toNat) && bEq r t
  | _, _ => false
theorem bEq_of : ∀ {u v : List UInt8}, bEq u v = true → u = v
  | [], [], _ => rfl
  | a :: r, b :: t, h => by
    simp only [bEq, Bool.and_eq_true, decide_eq_true_eq] at h
    rw [UInt8.toNat_inj.mp h.1, bEq_of h.2]
  | [], _ :: _, h => by simp [bEq] at h
  | _ :: _, [], h => by simp [bEq] at h
def xWokC (n : Nat) (y : MethodName) (c : ByteArray) (maxL : Nat) (ret : Option FieldType) : Bool := match xWd n with
  | some (.code x b m r) => decide (x = y) && (bEq b.data.toList c.data.toList && (decide (m = maxL) && (decide (r = ret) && goodWord (.code y c maxL ret))))
  | _ => false
theorem xWokC_of {n : Nat} {y : MethodName} {c : ByteArray} {maxL : Nat} {ret : Option FieldType} (h : xWokC n y c maxL ret = true) : xWok n (.code y c maxL ret) = true := by
  unfold xWokC at h
  split at h
  · rename_i x b m r e
    simp only [Bool.and_eq_true, decide_eq_true_eq] at h
    obtain ⟨h1, h2, h3, h4, h5⟩ := h
    have hb : b = c := by
      have h6 := bEq_of h2
      obtain ⟨⟨d1⟩⟩ := b
      obtain ⟨⟨d2⟩⟩ := c
      have h7 : d1 = d2 := h6
      rw [h7]
    subst h1; subst hb; subst h3; subst h4
    simp only [xWok, Bool.and_eq_true, decide_eq_true_eq]
    exact ⟨e, h5⟩
  · cases h
def xMetOk (r : xMrow) : Bool := match r with
  | (y, c, maxL, ret, o, n, kind, w1, w2, w3, w4) => xWok w1 (.code y c maxL ret) && (if kind = 0 then xWok w2 (.static y) else xWok w2 (.instanceMethod y)) && (if kind = 1 then xWok w3 (.selects y.cls y y) else true) && xWok w4 (.initialized y.cls) && decide (y.cls = xoN o) && plainName y.cls && decide ((parseMethodDescriptor y.desc).map (fun d => d.parameters.length) = some n) && decide (y.cls ≠ "java/lang/invoke/MethodHandle") && decide (y.cls ≠ "java/lang/invoke/VarHandle") && (if kind = 2 then decide (y.name = "<init>") && decide (ret = none) else true) && decide (kind < 3) && decide (maxL ≤ 20)
def xMetOk2 (r : xMrow) : Bool := match r with
  | (y, c, maxL, ret, o, n, kind, w1, w2, w3, w4) => xWokC w1 y c maxL ret && (if kind = 0 then xWok w2 (.static y) else xWok w2 (.instanceMethod y)) && (if kind = 1 then xWok w3 (.selects y.cls y y) else true) && xWok w4 (.initialized y.cls) && decide (y.cls = xoN o) && plainName y.cls && decide ((parseMethodDescriptor y.desc).map (fun d => d.parameters.length) = some n) && decide (y.cls ≠ "java/lang/invoke/MethodHandle") && decide (y.cls ≠ "java/lang/invoke/VarHandle") && (if kind = 2 then decide (y.name = "<init>") && decide (ret = none) else true) && decide (kind < 3) && decide (maxL ≤ 20)
theorem xMetAll {l : List xMrow} (h : l.all xMetOk2 = true) : l.all xMetOk = true := by
  refine List.all_eq_true.mpr (fun r hr => ?_)
  have h1 := List.all_eq_true.mp h r hr
  obtain ⟨y, c, maxL, ret, o, n, kind, w1, w2, w3, w4⟩ := r
  simp only [xMetOk2, Bool.and_eq_true] at h1
  simp only [xMetOk, Bool.and_eq_true]
  obtain ⟨⟨⟨⟨⟨⟨⟨⟨⟨⟨⟨a1, a2⟩, a3⟩, a4⟩, a5⟩, a6⟩, a7⟩, a8⟩, a9⟩, a10⟩, a11⟩, a12⟩ := h1
  exact ⟨⟨⟨⟨⟨⟨⟨⟨⟨⟨⟨xWokC_of a1, a2⟩, a3⟩, a4⟩, a5⟩, a6⟩, a7⟩, a8⟩, a9⟩, a10⟩, a11⟩, a12⟩
theorem xMetOk_0 : xMet_0.all xMetOk = true := xMetAll (by decide +kernel)
theorem xMetOk_1 : xMet_1.all xMetOk = true := xMetAll (by decide +kernel)
theorem xMetOk_2 : xMet_2.all xMetOk = true := xMetAll (by decide +kernel)
theorem xMetOk_3 : xMet_3.all xMetOk = true := xMetAll (by decide +kernel)
theorem xMetOk_4 : xMet_4.all xMetOk = true := xMetAll (by decide +kernel)
theorem xMetOk_5 : xMet_5.all xMetOk = true := xMetAll (by decide +kernel)
theorem xMetOk_6 : xMet_6.all xMetOk = true := xMetAll (by decide +kernel)
theorem xMetOk_7 : xMet_7.all xMetOk = true := xMetAll (by decide +kernel)
theorem xMetOk_8 : xMet_8.all xMetOk = true := xMetAll (by decide +kernel)
theorem xMetOk_9 : xMet_9.all xMetOk = true := xMetAll (by decide +kernel)
theorem xMetOk_10 : xMet_10.all xMetOk = true := xMetAll (by decide +kernel)
theorem xMetOk_11 : xMet_11.all xMetOk = true := xMetAll (by decide +kernel)
theorem xMetOk_12 : xMet_12.all xMetOk = true := xMetAll (by decide +kernel)
theorem xMetOk_13 : xMet_13.all xMetOk = true := xMetAll (by decide +kernel)
theorem xMetOk_14 : xMet_14.all xMetOk = true := xMetAll (by decide +kernel)
theorem xMetOk_15 : xMet_15.all xMetOk = true := xMetAll (by decide +kernel)
theorem xMetOk_16 : xMet_16.all xMetOk = true := xMetAll (by decide +kernel)
theorem xMetOk_17 : xMet_17.all xMetOk = true := xMetAll (by decide +kernel)
theorem xMetOk_18 : xMet_18.all xMetOk = true := xMetAll (by decide +kernel)
theorem xMetOk_19 : xMet_19.all xMetOk = true := xMetAll (by decide +kernel)
theorem xMetOk_20 : xMet_20.all xMetOk = true := xMetAll (by decide +kernel)
theorem xMetOk_21 : xMet_21.all xMetOk = true := xMetAll (by decide +kernel)
theorem xMetOk_22 : xMet_22.all xMetOk = true := xMetAll (by decide +kernel)
theorem xMetOk_23 : xMet_23.all xMetOk = true := xMetAll (by decide +kernel)
theorem xMetOk_24 : xMet_24.all xMetOk = true := xMetAll (by decide +kernel)
theorem xMetOk_25 : xMet_25.all xMetOk = true := xMetAll (by decide +kernel)
theorem xMetOk_26 : xMet_26.all xMetOk = true := xMetAll (by decide +kernel)
theorem xMetOk_27 : xMet_27.all xMetOk = true := xMetAll (by decide +kernel)
theorem xMetOk_28 : xMet_28.all xMetOk = true := xMetAll (by decide +kernel)
theorem xMetOk_29 : xMet_29.all xMetOk = true := xMetAll (by decide +kernel)
theorem xMetOk_30 : xMet_30.all xMetOk = true := xMetAll (by decide +kernel)
theorem xMetOk_31 : xMet_31.all xMetOk = true := xMetAll (by decide +kernel)
theorem xMetOk_32 : xMet_32.all xMetOk = true := xMetAll (by decide +kernel)
theorem xMetOk_33 : xMet_33.all xMetOk = true := xMetAll (by decide +kernel)
theorem xMetOk_34 : xMet_34.all xMetOk = true := xMetAll (by decide +kernel)
theorem xMetOk_35 : xMet_35.all xMetOk = true := xMetAll (by decide +kernel)
theorem xMetOk_36 : xMet_36.all xMetOk = true := xMetAll (by decide +kernel)
theorem xMetOk_37 : xMet_37.all xMetOk = true := xMetAll (by decide +kernel)
theorem xMetOk_38 : xMet_38.all xMetOk = true := xMetAll (by decide +kernel)
theorem xMet_ok {z : Nat} {r : xMrow} (h : xMet z = some r) : xMetOk r = true := by
  unfold xMet at h
  split at h
  · exact List.all_eq_true.mp xMetOk_0 r (List.mem_of_getElem? h)
  · exact List.all_eq_true.mp xMetOk_1 r (List.mem_of_getElem? h)
  · exact List.all_eq_true.mp xMetOk_2 r (List.mem_of_getElem? h)
  · exact List.all_eq_true.mp xMetOk_3 r (List.mem_of_getElem? h)
  · exact List.all_eq_true.mp xMetOk_4 r (List.mem_of_getElem? h)
  · exact List.all_eq_true.mp xMetOk_5 r (List.mem_of_getElem? h)
  · exact List.all_eq_true.mp xMetOk_6 r (List.mem_of_getElem? h)
  · exact List.all_eq_true.mp xMetOk_7 r (List.mem_of_getElem? h)
  · exact List.all_eq_true.mp xMetOk_8 r (List.mem_of_getElem? h)
  · exact List.all_eq_true.mp xMetOk_9 r (List.mem_of_getElem? h)
  · exact List.all_eq_true.mp xMetOk_10 r (List.mem_of_getElem? h)
  · exact List.all_eq_true.mp xMetOk_11 r (List.mem_of_getElem? h)
  · exact List.all_eq_true.mp xMetOk_12 r (List.mem_of_getElem? h)
  · exact List.all_eq_true.mp xMetOk_13 r (List.mem_of_getElem? h)
  · exact List.all_eq_true.mp xMetOk_14 r (List.mem_of_getElem? h)
  · exact List.all_eq_true.mp xMetOk_15 r (List.mem_of_getElem? h)
  · exact List.all_eq_true.mp xMetOk_16 r (List.mem_of_getElem? h)
  · exact List.all_eq_true.mp xMetOk_17 r (List.mem_of_getElem? h)
  · exact List.all_eq_true.mp xMetOk_18 r (List.mem_of_getElem? h)
  · exact List.all_eq_true.mp xMetOk_19 r (List.mem_of_getElem? h)
  · exact List.all_eq_true.mp xMetOk_20 r (List.mem_of_getElem? h)
  · exact List.all_eq_true.mp xMetOk_21 r (List.mem_of_getElem? h)
  · exact List.all_eq_true.mp xMetOk_22 r (List.mem_of_getElem? h)
  · exact List.all_eq_true.mp xMetOk_23 r (List.mem_of_getElem? h)
  · exact List.all_eq_true.mp xMetOk_24 r (List.mem_of_getElem? h)
  · exact List.all_eq_true.mp xMetOk_25 r (List.mem_of_getElem? h)
  · exact List.all_eq_true.mp xMetOk_26 r (List.mem_of_getElem? h)
  · exact List.all_eq_true.mp xMetOk_27 r (List.mem_of_getElem? h)
  · exact List.all_eq_true.mp xMetOk_28 r (List.mem_of_getElem? h)
  · exact List.all_eq_true.mp xMetOk_29 r (List.mem_of_getElem? h)
  · exact List.all_eq_true.mp xMetOk_30 r (List.mem_of_getElem? h)
  · exact List.all_eq_true.mp xMetOk_31 r (List.mem_of_getElem? h)
  · exact List.all_eq_true.mp xMetOk_32 r (List.mem_of_getElem? h)
  · exact List.all_eq_true.mp xMetOk_33 r (List.mem_of_getElem? h)
  · exact List.all_eq_true.mp xMetOk_34 r (List.mem_of_getElem? h)
  · exact List.all_eq_true.mp xMetOk_35 r (List.mem_of_getElem? h)
  · exact List.all_eq_true.mp xMetOk_36 r (List.mem_of_getElem? h)
  · exact List.all_eq_true.mp xMetOk_37 r (List.mem_of_getElem? h)
  · exact List.all_eq_true.mp xMetOk_38 r (List.mem_of_getElem? h)
  · cases h
def xIntr (z : Nat) : Option MethodName := match z with
  | 1000 => some Lib.Math.min.name
  | 1001 => some Lib.Math.max.name
  | 1002 => some Lib.MathLoose.min_long.x
  | 1003 => some Lib.MathLoose.max_long.x
  | 1004 => some arraycopyName
  | 1005 => some Lib.objectInit
  | _ => none
