/-! THE TABLES, by program out of the Statement's words: classes, fields, methods, constant pools -/
def rnL : List String := [RX0, RX1, RX2, RX3, RX4, RX5, RX6, RX7, RX8, RX9, RX10, RX11, RX12, RL, RJ0, RJ1, RJ7, RJ3]
def rn (i : Nat) : String := rnL.getD i ""
def exN (e : Nat) : String := ["java/util/NoSuchElementException", "java/lang/IllegalArgumentException"].getD e ""
def fkT : List (List Nat) := [[0, 2, 2, 0, 0, 0, 0], [0, 0, 0, 0, 2, 2, 2, 2, 2, 2, 2, 2, 2], [2, 0, 2, 2], [2, 2, 2, 2, 0, 0, 0, 0], [2, 2, 2, 0, 0], [2, 2, 2, 2, 3, 2, 0, 0, 3, 0, 0, 0, 2, 0, 2, 2, 2], [2, 2, 0, 0, 0, 0, 0], [2, 0, 0, 0, 0, 0, 0, 0], [2, 2, 2, 2, 2, 0, 0], [2, 2, 2, 0, 2, 2, 0, 0], [2, 2, 2, 0, 0], [2, 2, 2, 2, 2, 2, 2, 2, 2, 2, 2, 2, 2, 2, 0, 0], [0, 0, 0, 0, 0, 0, 0, 0, 0, 2, 2, 2, 2, 2, 2, 2, 2, 2, 2, 0, 0, 2, 2, 2, 2, 2, 2, 2, 0, 2, 2, 2, 2, 2, 0, 0, 0, 0, 0, 0, 0, 0, 0, 2, 2, 0, 0, 2, 2, 2, 0]]
/-- a field's kind: 0 int, 1 long, 2 reference, 3 boolean -/
def fk (ci k : Nat) : Nat := (fkT.getD ci []).getD k 9
/-- String constants: their texts -/
def strT : List (List Nat) := [[112, 105, 101, 99, 101, 32, 99, 111, 108, 108, 97, 114, 32, 102, 105, 114, 101, 32, 104, 111, 112, 101, 32], [102, 108, 111, 119, 32, 108, 111, 115, 115, 32, 108, 101, 110, 103, 116, 104, 32, 98, 101, 110, 100, 115, 32, 98, 117, 114, 115, 116, 32, 112, 108, 97, 99, 101, 32, 116, 117, 114, 110, 101, 100, 32, 104, 111, 112, 101, 32, 112, 105, 101, 99, 101, 32, 108, 101, 97, 115, 116, 32, 109, 111, 115, 116, 32], [116, 117, 114, 110, 32, 108, 97, 121, 32, 108, 105, 102, 116, 32, 98, 101, 110, 100, 32, 98, 117, 114, 115, 116, 32, 112, 97, 116, 99, 104, 32, 104, 111, 112, 101, 32, 104, 111, 117, 114, 32, 97, 103, 97, 105, 110, 32]]
def extK : List (Nat × Nat) := [(5, 0), (5, 11), (6, 0), (7, 23), (6, 1), (7, 64), (6, 2), (7, 47)]
/-- own class, code, answer (0 int, 1 boolean, 2 long, 3 nothing, 4 char, 5 byte), handlers -/
abbrev MI : Type := Nat × ByteArray × Nat × List (Nat × Nat × Nat × Nat)
def nX0_init : Nat := 0
def iX0_init : MI := (0, cX0_init, 6, [])
def pe_X0_init : MethodName × MI × Nat := (yX0_init, iX0_init, 1)
def nX0_clear : Nat := 1
def iX0_clear : MI := (0, cX0_clear, 3, [])
def pe_X0_clear : MethodName × MI × Nat := (yX0_clear, iX0_clear, 1)
def nX0_readFrom : Nat := 2
def iX0_readFrom : MI := (0, cX0_readFrom, 1, [])
def pe_X0_readFrom : MethodName × MI × Nat := (yX0_readFrom, iX0_readFrom, 3)
def nX0_readLine : Nat := 3
def iX0_readLine : MI := (0, cX0_readLine, 1, [])
def pe_X0_readLine : MethodName × MI × Nat := (yX0_readLine, iX0_readLine, 3)
def nX0_become : Nat := 4
def iX0_become : MI := (0, cX0_become, 3, [])
def pe_X0_become : MethodName × MI × Nat := (yX0_become, iX0_become, 2)
def nX0_findLeaks : Nat := 5
def iX0_findLeaks : MI := (0, cX0_findLeaks, 3, [])
def pe_X0_findLeaks : MethodName × MI × Nat := (yX0_findLeaks, iX0_findLeaks, 5)
def nX0_isRight : Nat := 6
def iX0_isRight : MI := (0, cX0_isRight, 1, [])
def pe_X0_isRight : MethodName × MI × Nat := (yX0_isRight, iX0_isRight, 4)
def nX0_tallyUp : Nat := 7
def iX0_tallyUp : MI := (0, cX0_tallyUp, 3, [])
def pe_X0_tallyUp : MethodName × MI × Nat := (yX0_tallyUp, iX0_tallyUp, 5)
def nX0_findLook : Nat := 8
def iX0_findLook : MI := (0, cX0_findLook, 3, [])
def pe_X0_findLook : MethodName × MI × Nat := (yX0_findLook, iX0_findLook, 4)
def nX0_worstAt : Nat := 9
def iX0_worstAt : MI := (0, cX0_worstAt, 0, [])
def pe_X0_worstAt : MethodName × MI × Nat := (yX0_worstAt, iX0_worstAt, 4)
def nX1_init : Nat := 10
def iX1_init : MI := (1, cX1_init, 6, [])
def pe_X1_init : MethodName × MI × Nat := (yX1_init, iX1_init, 1)
def nX1_clear : Nat := 11
def iX1_clear : MI := (1, cX1_clear, 3, [])
def pe_X1_clear : MethodName × MI × Nat := (yX1_clear, iX1_clear, 2)
def nX1_follows : Nat := 12
def iX1_follows : MI := (1, cX1_follows, 1, [])
def pe_X1_follows : MethodName × MI × Nat := (yX1_follows, iX1_follows, 3)
def nX1_footOf : Nat := 13
def iX1_footOf : MI := (1, cX1_footOf, 0, [])
def pe_X1_footOf : MethodName × MI × Nat := (yX1_footOf, iX1_footOf, 2)
def nX1_headOf : Nat := 14
def iX1_headOf : MI := (1, cX1_headOf, 0, [])
def pe_X1_headOf : MethodName × MI × Nat := (yX1_headOf, iX1_headOf, 2)
def nX1_joins : Nat := 15
def iX1_joins : MI := (1, cX1_joins, 1, [])
def pe_X1_joins : MethodName × MI × Nat := (yX1_joins, iX1_joins, 3)
def nX1_readFrom : Nat := 16
def iX1_readFrom : MI := (1, cX1_readFrom, 1, [])
def pe_X1_readFrom : MethodName × MI × Nat := (yX1_readFrom, iX1_readFrom, 4)
def nX1_isFull : Nat := 17
def iX1_isFull : MI := (1, cX1_isFull, 1, [])
def pe_X1_isFull : MethodName × MI × Nat := (yX1_isFull, iX1_isFull, 2)
def nX1_readClause : Nat := 18
def iX1_readClause : MI := (1, cX1_readClause, 1, [])
def pe_X1_readClause : MethodName × MI × Nat := (yX1_readClause, iX1_readClause, 3)
def nX1_readPiece : Nat := 19
def iX1_readPiece : MI := (1, cX1_readPiece, 1, [])
def pe_X1_readPiece : MethodName × MI × Nat := (yX1_readPiece, iX1_readPiece, 3)
def nX1_readTo : Nat := 20
def iX1_readTo : MI := (1, cX1_readTo, 1, [])
def pe_X1_readTo : MethodName × MI × Nat := (yX1_readTo, iX1_readTo, 6)
def nX1_readCollar : Nat := 21
def iX1_readCollar : MI := (1, cX1_readCollar, 1, [])
def pe_X1_readCollar : MethodName × MI × Nat := (yX1_readCollar, iX1_readCollar, 4)
def nX1_join : Nat := 22
def iX1_join : MI := (1, cX1_join, 3, [])
def pe_X1_join : MethodName × MI × Nat := (yX1_join, iX1_join, 3)
def nX1_readFire : Nat := 23
def iX1_readFire : MI := (1, cX1_readFire, 1, [])
def pe_X1_readFire : MethodName × MI × Nat := (yX1_readFire, iX1_readFire, 3)
def nX1_readHope : Nat := 24
def iX1_readHope : MI := (1, cX1_readHope, 1, [])
def pe_X1_readHope : MethodName × MI × Nat := (yX1_readHope, iX1_readHope, 3)
def nX1_become : Nat := 25
def iX1_become : MI := (1, cX1_become, 3, [])
def pe_X1_become : MethodName × MI × Nat := (yX1_become, iX1_become, 2)
def nX1_reaches : Nat := 26
def iX1_reaches : MI := (1, cX1_reaches, 1, [])
def pe_X1_reaches : MethodName × MI × Nat := (yX1_reaches, iX1_reaches, 4)
def nX1_part : Nat := 27
def iX1_part : MI := (1, cX1_part, 3, [])
def pe_X1_part : MethodName × MI × Nat := (yX1_part, iX1_part, 3)
def nX1_level : Nat := 28
def iX1_level : MI := (1, cX1_level, 0, [])
def pe_X1_level : MethodName × MI × Nat := (yX1_level, iX1_level, 6)
def nX2_init : Nat := 29
def iX2_init : MI := (2, cX2_init, 6, [])
def pe_X2_init : MethodName × MI × Nat := (yX2_init, iX2_init, 1)
def nX2_beUntold : Nat := 30
def iX2_beUntold : MI := (2, cX2_beUntold, 3, [])
def pe_X2_beUntold : MethodName × MI × Nat := (yX2_beUntold, iX2_beUntold, 2)
def nX2_readFrom : Nat := 31
def iX2_readFrom : MI := (2, cX2_readFrom, 1, [])
def pe_X2_readFrom : MethodName × MI × Nat := (yX2_readFrom, iX2_readFrom, 2)
def nX2_readSum : Nat := 32
def iX2_readSum : MI := (2, cX2_readSum, 1, [])
def pe_X2_readSum : MethodName × MI × Nat := (yX2_readSum, iX2_readSum, 5)
def nX2_readProduct : Nat := 33
def iX2_readProduct : MI := (2, cX2_readProduct, 1, [])
def pe_X2_readProduct : MethodName × MI × Nat := (yX2_readProduct, iX2_readProduct, 5)
def nX2_readUnit : Nat := 34
def iX2_readUnit : MI := (2, cX2_readUnit, 1, [])
def pe_X2_readUnit : MethodName × MI × Nat := (yX2_readUnit, iX2_readUnit, 5)
def nX2_add : Nat := 35
def iX2_add : MI := (2, cX2_add, 1, [])
def pe_X2_add : MethodName × MI × Nat := (yX2_add, iX2_add, 2)
def nX2_become : Nat := 36
def iX2_become : MI := (2, cX2_become, 3, [])
def pe_X2_become : MethodName × MI × Nat := (yX2_become, iX2_become, 2)
def nX2_tellPiece : Nat := 37
def iX2_tellPiece : MI := (2, cX2_tellPiece, 3, [])
def pe_X2_tellPiece : MethodName × MI × Nat := (yX2_tellPiece, iX2_tellPiece, 5)
def nX2_tellNow : Nat := 38
def iX2_tellNow : MI := (2, cX2_tellNow, 3, [])
def pe_X2_tellNow : MethodName × MI × Nat := (yX2_tellNow, iX2_tellNow, 6)
def nX2_left : Nat := 39
def iX2_left : MI := (2, cX2_left, 0, [])
def pe_X2_left : MethodName × MI × Nat := (yX2_left, iX2_left, 4)
def nX2_reckon : Nat := 40
def iX2_reckon : MI := (2, cX2_reckon, 0, [])
def pe_X2_reckon : MethodName × MI × Nat := (yX2_reckon, iX2_reckon, 3)
def nX3_init : Nat := 41
def iX3_init : MI := (3, cX3_init, 6, [])
def pe_X3_init : MethodName × MI × Nat := (yX3_init, iX3_init, 1)
def nX3_begin : Nat := 42
def iX3_begin : MI := (3, cX3_begin, 3, [])
def pe_X3_begin : MethodName × MI × Nat := (yX3_begin, iX3_begin, 2)
def nX3_readFrom : Nat := 43
def iX3_readFrom : MI := (3, cX3_readFrom, 3, [])
def pe_X3_readFrom : MethodName × MI × Nat := (yX3_readFrom, iX3_readFrom, 4)
def nX3_writeTo : Nat := 44
def iX3_writeTo : MI := (3, cX3_writeTo, 3, [])
def pe_X3_writeTo : MethodName × MI × Nat := (yX3_writeTo, iX3_writeTo, 4)
def nX3_turnRound : Nat := 45
def iX3_turnRound : MI := (3, cX3_turnRound, 1, [])
def pe_X3_turnRound : MethodName × MI × Nat := (yX3_turnRound, iX3_turnRound, 2)
def nX3_placeOf : Nat := 46
def iX3_placeOf : MI := (3, cX3_placeOf, 0, [])
def pe_X3_placeOf : MethodName × MI × Nat := (yX3_placeOf, iX3_placeOf, 3)
def nX3_layDown : Nat := 47
def iX3_layDown : MI := (3, cX3_layDown, 1, [])
def pe_X3_layDown : MethodName × MI × Nat := (yX3_layDown, iX3_layDown, 3)
def nX3_wayOf : Nat := 48
def iX3_wayOf : MI := (3, cX3_wayOf, 0, [])
def pe_X3_wayOf : MethodName × MI × Nat := (yX3_wayOf, iX3_wayOf, 2)
def nX3_canLay : Nat := 49
def iX3_canLay : MI := (3, cX3_canLay, 1, [])
def pe_X3_canLay : MethodName × MI × Nat := (yX3_canLay, iX3_canLay, 3)
def nX3_liftLast : Nat := 50
def iX3_liftLast : MI := (3, cX3_liftLast, 1, [])
def pe_X3_liftLast : MethodName × MI × Nat := (yX3_liftLast, iX3_liftLast, 1)
def nX3_bendTo : Nat := 51
def iX3_bendTo : MI := (3, cX3_bendTo, 1, [])
def pe_X3_bendTo : MethodName × MI × Nat := (yX3_bendTo, iX3_bendTo, 3)
def nX3_burstOnce : Nat := 52
def iX3_burstOnce : MI := (3, cX3_burstOnce, 1, [])
def pe_X3_burstOnce : MethodName × MI × Nat := (yX3_burstOnce, iX3_burstOnce, 2)
def nX3_patchOnce : Nat := 53
def iX3_patchOnce : MI := (3, cX3_patchOnce, 1, [])
def pe_X3_patchOnce : MethodName × MI × Nat := (yX3_patchOnce, iX3_patchOnce, 2)
def nX3_hopeFor : Nat := 54
def iX3_hopeFor : MI := (3, cX3_hopeFor, 1, [])
def pe_X3_hopeFor : MethodName × MI × Nat := (yX3_hopeFor, iX3_hopeFor, 2)
def nX3_longNow : Nat := 55
def iX3_longNow : MI := (3, cX3_longNow, 0, [])
def pe_X3_longNow : MethodName × MI × Nat := (yX3_longNow, iX3_longNow, 4)
def nX3_passHour : Nat := 56
def iX3_passHour : MI := (3, cX3_passHour, 0, [])
def pe_X3_passHour : MethodName × MI × Nat := (yX3_passHour, iX3_passHour, 4)
def nX3_rowBits : Nat := 57
def iX3_rowBits : MI := (3, cX3_rowBits, 0, [])
def pe_X3_rowBits : MethodName × MI × Nat := (yX3_rowBits, iX3_rowBits, 3)
def nX3_outBits : Nat := 58
def iX3_outBits : MI := (3, cX3_outBits, 0, [])
def pe_X3_outBits : MethodName × MI × Nat := (yX3_outBits, iX3_outBits, 3)
def nX3_become : Nat := 59
def iX3_become : MI := (3, cX3_become, 3, [])
def pe_X3_become : MethodName × MI × Nat := (yX3_become, iX3_become, 2)
def nX3_allBursts : Nat := 60
def iX3_allBursts : MI := (3, cX3_allBursts, 0, [])
def pe_X3_allBursts : MethodName × MI × Nat := (yX3_allBursts, iX3_allBursts, 3)
def nX4_init : Nat := 61
def iX4_init : MI := (4, cX4_init, 6, [])
def pe_X4_init : MethodName × MI × Nat := (yX4_init, iX4_init, 1)
def nX4_pop : Nat := 62
def iX4_pop : MI := (4, cX4_pop, 3, [])
def pe_X4_pop : MethodName × MI × Nat := (yX4_pop, iX4_pop, 2)
def nX4_canKeep : Nat := 63
def iX4_canKeep : MI := (4, cX4_canKeep, 1, [])
def pe_X4_canKeep : MethodName × MI × Nat := (yX4_canKeep, iX4_canKeep, 1)
def nX4_keep : Nat := 64
def iX4_keep : MI := (4, cX4_keep, 3, [])
def pe_X4_keep : MethodName × MI × Nat := (yX4_keep, iX4_keep, 2)
def nX4_bringBack : Nat := 65
def iX4_bringBack : MI := (4, cX4_bringBack, 3, [])
def pe_X4_bringBack : MethodName × MI × Nat := (yX4_bringBack, iX4_bringBack, 2)
def nX4_forget : Nat := 66
def iX4_forget : MI := (4, cX4_forget, 3, [])
def pe_X4_forget : MethodName × MI × Nat := (yX4_forget, iX4_forget, 1)
def nX4_isFull : Nat := 67
def iX4_isFull : MI := (4, cX4_isFull, 1, [])
def pe_X4_isFull : MethodName × MI × Nat := (yX4_isFull, iX4_isFull, 1)
def nX4_push : Nat := 68
def iX4_push : MI := (4, cX4_push, 3, [])
def pe_X4_push : MethodName × MI × Nat := (yX4_push, iX4_push, 2)
def nX5_init : Nat := 69
def iX5_init : MI := (5, cX5_init, 6, [])
def pe_X5_init : MethodName × MI × Nat := (yX5_init, iX5_init, 3)
def nX5_forgetShort : Nat := 70
def iX5_forgetShort : MI := (5, cX5_forgetShort, 3, [])
def pe_X5_forgetShort : MethodName × MI × Nat := (yX5_forgetShort, iX5_forgetShort, 1)
def nX5_mostPairs : Nat := 71
def iX5_mostPairs : MI := (5, cX5_mostPairs, 0, [])
def pe_X5_mostPairs : MethodName × MI × Nat := (yX5_mostPairs, iX5_mostPairs, 7)
def nX5_leastOf : Nat := 72
def iX5_leastOf : MI := (5, cX5_leastOf, 0, [])
def pe_X5_leastOf : MethodName × MI × Nat := (yX5_leastOf, iX5_leastOf, 2)
def nX5_areFit : Nat := 73
def iX5_areFit : MI := (5, cX5_areFit, 1, [])
def pe_X5_areFit : MethodName × MI × Nat := (yX5_areFit, iX5_areFit, 3)
def nX5_forgetHouse : Nat := 74
def iX5_forgetHouse : MI := (5, cX5_forgetHouse, 3, [])
def pe_X5_forgetHouse : MethodName × MI × Nat := (yX5_forgetHouse, iX5_forgetHouse, 1)
def nX5_findChain : Nat := 75
def iX5_findChain : MI := (5, cX5_findChain, 3, [])
def pe_X5_findChain : MethodName × MI × Nat := (yX5_findChain, iX5_findChain, 5)
def nX5_longestNow : Nat := 76
def iX5_longestNow : MI := (5, cX5_longestNow, 0, [])
def pe_X5_longestNow : MethodName × MI × Nat := (yX5_longestNow, iX5_longestNow, 3)
def nX5_fillFollowers : Nat := 77
def iX5_fillFollowers : MI := (5, cX5_fillFollowers, 3, [])
def pe_X5_fillFollowers : MethodName × MI × Nat := (yX5_fillFollowers, iX5_fillFollowers, 4)
def nX5_longestBehind : Nat := 78
def iX5_longestBehind : MI := (5, cX5_longestBehind, 0, [])
def pe_X5_longestBehind : MethodName × MI × Nat := (yX5_longestBehind, iX5_longestBehind, 5)
def nX5_canFollow : Nat := 79
def iX5_canFollow : MI := (5, cX5_canFollow, 1, [])
def pe_X5_canFollow : MethodName × MI × Nat := (yX5_canFollow, iX5_canFollow, 4)
def nX5_longWith : Nat := 80
def iX5_longWith : MI := (5, cX5_longWith, 0, [])
def pe_X5_longWith : MethodName × MI × Nat := (yX5_longWith, iX5_longWith, 4)
def nX5_firstLeaving : Nat := 81
def iX5_firstLeaving : MI := (5, cX5_firstLeaving, 0, [])
def pe_X5_firstLeaving : MethodName × MI × Nat := (yX5_firstLeaving, iX5_firstLeaving, 5)
def nX5_findShort : Nat := 82
def iX5_findShort : MI := (5, cX5_findShort, 3, [])
def pe_X5_findShort : MethodName × MI × Nat := (yX5_findShort, iX5_findShort, 3)
def nX5_searchShort : Nat := 83
def iX5_searchShort : MI := (5, cX5_searchShort, 3, [])
def pe_X5_searchShort : MethodName × MI × Nat := (yX5_searchShort, iX5_searchShort, 11)
def nX5_isNew : Nat := 84
def iX5_isNew : MI := (5, cX5_isNew, 1, [])
def pe_X5_isNew : MethodName × MI × Nat := (yX5_isNew, iX5_isNew, 5)
def nX5_findCollar : Nat := 85
def iX5_findCollar : MI := (5, cX5_findCollar, 3, [])
def pe_X5_findCollar : MethodName × MI × Nat := (yX5_findCollar, iX5_findCollar, 3)
def nX5_tryCollar : Nat := 86
def iX5_tryCollar : MI := (5, cX5_tryCollar, 3, [])
def pe_X5_tryCollar : MethodName × MI × Nat := (yX5_tryCollar, iX5_tryCollar, 4)
def nX6_init : Nat := 87
def iX6_init : MI := (6, cX6_init, 6, [])
def pe_X6_init : MethodName × MI × Nat := (yX6_init, iX6_init, 2)
def nX6_findRests : Nat := 88
def iX6_findRests : MI := (6, cX6_findRests, 3, [])
def pe_X6_findRests : MethodName × MI × Nat := (yX6_findRests, iX6_findRests, 5)
def nX6_fillArrives : Nat := 89
def iX6_fillArrives : MI := (6, cX6_fillArrives, 3, [])
def pe_X6_fillArrives : MethodName × MI × Nat := (yX6_fillArrives, iX6_fillArrives, 4)
def nX6_canTake : Nat := 90
def iX6_canTake : MI := (6, cX6_canTake, 1, [])
def pe_X6_canTake : MethodName × MI × Nat := (yX6_canTake, iX6_canTake, 3)
def nX6_bendMore : Nat := 91
def iX6_bendMore : MI := (6, cX6_bendMore, 3, [])
def pe_X6_bendMore : MethodName × MI × Nat := (yX6_bendMore, iX6_bendMore, 3)
def nX6_isRest : Nat := 92
def iX6_isRest : MI := (6, cX6_isRest, 1, [])
def pe_X6_isRest : MethodName × MI × Nat := (yX6_isRest, iX6_isRest, 5)
def nX6_streetHas : Nat := 93
def iX6_streetHas : MI := (6, cX6_streetHas, 0, [])
def pe_X6_streetHas : MethodName × MI × Nat := (yX6_streetHas, iX6_streetHas, 3)
def nX6_paid : Nat := 94
def iX6_paid : MI := (6, cX6_paid, 0, [])
def pe_X6_paid : MethodName × MI × Nat := (yX6_paid, iX6_paid, 2)
def nX6_houseHas : Nat := 95
def iX6_houseHas : MI := (6, cX6_houseHas, 0, [])
def pe_X6_houseHas : MethodName × MI × Nat := (yX6_houseHas, iX6_houseHas, 3)
def nX6_noteRest : Nat := 96
def iX6_noteRest : MI := (6, cX6_noteRest, 3, [])
def pe_X6_noteRest : MethodName × MI × Nat := (yX6_noteRest, iX6_noteRest, 3)
def nX6_asTold : Nat := 97
def iX6_asTold : MI := (6, cX6_asTold, 0, [])
def pe_X6_asTold : MethodName × MI × Nat := (yX6_asTold, iX6_asTold, 2)
def nX7_init : Nat := 98
def iX7_init : MI := (7, cX7_init, 6, [])
def pe_X7_init : MethodName × MI × Nat := (yX7_init, iX7_init, 1)
def nX7_hasRoom : Nat := 99
def iX7_hasRoom : MI := (7, cX7_hasRoom, 1, [])
def pe_X7_hasRoom : MethodName × MI × Nat := (yX7_hasRoom, iX7_hasRoom, 1)
def nX7_append : Nat := 100
def iX7_append : MI := (7, cX7_append, 3, [])
def pe_X7_append : MethodName × MI × Nat := (yX7_append, iX7_append, 3)
def nX7_begin : Nat := 101
def iX7_begin : MI := (7, cX7_begin, 3, [])
def pe_X7_begin : MethodName × MI × Nat := (yX7_begin, iX7_begin, 2)
def nX7_peek : Nat := 102
def iX7_peek : MI := (7, cX7_peek, 0, [])
def pe_X7_peek : MethodName × MI × Nat := (yX7_peek, iX7_peek, 1)
def nX7_byteAt : Nat := 103
def iX7_byteAt : MI := (7, cX7_byteAt, 0, [])
def pe_X7_byteAt : MethodName × MI × Nat := (yX7_byteAt, iX7_byteAt, 2)
def nX7_named : Nat := 104
def iX7_named : MI := (7, cX7_named, 0, [])
def pe_X7_named : MethodName × MI × Nat := (yX7_named, iX7_named, 3)
def nX7_placeAmong : Nat := 105
def iX7_placeAmong : MI := (7, cX7_placeAmong, 0, [])
def pe_X7_placeAmong : MethodName × MI × Nat := (yX7_placeAmong, iX7_placeAmong, 6)
def nX7_blame : Nat := 106
def iX7_blame : MI := (7, cX7_blame, 1, [])
def pe_X7_blame : MethodName × MI × Nat := (yX7_blame, iX7_blame, 2)
def nX7_tooMany : Nat := 107
def iX7_tooMany : MI := (7, cX7_tooMany, 1, [])
def pe_X7_tooMany : MethodName × MI × Nat := (yX7_tooMany, iX7_tooMany, 1)
def nX7_numeral : Nat := 108
def iX7_numeral : MI := (7, cX7_numeral, 1, [])
def pe_X7_numeral : MethodName × MI × Nat := (yX7_numeral, iX7_numeral, 4)
def nX7_isDigit : Nat := 109
def iX7_isDigit : MI := (7, cX7_isDigit, 1, [])
def pe_X7_isDigit : MethodName × MI × Nat := (yX7_isDigit, iX7_isDigit, 1)
def nX7_noneSuch : Nat := 110
def iX7_noneSuch : MI := (7, cX7_noneSuch, 1, [])
def pe_X7_noneSuch : MethodName × MI × Nat := (yX7_noneSuch, iX7_noneSuch, 1)
def nX7_sign : Nat := 111
def iX7_sign : MI := (7, cX7_sign, 1, [])
def pe_X7_sign : MethodName × MI × Nat := (yX7_sign, iX7_sign, 2)
def nX7_ended : Nat := 112
def iX7_ended : MI := (7, cX7_ended, 1, [])
def pe_X7_ended : MethodName × MI × Nat := (yX7_ended, iX7_ended, 1)
def nX8_init : Nat := 113
def iX8_init : MI := (8, cX8_init, 6, [])
def pe_X8_init : MethodName × MI × Nat := (yX8_init, iX8_init, 3)
def nX8_reachedBits : Nat := 114
def iX8_reachedBits : MI := (8, cX8_reachedBits, 0, [])
def pe_X8_reachedBits : MethodName × MI × Nat := (yX8_reachedBits, iX8_reachedBits, 6)
def nX8_arriving : Nat := 115
def iX8_arriving : MI := (8, cX8_arriving, 0, [])
def pe_X8_arriving : MethodName × MI × Nat := (yX8_arriving, iX8_arriving, 5)
def nX8_behindPiece : Nat := 116
def iX8_behindPiece : MI := (8, cX8_behindPiece, 0, [])
def pe_X8_behindPiece : MethodName × MI × Nat := (yX8_behindPiece, iX8_behindPiece, 9)
def nX8_chanceOf : Nat := 117
def iX8_chanceOf : MI := (8, cX8_chanceOf, 2, [])
def pe_X8_chanceOf : MethodName × MI × Nat := (yX8_chanceOf, iX8_chanceOf, 11)
def nX8_worstPlace : Nat := 118
def iX8_worstPlace : MI := (8, cX8_worstPlace, 0, [])
def pe_X8_worstPlace : MethodName × MI × Nat := (yX8_worstPlace, iX8_worstPlace, 4)
def nX8_lostAt : Nat := 119
def iX8_lostAt : MI := (8, cX8_lostAt, 0, [])
def pe_X8_lostAt : MethodName × MI × Nat := (yX8_lostAt, iX8_lostAt, 4)
def nX9_init : Nat := 120
def iX9_init : MI := (9, cX9_init, 6, [])
def pe_X9_init : MethodName × MI × Nat := (yX9_init, iX9_init, 1)
def nX9_readFrom : Nat := 121
def iX9_readFrom : MI := (9, cX9_readFrom, 1, [])
def pe_X9_readFrom : MethodName × MI × Nat := (yX9_readFrom, iX9_readFrom, 6)
def nX9_readClose : Nat := 122
def iX9_readClose : MI := (9, cX9_readClose, 1, [])
def pe_X9_readClose : MethodName × MI × Nat := (yX9_readClose, iX9_readClose, 3)
def nX9_add : Nat := 123
def iX9_add : MI := (9, cX9_add, 3, [])
def pe_X9_add : MethodName × MI × Nat := (yX9_add, iX9_add, 4)
def nX9_readStep : Nat := 124
def iX9_readStep : MI := (9, cX9_readStep, 1, [])
def pe_X9_readStep : MethodName × MI × Nat := (yX9_readStep, iX9_readStep, 6)
def nX9_readAgain : Nat := 125
def iX9_readAgain : MI := (9, cX9_readAgain, 1, [])
def pe_X9_readAgain : MethodName × MI × Nat := (yX9_readAgain, iX9_readAgain, 2)
def nX9_doneOn : Nat := 126
def iX9_doneOn : MI := (9, cX9_doneOn, 0, [])
def pe_X9_doneOn : MethodName × MI × Nat := (yX9_doneOn, iX9_doneOn, 9)
def nX9_behindClose : Nat := 127
def iX9_behindClose : MI := (9, cX9_behindClose, 0, [])
def pe_X9_behindClose : MethodName × MI × Nat := (yX9_behindClose, iX9_behindClose, 3)
def nX9_behindAgain : Nat := 128
def iX9_behindAgain : MI := (9, cX9_behindAgain, 0, [])
def pe_X9_behindAgain : MethodName × MI × Nat := (yX9_behindAgain, iX9_behindAgain, 2)
def nX9_isDone : Nat := 129
def iX9_isDone : MI := (9, cX9_isDone, 1, [])
def pe_X9_isDone : MethodName × MI × Nat := (yX9_isDone, iX9_isDone, 6)
def nX10_init : Nat := 130
def iX10_init : MI := (10, cX10_init, 6, [])
def pe_X10_init : MethodName × MI × Nat := (yX10_init, iX10_init, 3)
def nX10_outAfter : Nat := 131
def iX10_outAfter : MI := (10, cX10_outAfter, 0, [])
def pe_X10_outAfter : MethodName × MI × Nat := (yX10_outAfter, iX10_outAfter, 5)
def nX10_live : Nat := 132
def iX10_live : MI := (10, cX10_live, 3, [])
def pe_X10_live : MethodName × MI × Nat := (yX10_live, iX10_live, 6)
def nX10_doDrawn : Nat := 133
def iX10_doDrawn : MI := (10, cX10_doDrawn, 3, [])
def pe_X10_doDrawn : MethodName × MI × Nat := (yX10_doDrawn, iX10_doDrawn, 3)
def nX10_drawn : Nat := 134
def iX10_drawn : MI := (10, cX10_drawn, 0, [])
def pe_X10_drawn : MethodName × MI × Nat := (yX10_drawn, iX10_drawn, 2)
def nX11_init : Nat := 135
def iX11_init : MI := (11, cX11_init, 6, [])
def pe_X11_init : MethodName × MI × Nat := (yX11_init, iX11_init, 1)
def nX11_feed : Nat := 136
def iX11_feed : MI := (11, cX11_feed, 0, [])
def pe_X11_feed : MethodName × MI × Nat := (yX11_feed, iX11_feed, 6)
def nX11_fault : Nat := 137
def iX11_fault : MI := (11, cX11_fault, 0, [])
def pe_X11_fault : MethodName × MI × Nat := (yX11_fault, iX11_fault, 1)
def nX11_undo : Nat := 138
def iX11_undo : MI := (11, cX11_undo, 0, [])
def pe_X11_undo : MethodName × MI × Nat := (yX11_undo, iX11_undo, 1)
def nX11_wed : Nat := 139
def iX11_wed : MI := (11, cX11_wed, 0, [])
def pe_X11_wed : MethodName × MI × Nat := (yX11_wed, iX11_wed, 1)
def nX11_bit : Nat := 140
def iX11_bit : MI := (11, cX11_bit, 0, [])
def pe_X11_bit : MethodName × MI × Nat := (yX11_bit, iX11_bit, 2)
def nX11_pick : Nat := 141
def iX11_pick : MI := (11, cX11_pick, 0, [])
def pe_X11_pick : MethodName × MI × Nat := (yX11_pick, iX11_pick, 2)
def nX11_image : Nat := 142
def iX11_image : MI := (11, cX11_image, 0, [])
def pe_X11_image : MethodName × MI × Nat := (yX11_image, iX11_image, 1)
def nX11_restore : Nat := 143
def iX11_restore : MI := (11, cX11_restore, 0, [])
def pe_X11_restore : MethodName × MI × Nat := (yX11_restore, iX11_restore, 1)
def nX11_status : Nat := 144
def iX11_status : MI := (11, cX11_status, 0, [])
def pe_X11_status : MethodName × MI × Nat := (yX11_status, iX11_status, 2)
def nX11_count : Nat := 145
def iX11_count : MI := (11, cX11_count, 0, [])
def pe_X11_count : MethodName × MI × Nat := (yX11_count, iX11_count, 2)
def nX11_house : Nat := 146
def iX11_house : MI := (11, cX11_house, 0, [])
def pe_X11_house : MethodName × MI × Nat := (yX11_house, iX11_house, 2)
def nX11_open : Nat := 147
def iX11_open : MI := (11, cX11_open, 3, [])
def pe_X11_open : MethodName × MI × Nat := (yX11_open, iX11_open, 3)
def nX11_expect : Nat := 148
def iX11_expect : MI := (11, cX11_expect, 3, [])
def pe_X11_expect : MethodName × MI × Nat := (yX11_expect, iX11_expect, 2)
def nX11_within : Nat := 149
def iX11_within : MI := (11, cX11_within, 1, [])
def pe_X11_within : MethodName × MI × Nat := (yX11_within, iX11_within, 3)
def nX11_put : Nat := 150
def iX11_put : MI := (11, cX11_put, 3, [])
def pe_X11_put : MethodName × MI × Nat := (yX11_put, iX11_put, 3)
def nX11_law : Nat := 151
def iX11_law : MI := (11, cX11_law, 0, [])
def pe_X11_law : MethodName × MI × Nat := (yX11_law, iX11_law, 2)
def nX11_work : Nat := 152
def iX11_work : MI := (11, cX11_work, 0, [])
def pe_X11_work : MethodName × MI × Nat := (yX11_work, iX11_work, 2)
def nX11_book : Nat := 153
def iX11_book : MI := (11, cX11_book, 0, [])
def pe_X11_book : MethodName × MI × Nat := (yX11_book, iX11_book, 2)
def nX11_told : Nat := 154
def iX11_told : MI := (11, cX11_told, 0, [])
def pe_X11_told : MethodName × MI × Nat := (yX11_told, iX11_told, 2)
def nX11_piece : Nat := 155
def iX11_piece : MI := (11, cX11_piece, 0, [])
def pe_X11_piece : MethodName × MI × Nat := (yX11_piece, iX11_piece, 3)
def nX11_expectPiece : Nat := 156
def iX11_expectPiece : MI := (11, cX11_expectPiece, 3, [])
def pe_X11_expectPiece : MethodName × MI × Nat := (yX11_expectPiece, iX11_expectPiece, 2)
def nX11_expectThere : Nat := 157
def iX11_expectThere : MI := (11, cX11_expectThere, 3, [])
def pe_X11_expectThere : MethodName × MI × Nat := (yX11_expectThere, iX11_expectThere, 2)
def nX11_collar : Nat := 158
def iX11_collar : MI := (11, cX11_collar, 0, [])
def pe_X11_collar : MethodName × MI × Nat := (yX11_collar, iX11_collar, 3)
def nX11_fire : Nat := 159
def iX11_fire : MI := (11, cX11_fire, 0, [])
def pe_X11_fire : MethodName × MI × Nat := (yX11_fire, iX11_fire, 3)
def nX11_expectFire : Nat := 160
def iX11_expectFire : MI := (11, cX11_expectFire, 3, [])
def pe_X11_expectFire : MethodName × MI × Nat := (yX11_expectFire, iX11_expectFire, 2)
def nX11_row : Nat := 161
def iX11_row : MI := (11, cX11_row, 0, [])
def pe_X11_row : MethodName × MI × Nat := (yX11_row, iX11_row, 2)
def nX11_behind : Nat := 162
def iX11_behind : MI := (11, cX11_behind, 0, [])
def pe_X11_behind : MethodName × MI × Nat := (yX11_behind, iX11_behind, 2)
def nX11_would : Nat := 163
def iX11_would : MI := (11, cX11_would, 0, [])
def pe_X11_would : MethodName × MI × Nat := (yX11_would, iX11_would, 10)
def nX11_fits : Nat := 164
def iX11_fits : MI := (11, cX11_fits, 1, [])
def pe_X11_fits : MethodName × MI × Nat := (yX11_fits, iX11_fits, 3)
def nX11_expectThread : Nat := 165
def iX11_expectThread : MI := (11, cX11_expectThread, 3, [])
def pe_X11_expectThread : MethodName × MI × Nat := (yX11_expectThread, iX11_expectThread, 2)
def nX11_can : Nat := 166
def iX11_can : MI := (11, cX11_can, 1, [])
def pe_X11_can : MethodName × MI × Nat := (yX11_can, iX11_can, 2)
def nX11_ahead : Nat := 167
def iX11_ahead : MI := (11, cX11_ahead, 0, [])
def pe_X11_ahead : MethodName × MI × Nat := (yX11_ahead, iX11_ahead, 2)
def nX11_chain : Nat := 168
def iX11_chain : MI := (11, cX11_chain, 0, [])
def pe_X11_chain : MethodName × MI × Nat := (yX11_chain, iX11_chain, 2)
def nX11_chained : Nat := 169
def iX11_chained : MI := (11, cX11_chained, 0, [])
def pe_X11_chained : MethodName × MI × Nat := (yX11_chained, iX11_chained, 2)
def nX11_brief : Nat := 170
def iX11_brief : MI := (11, cX11_brief, 0, [])
def pe_X11_brief : MethodName × MI × Nat := (yX11_brief, iX11_brief, 2)
def nX11_briefly : Nat := 171
def iX11_briefly : MI := (11, cX11_briefly, 0, [])
def pe_X11_briefly : MethodName × MI × Nat := (yX11_briefly, iX11_briefly, 3)
def nX11_joiner : Nat := 172
def iX11_joiner : MI := (11, cX11_joiner, 0, [])
def pe_X11_joiner : MethodName × MI × Nat := (yX11_joiner, iX11_joiner, 2)
def nX11_leaks : Nat := 173
def iX11_leaks : MI := (11, cX11_leaks, 0, [])
def pe_X11_leaks : MethodName × MI × Nat := (yX11_leaks, iX11_leaks, 2)
def nX11_look : Nat := 174
def iX11_look : MI := (11, cX11_look, 0, [])
def pe_X11_look : MethodName × MI × Nat := (yX11_look, iX11_look, 2)
def nX11_sure : Nat := 175
def iX11_sure : MI := (11, cX11_sure, 2, [])
def pe_X11_sure : MethodName × MI × Nat := (yX11_sure, iX11_sure, 9)
def nX11_street : Nat := 176
def iX11_street : MI := (11, cX11_street, 0, [])
def pe_X11_street : MethodName × MI × Nat := (yX11_street, iX11_street, 4)
def nX11_share : Nat := 177
def iX11_share : MI := (11, cX11_share, 0, [])
def pe_X11_share : MethodName × MI × Nat := (yX11_share, iX11_share, 4)
def nX11_next : Nat := 178
def iX11_next : MI := (11, cX11_next, 0, [])
def pe_X11_next : MethodName × MI × Nat := (yX11_next, iX11_next, 4)
def nX11_worst : Nat := 179
def iX11_worst : MI := (11, cX11_worst, 0, [])
def pe_X11_worst : MethodName × MI × Nat := (yX11_worst, iX11_worst, 3)
def nX11_needed : Nat := 180
def iX11_needed : MI := (11, cX11_needed, 0, [])
def pe_X11_needed : MethodName × MI × Nat := (yX11_needed, iX11_needed, 3)
def nX11_kin : Nat := 181
def iX11_kin : MI := (11, cX11_kin, 0, [])
def pe_X11_kin : MethodName × MI × Nat := (yX11_kin, iX11_kin, 2)
def nX11_year : Nat := 182
def iX11_year : MI := (11, cX11_year, 0, [])
def pe_X11_year : MethodName × MI × Nat := (yX11_year, iX11_year, 5)
def nX11_span : Nat := 183
def iX11_span : MI := (11, cX11_span, 0, [])
def pe_X11_span : MethodName × MI × Nat := (yX11_span, iX11_span, 11)
def nX12_init : Nat := 184
def iX12_init : MI := (12, cX12_init, 6, [])
def pe_X12_init : MethodName × MI × Nat := (yX12_init, iX12_init, 1)
def nX12_tellsNothing : Nat := 185
def iX12_tellsNothing : MI := (12, cX12_tellsNothing, 3, [])
def pe_X12_tellsNothing : MethodName × MI × Nat := (yX12_tellsNothing, iX12_tellsNothing, 2)
def nX12_beginsAnew : Nat := 186
def iX12_beginsAnew : MI := (12, cX12_beginsAnew, 3, [])
def pe_X12_beginsAnew : MethodName × MI × Nat := (yX12_beginsAnew, iX12_beginsAnew, 2)
def nX12_lays : Nat := 187
def iX12_lays : MI := (12, cX12_lays, 3, [])
def pe_X12_lays : MethodName × MI × Nat := (yX12_lays, iX12_lays, 5)
def nX12_thrown : Nat := 188
def iX12_thrown : MI := (12, cX12_thrown, 0, [])
def pe_X12_thrown : MethodName × MI × Nat := (yX12_thrown, iX12_thrown, 1)
def nX12_feed : Nat := 189
def iX12_feed : MI := (12, cX12_feed, 0, [])
def pe_X12_feed : MethodName × MI × Nat := (yX12_feed, iX12_feed, 8)
def nX12_house : Nat := 190
def iX12_house : MI := (12, cX12_house, 0, [])
def pe_X12_house : MethodName × MI × Nat := (yX12_house, iX12_house, 2)
def nX12_in : Nat := 191
def iX12_in : MI := (12, cX12_in, 1, [])
def pe_X12_in : MethodName × MI × Nat := (yX12_in, iX12_in, 3)
def nX12_bad : Nat := 192
def iX12_bad : MI := (12, cX12_bad, 1, [])
def pe_X12_bad : MethodName × MI × Nat := (yX12_bad, iX12_bad, 4)
def nX12_starts : Nat := 193
def iX12_starts : MI := (12, cX12_starts, 3, [])
def pe_X12_starts : MethodName × MI × Nat := (yX12_starts, iX12_starts, 2)
def nX12_blanks : Nat := 194
def iX12_blanks : MI := (12, cX12_blanks, 3, [])
def pe_X12_blanks : MethodName × MI × Nat := (yX12_blanks, iX12_blanks, 1)
def nX12_byteAt : Nat := 195
def iX12_byteAt : MI := (12, cX12_byteAt, 0, [])
def pe_X12_byteAt : MethodName × MI × Nat := (yX12_byteAt, iX12_byteAt, 2)
def nX12_clause : Nat := 196
def iX12_clause : MI := (12, cX12_clause, 3, [])
def pe_X12_clause : MethodName × MI × Nat := (yX12_clause, iX12_clause, 6)
def nX12_kindHere : Nat := 197
def iX12_kindHere : MI := (12, cX12_kindHere, 0, [])
def pe_X12_kindHere : MethodName × MI × Nat := (yX12_kindHere, iX12_kindHere, 1)
def nX12_isWord : Nat := 198
def iX12_isWord : MI := (12, cX12_isWord, 1, [])
def pe_X12_isWord : MethodName × MI × Nat := (yX12_isWord, iX12_isWord, 7)
def nX12_wordHere : Nat := 199
def iX12_wordHere : MI := (12, cX12_wordHere, 0, [])
def pe_X12_wordHere : MethodName × MI × Nat := (yX12_wordHere, iX12_wordHere, 3)
def nX12_isSmall : Nat := 200
def iX12_isSmall : MI := (12, cX12_isSmall, 1, [])
def pe_X12_isSmall : MethodName × MI × Nat := (yX12_isSmall, iX12_isSmall, 1)
def nX12_six : Nat := 201
def iX12_six : MI := (12, cX12_six, 0, [])
def pe_X12_six : MethodName × MI × Nat := (yX12_six, iX12_six, 7)
def nX12_wrong : Nat := 202
def iX12_wrong : MI := (12, cX12_wrong, 3, [])
def pe_X12_wrong : MethodName × MI × Nat := (yX12_wrong, iX12_wrong, 3)
def nX12_mostOf : Nat := 203
def iX12_mostOf : MI := (12, cX12_mostOf, 0, [])
def pe_X12_mostOf : MethodName × MI × Nat := (yX12_mostOf, iX12_mostOf, 1)
def nX12_skipWord : Nat := 204
def iX12_skipWord : MI := (12, cX12_skipWord, 3, [])
def pe_X12_skipWord : MethodName × MI × Nat := (yX12_skipWord, iX12_skipWord, 1)
def nX12_number : Nat := 205
def iX12_number : MI := (12, cX12_number, 0, [])
def pe_X12_number : MethodName × MI × Nat := (yX12_number, iX12_number, 5)
def nX12_isDigit : Nat := 206
def iX12_isDigit : MI := (12, cX12_isDigit, 1, [])
def pe_X12_isDigit : MethodName × MI × Nat := (yX12_isDigit, iX12_isDigit, 1)
def nX12_readThread : Nat := 207
def iX12_readThread : MI := (12, cX12_readThread, 0, [])
def pe_X12_readThread : MethodName × MI × Nat := (yX12_readThread, iX12_readThread, 1)
def nX12_sign : Nat := 208
def iX12_sign : MI := (12, cX12_sign, 3, [])
def pe_X12_sign : MethodName × MI × Nat := (yX12_sign, iX12_sign, 2)
def nX12_ends : Nat := 209
def iX12_ends : MI := (12, cX12_ends, 0, [])
def pe_X12_ends : MethodName × MI × Nat := (yX12_ends, iX12_ends, 1)
def nX12_law : Nat := 210
def iX12_law : MI := (12, cX12_law, 0, [])
def pe_X12_law : MethodName × MI × Nat := (yX12_law, iX12_law, 2)
def nX12_sum : Nat := 211
def iX12_sum : MI := (12, cX12_sum, 3, [])
def pe_X12_sum : MethodName × MI × Nat := (yX12_sum, iX12_sum, 2)
def nX12_product : Nat := 212
def iX12_product : MI := (12, cX12_product, 3, [])
def pe_X12_product : MethodName × MI × Nat := (yX12_product, iX12_product, 2)
def nX12_one : Nat := 213
def iX12_one : MI := (12, cX12_one, 3, [])
def pe_X12_one : MethodName × MI × Nat := (yX12_one, iX12_one, 3)
def nX12_opensOne : Nat := 214
def iX12_opensOne : MI := (12, cX12_opensOne, 1, [])
def pe_X12_opensOne : MethodName × MI × Nat := (yX12_opensOne, iX12_opensOne, 1)
def nX12_notes : Nat := 215
def iX12_notes : MI := (12, cX12_notes, 3, [])
def pe_X12_notes : MethodName × MI × Nat := (yX12_notes, iX12_notes, 3)
def nX12_knownHere : Nat := 216
def iX12_knownHere : MI := (12, cX12_knownHere, 0, [])
def pe_X12_knownHere : MethodName × MI × Nat := (yX12_knownHere, iX12_knownHere, 1)
def nX12_takes : Nat := 217
def iX12_takes : MI := (12, cX12_takes, 1, [])
def pe_X12_takes : MethodName × MI × Nat := (yX12_takes, iX12_takes, 8)
def nX12_takesSign : Nat := 218
def iX12_takesSign : MI := (12, cX12_takesSign, 1, [])
def pe_X12_takesSign : MethodName × MI × Nat := (yX12_takesSign, iX12_takesSign, 3)
def nX12_book : Nat := 219
def iX12_book : MI := (12, cX12_book, 0, [])
def pe_X12_book : MethodName × MI × Nat := (yX12_book, iX12_book, 6)
def nX12_fault : Nat := 220
def iX12_fault : MI := (12, cX12_fault, 0, [])
def pe_X12_fault : MethodName × MI × Nat := (yX12_fault, iX12_fault, 1)
def nX12_work : Nat := 221
def iX12_work : MI := (12, cX12_work, 0, [])
def pe_X12_work : MethodName × MI × Nat := (yX12_work, iX12_work, 2)
def nX12_readsStep : Nat := 222
def iX12_readsStep : MI := (12, cX12_readsStep, 3, [])
def pe_X12_readsStep : MethodName × MI × Nat := (yX12_readsStep, iX12_readsStep, 3)
def nX12_stepHere : Nat := 223
def iX12_stepHere : MI := (12, cX12_stepHere, 0, [])
def pe_X12_stepHere : MethodName × MI × Nat := (yX12_stepHere, iX12_stepHere, 1)
def nX12_copies : Nat := 224
def iX12_copies : MI := (12, cX12_copies, 3, [])
def pe_X12_copies : MethodName × MI × Nat := (yX12_copies, iX12_copies, 3)
def nX12_goes : Nat := 225
def iX12_goes : MI := (12, cX12_goes, 3, [])
def pe_X12_goes : MethodName × MI × Nat := (yX12_goes, iX12_goes, 5)
def nX12_does : Nat := 226
def iX12_does : MI := (12, cX12_does, 1, [])
def pe_X12_does : MethodName × MI × Nat := (yX12_does, iX12_does, 4)
def nX12_turns : Nat := 227
def iX12_turns : MI := (12, cX12_turns, 1, [])
def pe_X12_turns : MethodName × MI × Nat := (yX12_turns, iX12_turns, 3)
def nX12_placeOf : Nat := 228
def iX12_placeOf : MI := (12, cX12_placeOf, 0, [])
def pe_X12_placeOf : MethodName × MI × Nat := (yX12_placeOf, iX12_placeOf, 3)
def nX12_laysOne : Nat := 229
def iX12_laysOne : MI := (12, cX12_laysOne, 1, [])
def pe_X12_laysOne : MethodName × MI × Nat := (yX12_laysOne, iX12_laysOne, 3)
def nX12_canLay : Nat := 230
def iX12_canLay : MI := (12, cX12_canLay, 1, [])
def pe_X12_canLay : MethodName × MI × Nat := (yX12_canLay, iX12_canLay, 6)
def nX12_manyIn : Nat := 231
def iX12_manyIn : MI := (12, cX12_manyIn, 0, [])
def pe_X12_manyIn : MethodName × MI × Nat := (yX12_manyIn, iX12_manyIn, 2)
def nX12_footOf : Nat := 232
def iX12_footOf : MI := (12, cX12_footOf, 0, [])
def pe_X12_footOf : MethodName × MI × Nat := (yX12_footOf, iX12_footOf, 3)
def nX12_headOf : Nat := 233
def iX12_headOf : MI := (12, cX12_headOf, 0, [])
def pe_X12_headOf : MethodName × MI × Nat := (yX12_headOf, iX12_headOf, 3)
def nX12_isJoined : Nat := 234
def iX12_isJoined : MI := (12, cX12_isJoined, 1, [])
def pe_X12_isJoined : MethodName × MI × Nat := (yX12_isJoined, iX12_isJoined, 4)
def nX12_lifts : Nat := 235
def iX12_lifts : MI := (12, cX12_lifts, 1, [])
def pe_X12_lifts : MethodName × MI × Nat := (yX12_lifts, iX12_lifts, 2)
def nX12_becomes : Nat := 236
def iX12_becomes : MI := (12, cX12_becomes, 1, [])
def pe_X12_becomes : MethodName × MI × Nat := (yX12_becomes, iX12_becomes, 3)
def nX12_bursts : Nat := 237
def iX12_bursts : MI := (12, cX12_bursts, 1, [])
def pe_X12_bursts : MethodName × MI × Nat := (yX12_bursts, iX12_bursts, 3)
def nX12_hourEnds : Nat := 238
def iX12_hourEnds : MI := (12, cX12_hourEnds, 3, [])
def pe_X12_hourEnds : MethodName × MI × Nat := (yX12_hourEnds, iX12_hourEnds, 4)
def nX12_isReached : Nat := 239
def iX12_isReached : MI := (12, cX12_isReached, 1, [])
def pe_X12_isReached : MethodName × MI × Nat := (yX12_isReached, iX12_isReached, 3)
def nX12_longOf : Nat := 240
def iX12_longOf : MI := (12, cX12_longOf, 0, [])
def pe_X12_longOf : MethodName × MI × Nat := (yX12_longOf, iX12_longOf, 4)
def nX12_arrives : Nat := 241
def iX12_arrives : MI := (12, cX12_arrives, 0, [])
def pe_X12_arrives : MethodName × MI × Nat := (yX12_arrives, iX12_arrives, 2)
def nX12_runs : Nat := 242
def iX12_runs : MI := (12, cX12_runs, 0, [])
def pe_X12_runs : MethodName × MI × Nat := (yX12_runs, iX12_runs, 8)
def nX12_leftOf : Nat := 243
def iX12_leftOf : MI := (12, cX12_leftOf, 0, [])
def pe_X12_leftOf : MethodName × MI × Nat := (yX12_leftOf, iX12_leftOf, 6)
def nX12_leftBy : Nat := 244
def iX12_leftBy : MI := (12, cX12_leftBy, 0, [])
def pe_X12_leftBy : MethodName × MI × Nat := (yX12_leftBy, iX12_leftBy, 10)
def nX12_byLaw : Nat := 245
def iX12_byLaw : MI := (12, cX12_byLaw, 0, [])
def pe_X12_byLaw : MethodName × MI × Nat := (yX12_byLaw, iX12_byLaw, 3)
def nX12_by : Nat := 246
def iX12_by : MI := (12, cX12_by, 0, [])
def pe_X12_by : MethodName × MI × Nat := (yX12_by, iX12_by, 3)
def nX12_less : Nat := 247
def iX12_less : MI := (12, cX12_less, 0, [])
def pe_X12_less : MethodName × MI × Nat := (yX12_less, iX12_less, 2)
def nX12_more : Nat := 248
def iX12_more : MI := (12, cX12_more, 0, [])
def pe_X12_more : MethodName × MI × Nat := (yX12_more, iX12_more, 2)
def nX12_undo : Nat := 249
def iX12_undo : MI := (12, cX12_undo, 0, [])
def pe_X12_undo : MethodName × MI × Nat := (yX12_undo, iX12_undo, 1)
def nX12_told : Nat := 250
def iX12_told : MI := (12, cX12_told, 0, [])
def pe_X12_told : MethodName × MI × Nat := (yX12_told, iX12_told, 2)
def nX12_liesIn : Nat := 251
def iX12_liesIn : MI := (12, cX12_liesIn, 0, [])
def pe_X12_liesIn : MethodName × MI × Nat := (yX12_liesIn, iX12_liesIn, 4)
def nX12_outIn : Nat := 252
def iX12_outIn : MI := (12, cX12_outIn, 0, [])
def pe_X12_outIn : MethodName × MI × Nat := (yX12_outIn, iX12_outIn, 4)
def nX12_piece : Nat := 253
def iX12_piece : MI := (12, cX12_piece, 0, [])
def pe_X12_piece : MethodName × MI × Nat := (yX12_piece, iX12_piece, 3)
def nX12_isPiece : Nat := 254
def iX12_isPiece : MI := (12, cX12_isPiece, 1, [])
def pe_X12_isPiece : MethodName × MI × Nat := (yX12_isPiece, iX12_isPiece, 2)
def nX12_collar : Nat := 255
def iX12_collar : MI := (12, cX12_collar, 0, [])
def pe_X12_collar : MethodName × MI × Nat := (yX12_collar, iX12_collar, 3)
def nX12_fire : Nat := 256
def iX12_fire : MI := (12, cX12_fire, 0, [])
def pe_X12_fire : MethodName × MI × Nat := (yX12_fire, iX12_fire, 3)
def nX12_isFire : Nat := 257
def iX12_isFire : MI := (12, cX12_isFire, 1, [])
def pe_X12_isFire : MethodName × MI × Nat := (yX12_isFire, iX12_isFire, 2)
def nX12_row : Nat := 258
def iX12_row : MI := (12, cX12_row, 0, [])
def pe_X12_row : MethodName × MI × Nat := (yX12_row, iX12_row, 2)
def nX12_behind : Nat := 259
def iX12_behind : MI := (12, cX12_behind, 0, [])
def pe_X12_behind : MethodName × MI × Nat := (yX12_behind, iX12_behind, 2)
def nX12_would : Nat := 260
def iX12_would : MI := (12, cX12_would, 0, [])
def pe_X12_would : MethodName × MI × Nat := (yX12_would, iX12_would, 10)
def nX12_fits : Nat := 261
def iX12_fits : MI := (12, cX12_fits, 1, [])
def pe_X12_fits : MethodName × MI × Nat := (yX12_fits, iX12_fits, 3)
def nX12_isThread : Nat := 262
def iX12_isThread : MI := (12, cX12_isThread, 1, [])
def pe_X12_isThread : MethodName × MI × Nat := (yX12_isThread, iX12_isThread, 1)
def nX12_can : Nat := 263
def iX12_can : MI := (12, cX12_can, 1, [])
def pe_X12_can : MethodName × MI × Nat := (yX12_can, iX12_can, 2)
def nX12_ahead : Nat := 264
def iX12_ahead : MI := (12, cX12_ahead, 0, [])
def pe_X12_ahead : MethodName × MI × Nat := (yX12_ahead, iX12_ahead, 3)
def nX12_chain : Nat := 265
def iX12_chain : MI := (12, cX12_chain, 0, [])
def pe_X12_chain : MethodName × MI × Nat := (yX12_chain, iX12_chain, 2)
def nX12_chains : Nat := 266
def iX12_chains : MI := (12, cX12_chains, 3, [])
def pe_X12_chains : MethodName × MI × Nat := (yX12_chains, iX12_chains, 5)
def nX12_laysLongest : Nat := 267
def iX12_laysLongest : MI := (12, cX12_laysLongest, 3, [])
def pe_X12_laysLongest : MethodName × MI × Nat := (yX12_laysLongest, iX12_laysLongest, 4)
def nX12_has : Nat := 268
def iX12_has : MI := (12, cX12_has, 1, [])
def pe_X12_has : MethodName × MI × Nat := (yX12_has, iX12_has, 2)
def nX12_isNext : Nat := 269
def iX12_isNext : MI := (12, cX12_isNext, 1, [])
def pe_X12_isNext : MethodName × MI × Nat := (yX12_isNext, iX12_isNext, 3)
def nX12_chained : Nat := 270
def iX12_chained : MI := (12, cX12_chained, 0, [])
def pe_X12_chained : MethodName × MI × Nat := (yX12_chained, iX12_chained, 2)
def nX12_joiner : Nat := 271
def iX12_joiner : MI := (12, cX12_joiner, 0, [])
def pe_X12_joiner : MethodName × MI × Nat := (yX12_joiner, iX12_joiner, 6)
def nX12_brief : Nat := 272
def iX12_brief : MI := (12, cX12_brief, 0, [])
def pe_X12_brief : MethodName × MI × Nat := (yX12_brief, iX12_brief, 2)
def nX12_briefs : Nat := 273
def iX12_briefs : MI := (12, cX12_briefs, 0, [])
def pe_X12_briefs : MethodName × MI × Nat := (yX12_briefs, iX12_briefs, 4)
def nX12_isBrief : Nat := 274
def iX12_isBrief : MI := (12, cX12_isBrief, 1, [])
def pe_X12_isBrief : MethodName × MI × Nat := (yX12_isBrief, iX12_isBrief, 12)
def nX12_briefly : Nat := 275
def iX12_briefly : MI := (12, cX12_briefly, 0, [])
def pe_X12_briefly : MethodName × MI × Nat := (yX12_briefly, iX12_briefly, 3)
def nX12_leaks : Nat := 276
def iX12_leaks : MI := (12, cX12_leaks, 0, [])
def pe_X12_leaks : MethodName × MI × Nat := (yX12_leaks, iX12_leaks, 6)
def nX12_isLeak : Nat := 277
def iX12_isLeak : MI := (12, cX12_isLeak, 1, [])
def pe_X12_isLeak : MethodName × MI × Nat := (yX12_isLeak, iX12_isLeak, 4)
def nX12_look : Nat := 278
def iX12_look : MI := (12, cX12_look, 0, [])
def pe_X12_look : MethodName × MI × Nat := (yX12_look, iX12_look, 8)
def nX12_isTold : Nat := 279
def iX12_isTold : MI := (12, cX12_isTold, 1, [])
def pe_X12_isTold : MethodName × MI × Nat := (yX12_isTold, iX12_isTold, 3)
def nX12_wed : Nat := 280
def iX12_wed : MI := (12, cX12_wed, 0, [])
def pe_X12_wed : MethodName × MI × Nat := (yX12_wed, iX12_wed, 1)
def nX12_weds : Nat := 281
def iX12_weds : MI := (12, cX12_weds, 0, [])
def pe_X12_weds : MethodName × MI × Nat := (yX12_weds, iX12_weds, 6)
def nX12_sure : Nat := 282
def iX12_sure : MI := (12, cX12_sure, 2, [])
def pe_X12_sure : MethodName × MI × Nat := (yX12_sure, iX12_sure, 11)
def nX12_partOf : Nat := 283
def iX12_partOf : MI := (12, cX12_partOf, 2, [])
def pe_X12_partOf : MethodName × MI × Nat := (yX12_partOf, iX12_partOf, 11)
def nX12_street : Nat := 284
def iX12_street : MI := (12, cX12_street, 0, [])
def pe_X12_street : MethodName × MI × Nat := (yX12_street, iX12_street, 9)
def nX12_isChoice : Nat := 285
def iX12_isChoice : MI := (12, cX12_isChoice, 1, [])
def pe_X12_isChoice : MethodName × MI × Nat := (yX12_isChoice, iX12_isChoice, 3)
def nX12_isRest : Nat := 286
def iX12_isRest : MI := (12, cX12_isRest, 1, [])
def pe_X12_isRest : MethodName × MI × Nat := (yX12_isRest, iX12_isRest, 6)
def nX12_streetHas : Nat := 287
def iX12_streetHas : MI := (12, cX12_streetHas, 0, [])
def pe_X12_streetHas : MethodName × MI × Nat := (yX12_streetHas, iX12_streetHas, 5)
def nX12_comes : Nat := 288
def iX12_comes : MI := (12, cX12_comes, 0, [])
def pe_X12_comes : MethodName × MI × Nat := (yX12_comes, iX12_comes, 3)
def nX12_houseHas : Nat := 289
def iX12_houseHas : MI := (12, cX12_houseHas, 0, [])
def pe_X12_houseHas : MethodName × MI × Nat := (yX12_houseHas, iX12_houseHas, 4)
def nX12_share : Nat := 290
def iX12_share : MI := (12, cX12_share, 0, [])
def pe_X12_share : MethodName × MI × Nat := (yX12_share, iX12_share, 5)
def nX12_givenBy : Nat := 291
def iX12_givenBy : MI := (12, cX12_givenBy, 0, [])
def pe_X12_givenBy : MethodName × MI × Nat := (yX12_givenBy, iX12_givenBy, 5)
def nX12_next : Nat := 292
def iX12_next : MI := (12, cX12_next, 0, [])
def pe_X12_next : MethodName × MI × Nat := (yX12_next, iX12_next, 4)
def nX12_worst : Nat := 293
def iX12_worst : MI := (12, cX12_worst, 0, [])
def pe_X12_worst : MethodName × MI × Nat := (yX12_worst, iX12_worst, 6)
def nX12_needed : Nat := 294
def iX12_needed : MI := (12, cX12_needed, 0, [])
def pe_X12_needed : MethodName × MI × Nat := (yX12_needed, iX12_needed, 3)
def nX12_kin : Nat := 295
def iX12_kin : MI := (12, cX12_kin, 0, [])
def pe_X12_kin : MethodName × MI × Nat := (yX12_kin, iX12_kin, 4)
def nX12_year : Nat := 296
def iX12_year : MI := (12, cX12_year, 0, [])
def pe_X12_year : MethodName × MI × Nat := (yX12_year, iX12_year, 7)
def nX12_isYear : Nat := 297
def iX12_isYear : MI := (12, cX12_isYear, 1, [])
def pe_X12_isYear : MethodName × MI × Nat := (yX12_isYear, iX12_isYear, 2)
def nX12_yearBy : Nat := 298
def iX12_yearBy : MI := (12, cX12_yearBy, 3, [])
def pe_X12_yearBy : MethodName × MI × Nat := (yX12_yearBy, iX12_yearBy, 6)
def nX12_draw : Nat := 299
def iX12_draw : MI := (12, cX12_draw, 0, [])
def pe_X12_draw : MethodName × MI × Nat := (yX12_draw, iX12_draw, 2)
def nX12_acts : Nat := 300
def iX12_acts : MI := (12, cX12_acts, 3, [])
def pe_X12_acts : MethodName × MI × Nat := (yX12_acts, iX12_acts, 4)
def nX12_span : Nat := 301
def iX12_span : MI := (12, cX12_span, 0, [])
def pe_X12_span : MethodName × MI × Nat := (yX12_span, iX12_span, 12)
def nX12_image : Nat := 302
def iX12_image : MI := (12, cX12_image, 0, [])
def pe_X12_image : MethodName × MI × Nat := (yX12_image, iX12_image, 1)
def nX12_putsAll : Nat := 303
def iX12_putsAll : MI := (12, cX12_putsAll, 3, [])
def pe_X12_putsAll : MethodName × MI × Nat := (yX12_putsAll, iX12_putsAll, 5)
def nX12_puts : Nat := 304
def iX12_puts : MI := (12, cX12_puts, 0, [])
def pe_X12_puts : MethodName × MI × Nat := (yX12_puts, iX12_puts, 4)
def nX12_restore : Nat := 305
def iX12_restore : MI := (12, cX12_restore, 0, [])
def pe_X12_restore : MethodName × MI × Nat := (yX12_restore, iX12_restore, 1)
def nX12_status : Nat := 306
def iX12_status : MI := (12, cX12_status, 0, [])
def pe_X12_status : MethodName × MI × Nat := (yX12_status, iX12_status, 2)
def nX12_count : Nat := 307
def iX12_count : MI := (12, cX12_count, 0, [])
def pe_X12_count : MethodName × MI × Nat := (yX12_count, iX12_count, 2)
def nL_house : Nat := 308
def iL_house : MI := (13, cL_house, 0, [(0, 9, 12, 13)])
def pe_L_house : MethodName × MI × Nat := (yL_house, iL_house, 4)
def nL_law : Nat := 309
def iL_law : MI := (13, cL_law, 0, [(0, 9, 12, 13)])
def pe_L_law : MethodName × MI × Nat := (yL_law, iL_law, 4)
def nL_work : Nat := 310
def iL_work : MI := (13, cL_work, 0, [(0, 9, 12, 13)])
def pe_L_work : MethodName × MI × Nat := (yL_work, iL_work, 4)
def nL_book : Nat := 311
def iL_book : MI := (13, cL_book, 0, [(0, 9, 12, 13)])
def pe_L_book : MethodName × MI × Nat := (yL_book, iL_book, 4)
def nL_told : Nat := 312
def iL_told : MI := (13, cL_told, 0, [(0, 9, 12, 13)])
def pe_L_told : MethodName × MI × Nat := (yL_told, iL_told, 4)
def nL_piece : Nat := 313
def iL_piece : MI := (13, cL_piece, 0, [(0, 10, 13, 31), (0, 10, 17, 13)])
def pe_L_piece : MethodName × MI × Nat := (yL_piece, iL_piece, 5)
def nL_collar : Nat := 314
def iL_collar : MI := (13, cL_collar, 0, [(0, 10, 13, 31), (0, 10, 17, 13)])
def pe_L_collar : MethodName × MI × Nat := (yL_collar, iL_collar, 5)
def nL_fire : Nat := 315
def iL_fire : MI := (13, cL_fire, 0, [(0, 10, 13, 31), (0, 10, 17, 13)])
def pe_L_fire : MethodName × MI × Nat := (yL_fire, iL_fire, 5)
def nL_row : Nat := 316
def iL_row : MI := (13, cL_row, 0, [(0, 9, 12, 13)])
def pe_L_row : MethodName × MI × Nat := (yL_row, iL_row, 4)
def nL_behind : Nat := 317
def iL_behind : MI := (13, cL_behind, 0, [(0, 9, 12, 13)])
def pe_L_behind : MethodName × MI × Nat := (yL_behind, iL_behind, 4)
def nL_would : Nat := 318
def iL_would : MI := (13, cL_would, 0, [(0, 24, 27, 13)])
def pe_L_would : MethodName × MI × Nat := (yL_would, iL_would, 12)
def nL_fits : Nat := 319
def iL_fits : MI := (13, cL_fits, 0, [(0, 17, 20, 13)])
def pe_L_fits : MethodName × MI × Nat := (yL_fits, iL_fits, 5)
def nL_can : Nat := 320
def iL_can : MI := (13, cL_can, 0, [(0, 16, 19, 31)])
def pe_L_can : MethodName × MI × Nat := (yL_can, iL_can, 4)
def nL_ahead : Nat := 321
def iL_ahead : MI := (13, cL_ahead, 0, [(0, 9, 12, 13)])
def pe_L_ahead : MethodName × MI × Nat := (yL_ahead, iL_ahead, 4)
def nL_chain : Nat := 322
def iL_chain : MI := (13, cL_chain, 0, [(0, 9, 12, 13)])
def pe_L_chain : MethodName × MI × Nat := (yL_chain, iL_chain, 4)
def nL_chained : Nat := 323
def iL_chained : MI := (13, cL_chained, 0, [(0, 9, 12, 13)])
def pe_L_chained : MethodName × MI × Nat := (yL_chained, iL_chained, 4)
def nL_brief : Nat := 324
def iL_brief : MI := (13, cL_brief, 0, [(0, 9, 12, 31)])
def pe_L_brief : MethodName × MI × Nat := (yL_brief, iL_brief, 4)
def nL_briefly : Nat := 325
def iL_briefly : MI := (13, cL_briefly, 0, [(0, 10, 13, 31), (0, 10, 17, 13)])
def pe_L_briefly : MethodName × MI × Nat := (yL_briefly, iL_briefly, 5)
def nL_joiner : Nat := 326
def iL_joiner : MI := (13, cL_joiner, 0, [(0, 9, 12, 13)])
def pe_L_joiner : MethodName × MI × Nat := (yL_joiner, iL_joiner, 4)
def nL_leaks : Nat := 327
def iL_leaks : MI := (13, cL_leaks, 0, [(0, 9, 12, 13)])
def pe_L_leaks : MethodName × MI × Nat := (yL_leaks, iL_leaks, 4)
def nL_look : Nat := 328
def iL_look : MI := (13, cL_look, 0, [(0, 9, 12, 13)])
def pe_L_look : MethodName × MI × Nat := (yL_look, iL_look, 4)
def nL_sure : Nat := 329
def iL_sure : MI := (13, cL_sure, 0, [(0, 11, 14, 31), (0, 11, 18, 13)])
def pe_L_sure : MethodName × MI × Nat := (yL_sure, iL_sure, 6)
def nL_street : Nat := 330
def iL_street : MI := (13, cL_street, 0, [(0, 12, 15, 13)])
def pe_L_street : MethodName × MI × Nat := (yL_street, iL_street, 6)
def nL_share : Nat := 331
def iL_share : MI := (13, cL_share, 0, [(0, 12, 15, 31), (0, 12, 19, 13)])
def pe_L_share : MethodName × MI × Nat := (yL_share, iL_share, 6)
def nL_next : Nat := 332
def iL_next : MI := (13, cL_next, 0, [(0, 9, 12, 13)])
def pe_L_next : MethodName × MI × Nat := (yL_next, iL_next, 4)
def nL_worst : Nat := 333
def iL_worst : MI := (13, cL_worst, 0, [(0, 9, 12, 13)])
def pe_L_worst : MethodName × MI × Nat := (yL_worst, iL_worst, 4)
def nL_needed : Nat := 334
def iL_needed : MI := (13, cL_needed, 0, [(0, 9, 12, 31)])
def pe_L_needed : MethodName × MI × Nat := (yL_needed, iL_needed, 4)
def nL_kin : Nat := 335
def iL_kin : MI := (13, cL_kin, 0, [(0, 9, 12, 13)])
def pe_L_kin : MethodName × MI × Nat := (yL_kin, iL_kin, 4)
def nL_year : Nat := 336
def iL_year : MI := (13, cL_year, 0, [(0, 14, 17, 13)])
def pe_L_year : MethodName × MI × Nat := (yL_year, iL_year, 7)
def nL_span : Nat := 337
def iL_span : MI := (13, cL_span, 0, [(0, 18, 21, 13)])
def pe_L_span : MethodName × MI × Nat := (yL_span, iL_span, 9)
def nJ0_length_8abf5 : Nat := 338
def iJ0_length_8abf5 : MI := (14, cJ0_length_8abf5, 0, [])
def pe_J0_length_8abf5 : MethodName × MI × Nat := (yJ0_length_8abf5, iJ0_length_8abf5, 1)
def nJ0_coder_7d493 : Nat := 339
def iJ0_coder_7d493 : MI := (14, cJ0_coder_7d493, 5, [])
def pe_J0_coder_7d493 : MethodName × MI × Nat := (yJ0_coder_7d493, iJ0_coder_7d493, 1)
def nJ0_charAt_5068e : Nat := 340
def iJ0_charAt_5068e : MI := (14, cJ0_charAt_5068e, 4, [])
def pe_J0_charAt_5068e : MethodName × MI × Nat := (yJ0_charAt_5068e, iJ0_charAt_5068e, 2)
def nJ0_isLatin1_aae02 : Nat := 341
def iJ0_isLatin1_aae02 : MI := (14, cJ0_isLatin1_aae02, 1, [])
def pe_J0_isLatin1_aae02 : MethodName × MI × Nat := (yJ0_isLatin1_aae02, iJ0_isLatin1_aae02, 1)
def nJ0_checkIndex_df160 : Nat := 342
def iJ0_checkIndex_df160 : MI := (14, cJ0_checkIndex_df160, 3, [])
def pe_J0_checkIndex_df160 : MethodName × MI × Nat := (yJ0_checkIndex_df160, iJ0_checkIndex_df160, 2)
def nJ1_charAt_3b067 : Nat := 343
def iJ1_charAt_3b067 : MI := (15, cJ1_charAt_3b067, 4, [])
def pe_J1_charAt_3b067 : MethodName × MI × Nat := (yJ1_charAt_3b067, iJ1_charAt_3b067, 2)
def nJ7_fill_53178 : Nat := 344
def iJ7_fill_53178 : MI := (16, cJ7_fill_53178, 3, [])
def pe_J7_fill_53178 : MethodName × MI × Nat := (yJ7_fill_53178, iJ7_fill_53178, 4)
def nJ7_fill_d0a16 : Nat := 345
def iJ7_fill_d0a16 : MI := (16, cJ7_fill_d0a16, 3, [])
def pe_J7_fill_d0a16 : MethodName × MI × Nat := (yJ7_fill_d0a16, iJ7_fill_d0a16, 5)
def nJ3_checkIndex_8e157 : Nat := 346
def iJ3_checkIndex_8e157 : MI := (17, cJ3_checkIndex_8e157, 0, [])
def pe_J3_checkIndex_8e157 : MethodName × MI × Nat := (yJ3_checkIndex_8e157, iJ3_checkIndex_8e157, 3)
def PG : List (MethodName × MI × Nat) := [pe_X0_init, pe_X0_clear, pe_X0_readFrom, pe_X0_readLine, pe_X0_become, pe_X0_findLeaks, pe_X0_isRight, pe_X0_tallyUp, pe_X0_findLook, pe_X0_worstAt, pe_X1_init, pe_X1_clear, pe_X1_follows, pe_X1_footOf, pe_X1_headOf, pe_X1_joins, pe_X1_readFrom, pe_X1_isFull, pe_X1_readClause, pe_X1_readPiece, pe_X1_readTo, pe_X1_readCollar, pe_X1_join, pe_X1_readFire, pe_X1_readHope, pe_X1_become, pe_X1_reaches, pe_X1_part, pe_X1_level, pe_X2_init, pe_X2_beUntold, pe_X2_readFrom, pe_X2_readSum, pe_X2_readProduct, pe_X2_readUnit, pe_X2_add, pe_X2_become, pe_X2_tellPiece, pe_X2_tellNow, pe_X2_left, pe_X2_reckon, pe_X3_init, pe_X3_begin, pe_X3_readFrom, pe_X3_writeTo, pe_X3_turnRound, pe_X3_placeOf, pe_X3_layDown, pe_X3_wayOf, pe_X3_canLay, pe_X3_liftLast, pe_X3_bendTo, pe_X3_burstOnce, pe_X3_patchOnce, pe_X3_hopeFor, pe_X3_longNow, pe_X3_passHour, pe_X3_rowBits, pe_X3_outBits, pe_X3_become, pe_X3_allBursts, pe_X4_init, pe_X4_pop, pe_X4_canKeep, pe_X4_keep, pe_X4_bringBack, pe_X4_forget, pe_X4_isFull, pe_X4_push, pe_X5_init, pe_X5_forgetShort, pe_X5_mostPairs, pe_X5_leastOf, pe_X5_areFit, pe_X5_forgetHouse, pe_X5_findChain, pe_X5_longestNow, pe_X5_fillFollowers, pe_X5_longestBehind, pe_X5_canFollow, pe_X5_longWith, pe_X5_firstLeaving, pe_X5_findShort, pe_X5_searchShort, pe_X5_isNew, pe_X5_findCollar, pe_X5_tryCollar, pe_X6_init, pe_X6_findRests, pe_X6_fillArrives, pe_X6_canTake, pe_X6_bendMore, pe_X6_isRest, pe_X6_streetHas, pe_X6_paid, pe_X6_houseHas, pe_X6_noteRest, pe_X6_asTold, pe_X7_init, pe_X7_hasRoom, pe_X7_append, pe_X7_begin, pe_X7_peek, pe_X7_byteAt, pe_X7_named, pe_X7_placeAmong, pe_X7_blame, pe_X7_tooMany, pe_X7_numeral, pe_X7_isDigit, pe_X7_noneSuch, pe_X7_sign, pe_X7_ended, pe_X8_init, pe_X8_reachedBits, pe_X8_arriving, pe_X8_behindPiece, pe_X8_chanceOf, pe_X8_worstPlace, pe_X8_lostAt, pe_X9_init, pe_X9_readFrom, pe_X9_readClose, pe_X9_add, pe_X9_readStep, pe_X9_readAgain, pe_X9_doneOn, pe_X9_behindClose, pe_X9_behindAgain, pe_X9_isDone, pe_X10_init, pe_X10_outAfter, pe_X10_live, pe_X10_doDrawn, pe_X10_drawn, pe_X11_init, pe_X11_feed, pe_X11_fault, pe_X11_undo, pe_X11_wed, pe_X11_bit, pe_X11_pick, pe_X11_image, pe_X11_restore, pe_X11_status, pe_X11_count, pe_X11_house, pe_X11_open, pe_X11_expect, pe_X11_within, pe_X11_put, pe_X11_law, pe_X11_work, pe_X11_book, pe_X11_told, pe_X11_piece, pe_X11_expectPiece, pe_X11_expectThere, pe_X11_collar, pe_X11_fire, pe_X11_expectFire, pe_X11_row, pe_X11_behind, pe_X11_would, pe_X11_fits, pe_X11_expectThread, pe_X11_can, pe_X11_ahead, pe_X11_chain, pe_X11_chained, pe_X11_brief, pe_X11_briefly, pe_X11_joiner, pe_X11_leaks, pe_X11_look, pe_X11_sure, pe_X11_street, pe_X11_share, pe_X11_next, pe_X11_worst, pe_X11_needed, pe_X11_kin, pe_X11_year, pe_X11_span, pe_X12_init, pe_X12_tellsNothing, pe_X12_beginsAnew, pe_X12_lays, pe_X12_thrown, pe_X12_feed, pe_X12_house, pe_X12_in, pe_X12_bad, pe_X12_starts, pe_X12_blanks, pe_X12_byteAt, pe_X12_clause, pe_X12_kindHere, pe_X12_isWord, pe_X12_wordHere, pe_X12_isSmall, pe_X12_six, pe_X12_wrong, pe_X12_mostOf, pe_X12_skipWord, pe_X12_number, pe_X12_isDigit, pe_X12_readThread, pe_X12_sign, pe_X12_ends, pe_X12_law, pe_X12_sum, pe_X12_product, pe_X12_one, pe_X12_opensOne, pe_X12_notes, pe_X12_knownHere, pe_X12_takes, pe_X12_takesSign, pe_X12_book, pe_X12_fault, pe_X12_work, pe_X12_readsStep, pe_X12_stepHere, pe_X12_copies, pe_X12_goes, pe_X12_does, pe_X12_turns, pe_X12_placeOf, pe_X12_laysOne, pe_X12_canLay, pe_X12_manyIn, pe_X12_footOf, pe_X12_headOf, pe_X12_isJoined, pe_X12_lifts, pe_X12_becomes, pe_X12_bursts, pe_X12_hourEnds, pe_X12_isReached, pe_X12_longOf, pe_X12_arrives, pe_X12_runs, pe_X12_leftOf, pe_X12_leftBy, pe_X12_byLaw, pe_X12_by, pe_X12_less, pe_X12_more, pe_X12_undo, pe_X12_told, pe_X12_liesIn, pe_X12_outIn, pe_X12_piece, pe_X12_isPiece, pe_X12_collar, pe_X12_fire, pe_X12_isFire, pe_X12_row, pe_X12_behind, pe_X12_would, pe_X12_fits, pe_X12_isThread, pe_X12_can, pe_X12_ahead, pe_X12_chain, pe_X12_chains, pe_X12_laysLongest, pe_X12_has, pe_X12_isNext, pe_X12_chained, pe_X12_joiner, pe_X12_brief, pe_X12_briefs, pe_X12_isBrief, pe_X12_briefly, pe_X12_leaks, pe_X12_isLeak, pe_X12_look, pe_X12_isTold, pe_X12_wed, pe_X12_weds, pe_X12_sure, pe_X12_partOf, pe_X12_street, pe_X12_isChoice, pe_X12_isRest, pe_X12_streetHas, pe_X12_comes, pe_X12_houseHas, pe_X12_share, pe_X12_givenBy, pe_X12_next, pe_X12_worst, pe_X12_needed, pe_X12_kin, pe_X12_year, pe_X12_isYear, pe_X12_yearBy, pe_X12_draw, pe_X12_acts, pe_X12_span, pe_X12_image, pe_X12_putsAll, pe_X12_puts, pe_X12_restore, pe_X12_status, pe_X12_count, pe_L_house, pe_L_law, pe_L_work, pe_L_book, pe_L_told, pe_L_piece, pe_L_collar, pe_L_fire, pe_L_row, pe_L_behind, pe_L_would, pe_L_fits, pe_L_can, pe_L_ahead, pe_L_chain, pe_L_chained, pe_L_brief, pe_L_briefly, pe_L_joiner, pe_L_leaks, pe_L_look, pe_L_sure, pe_L_street, pe_L_share, pe_L_next, pe_L_worst, pe_L_needed, pe_L_kin, pe_L_year, pe_L_span, pe_J0_length_8abf5, pe_J0_coder_7d493, pe_J0_charAt_5068e, pe_J0_isLatin1_aae02, pe_J0_checkIndex_df160, pe_J1_charAt_3b067, pe_J7_fill_53178, pe_J7_fill_d0a16, pe_J3_checkIndex_8e157]
def cpT0 : List (Nat × Nat × Nat × Nat × Nat) := [(3, 6, 0, 0, 0), (9, 0, 0, 1, 0), (15, 0, 0, 2, 0), (18, 1, nX0_clear, 0, 0), (21, 0, 0, 0, 0), (25, 2, nJ7_fill_53178, 2, 16), (31, 7, 0, 0, 0), (37, 1, nX7_peek, 0, 7), (43, 1, nX0_readLine, 1, 0), (47, 1, nX7_numeral, 2, 7), (51, 0, 7, 4, 0), (54, 3, nX11_pick, 2, 11), (58, 1, nX7_noneSuch, 0, 7), (62, 3, nX11_put, 3, 11), (66, 1, nX7_sign, 1, 7), (70, 0, 0, 3, 0), (73, 0, 0, 4, 0), (76, 0, 3, 5, 0), (81, 0, 8, 5, 0), (86, 0, 8, 6, 0), (89, 0, 3, 7, 0), (92, 1, nX8_arriving, 2, 8), (96, 1, nX0_isRight, 2, 0), (100, 1, nX0_tallyUp, 2, 0), (104, 0, 8, 2, 0), (107, 1, nX0_findLeaks, 2, 0), (110, 0, 0, 5, 0), (113, 0, 0, 6, 0), (116, 1, nX0_worstAt, 1, 0), (120, 8, 0, 0, 0)]
def cpT1 : List (Nat × Nat × Nat × Nat × Nat) := [(3, 6, 0, 0, 0), (9, 0, 1, 4, 0), (15, 0, 1, 5, 0), (18, 0, 1, 6, 0), (21, 0, 1, 7, 0), (24, 0, 1, 8, 0), (27, 0, 1, 9, 0), (30, 0, 1, 10, 0), (33, 0, 1, 11, 0), (36, 0, 1, 12, 0), (39, 1, nX1_clear, 0, 1), (42, 0, 1, 0, 0), (46, 0, 1, 1, 0), (49, 0, 1, 2, 0), (52, 0, 1, 3, 0), (55, 7, 0, 0, 0), (61, 1, nX7_peek, 0, 7), (67, 15, 0, 0, 0), (69, 1, nX7_named, 1, 7), (73, 1, nX1_isFull, 1, 1), (77, 1, nX7_tooMany, 0, 7), (81, 1, nX1_readClause, 2, 1), (85, 1, nX7_sign, 1, 7), (89, 1, nX1_readPiece, 1, 1), (93, 1, nX1_readCollar, 1, 1), (96, 1, nX1_readFire, 1, 1), (99, 1, nX1_readHope, 1, 1), (102, 2, nX1_readTo, 5, 1), (106, 3, nX11_pick, 2, 11), (110, 1, nX7_noneSuch, 0, 7), (113, 1, nX1_join, 2, 1), (117, 1, nX7_numeral, 2, 7), (121, 0, 7, 4, 0), (124, 3, nX11_put, 3, 11), (128, 3, nX11_bit, 2, 11), (132, 1, nX1_footOf, 1, 1), (136, 1, nX1_headOf, 1, 1), (139, 1, nX1_joins, 2, 1), (142, 9, 0, 0, 0)]
def cpT2 : List (Nat × Nat × Nat × Nat × Nat) := [(3, 6, 0, 0, 0), (9, 0, 2, 0, 0), (15, 0, 2, 2, 0), (18, 0, 2, 3, 0), (21, 1, nX2_beUntold, 0, 2), (24, 16, 0, 0, 0), (27, 0, 2, 1, 0), (31, 7, 0, 0, 0), (37, 1, nX2_readSum, 2, 2), (41, 1, nX7_ended, 0, 7), (47, 1, nX2_readProduct, 2, 2), (50, 1, nX7_peek, 0, 7), (54, 1, nX7_sign, 1, 7), (58, 1, nX2_add, 1, 2), (62, 1, nX2_readUnit, 2, 2), (65, 2, nX7_isDigit, 1, 7), (68, 1, nX7_numeral, 2, 7), (72, 0, 7, 4, 0), (75, 1, nX7_tooMany, 0, 7), (78, 15, 1, 0, 0), (80, 1, nX7_named, 1, 7), (84, 3, nX11_put, 3, 11), (88, 9, 0, 0, 0), (94, 3, nX11_pick, 2, 11), (98, 2, nX2_reckon, 3, 2)]
def cpT3 : List (Nat × Nat × Nat × Nat × Nat) := [(3, 6, 0, 0, 0), (9, 0, 3, 0, 0), (15, 0, 3, 1, 0), (18, 0, 3, 2, 0), (21, 0, 3, 3, 0), (24, 2, nJ7_fill_53178, 2, 16), (30, 0, 3, 4, 0), (34, 0, 3, 5, 0), (37, 0, 3, 6, 0), (40, 0, 3, 7, 0), (43, 7, 0, 0, 0), (49, 3, nX11_bit, 2, 11), (53, 0, 1, 4, 0), (58, 3, nX11_pick, 2, 11), (62, 1, nX3_placeOf, 1, 3), (66, 1, nX3_wayOf, 1, 3), (69, 1, nX1_follows, 2, 1), (73, 1, nX3_canLay, 2, 3), (77, 3, nX11_put, 3, 11)]
def cpT4 : List (Nat × Nat × Nat × Nat × Nat) := [(5, 6, 0, 0, 0), (11, 0, 4, 0, 0), (15, 0, 4, 1, 0), (18, 0, 4, 2, 0), (21, 0, 4, 3, 0), (25, 0, 4, 4, 0), (28, 1, nX3_writeTo, 2, 3), (32, 1, nX3_readFrom, 2, 3), (35, 7, 0, 0, 0)]
def cpT5 : List (Nat × Nat × Nat × Nat × Nat) := [(5, 6, 0, 0, 0), (11, 0, 5, 2, 0), (15, 0, 5, 3, 0), (18, 0, 5, 5, 0), (21, 0, 5, 11, 0), (25, 0, 5, 12, 0), (28, 0, 5, 14, 0), (31, 0, 5, 15, 0), (35, 0, 5, 16, 0), (38, 0, 5, 0, 0), (42, 0, 5, 1, 0), (46, 0, 5, 4, 0), (50, 0, 5, 8, 0), (53, 1, nX5_forgetShort, 0, 5), (56, 1, nX5_longestNow, 0, 5), (60, 0, 5, 7, 0), (63, 0, 5, 6, 0), (66, 1, nX5_firstLeaving, 3, 5), (70, 0, 1, 4, 0), (75, 3, nX11_pick, 2, 11), (79, 0, 1, 0, 0), (82, 1, nX1_follows, 2, 1), (86, 1, nX5_fillFollowers, 0, 5), (89, 3, nX11_bit, 2, 11), (93, 1, nX5_longestBehind, 2, 5), (96, 3, nX11_put, 3, 11), (100, 1, nX5_canFollow, 3, 5), (104, 1, nX5_longWith, 2, 5), (107, 8, 0, 0, 0), (112, 0, 5, 9, 0), (115, 0, 5, 10, 0), (118, 1, nX1_joins, 2, 1), (121, 1, nX5_tryCollar, 2, 5), (125, 1, nX1_join, 2, 1), (128, 1, nX1_part, 2, 1), (131, 0, 5, 13, 0), (134, 2, nJ7_fill_d0a16, 2, 16), (140, 0, 3, 7, 0), (145, 1, nX5_searchShort, 6, 5), (149, 1, nX1_reaches, 3, 1), (152, 7, 0, 0, 0), (158, 1, nX8_behindPiece, 5, 8), (164, 1, nX5_isNew, 1, 5), (168, 14, 76800, 0, 0), (169, 2, nX5_leastOf, 1, 5), (173, 1, nX5_areFit, 2, 5)]
def cpT6 : List (Nat × Nat × Nat × Nat × Nat) := [(3, 6, 0, 0, 0), (11, 0, 6, 1, 0), (15, 0, 6, 0, 0), (19, 0, 3, 5, 0), (25, 0, 6, 2, 0), (28, 0, 6, 3, 0), (31, 0, 6, 4, 0), (34, 0, 6, 5, 0), (37, 1, nX6_fillArrives, 1, 6), (41, 1, nX6_canTake, 2, 6), (45, 1, nX6_isRest, 3, 6), (49, 1, nX6_noteRest, 2, 6), (53, 1, nX6_bendMore, 2, 6), (56, 0, 3, 7, 0), (59, 1, nX8_arriving, 2, 8), (65, 3, nX11_put, 3, 11), (69, 0, 8, 3, 0), (72, 3, nX11_pick, 2, 11), (76, 0, 3, 1, 0), (79, 0, 3, 0, 0), (82, 1, nX6_streetHas, 2, 6), (86, 1, nX6_houseHas, 2, 6), (89, 1, nX6_paid, 1, 6), (93, 1, nX6_asTold, 1, 6), (96, 0, 6, 6, 0)]
def cpT7 : List (Nat × Nat × Nat × Nat × Nat) := [(3, 6, 0, 0, 0), (11, 0, 7, 0, 0), (15, 0, 7, 3, 0), (19, 0, 7, 1, 0), (22, 0, 7, 5, 0), (25, 0, 7, 6, 0), (28, 0, 7, 2, 0), (31, 1, nX7_byteAt, 1, 7), (35, 0, 7, 7, 0), (38, 1, nX7_peek, 0, 7), (42, 1, nX7_blame, 1, 7), (46, 2, nX7_isDigit, 1, 7), (49, 14, 100000, 0, 0), (50, 9, 0, 0, 0), (56, 0, 7, 4, 0), (59, 3, nX11_within, 3, 11), (63, 1, nX7_placeAmong, 1, 7), (67, 10, nJ0_length_8abf5, 0, 14), (72, 10, nJ0_charAt_5068e, 1, 14)]
def cpT8 : List (Nat × Nat × Nat × Nat × Nat) := [(3, 6, 0, 0, 0), (9, 0, 8, 2, 0), (15, 0, 8, 3, 0), (18, 0, 8, 4, 0), (21, 0, 8, 5, 0), (25, 0, 8, 0, 0), (29, 0, 8, 1, 0), (33, 0, 3, 5, 0), (38, 0, 3, 0, 0), (41, 1, nX3_wayOf, 1, 3), (45, 1, nX8_behindPiece, 5, 8), (49, 0, 8, 6, 0), (52, 8, 0, 0, 0), (58, 0, 3, 1, 0), (61, 3, nX11_pick, 2, 11), (65, 0, 3, 2, 0), (68, 0, 1, 5, 0), (73, 0, 1, 4, 0), (76, 1, nX2_tellPiece, 4, 2), (82, 1, nX2_tellNow, 5, 2), (86, 1, nX2_left, 0, 2), (89, 0, 1, 2, 0), (92, 0, 3, 7, 0), (95, 1, nX8_arriving, 2, 8), (99, 1, nX3_longNow, 1, 3), (103, 1, nX1_reaches, 3, 1), (107, 1, nX8_lostAt, 2, 8), (110, 3, nX11_bit, 2, 11), (113, 2, nJ7_fill_53178, 2, 16)]
def cpT9 : List (Nat × Nat × Nat × Nat × Nat) := [(5, 6, 0, 0, 0), (11, 0, 9, 0, 0), (15, 0, 9, 1, 0), (18, 0, 9, 2, 0), (21, 0, 9, 4, 0), (24, 0, 9, 5, 0), (27, 0, 9, 3, 0), (31, 0, 9, 6, 0), (34, 1, nX7_peek, 0, 7), (40, 1, nX9_readClose, 1, 9), (44, 1, nX9_readStep, 2, 9), (48, 3, nX11_pick, 2, 11), (52, 3, nX11_put, 3, 11), (56, 1, nX9_add, 3, 9), (60, 1, nX7_sign, 1, 7), (64, 15, 2, 0, 0), (66, 1, nX7_named, 1, 7), (70, 1, nX9_readAgain, 1, 9), (73, 1, nX7_numeral, 2, 7), (77, 0, 7, 4, 0), (80, 1, nX7_tooMany, 0, 7), (84, 9, 0, 0, 0), (90, 0, 9, 7, 0), (93, 1, nX9_behindClose, 1, 9), (97, 1, nX9_behindAgain, 1, 9), (100, 1, nX9_isDone, 4, 9), (104, 1, nX3_turnRound, 1, 3), (110, 1, nX3_layDown, 2, 3), (114, 1, nX3_liftLast, 0, 3), (117, 1, nX3_bendTo, 2, 3), (120, 1, nX3_burstOnce, 1, 3), (123, 1, nX3_patchOnce, 1, 3), (126, 1, nX3_hopeFor, 1, 3), (129, 0, 3, 6, 0), (132, 1, nX8_reachedBits, 1, 8), (138, 1, nX3_passHour, 1, 3)]
def cpT10 : List (Nat × Nat × Nat × Nat × Nat) := [(1, 6, 0, 0, 0), (7, 12, 3, 8, 0), (9, 4, nX3_init, 0, 3), (10, 0, 10, 2, 0), (16, 0, 10, 0, 0), (20, 0, 10, 1, 0), (24, 1, nX3_become, 1, 3), (28, 1, nX8_reachedBits, 1, 8), (34, 1, nX3_passHour, 1, 3), (38, 1, nX3_outBits, 0, 3), (42, 0, 10, 4, 0), (46, 0, 10, 3, 0), (49, 0, 1, 0, 0), (54, 1, nX10_doDrawn, 1, 10), (58, 1, nX10_drawn, 1, 10), (61, 1, nX3_layDown, 2, 3), (65, 1, nX3_turnRound, 1, 3), (69, 1, nX3_burstOnce, 1, 3), (72, 1, nX3_patchOnce, 1, 3), (75, 1, nX3_liftLast, 0, 3), (79, 14, 1103515245, 0, 0)]
def cpT11 : List (Nat × Nat × Nat × Nat × Nat) := [(1, 6, 0, 0, 0), (7, 12, 7, 8, 0), (9, 4, nX7_init, 0, 7), (10, 0, 11, 0, 0), (16, 12, 1, 13, 0), (18, 5, nX1_init, 0, 1), (19, 0, 11, 1, 0), (23, 0, 11, 2, 0), (26, 12, 2, 4, 0), (28, 5, nX2_init, 0, 2), (29, 0, 11, 3, 0), (33, 0, 11, 4, 0), (36, 12, 0, 7, 0), (38, 5, nX0_init, 0, 0), (39, 0, 11, 5, 0), (43, 0, 11, 6, 0), (46, 12, 9, 8, 0), (48, 4, nX9_init, 0, 9), (49, 0, 11, 7, 0), (53, 12, 3, 8, 0), (55, 4, nX3_init, 0, 3), (56, 0, 11, 8, 0), (60, 12, 4, 5, 0), (62, 4, nX4_init, 0, 4), (63, 0, 11, 9, 0), (67, 12, 8, 7, 0), (69, 5, nX8_init, 2, 8), (72, 0, 11, 10, 0), (76, 12, 5, 17, 0), (78, 5, nX5_init, 2, 5), (81, 0, 11, 11, 0), (85, 12, 6, 7, 0), (87, 5, nX6_init, 1, 6), (90, 0, 11, 12, 0), (94, 12, 10, 5, 0), (96, 5, nX10_init, 2, 10), (97, 0, 11, 13, 0), (101, 0, 1, 3, 0), (105, 1, nX3_begin, 1, 3), (109, 1, nX7_hasRoom, 0, 7), (113, 1, nX7_append, 1, 7), (116, 0, 7, 1, 0), (119, 1, nX11_open, 2, 11), (123, 1, nX1_readFrom, 1, 1), (127, 0, 7, 2, 0), (130, 1, nX1_become, 1, 1), (134, 1, nX2_beUntold, 0, 2), (137, 1, nX0_clear, 0, 0), (140, 1, nX4_forget, 0, 4), (143, 0, 9, 7, 0), (146, 1, nX5_forgetHouse, 0, 5), (149, 0, 1, 0, 0), (152, 1, nX2_readFrom, 1, 2), (153, 1, nX2_become, 1, 2), (156, 1, nX5_forgetShort, 0, 5), (159, 1, nX4_isFull, 0, 4), (162, 1, nX9_readFrom, 2, 9), (165, 1, nX4_push, 1, 4), (169, 1, nX9_doneOn, 3, 9), (173, 1, nX0_readFrom, 1, 0), (174, 1, nX0_become, 1, 0), (177, 0, 0, 0, 0), (180, 0, 7, 3, 0), (183, 0, 4, 3, 0), (186, 1, nX4_pop, 1, 4), (189, 2, nX11_within, 3, 11), (193, 1, nX11_expect, 1, 11), (197, 0, 1, 1, 0), (200, 0, 1, 2, 0), (203, 0, 3, 6, 0), (206, 0, 3, 5, 0), (209, 1, nX3_rowBits, 0, 3), (213, 1, nX3_longNow, 1, 3), (217, 0, 3, 7, 0), (218, 1, nX8_arriving, 2, 8), (222, 1, nX3_outBits, 0, 3), (225, 1, nX11_expectPiece, 1, 11), (228, 0, 1, 4, 0), (232, 2, nX11_pick, 2, 11), (236, 1, nX3_wayOf, 1, 3), (240, 1, nX1_headOf, 1, 1), (243, 1, nX1_footOf, 1, 1), (246, 0, 1, 5, 0), (249, 0, 3, 1, 0), (252, 0, 3, 2, 0), (255, 0, 3, 4, 0), (258, 2, nX11_bit, 2, 11), (262, 1, nX3_placeOf, 1, 3), (265, 1, nX11_expectThere, 1, 11), (268, 0, 1, 8, 0), (271, 0, 1, 9, 0), (274, 1, nX11_expectFire, 1, 11), (277, 0, 1, 10, 0), (280, 0, 1, 11, 0), (283, 1, nX8_reachedBits, 1, 8), (287, 0, 3, 3, 0), (290, 0, 3, 0, 0), (293, 0, 8, 2, 0), (296, 1, nX2_tellPiece, 4, 2), (300, 1, nX2_tellNow, 5, 2), (304, 1, nX2_left, 0, 2), (306, 1, nX11_expectThread, 1, 11), (309, 1, nX1_joins, 2, 1), (313, 1, nX3_canLay, 2, 3), (317, 1, nX10_outAfter, 2, 10), (320, 1, nX5_findChain, 0, 5), (323, 0, 5, 7, 0), (326, 0, 5, 6, 0), (329, 0, 5, 5, 0), (332, 1, nX5_findShort, 2, 5), (336, 0, 5, 13, 0), (339, 0, 5, 12, 0), (342, 1, nX5_findCollar, 0, 5), (345, 0, 5, 9, 0), (348, 0, 5, 10, 0), (351, 1, nX0_findLeaks, 2, 0), (355, 0, 0, 3, 0), (358, 0, 0, 4, 0), (361, 1, nX0_findLook, 2, 0), (364, 0, 0, 5, 0), (367, 0, 0, 6, 0), (370, 1, nX5_mostPairs, 0, 5), (373, 1, nX8_chanceOf, 3, 8), (377, 1, nX6_findRests, 2, 6), (380, 0, 6, 4, 0), (383, 0, 6, 5, 0), (386, 0, 6, 6, 0), (389, 1, nX1_level, 2, 1), (392, 9, 0, 0, 0), (397, 1, nX8_worstPlace, 1, 8), (400, 1, nX8_lostAt, 2, 8), (403, 0, 1, 12, 0), (406, 1, nX10_live, 4, 10), (410, 0, 10, 3, 0), (413, 0, 10, 2, 0), (416, 1, nX3_allBursts, 0, 3), (419, 8, 0, 0, 0), (422, 1, nX4_canKeep, 0, 4), (425, 1, nX4_keep, 1, 4), (428, 0, 4, 4, 0), (431, 1, nX4_bringBack, 1, 4), (434, 0, 11, 14, 0), (437, 0, 11, 15, 0), (440, 1, nX7_begin, 1, 7), (441, 13, 1, 0, 0), (448, 13, 0, 0, 0)]
def cpT12 : List (Nat × Nat × Nat × Nat × Nat) := [(1, 6, 0, 0, 0), (9, 0, 12, 3, 0), (13, 0, 12, 9, 0), (17, 0, 12, 10, 0), (20, 0, 12, 11, 0), (23, 0, 12, 12, 0), (26, 17, 0, 0, 0), (28, 0, 12, 13, 0), (31, 0, 12, 14, 0), (34, 0, 12, 15, 0), (37, 0, 12, 16, 0), (40, 0, 12, 17, 0), (43, 0, 12, 18, 0), (46, 0, 12, 21, 0), (49, 0, 12, 22, 0), (52, 0, 12, 23, 0), (55, 0, 12, 24, 0), (58, 0, 12, 25, 0), (61, 0, 12, 26, 0), (64, 0, 12, 27, 0), (67, 0, 12, 29, 0), (70, 0, 12, 30, 0), (73, 0, 12, 31, 0), (76, 0, 12, 32, 0), (79, 0, 12, 33, 0), (82, 0, 12, 43, 0), (85, 0, 12, 44, 0), (88, 0, 12, 47, 0), (91, 0, 12, 48, 0), (94, 0, 12, 49, 0), (97, 1, nX12_tellsNothing, 0, 12), (100, 1, nX12_beginsAnew, 0, 12), (103, 0, 12, 0, 0), (106, 0, 12, 1, 0), (109, 0, 12, 2, 0), (112, 0, 12, 4, 0), (115, 1, nX12_byteAt, 1, 12), (119, 0, 12, 5, 0), (122, 0, 12, 6, 0), (125, 1, nX12_blanks, 0, 12), (128, 2, nX12_isDigit, 1, 12), (132, 1, nX12_wrong, 2, 12), (136, 14, 100000, 0, 0), (137, 2, nX12_in, 3, 12), (141, 2, nX12_isSmall, 1, 12), (144, 1, nX12_wordHere, 0, 12), (148, 2, nX12_six, 6, 12), (152, 1, nX12_isWord, 6, 12), (156, 1, nX12_skipWord, 0, 12), (159, 0, 12, 7, 0), (162, 0, 12, 8, 0), (165, 1, nX12_number, 2, 12), (169, 1, nX12_kindHere, 0, 12), (172, 2, nX12_mostOf, 1, 12), (175, 1, nX12_readThread, 0, 12), (178, 1, nX12_sign, 1, 12), (182, 1, nX12_bad, 3, 12), (186, 1, nX12_starts, 1, 12), (189, 1, nX12_clause, 0, 12), (192, 1, nX12_ends, 0, 12), (195, 2, nX12_lays, 3, 12), (199, 0, 12, 39, 0), (202, 0, 12, 19, 0), (205, 0, 12, 34, 0), (208, 0, 12, 35, 0), (211, 0, 12, 36, 0), (214, 0, 12, 37, 0), (217, 0, 12, 20, 0), (220, 1, nX12_product, 0, 12), (223, 1, nX12_takesSign, 1, 12), (226, 1, nX12_notes, 2, 12), (229, 1, nX12_one, 0, 12), (232, 1, nX12_takes, 6, 12), (235, 1, nX12_opensOne, 0, 12), (239, 1, nX12_sum, 0, 12), (242, 1, nX12_knownHere, 0, 12), (245, 2, nX12_less, 2, 12), (248, 2, nX12_more, 2, 12), (251, 2, nX12_by, 3, 12), (255, 1, nX12_stepHere, 0, 12), (258, 0, 12, 28, 0), (261, 1, nX12_readsStep, 0, 12), (264, 2, nX12_manyIn, 1, 12), (268, 2, nX12_placeOf, 2, 12), (272, 1, nX12_footOf, 2, 12), (275, 1, nX12_headOf, 2, 12), (278, 1, nX12_isJoined, 2, 12), (282, 1, nX12_byLaw, 0, 12), (285, 1, nX12_leftBy, 9, 12), (289, 1, nX12_leftOf, 5, 12), (293, 1, nX12_runs, 3, 12), (297, 1, nX12_longOf, 1, 12), (300, 1, nX12_arrives, 1, 12), (303, 1, nX12_isReached, 2, 12), (307, 0, 12, 40, 0), (310, 1, nX12_canLay, 3, 12), (314, 1, nX12_turns, 2, 12), (317, 1, nX12_laysOne, 2, 12), (320, 2, nX12_lifts, 1, 12), (324, 2, nX12_becomes, 3, 12), (327, 2, nX12_bursts, 3, 12), (330, 1, nX12_hourEnds, 1, 12), (334, 0, 12, 41, 0), (337, 1, nX12_goes, 2, 12), (340, 1, nX12_does, 2, 12), (344, 0, 12, 42, 0), (347, 2, nX12_copies, 2, 12), (351, 1, nX12_liesIn, 1, 12), (354, 1, nX12_outIn, 1, 12), (357, 1, nX12_isPiece, 1, 12), (360, 1, nX12_isFire, 1, 12), (363, 2, nX12_isThread, 1, 12), (366, 2, nX12_has, 2, 12), (369, 1, nX12_isNext, 2, 12), (372, 1, nX12_laysLongest, 0, 12), (375, 0, 12, 45, 0), (378, 0, 12, 46, 0), (381, 1, nX12_chains, 0, 12), (384, 1, nX12_isBrief, 7, 12), (388, 1, nX12_briefs, 1, 12), (391, 1, nX12_isLeak, 2, 12), (394, 1, nX12_isTold, 1, 12), (397, 1, nX12_weds, 1, 12), (400, 2, nX12_partOf, 3, 12), (404, 1, nX12_comes, 2, 12), (407, 1, nX12_isChoice, 2, 12), (411, 1, nX12_streetHas, 4, 12), (415, 1, nX12_houseHas, 3, 12), (418, 1, nX12_isRest, 4, 12), (422, 1, nX12_givenBy, 2, 12), (425, 0, 12, 50, 0), (428, 14, 1103515245, 0, 0), (429, 1, nX12_draw, 1, 12), (432, 1, nX12_acts, 3, 12), (436, 2, nX12_isYear, 2, 12), (439, 1, nX12_yearBy, 3, 12), (443, 0, 12, 38, 0), (446, 1, nX12_puts, 3, 12), (450, 1, nX12_putsAll, 2, 12)]
def cpT13 : List (Nat × Nat × Nat × Nat × Nat) := [(7, 1, nX11_house, 1, 11), (8, 12, 11, 16, 0), (13, 18, 1, 0, 0), (15, 1, nX11_law, 1, 11), (18, 1, nX11_work, 1, 11), (21, 1, nX11_book, 1, 11), (24, 1, nX11_told, 1, 11), (27, 1, nX11_piece, 2, 11), (31, 18, 0, 0, 0), (33, 1, nX11_collar, 2, 11), (36, 1, nX11_fire, 2, 11), (39, 1, nX11_row, 1, 11), (42, 1, nX11_behind, 1, 11), (45, 1, nX11_would, 9, 11), (49, 1, nX11_fits, 2, 11), (53, 1, nX11_can, 1, 11), (57, 1, nX11_ahead, 1, 11), (60, 1, nX11_chain, 1, 11), (63, 1, nX11_chained, 1, 11), (66, 1, nX11_brief, 1, 11), (69, 1, nX11_briefly, 2, 11), (72, 1, nX11_joiner, 1, 11), (75, 1, nX11_leaks, 1, 11), (78, 1, nX11_look, 1, 11), (81, 1, nX11_sure, 3, 11), (85, 1, nX11_street, 3, 11), (89, 1, nX11_share, 3, 11), (92, 1, nX11_next, 1, 11), (95, 1, nX11_worst, 1, 11), (98, 1, nX11_needed, 1, 11), (101, 1, nX11_kin, 1, 11), (104, 1, nX11_year, 4, 11), (108, 1, nX11_span, 6, 11), (112, 5, nX11_init, 0, 11), (113, 12, 12, 51, 0), (115, 5, nX12_init, 0, 12), (116, 1, nX11_feed, 5, 11), (120, 1, nX12_feed, 5, 12), (121, 2, nL_house, 3, 13), (126, 1, nX12_house, 1, 12), (127, 1, nX12_thrown, 0, 12), (131, 2, nL_law, 3, 13), (133, 1, nX12_law, 1, 12), (134, 2, nL_work, 3, 13), (136, 1, nX12_work, 1, 12), (137, 2, nL_book, 3, 13), (139, 1, nX12_book, 1, 12), (140, 1, nX11_fault, 0, 11), (143, 1, nX12_fault, 0, 12), (144, 1, nX11_undo, 0, 11), (147, 1, nX12_undo, 0, 12), (148, 2, nL_told, 3, 13), (150, 1, nX12_told, 1, 12), (151, 2, nL_piece, 4, 13), (154, 1, nX12_piece, 2, 12), (155, 2, nL_collar, 4, 13), (157, 1, nX12_collar, 2, 12), (158, 2, nL_fire, 4, 13), (160, 1, nX12_fire, 2, 12), (161, 2, nL_row, 3, 13), (163, 1, nX12_row, 1, 12), (164, 2, nL_behind, 3, 13), (166, 1, nX12_behind, 1, 12), (167, 2, nL_would, 11, 13), (170, 1, nX12_would, 9, 12), (171, 2, nL_fits, 4, 13), (173, 1, nX12_fits, 2, 12), (174, 2, nL_can, 3, 13), (176, 1, nX12_can, 1, 12), (177, 2, nL_ahead, 3, 13), (179, 1, nX12_ahead, 1, 12), (180, 2, nL_chain, 3, 13), (182, 1, nX12_chain, 1, 12), (183, 2, nL_chained, 3, 13), (185, 1, nX12_chained, 1, 12), (186, 2, nL_brief, 3, 13), (188, 1, nX12_brief, 1, 12), (189, 2, nL_briefly, 4, 13), (191, 1, nX12_briefly, 2, 12), (192, 2, nL_joiner, 3, 13), (194, 1, nX12_joiner, 1, 12), (195, 2, nL_leaks, 3, 13), (197, 1, nX12_leaks, 1, 12), (198, 2, nL_look, 3, 13), (200, 1, nX12_look, 1, 12), (201, 1, nX11_wed, 0, 11), (204, 1, nX12_wed, 0, 12), (205, 2, nL_sure, 5, 13), (208, 1, nX12_sure, 3, 12), (209, 2, nL_street, 5, 13), (211, 1, nX12_street, 3, 12), (212, 2, nL_share, 5, 13), (214, 1, nX12_share, 3, 12), (215, 2, nL_next, 3, 13), (217, 1, nX12_next, 1, 12), (218, 2, nL_worst, 3, 13), (220, 1, nX12_worst, 1, 12), (221, 2, nL_needed, 3, 13), (223, 1, nX12_needed, 1, 12), (224, 2, nL_kin, 3, 13), (226, 1, nX12_kin, 1, 12), (227, 2, nL_year, 6, 13), (230, 1, nX12_year, 4, 12), (231, 2, nL_span, 8, 13), (234, 1, nX12_span, 6, 12), (235, 1, nX11_image, 0, 11), (238, 1, nX12_image, 0, 12), (239, 1, nX11_restore, 0, 11), (242, 1, nX12_restore, 0, 12), (243, 1, nX11_status, 1, 11), (246, 1, nX12_status, 1, 12), (247, 1, nX11_count, 1, 11), (250, 1, nX12_count, 1, 12)]
def cpT14 : List (Nat × Nat × Nat × Nat × Nat) := [(9, 20, 1, 0, 0), (15, 20, 0, 0, 0), (38, 19, 0, 0, 0), (335, 10, nJ0_coder_7d493, 0, 14), (492, 10, nJ0_isLatin1_aae02, 0, 14), (495, 2, nJ1_charAt_3b067, 2, 15), (1053, 21, 0, 0, 0), (1059, 2, nJ3_checkIndex_8e157, 3, 17)]
def cpT15 : List (Nat × Nat × Nat × Nat × Nat) := [(9, 2, nJ0_checkIndex_df160, 2, 14)]
def cpT16 : List (Nat × Nat × Nat × Nat × Nat) := []
def cpT17 : List (Nat × Nat × Nat × Nat × Nat) := []
def cpT : List (List (Nat × Nat × Nat × Nat × Nat)) := [cpT0, cpT1, cpT2, cpT3, cpT4, cpT5, cpT6, cpT7, cpT8, cpT9, cpT10, cpT11, cpT12, cpT13, cpT14, cpT15, cpT16, cpT17]
def cp (ow idx : Nat) : Option (Nat × Nat × Nat × Nat) := ((cpT.getD ow []).find? (fun x => x.1 == idx)).map (fun x => x.2)
theorem cp_0_3 : cp 0 3 = some (6, 0, 0, 0) := by rfl
theorem cp_0_9 : cp 0 9 = some (0, 0, 1, 0) := by rfl
theorem cp_0_15 : cp 0 15 = some (0, 0, 2, 0) := by rfl
theorem cp_0_18 : cp 0 18 = some (1, nX0_clear, 0, 0) := by rfl
theorem cp_0_21 : cp 0 21 = some (0, 0, 0, 0) := by rfl
theorem cp_0_25 : cp 0 25 = some (2, nJ7_fill_53178, 2, 16) := by rfl
theorem cp_0_31 : cp 0 31 = some (7, 0, 0, 0) := by rfl
theorem cp_0_37 : cp 0 37 = some (1, nX7_peek, 0, 7) := by rfl
theorem cp_0_43 : cp 0 43 = some (1, nX0_readLine, 1, 0) := by rfl
theorem cp_0_47 : cp 0 47 = some (1, nX7_numeral, 2, 7) := by rfl
theorem cp_0_51 : cp 0 51 = some (0, 7, 4, 0) := by rfl
theorem cp_0_54 : cp 0 54 = some (3, nX11_pick, 2, 11) := by rfl
theorem cp_0_58 : cp 0 58 = some (1, nX7_noneSuch, 0, 7) := by rfl
theorem cp_0_62 : cp 0 62 = some (3, nX11_put, 3, 11) := by rfl
theorem cp_0_66 : cp 0 66 = some (1, nX7_sign, 1, 7) := by rfl
theorem cp_0_70 : cp 0 70 = some (0, 0, 3, 0) := by rfl
theorem cp_0_73 : cp 0 73 = some (0, 0, 4, 0) := by rfl
theorem cp_0_76 : cp 0 76 = some (0, 3, 5, 0) := by rfl
theorem cp_0_81 : cp 0 81 = some (0, 8, 5, 0) := by rfl
theorem cp_0_86 : cp 0 86 = some (0, 8, 6, 0) := by rfl
theorem cp_0_89 : cp 0 89 = some (0, 3, 7, 0) := by rfl
theorem cp_0_92 : cp 0 92 = some (1, nX8_arriving, 2, 8) := by rfl
theorem cp_0_96 : cp 0 96 = some (1, nX0_isRight, 2, 0) := by rfl
theorem cp_0_100 : cp 0 100 = some (1, nX0_tallyUp, 2, 0) := by rfl
theorem cp_0_104 : cp 0 104 = some (0, 8, 2, 0) := by rfl
theorem cp_0_107 : cp 0 107 = some (1, nX0_findLeaks, 2, 0) := by rfl
theorem cp_0_110 : cp 0 110 = some (0, 0, 5, 0) := by rfl
theorem cp_0_113 : cp 0 113 = some (0, 0, 6, 0) := by rfl
theorem cp_0_116 : cp 0 116 = some (1, nX0_worstAt, 1, 0) := by rfl
theorem cp_0_120 : cp 0 120 = some (8, 0, 0, 0) := by rfl
theorem cp_1_3 : cp 1 3 = some (6, 0, 0, 0) := by rfl
theorem cp_1_9 : cp 1 9 = some (0, 1, 4, 0) := by rfl
theorem cp_1_15 : cp 1 15 = some (0, 1, 5, 0) := by rfl
theorem cp_1_18 : cp 1 18 = some (0, 1, 6, 0) := by rfl
theorem cp_1_21 : cp 1 21 = some (0, 1, 7, 0) := by rfl
theorem cp_1_24 : cp 1 24 = some (0, 1, 8, 0) := by rfl
theorem cp_1_27 : cp 1 27 = some (0, 1, 9, 0) := by rfl
theorem cp_1_30 : cp 1 30 = some (0, 1, 10, 0) := by rfl
theorem cp_1_33 : cp 1 33 = some (0, 1, 11, 0) := by rfl
theorem cp_1_36 : cp 1 36 = some (0, 1, 12, 0) := by rfl
theorem cp_1_39 : cp 1 39 = some (1, nX1_clear, 0, 1) := by rfl
theorem cp_1_42 : cp 1 42 = some (0, 1, 0, 0) := by rfl
theorem cp_1_46 : cp 1 46 = some (0, 1, 1, 0) := by rfl
theorem cp_1_49 : cp 1 49 = some (0, 1, 2, 0) := by rfl
theorem cp_1_52 : cp 1 52 = some (0, 1, 3, 0) := by rfl
theorem cp_1_55 : cp 1 55 = some (7, 0, 0, 0) := by rfl
theorem cp_1_61 : cp 1 61 = some (1, nX7_peek, 0, 7) := by rfl
theorem cp_1_67 : cp 1 67 = some (15, 0, 0, 0) := by rfl
theorem cp_1_69 : cp 1 69 = some (1, nX7_named, 1, 7) := by rfl
theorem cp_1_73 : cp 1 73 = some (1, nX1_isFull, 1, 1) := by rfl
theorem cp_1_77 : cp 1 77 = some (1, nX7_tooMany, 0, 7) := by rfl
theorem cp_1_81 : cp 1 81 = some (1, nX1_readClause, 2, 1) := by rfl
theorem cp_1_85 : cp 1 85 = some (1, nX7_sign, 1, 7) := by rfl
theorem cp_1_89 : cp 1 89 = some (1, nX1_readPiece, 1, 1) := by rfl
theorem cp_1_93 : cp 1 93 = some (1, nX1_readCollar, 1, 1) := by rfl
theorem cp_1_96 : cp 1 96 = some (1, nX1_readFire, 1, 1) := by rfl
theorem cp_1_99 : cp 1 99 = some (1, nX1_readHope, 1, 1) := by rfl
theorem cp_1_102 : cp 1 102 = some (2, nX1_readTo, 5, 1) := by rfl
theorem cp_1_106 : cp 1 106 = some (3, nX11_pick, 2, 11) := by rfl
theorem cp_1_110 : cp 1 110 = some (1, nX7_noneSuch, 0, 7) := by rfl
theorem cp_1_113 : cp 1 113 = some (1, nX1_join, 2, 1) := by rfl
theorem cp_1_117 : cp 1 117 = some (1, nX7_numeral, 2, 7) := by rfl
theorem cp_1_121 : cp 1 121 = some (0, 7, 4, 0) := by rfl
theorem cp_1_124 : cp 1 124 = some (3, nX11_put, 3, 11) := by rfl
theorem cp_1_128 : cp 1 128 = some (3, nX11_bit, 2, 11) := by rfl
theorem cp_1_132 : cp 1 132 = some (1, nX1_footOf, 1, 1) := by rfl
theorem cp_1_136 : cp 1 136 = some (1, nX1_headOf, 1, 1) := by rfl
theorem cp_1_139 : cp 1 139 = some (1, nX1_joins, 2, 1) := by rfl
theorem cp_1_142 : cp 1 142 = some (9, 0, 0, 0) := by rfl
theorem cp_2_3 : cp 2 3 = some (6, 0, 0, 0) := by rfl
theorem cp_2_9 : cp 2 9 = some (0, 2, 0, 0) := by rfl
theorem cp_2_15 : cp 2 15 = some (0, 2, 2, 0) := by rfl
theorem cp_2_18 : cp 2 18 = some (0, 2, 3, 0) := by rfl
theorem cp_2_21 : cp 2 21 = some (1, nX2_beUntold, 0, 2) := by rfl
theorem cp_2_24 : cp 2 24 = some (16, 0, 0, 0) := by rfl
theorem cp_2_27 : cp 2 27 = some (0, 2, 1, 0) := by rfl
theorem cp_2_31 : cp 2 31 = some (7, 0, 0, 0) := by rfl
theorem cp_2_37 : cp 2 37 = some (1, nX2_readSum, 2, 2) := by rfl
theorem cp_2_41 : cp 2 41 = some (1, nX7_ended, 0, 7) := by rfl
theorem cp_2_47 : cp 2 47 = some (1, nX2_readProduct, 2, 2) := by rfl
theorem cp_2_50 : cp 2 50 = some (1, nX7_peek, 0, 7) := by rfl
theorem cp_2_54 : cp 2 54 = some (1, nX7_sign, 1, 7) := by rfl
theorem cp_2_58 : cp 2 58 = some (1, nX2_add, 1, 2) := by rfl
theorem cp_2_62 : cp 2 62 = some (1, nX2_readUnit, 2, 2) := by rfl
theorem cp_2_65 : cp 2 65 = some (2, nX7_isDigit, 1, 7) := by rfl
theorem cp_2_68 : cp 2 68 = some (1, nX7_numeral, 2, 7) := by rfl
theorem cp_2_72 : cp 2 72 = some (0, 7, 4, 0) := by rfl
theorem cp_2_75 : cp 2 75 = some (1, nX7_tooMany, 0, 7) := by rfl
theorem cp_2_78 : cp 2 78 = some (15, 1, 0, 0) := by rfl
theorem cp_2_80 : cp 2 80 = some (1, nX7_named, 1, 7) := by rfl
theorem cp_2_84 : cp 2 84 = some (3, nX11_put, 3, 11) := by rfl
theorem cp_2_88 : cp 2 88 = some (9, 0, 0, 0) := by rfl
theorem cp_2_94 : cp 2 94 = some (3, nX11_pick, 2, 11) := by rfl
theorem cp_2_98 : cp 2 98 = some (2, nX2_reckon, 3, 2) := by rfl
theorem cp_3_3 : cp 3 3 = some (6, 0, 0, 0) := by rfl
theorem cp_3_9 : cp 3 9 = some (0, 3, 0, 0) := by rfl
theorem cp_3_15 : cp 3 15 = some (0, 3, 1, 0) := by rfl
theorem cp_3_18 : cp 3 18 = some (0, 3, 2, 0) := by rfl
theorem cp_3_21 : cp 3 21 = some (0, 3, 3, 0) := by rfl
theorem cp_3_24 : cp 3 24 = some (2, nJ7_fill_53178, 2, 16) := by rfl
theorem cp_3_30 : cp 3 30 = some (0, 3, 4, 0) := by rfl
theorem cp_3_34 : cp 3 34 = some (0, 3, 5, 0) := by rfl
theorem cp_3_37 : cp 3 37 = some (0, 3, 6, 0) := by rfl
theorem cp_3_40 : cp 3 40 = some (0, 3, 7, 0) := by rfl
theorem cp_3_43 : cp 3 43 = some (7, 0, 0, 0) := by rfl
theorem cp_3_49 : cp 3 49 = some (3, nX11_bit, 2, 11) := by rfl
theorem cp_3_53 : cp 3 53 = some (0, 1, 4, 0) := by rfl
theorem cp_3_58 : cp 3 58 = some (3, nX11_pick, 2, 11) := by rfl
theorem cp_3_62 : cp 3 62 = some (1, nX3_placeOf, 1, 3) := by rfl
theorem cp_3_66 : cp 3 66 = some (1, nX3_wayOf, 1, 3) := by rfl
theorem cp_3_69 : cp 3 69 = some (1, nX1_follows, 2, 1) := by rfl
theorem cp_3_73 : cp 3 73 = some (1, nX3_canLay, 2, 3) := by rfl
theorem cp_3_77 : cp 3 77 = some (3, nX11_put, 3, 11) := by rfl
theorem cp_4_5 : cp 4 5 = some (6, 0, 0, 0) := by rfl
theorem cp_4_11 : cp 4 11 = some (0, 4, 0, 0) := by rfl
theorem cp_4_15 : cp 4 15 = some (0, 4, 1, 0) := by rfl
theorem cp_4_18 : cp 4 18 = some (0, 4, 2, 0) := by rfl
theorem cp_4_21 : cp 4 21 = some (0, 4, 3, 0) := by rfl
theorem cp_4_25 : cp 4 25 = some (0, 4, 4, 0) := by rfl
theorem cp_4_28 : cp 4 28 = some (1, nX3_writeTo, 2, 3) := by rfl
theorem cp_4_32 : cp 4 32 = some (1, nX3_readFrom, 2, 3) := by rfl
theorem cp_4_35 : cp 4 35 = some (7, 0, 0, 0) := by rfl
theorem cp_5_5 : cp 5 5 = some (6, 0, 0, 0) := by rfl
theorem cp_5_11 : cp 5 11 = some (0, 5, 2, 0) := by rfl
theorem cp_5_15 : cp 5 15 = some (0, 5, 3, 0) := by rfl
theorem cp_5_18 : cp 5 18 = some (0, 5, 5, 0) := by rfl
theorem cp_5_21 : cp 5 21 = some (0, 5, 11, 0) := by rfl
theorem cp_5_25 : cp 5 25 = some (0, 5, 12, 0) := by rfl
theorem cp_5_28 : cp 5 28 = some (0, 5, 14, 0) := by rfl
theorem cp_5_31 : cp 5 31 = some (0, 5, 15, 0) := by rfl
theorem cp_5_35 : cp 5 35 = some (0, 5, 16, 0) := by rfl
theorem cp_5_38 : cp 5 38 = some (0, 5, 0, 0) := by rfl
theorem cp_5_42 : cp 5 42 = some (0, 5, 1, 0) := by rfl
theorem cp_5_46 : cp 5 46 = some (0, 5, 4, 0) := by rfl
theorem cp_5_50 : cp 5 50 = some (0, 5, 8, 0) := by rfl
theorem cp_5_53 : cp 5 53 = some (1, nX5_forgetShort, 0, 5) := by rfl
theorem cp_5_56 : cp 5 56 = some (1, nX5_longestNow, 0, 5) := by rfl
theorem cp_5_60 : cp 5 60 = some (0, 5, 7, 0) := by rfl
theorem cp_5_63 : cp 5 63 = some (0, 5, 6, 0) := by rfl
theorem cp_5_66 : cp 5 66 = some (1, nX5_firstLeaving, 3, 5) := by rfl
theorem cp_5_70 : cp 5 70 = some (0, 1, 4, 0) := by rfl
theorem cp_5_75 : cp 5 75 = some (3, nX11_pick, 2, 11) := by rfl
theorem cp_5_79 : cp 5 79 = some (0, 1, 0, 0) := by rfl
theorem cp_5_82 : cp 5 82 = some (1, nX1_follows, 2, 1) := by rfl
theorem cp_5_86 : cp 5 86 = some (1, nX5_fillFollowers, 0, 5) := by rfl
theorem cp_5_89 : cp 5 89 = some (3, nX11_bit, 2, 11) := by rfl
theorem cp_5_93 : cp 5 93 = some (1, nX5_longestBehind, 2, 5) := by rfl
theorem cp_5_96 : cp 5 96 = some (3, nX11_put, 3, 11) := by rfl
theorem cp_5_100 : cp 5 100 = some (1, nX5_canFollow, 3, 5) := by rfl
theorem cp_5_104 : cp 5 104 = some (1, nX5_longWith, 2, 5) := by rfl
theorem cp_5_107 : cp 5 107 = some (8, 0, 0, 0) := by rfl
theorem cp_5_112 : cp 5 112 = some (0, 5, 9, 0) := by rfl
theorem cp_5_115 : cp 5 115 = some (0, 5, 10, 0) := by rfl
theorem cp_5_118 : cp 5 118 = some (1, nX1_joins, 2, 1) := by rfl
theorem cp_5_121 : cp 5 121 = some (1, nX5_tryCollar, 2, 5) := by rfl
theorem cp_5_125 : cp 5 125 = some (1, nX1_join, 2, 1) := by rfl
theorem cp_5_128 : cp 5 128 = some (1, nX1_part, 2, 1) := by rfl
theorem cp_5_131 : cp 5 131 = some (0, 5, 13, 0) := by rfl
theorem cp_5_134 : cp 5 134 = some (2, nJ7_fill_d0a16, 2, 16) := by rfl
theorem cp_5_140 : cp 5 140 = some (0, 3, 7, 0) := by rfl
theorem cp_5_145 : cp 5 145 = some (1, nX5_searchShort, 6, 5) := by rfl
theorem cp_5_149 : cp 5 149 = some (1, nX1_reaches, 3, 1) := by rfl
theorem cp_5_152 : cp 5 152 = some (7, 0, 0, 0) := by rfl
theorem cp_5_158 : cp 5 158 = some (1, nX8_behindPiece, 5, 8) := by rfl
theorem cp_5_164 : cp 5 164 = some (1, nX5_isNew, 1, 5) := by rfl
theorem cp_5_168 : cp 5 168 = some (14, 76800, 0, 0) := by rfl
theorem cp_5_169 : cp 5 169 = some (2, nX5_leastOf, 1, 5) := by rfl
theorem cp_5_173 : cp 5 173 = some (1, nX5_areFit, 2, 5) := by rfl
theorem cp_6_3 : cp 6 3 = some (6, 0, 0, 0) := by rfl
theorem cp_6_11 : cp 6 11 = some (0, 6, 1, 0) := by rfl
theorem cp_6_15 : cp 6 15 = some (0, 6, 0, 0) := by rfl
theorem cp_6_19 : cp 6 19 = some (0, 3, 5, 0) := by rfl
theorem cp_6_25 : cp 6 25 = some (0, 6, 2, 0) := by rfl
theorem cp_6_28 : cp 6 28 = some (0, 6, 3, 0) := by rfl
theorem cp_6_31 : cp 6 31 = some (0, 6, 4, 0) := by rfl
theorem cp_6_34 : cp 6 34 = some (0, 6, 5, 0) := by rfl
theorem cp_6_37 : cp 6 37 = some (1, nX6_fillArrives, 1, 6) := by rfl
theorem cp_6_41 : cp 6 41 = some (1, nX6_canTake, 2, 6) := by rfl
theorem cp_6_45 : cp 6 45 = some (1, nX6_isRest, 3, 6) := by rfl
theorem cp_6_49 : cp 6 49 = some (1, nX6_noteRest, 2, 6) := by rfl
theorem cp_6_53 : cp 6 53 = some (1, nX6_bendMore, 2, 6) := by rfl
theorem cp_6_56 : cp 6 56 = some (0, 3, 7, 0) := by rfl
theorem cp_6_59 : cp 6 59 = some (1, nX8_arriving, 2, 8) := by rfl
theorem cp_6_65 : cp 6 65 = some (3, nX11_put, 3, 11) := by rfl
theorem cp_6_69 : cp 6 69 = some (0, 8, 3, 0) := by rfl
theorem cp_6_72 : cp 6 72 = some (3, nX11_pick, 2, 11) := by rfl
theorem cp_6_76 : cp 6 76 = some (0, 3, 1, 0) := by rfl
theorem cp_6_79 : cp 6 79 = some (0, 3, 0, 0) := by rfl
theorem cp_6_82 : cp 6 82 = some (1, nX6_streetHas, 2, 6) := by rfl
theorem cp_6_86 : cp 6 86 = some (1, nX6_houseHas, 2, 6) := by rfl
theorem cp_6_89 : cp 6 89 = some (1, nX6_paid, 1, 6) := by rfl
theorem cp_6_93 : cp 6 93 = some (1, nX6_asTold, 1, 6) := by rfl
theorem cp_6_96 : cp 6 96 = some (0, 6, 6, 0) := by rfl
theorem cp_7_3 : cp 7 3 = some (6, 0, 0, 0) := by rfl
theorem cp_7_11 : cp 7 11 = some (0, 7, 0, 0) := by rfl
theorem cp_7_15 : cp 7 15 = some (0, 7, 3, 0) := by rfl
theorem cp_7_19 : cp 7 19 = some (0, 7, 1, 0) := by rfl
theorem cp_7_22 : cp 7 22 = some (0, 7, 5, 0) := by rfl
theorem cp_7_25 : cp 7 25 = some (0, 7, 6, 0) := by rfl
theorem cp_7_28 : cp 7 28 = some (0, 7, 2, 0) := by rfl
theorem cp_7_31 : cp 7 31 = some (1, nX7_byteAt, 1, 7) := by rfl
theorem cp_7_35 : cp 7 35 = some (0, 7, 7, 0) := by rfl
theorem cp_7_38 : cp 7 38 = some (1, nX7_peek, 0, 7) := by rfl
theorem cp_7_42 : cp 7 42 = some (1, nX7_blame, 1, 7) := by rfl
theorem cp_7_46 : cp 7 46 = some (2, nX7_isDigit, 1, 7) := by rfl
theorem cp_7_49 : cp 7 49 = some (14, 100000, 0, 0) := by rfl
theorem cp_7_50 : cp 7 50 = some (9, 0, 0, 0) := by rfl
theorem cp_7_56 : cp 7 56 = some (0, 7, 4, 0) := by rfl
theorem cp_7_59 : cp 7 59 = some (3, nX11_within, 3, 11) := by rfl
theorem cp_7_63 : cp 7 63 = some (1, nX7_placeAmong, 1, 7) := by rfl
theorem cp_7_67 : cp 7 67 = some (10, nJ0_length_8abf5, 0, 14) := by rfl
theorem cp_7_72 : cp 7 72 = some (10, nJ0_charAt_5068e, 1, 14) := by rfl
theorem cp_8_3 : cp 8 3 = some (6, 0, 0, 0) := by rfl
theorem cp_8_9 : cp 8 9 = some (0, 8, 2, 0) := by rfl
theorem cp_8_15 : cp 8 15 = some (0, 8, 3, 0) := by rfl
theorem cp_8_18 : cp 8 18 = some (0, 8, 4, 0) := by rfl
theorem cp_8_21 : cp 8 21 = some (0, 8, 5, 0) := by rfl
theorem cp_8_25 : cp 8 25 = some (0, 8, 0, 0) := by rfl
theorem cp_8_29 : cp 8 29 = some (0, 8, 1, 0) := by rfl
theorem cp_8_33 : cp 8 33 = some (0, 3, 5, 0) := by rfl
theorem cp_8_38 : cp 8 38 = some (0, 3, 0, 0) := by rfl
theorem cp_8_41 : cp 8 41 = some (1, nX3_wayOf, 1, 3) := by rfl
theorem cp_8_45 : cp 8 45 = some (1, nX8_behindPiece, 5, 8) := by rfl
theorem cp_8_49 : cp 8 49 = some (0, 8, 6, 0) := by rfl
theorem cp_8_52 : cp 8 52 = some (8, 0, 0, 0) := by rfl
theorem cp_8_58 : cp 8 58 = some (0, 3, 1, 0) := by rfl
theorem cp_8_61 : cp 8 61 = some (3, nX11_pick, 2, 11) := by rfl
theorem cp_8_65 : cp 8 65 = some (0, 3, 2, 0) := by rfl
theorem cp_8_68 : cp 8 68 = some (0, 1, 5, 0) := by rfl
theorem cp_8_73 : cp 8 73 = some (0, 1, 4, 0) := by rfl
theorem cp_8_76 : cp 8 76 = some (1, nX2_tellPiece, 4, 2) := by rfl
theorem cp_8_82 : cp 8 82 = some (1, nX2_tellNow, 5, 2) := by rfl
theorem cp_8_86 : cp 8 86 = some (1, nX2_left, 0, 2) := by rfl
theorem cp_8_89 : cp 8 89 = some (0, 1, 2, 0) := by rfl
theorem cp_8_92 : cp 8 92 = some (0, 3, 7, 0) := by rfl
theorem cp_8_95 : cp 8 95 = some (1, nX8_arriving, 2, 8) := by rfl
theorem cp_8_99 : cp 8 99 = some (1, nX3_longNow, 1, 3) := by rfl
theorem cp_8_103 : cp 8 103 = some (1, nX1_reaches, 3, 1) := by rfl
theorem cp_8_107 : cp 8 107 = some (1, nX8_lostAt, 2, 8) := by rfl
theorem cp_8_110 : cp 8 110 = some (3, nX11_bit, 2, 11) := by rfl
theorem cp_8_113 : cp 8 113 = some (2, nJ7_fill_53178, 2, 16) := by rfl
theorem cp_9_5 : cp 9 5 = some (6, 0, 0, 0) := by rfl
theorem cp_9_11 : cp 9 11 = some (0, 9, 0, 0) := by rfl
theorem cp_9_15 : cp 9 15 = some (0, 9, 1, 0) := by rfl
theorem cp_9_18 : cp 9 18 = some (0, 9, 2, 0) := by rfl
theorem cp_9_21 : cp 9 21 = some (0, 9, 4, 0) := by rfl
theorem cp_9_24 : cp 9 24 = some (0, 9, 5, 0) := by rfl
theorem cp_9_27 : cp 9 27 = some (0, 9, 3, 0) := by rfl
theorem cp_9_31 : cp 9 31 = some (0, 9, 6, 0) := by rfl
theorem cp_9_34 : cp 9 34 = some (1, nX7_peek, 0, 7) := by rfl
theorem cp_9_40 : cp 9 40 = some (1, nX9_readClose, 1, 9) := by rfl
theorem cp_9_44 : cp 9 44 = some (1, nX9_readStep, 2, 9) := by rfl
theorem cp_9_48 : cp 9 48 = some (3, nX11_pick, 2, 11) := by rfl
theorem cp_9_52 : cp 9 52 = some (3, nX11_put, 3, 11) := by rfl
theorem cp_9_56 : cp 9 56 = some (1, nX9_add, 3, 9) := by rfl
theorem cp_9_60 : cp 9 60 = some (1, nX7_sign, 1, 7) := by rfl
theorem cp_9_64 : cp 9 64 = some (15, 2, 0, 0) := by rfl
theorem cp_9_66 : cp 9 66 = some (1, nX7_named, 1, 7) := by rfl
theorem cp_9_70 : cp 9 70 = some (1, nX9_readAgain, 1, 9) := by rfl
theorem cp_9_73 : cp 9 73 = some (1, nX7_numeral, 2, 7) := by rfl
theorem cp_9_77 : cp 9 77 = some (0, 7, 4, 0) := by rfl
theorem cp_9_80 : cp 9 80 = some (1, nX7_tooMany, 0, 7) := by rfl
theorem cp_9_84 : cp 9 84 = some (9, 0, 0, 0) := by rfl
theorem cp_9_90 : cp 9 90 = some (0, 9, 7, 0) := by rfl
theorem cp_9_93 : cp 9 93 = some (1, nX9_behindClose, 1, 9) := by rfl
theorem cp_9_97 : cp 9 97 = some (1, nX9_behindAgain, 1, 9) := by rfl
theorem cp_9_100 : cp 9 100 = some (1, nX9_isDone, 4, 9) := by rfl
theorem cp_9_104 : cp 9 104 = some (1, nX3_turnRound, 1, 3) := by rfl
theorem cp_9_110 : cp 9 110 = some (1, nX3_layDown, 2, 3) := by rfl
theorem cp_9_114 : cp 9 114 = some (1, nX3_liftLast, 0, 3) := by rfl
theorem cp_9_117 : cp 9 117 = some (1, nX3_bendTo, 2, 3) := by rfl
theorem cp_9_120 : cp 9 120 = some (1, nX3_burstOnce, 1, 3) := by rfl
theorem cp_9_123 : cp 9 123 = some (1, nX3_patchOnce, 1, 3) := by rfl
theorem cp_9_126 : cp 9 126 = some (1, nX3_hopeFor, 1, 3) := by rfl
theorem cp_9_129 : cp 9 129 = some (0, 3, 6, 0) := by rfl
theorem cp_9_132 : cp 9 132 = some (1, nX8_reachedBits, 1, 8) := by rfl
theorem cp_9_138 : cp 9 138 = some (1, nX3_passHour, 1, 3) := by rfl
theorem cp_10_1 : cp 10 1 = some (6, 0, 0, 0) := by rfl
theorem cp_10_7 : cp 10 7 = some (12, 3, 8, 0) := by rfl
theorem cp_10_9 : cp 10 9 = some (4, nX3_init, 0, 3) := by rfl
theorem cp_10_10 : cp 10 10 = some (0, 10, 2, 0) := by rfl
theorem cp_10_16 : cp 10 16 = some (0, 10, 0, 0) := by rfl
theorem cp_10_20 : cp 10 20 = some (0, 10, 1, 0) := by rfl
theorem cp_10_24 : cp 10 24 = some (1, nX3_become, 1, 3) := by rfl
theorem cp_10_28 : cp 10 28 = some (1, nX8_reachedBits, 1, 8) := by rfl
theorem cp_10_34 : cp 10 34 = some (1, nX3_passHour, 1, 3) := by rfl
theorem cp_10_38 : cp 10 38 = some (1, nX3_outBits, 0, 3) := by rfl
theorem cp_10_42 : cp 10 42 = some (0, 10, 4, 0) := by rfl
theorem cp_10_46 : cp 10 46 = some (0, 10, 3, 0) := by rfl
theorem cp_10_49 : cp 10 49 = some (0, 1, 0, 0) := by rfl
theorem cp_10_54 : cp 10 54 = some (1, nX10_doDrawn, 1, 10) := by rfl
theorem cp_10_58 : cp 10 58 = some (1, nX10_drawn, 1, 10) := by rfl
theorem cp_10_61 : cp 10 61 = some (1, nX3_layDown, 2, 3) := by rfl
theorem cp_10_65 : cp 10 65 = some (1, nX3_turnRound, 1, 3) := by rfl
theorem cp_10_69 : cp 10 69 = some (1, nX3_burstOnce, 1, 3) := by rfl
theorem cp_10_72 : cp 10 72 = some (1, nX3_patchOnce, 1, 3) := by rfl
theorem cp_10_75 : cp 10 75 = some (1, nX3_liftLast, 0, 3) := by rfl
theorem cp_10_79 : cp 10 79 = some (14, 1103515245, 0, 0) := by rfl
theorem cp_11_1 : cp 11 1 = some (6, 0, 0, 0) := by rfl
theorem cp_11_7 : cp 11 7 = some (12, 7, 8, 0) := by rfl
theorem cp_11_9 : cp 11 9 = some (4, nX7_init, 0, 7) := by rfl
theorem cp_11_10 : cp 11 10 = some (0, 11, 0, 0) := by rfl
theorem cp_11_16 : cp 11 16 = some (12, 1, 13, 0) := by rfl
theorem cp_11_18 : cp 11 18 = some (5, nX1_init, 0, 1) := by rfl
theorem cp_11_19 : cp 11 19 = some (0, 11, 1, 0) := by rfl
theorem cp_11_23 : cp 11 23 = some (0, 11, 2, 0) := by rfl
theorem cp_11_26 : cp 11 26 = some (12, 2, 4, 0) := by rfl
theorem cp_11_28 : cp 11 28 = some (5, nX2_init, 0, 2) := by rfl
theorem cp_11_29 : cp 11 29 = some (0, 11, 3, 0) := by rfl
theorem cp_11_33 : cp 11 33 = some (0, 11, 4, 0) := by rfl
theorem cp_11_36 : cp 11 36 = some (12, 0, 7, 0) := by rfl
theorem cp_11_38 : cp 11 38 = some (5, nX0_init, 0, 0) := by rfl
theorem cp_11_39 : cp 11 39 = some (0, 11, 5, 0) := by rfl
theorem cp_11_43 : cp 11 43 = some (0, 11, 6, 0) := by rfl
theorem cp_11_46 : cp 11 46 = some (12, 9, 8, 0) := by rfl
theorem cp_11_48 : cp 11 48 = some (4, nX9_init, 0, 9) := by rfl
theorem cp_11_49 : cp 11 49 = some (0, 11, 7, 0) := by rfl
theorem cp_11_53 : cp 11 53 = some (12, 3, 8, 0) := by rfl
theorem cp_11_55 : cp 11 55 = some (4, nX3_init, 0, 3) := by rfl
theorem cp_11_56 : cp 11 56 = some (0, 11, 8, 0) := by rfl
theorem cp_11_60 : cp 11 60 = some (12, 4, 5, 0) := by rfl
theorem cp_11_62 : cp 11 62 = some (4, nX4_init, 0, 4) := by rfl
theorem cp_11_63 : cp 11 63 = some (0, 11, 9, 0) := by rfl
theorem cp_11_67 : cp 11 67 = some (12, 8, 7, 0) := by rfl
theorem cp_11_69 : cp 11 69 = some (5, nX8_init, 2, 8) := by rfl
theorem cp_11_72 : cp 11 72 = some (0, 11, 10, 0) := by rfl
theorem cp_11_76 : cp 11 76 = some (12, 5, 17, 0) := by rfl
theorem cp_11_78 : cp 11 78 = some (5, nX5_init, 2, 5) := by rfl
theorem cp_11_81 : cp 11 81 = some (0, 11, 11, 0) := by rfl
theorem cp_11_85 : cp 11 85 = some (12, 6, 7, 0) := by rfl
theorem cp_11_87 : cp 11 87 = some (5, nX6_init, 1, 6) := by rfl
theorem cp_11_90 : cp 11 90 = some (0, 11, 12, 0) := by rfl
theorem cp_11_94 : cp 11 94 = some (12, 10, 5, 0) := by rfl
theorem cp_11_96 : cp 11 96 = some (5, nX10_init, 2, 10) := by rfl
theorem cp_11_97 : cp 11 97 = some (0, 11, 13, 0) := by rfl
theorem cp_11_101 : cp 11 101 = some (0, 1, 3, 0) := by rfl
theorem cp_11_105 : cp 11 105 = some (1, nX3_begin, 1, 3) := by rfl
theorem cp_11_109 : cp 11 109 = some (1, nX7_hasRoom, 0, 7) := by rfl
theorem cp_11_113 : cp 11 113 = some (1, nX7_append, 1, 7) := by rfl
theorem cp_11_116 : cp 11 116 = some (0, 7, 1, 0) := by rfl
theorem cp_11_119 : cp 11 119 = some (1, nX11_open, 2, 11) := by rfl
theorem cp_11_123 : cp 11 123 = some (1, nX1_readFrom, 1, 1) := by rfl
theorem cp_11_127 : cp 11 127 = some (0, 7, 2, 0) := by rfl
theorem cp_11_130 : cp 11 130 = some (1, nX1_become, 1, 1) := by rfl
theorem cp_11_134 : cp 11 134 = some (1, nX2_beUntold, 0, 2) := by rfl
theorem cp_11_137 : cp 11 137 = some (1, nX0_clear, 0, 0) := by rfl
theorem cp_11_140 : cp 11 140 = some (1, nX4_forget, 0, 4) := by rfl
theorem cp_11_143 : cp 11 143 = some (0, 9, 7, 0) := by rfl
theorem cp_11_146 : cp 11 146 = some (1, nX5_forgetHouse, 0, 5) := by rfl
theorem cp_11_149 : cp 11 149 = some (0, 1, 0, 0) := by rfl
theorem cp_11_152 : cp 11 152 = some (1, nX2_readFrom, 1, 2) := by rfl
theorem cp_11_153 : cp 11 153 = some (1, nX2_become, 1, 2) := by rfl
theorem cp_11_156 : cp 11 156 = some (1, nX5_forgetShort, 0, 5) := by rfl
theorem cp_11_159 : cp 11 159 = some (1, nX4_isFull, 0, 4) := by rfl
theorem cp_11_162 : cp 11 162 = some (1, nX9_readFrom, 2, 9) := by rfl
theorem cp_11_165 : cp 11 165 = some (1, nX4_push, 1, 4) := by rfl
theorem cp_11_169 : cp 11 169 = some (1, nX9_doneOn, 3, 9) := by rfl
theorem cp_11_173 : cp 11 173 = some (1, nX0_readFrom, 1, 0) := by rfl
theorem cp_11_174 : cp 11 174 = some (1, nX0_become, 1, 0) := by rfl
theorem cp_11_177 : cp 11 177 = some (0, 0, 0, 0) := by rfl
theorem cp_11_180 : cp 11 180 = some (0, 7, 3, 0) := by rfl
theorem cp_11_183 : cp 11 183 = some (0, 4, 3, 0) := by rfl
theorem cp_11_186 : cp 11 186 = some (1, nX4_pop, 1, 4) := by rfl
theorem cp_11_189 : cp 11 189 = some (2, nX11_within, 3, 11) := by rfl
theorem cp_11_193 : cp 11 193 = some (1, nX11_expect, 1, 11) := by rfl
theorem cp_11_197 : cp 11 197 = some (0, 1, 1, 0) := by rfl
theorem cp_11_200 : cp 11 200 = some (0, 1, 2, 0) := by rfl
theorem cp_11_203 : cp 11 203 = some (0, 3, 6, 0) := by rfl
theorem cp_11_206 : cp 11 206 = some (0, 3, 5, 0) := by rfl
theorem cp_11_209 : cp 11 209 = some (1, nX3_rowBits, 0, 3) := by rfl
theorem cp_11_213 : cp 11 213 = some (1, nX3_longNow, 1, 3) := by rfl
theorem cp_11_217 : cp 11 217 = some (0, 3, 7, 0) := by rfl
theorem cp_11_218 : cp 11 218 = some (1, nX8_arriving, 2, 8) := by rfl
theorem cp_11_222 : cp 11 222 = some (1, nX3_outBits, 0, 3) := by rfl
theorem cp_11_225 : cp 11 225 = some (1, nX11_expectPiece, 1, 11) := by rfl
theorem cp_11_228 : cp 11 228 = some (0, 1, 4, 0) := by rfl
theorem cp_11_232 : cp 11 232 = some (2, nX11_pick, 2, 11) := by rfl
theorem cp_11_236 : cp 11 236 = some (1, nX3_wayOf, 1, 3) := by rfl
theorem cp_11_240 : cp 11 240 = some (1, nX1_headOf, 1, 1) := by rfl
theorem cp_11_243 : cp 11 243 = some (1, nX1_footOf, 1, 1) := by rfl
theorem cp_11_246 : cp 11 246 = some (0, 1, 5, 0) := by rfl
theorem cp_11_249 : cp 11 249 = some (0, 3, 1, 0) := by rfl
theorem cp_11_252 : cp 11 252 = some (0, 3, 2, 0) := by rfl
theorem cp_11_255 : cp 11 255 = some (0, 3, 4, 0) := by rfl
theorem cp_11_258 : cp 11 258 = some (2, nX11_bit, 2, 11) := by rfl
theorem cp_11_262 : cp 11 262 = some (1, nX3_placeOf, 1, 3) := by rfl
theorem cp_11_265 : cp 11 265 = some (1, nX11_expectThere, 1, 11) := by rfl
theorem cp_11_268 : cp 11 268 = some (0, 1, 8, 0) := by rfl
theorem cp_11_271 : cp 11 271 = some (0, 1, 9, 0) := by rfl
theorem cp_11_274 : cp 11 274 = some (1, nX11_expectFire, 1, 11) := by rfl
theorem cp_11_277 : cp 11 277 = some (0, 1, 10, 0) := by rfl
theorem cp_11_280 : cp 11 280 = some (0, 1, 11, 0) := by rfl
theorem cp_11_283 : cp 11 283 = some (1, nX8_reachedBits, 1, 8) := by rfl
theorem cp_11_287 : cp 11 287 = some (0, 3, 3, 0) := by rfl
theorem cp_11_290 : cp 11 290 = some (0, 3, 0, 0) := by rfl
theorem cp_11_293 : cp 11 293 = some (0, 8, 2, 0) := by rfl
theorem cp_11_296 : cp 11 296 = some (1, nX2_tellPiece, 4, 2) := by rfl
theorem cp_11_300 : cp 11 300 = some (1, nX2_tellNow, 5, 2) := by rfl
theorem cp_11_304 : cp 11 304 = some (1, nX2_left, 0, 2) := by rfl
theorem cp_11_306 : cp 11 306 = some (1, nX11_expectThread, 1, 11) := by rfl
theorem cp_11_309 : cp 11 309 = some (1, nX1_joins, 2, 1) := by rfl
theorem cp_11_313 : cp 11 313 = some (1, nX3_canLay, 2, 3) := by rfl
theorem cp_11_317 : cp 11 317 = some (1, nX10_outAfter, 2, 10) := by rfl
theorem cp_11_320 : cp 11 320 = some (1, nX5_findChain, 0, 5) := by rfl
theorem cp_11_323 : cp 11 323 = some (0, 5, 7, 0) := by rfl
theorem cp_11_326 : cp 11 326 = some (0, 5, 6, 0) := by rfl
theorem cp_11_329 : cp 11 329 = some (0, 5, 5, 0) := by rfl
theorem cp_11_332 : cp 11 332 = some (1, nX5_findShort, 2, 5) := by rfl
theorem cp_11_336 : cp 11 336 = some (0, 5, 13, 0) := by rfl
theorem cp_11_339 : cp 11 339 = some (0, 5, 12, 0) := by rfl
theorem cp_11_342 : cp 11 342 = some (1, nX5_findCollar, 0, 5) := by rfl
theorem cp_11_345 : cp 11 345 = some (0, 5, 9, 0) := by rfl
theorem cp_11_348 : cp 11 348 = some (0, 5, 10, 0) := by rfl
theorem cp_11_351 : cp 11 351 = some (1, nX0_findLeaks, 2, 0) := by rfl
theorem cp_11_355 : cp 11 355 = some (0, 0, 3, 0) := by rfl
theorem cp_11_358 : cp 11 358 = some (0, 0, 4, 0) := by rfl
theorem cp_11_361 : cp 11 361 = some (1, nX0_findLook, 2, 0) := by rfl
theorem cp_11_364 : cp 11 364 = some (0, 0, 5, 0) := by rfl
theorem cp_11_367 : cp 11 367 = some (0, 0, 6, 0) := by rfl
theorem cp_11_370 : cp 11 370 = some (1, nX5_mostPairs, 0, 5) := by rfl
theorem cp_11_373 : cp 11 373 = some (1, nX8_chanceOf, 3, 8) := by rfl
theorem cp_11_377 : cp 11 377 = some (1, nX6_findRests, 2, 6) := by rfl
theorem cp_11_380 : cp 11 380 = some (0, 6, 4, 0) := by rfl
theorem cp_11_383 : cp 11 383 = some (0, 6, 5, 0) := by rfl
theorem cp_11_386 : cp 11 386 = some (0, 6, 6, 0) := by rfl
theorem cp_11_389 : cp 11 389 = some (1, nX1_level, 2, 1) := by rfl
theorem cp_11_392 : cp 11 392 = some (9, 0, 0, 0) := by rfl
theorem cp_11_397 : cp 11 397 = some (1, nX8_worstPlace, 1, 8) := by rfl
theorem cp_11_400 : cp 11 400 = some (1, nX8_lostAt, 2, 8) := by rfl
theorem cp_11_403 : cp 11 403 = some (0, 1, 12, 0) := by rfl
theorem cp_11_406 : cp 11 406 = some (1, nX10_live, 4, 10) := by rfl
theorem cp_11_410 : cp 11 410 = some (0, 10, 3, 0) := by rfl
theorem cp_11_413 : cp 11 413 = some (0, 10, 2, 0) := by rfl
theorem cp_11_416 : cp 11 416 = some (1, nX3_allBursts, 0, 3) := by rfl
theorem cp_11_419 : cp 11 419 = some (8, 0, 0, 0) := by rfl
theorem cp_11_422 : cp 11 422 = some (1, nX4_canKeep, 0, 4) := by rfl
theorem cp_11_425 : cp 11 425 = some (1, nX4_keep, 1, 4) := by rfl
theorem cp_11_428 : cp 11 428 = some (0, 4, 4, 0) := by rfl
theorem cp_11_431 : cp 11 431 = some (1, nX4_bringBack, 1, 4) := by rfl
theorem cp_11_434 : cp 11 434 = some (0, 11, 14, 0) := by rfl
theorem cp_11_437 : cp 11 437 = some (0, 11, 15, 0) := by rfl
theorem cp_11_440 : cp 11 440 = some (1, nX7_begin, 1, 7) := by rfl
theorem cp_11_441 : cp 11 441 = some (13, 1, 0, 0) := by rfl
theorem cp_11_448 : cp 11 448 = some (13, 0, 0, 0) := by rfl
theorem cp_12_1 : cp 12 1 = some (6, 0, 0, 0) := by rfl
theorem cp_12_9 : cp 12 9 = some (0, 12, 3, 0) := by rfl
theorem cp_12_13 : cp 12 13 = some (0, 12, 9, 0) := by rfl
theorem cp_12_17 : cp 12 17 = some (0, 12, 10, 0) := by rfl
theorem cp_12_20 : cp 12 20 = some (0, 12, 11, 0) := by rfl
theorem cp_12_23 : cp 12 23 = some (0, 12, 12, 0) := by rfl
theorem cp_12_26 : cp 12 26 = some (17, 0, 0, 0) := by rfl
theorem cp_12_28 : cp 12 28 = some (0, 12, 13, 0) := by rfl
theorem cp_12_31 : cp 12 31 = some (0, 12, 14, 0) := by rfl
theorem cp_12_34 : cp 12 34 = some (0, 12, 15, 0) := by rfl
theorem cp_12_37 : cp 12 37 = some (0, 12, 16, 0) := by rfl
theorem cp_12_40 : cp 12 40 = some (0, 12, 17, 0) := by rfl
theorem cp_12_43 : cp 12 43 = some (0, 12, 18, 0) := by rfl
theorem cp_12_46 : cp 12 46 = some (0, 12, 21, 0) := by rfl
theorem cp_12_49 : cp 12 49 = some (0, 12, 22, 0) := by rfl
theorem cp_12_52 : cp 12 52 = some (0, 12, 23, 0) := by rfl
theorem cp_12_55 : cp 12 55 = some (0, 12, 24, 0) := by rfl
theorem cp_12_58 : cp 12 58 = some (0, 12, 25, 0) := by rfl
theorem cp_12_61 : cp 12 61 = some (0, 12, 26, 0) := by rfl
theorem cp_12_64 : cp 12 64 = some (0, 12, 27, 0) := by rfl
theorem cp_12_67 : cp 12 67 = some (0, 12, 29, 0) := by rfl
theorem cp_12_70 : cp 12 70 = some (0, 12, 30, 0) := by rfl
theorem cp_12_73 : cp 12 73 = some (0, 12, 31, 0) := by rfl
theorem cp_12_76 : cp 12 76 = some (0, 12, 32, 0) := by rfl
theorem cp_12_79 : cp 12 79 = some (0, 12, 33, 0) := by rfl
theorem cp_12_82 : cp 12 82 = some (0, 12, 43, 0) := by rfl
theorem cp_12_85 : cp 12 85 = some (0, 12, 44, 0) := by rfl
theorem cp_12_88 : cp 12 88 = some (0, 12, 47, 0) := by rfl
theorem cp_12_91 : cp 12 91 = some (0, 12, 48, 0) := by rfl
theorem cp_12_94 : cp 12 94 = some (0, 12, 49, 0) := by rfl
theorem cp_12_97 : cp 12 97 = some (1, nX12_tellsNothing, 0, 12) := by rfl
theorem cp_12_100 : cp 12 100 = some (1, nX12_beginsAnew, 0, 12) := by rfl
theorem cp_12_103 : cp 12 103 = some (0, 12, 0, 0) := by rfl
theorem cp_12_106 : cp 12 106 = some (0, 12, 1, 0) := by rfl
theorem cp_12_109 : cp 12 109 = some (0, 12, 2, 0) := by rfl
theorem cp_12_112 : cp 12 112 = some (0, 12, 4, 0) := by rfl
theorem cp_12_115 : cp 12 115 = some (1, nX12_byteAt, 1, 12) := by rfl
theorem cp_12_119 : cp 12 119 = some (0, 12, 5, 0) := by rfl
theorem cp_12_122 : cp 12 122 = some (0, 12, 6, 0) := by rfl
theorem cp_12_125 : cp 12 125 = some (1, nX12_blanks, 0, 12) := by rfl
theorem cp_12_128 : cp 12 128 = some (2, nX12_isDigit, 1, 12) := by rfl
theorem cp_12_132 : cp 12 132 = some (1, nX12_wrong, 2, 12) := by rfl
theorem cp_12_136 : cp 12 136 = some (14, 100000, 0, 0) := by rfl
theorem cp_12_137 : cp 12 137 = some (2, nX12_in, 3, 12) := by rfl
theorem cp_12_141 : cp 12 141 = some (2, nX12_isSmall, 1, 12) := by rfl
theorem cp_12_144 : cp 12 144 = some (1, nX12_wordHere, 0, 12) := by rfl
theorem cp_12_148 : cp 12 148 = some (2, nX12_six, 6, 12) := by rfl
theorem cp_12_152 : cp 12 152 = some (1, nX12_isWord, 6, 12) := by rfl
theorem cp_12_156 : cp 12 156 = some (1, nX12_skipWord, 0, 12) := by rfl
theorem cp_12_159 : cp 12 159 = some (0, 12, 7, 0) := by rfl
theorem cp_12_162 : cp 12 162 = some (0, 12, 8, 0) := by rfl
theorem cp_12_165 : cp 12 165 = some (1, nX12_number, 2, 12) := by rfl
theorem cp_12_169 : cp 12 169 = some (1, nX12_kindHere, 0, 12) := by rfl
theorem cp_12_172 : cp 12 172 = some (2, nX12_mostOf, 1, 12) := by rfl
theorem cp_12_175 : cp 12 175 = some (1, nX12_readThread, 0, 12) := by rfl
theorem cp_12_178 : cp 12 178 = some (1, nX12_sign, 1, 12) := by rfl
theorem cp_12_182 : cp 12 182 = some (1, nX12_bad, 3, 12) := by rfl
theorem cp_12_186 : cp 12 186 = some (1, nX12_starts, 1, 12) := by rfl
theorem cp_12_189 : cp 12 189 = some (1, nX12_clause, 0, 12) := by rfl
theorem cp_12_192 : cp 12 192 = some (1, nX12_ends, 0, 12) := by rfl
theorem cp_12_195 : cp 12 195 = some (2, nX12_lays, 3, 12) := by rfl
theorem cp_12_199 : cp 12 199 = some (0, 12, 39, 0) := by rfl
theorem cp_12_202 : cp 12 202 = some (0, 12, 19, 0) := by rfl
theorem cp_12_205 : cp 12 205 = some (0, 12, 34, 0) := by rfl
theorem cp_12_208 : cp 12 208 = some (0, 12, 35, 0) := by rfl
theorem cp_12_211 : cp 12 211 = some (0, 12, 36, 0) := by rfl
theorem cp_12_214 : cp 12 214 = some (0, 12, 37, 0) := by rfl
theorem cp_12_217 : cp 12 217 = some (0, 12, 20, 0) := by rfl
theorem cp_12_220 : cp 12 220 = some (1, nX12_product, 0, 12) := by rfl
theorem cp_12_223 : cp 12 223 = some (1, nX12_takesSign, 1, 12) := by rfl
theorem cp_12_226 : cp 12 226 = some (1, nX12_notes, 2, 12) := by rfl
theorem cp_12_229 : cp 12 229 = some (1, nX12_one, 0, 12) := by rfl
theorem cp_12_232 : cp 12 232 = some (1, nX12_takes, 6, 12) := by rfl
theorem cp_12_235 : cp 12 235 = some (1, nX12_opensOne, 0, 12) := by rfl
theorem cp_12_239 : cp 12 239 = some (1, nX12_sum, 0, 12) := by rfl
theorem cp_12_242 : cp 12 242 = some (1, nX12_knownHere, 0, 12) := by rfl
theorem cp_12_245 : cp 12 245 = some (2, nX12_less, 2, 12) := by rfl
theorem cp_12_248 : cp 12 248 = some (2, nX12_more, 2, 12) := by rfl
theorem cp_12_251 : cp 12 251 = some (2, nX12_by, 3, 12) := by rfl
theorem cp_12_255 : cp 12 255 = some (1, nX12_stepHere, 0, 12) := by rfl
theorem cp_12_258 : cp 12 258 = some (0, 12, 28, 0) := by rfl
theorem cp_12_261 : cp 12 261 = some (1, nX12_readsStep, 0, 12) := by rfl
theorem cp_12_264 : cp 12 264 = some (2, nX12_manyIn, 1, 12) := by rfl
theorem cp_12_268 : cp 12 268 = some (2, nX12_placeOf, 2, 12) := by rfl
theorem cp_12_272 : cp 12 272 = some (1, nX12_footOf, 2, 12) := by rfl
theorem cp_12_275 : cp 12 275 = some (1, nX12_headOf, 2, 12) := by rfl
theorem cp_12_278 : cp 12 278 = some (1, nX12_isJoined, 2, 12) := by rfl
theorem cp_12_282 : cp 12 282 = some (1, nX12_byLaw, 0, 12) := by rfl
theorem cp_12_285 : cp 12 285 = some (1, nX12_leftBy, 9, 12) := by rfl
theorem cp_12_289 : cp 12 289 = some (1, nX12_leftOf, 5, 12) := by rfl
theorem cp_12_293 : cp 12 293 = some (1, nX12_runs, 3, 12) := by rfl
theorem cp_12_297 : cp 12 297 = some (1, nX12_longOf, 1, 12) := by rfl
theorem cp_12_300 : cp 12 300 = some (1, nX12_arrives, 1, 12) := by rfl
theorem cp_12_303 : cp 12 303 = some (1, nX12_isReached, 2, 12) := by rfl
theorem cp_12_307 : cp 12 307 = some (0, 12, 40, 0) := by rfl
theorem cp_12_310 : cp 12 310 = some (1, nX12_canLay, 3, 12) := by rfl
theorem cp_12_314 : cp 12 314 = some (1, nX12_turns, 2, 12) := by rfl
theorem cp_12_317 : cp 12 317 = some (1, nX12_laysOne, 2, 12) := by rfl
theorem cp_12_320 : cp 12 320 = some (2, nX12_lifts, 1, 12) := by rfl
theorem cp_12_324 : cp 12 324 = some (2, nX12_becomes, 3, 12) := by rfl
theorem cp_12_327 : cp 12 327 = some (2, nX12_bursts, 3, 12) := by rfl
theorem cp_12_330 : cp 12 330 = some (1, nX12_hourEnds, 1, 12) := by rfl
theorem cp_12_334 : cp 12 334 = some (0, 12, 41, 0) := by rfl
theorem cp_12_337 : cp 12 337 = some (1, nX12_goes, 2, 12) := by rfl
theorem cp_12_340 : cp 12 340 = some (1, nX12_does, 2, 12) := by rfl
theorem cp_12_344 : cp 12 344 = some (0, 12, 42, 0) := by rfl
theorem cp_12_347 : cp 12 347 = some (2, nX12_copies, 2, 12) := by rfl
theorem cp_12_351 : cp 12 351 = some (1, nX12_liesIn, 1, 12) := by rfl
theorem cp_12_354 : cp 12 354 = some (1, nX12_outIn, 1, 12) := by rfl
theorem cp_12_357 : cp 12 357 = some (1, nX12_isPiece, 1, 12) := by rfl
theorem cp_12_360 : cp 12 360 = some (1, nX12_isFire, 1, 12) := by rfl
theorem cp_12_363 : cp 12 363 = some (2, nX12_isThread, 1, 12) := by rfl
theorem cp_12_366 : cp 12 366 = some (2, nX12_has, 2, 12) := by rfl
theorem cp_12_369 : cp 12 369 = some (1, nX12_isNext, 2, 12) := by rfl
theorem cp_12_372 : cp 12 372 = some (1, nX12_laysLongest, 0, 12) := by rfl
theorem cp_12_375 : cp 12 375 = some (0, 12, 45, 0) := by rfl
theorem cp_12_378 : cp 12 378 = some (0, 12, 46, 0) := by rfl
theorem cp_12_381 : cp 12 381 = some (1, nX12_chains, 0, 12) := by rfl
theorem cp_12_384 : cp 12 384 = some (1, nX12_isBrief, 7, 12) := by rfl
theorem cp_12_388 : cp 12 388 = some (1, nX12_briefs, 1, 12) := by rfl
theorem cp_12_391 : cp 12 391 = some (1, nX12_isLeak, 2, 12) := by rfl
theorem cp_12_394 : cp 12 394 = some (1, nX12_isTold, 1, 12) := by rfl
theorem cp_12_397 : cp 12 397 = some (1, nX12_weds, 1, 12) := by rfl
theorem cp_12_400 : cp 12 400 = some (2, nX12_partOf, 3, 12) := by rfl
theorem cp_12_404 : cp 12 404 = some (1, nX12_comes, 2, 12) := by rfl
theorem cp_12_407 : cp 12 407 = some (1, nX12_isChoice, 2, 12) := by rfl
theorem cp_12_411 : cp 12 411 = some (1, nX12_streetHas, 4, 12) := by rfl
theorem cp_12_415 : cp 12 415 = some (1, nX12_houseHas, 3, 12) := by rfl
theorem cp_12_418 : cp 12 418 = some (1, nX12_isRest, 4, 12) := by rfl
theorem cp_12_422 : cp 12 422 = some (1, nX12_givenBy, 2, 12) := by rfl
theorem cp_12_425 : cp 12 425 = some (0, 12, 50, 0) := by rfl
theorem cp_12_428 : cp 12 428 = some (14, 1103515245, 0, 0) := by rfl
theorem cp_12_429 : cp 12 429 = some (1, nX12_draw, 1, 12) := by rfl
theorem cp_12_432 : cp 12 432 = some (1, nX12_acts, 3, 12) := by rfl
theorem cp_12_436 : cp 12 436 = some (2, nX12_isYear, 2, 12) := by rfl
theorem cp_12_439 : cp 12 439 = some (1, nX12_yearBy, 3, 12) := by rfl
theorem cp_12_443 : cp 12 443 = some (0, 12, 38, 0) := by rfl
theorem cp_12_446 : cp 12 446 = some (1, nX12_puts, 3, 12) := by rfl
theorem cp_12_450 : cp 12 450 = some (1, nX12_putsAll, 2, 12) := by rfl
theorem cp_13_7 : cp 13 7 = some (1, nX11_house, 1, 11) := by rfl
theorem cp_13_8 : cp 13 8 = some (12, 11, 16, 0) := by rfl
theorem cp_13_13 : cp 13 13 = some (18, 1, 0, 0) := by rfl
theorem cp_13_15 : cp 13 15 = some (1, nX11_law, 1, 11) := by rfl
theorem cp_13_18 : cp 13 18 = some (1, nX11_work, 1, 11) := by rfl
theorem cp_13_21 : cp 13 21 = some (1, nX11_book, 1, 11) := by rfl
theorem cp_13_24 : cp 13 24 = some (1, nX11_told, 1, 11) := by rfl
theorem cp_13_27 : cp 13 27 = some (1, nX11_piece, 2, 11) := by rfl
theorem cp_13_31 : cp 13 31 = some (18, 0, 0, 0) := by rfl
theorem cp_13_33 : cp 13 33 = some (1, nX11_collar, 2, 11) := by rfl
theorem cp_13_36 : cp 13 36 = some (1, nX11_fire, 2, 11) := by rfl
theorem cp_13_39 : cp 13 39 = some (1, nX11_row, 1, 11) := by rfl
theorem cp_13_42 : cp 13 42 = some (1, nX11_behind, 1, 11) := by rfl
theorem cp_13_45 : cp 13 45 = some (1, nX11_would, 9, 11) := by rfl
theorem cp_13_49 : cp 13 49 = some (1, nX11_fits, 2, 11) := by rfl
theorem cp_13_53 : cp 13 53 = some (1, nX11_can, 1, 11) := by rfl
theorem cp_13_57 : cp 13 57 = some (1, nX11_ahead, 1, 11) := by rfl
theorem cp_13_60 : cp 13 60 = some (1, nX11_chain, 1, 11) := by rfl
theorem cp_13_63 : cp 13 63 = some (1, nX11_chained, 1, 11) := by rfl
theorem cp_13_66 : cp 13 66 = some (1, nX11_brief, 1, 11) := by rfl
theorem cp_13_69 : cp 13 69 = some (1, nX11_briefly, 2, 11) := by rfl
theorem cp_13_72 : cp 13 72 = some (1, nX11_joiner, 1, 11) := by rfl
theorem cp_13_75 : cp 13 75 = some (1, nX11_leaks, 1, 11) := by rfl
theorem cp_13_78 : cp 13 78 = some (1, nX11_look, 1, 11) := by rfl
theorem cp_13_81 : cp 13 81 = some (1, nX11_sure, 3, 11) := by rfl
theorem cp_13_85 : cp 13 85 = some (1, nX11_street, 3, 11) := by rfl
theorem cp_13_89 : cp 13 89 = some (1, nX11_share, 3, 11) := by rfl
theorem cp_13_92 : cp 13 92 = some (1, nX11_next, 1, 11) := by rfl
theorem cp_13_95 : cp 13 95 = some (1, nX11_worst, 1, 11) := by rfl
theorem cp_13_98 : cp 13 98 = some (1, nX11_needed, 1, 11) := by rfl
theorem cp_13_101 : cp 13 101 = some (1, nX11_kin, 1, 11) := by rfl
theorem cp_13_104 : cp 13 104 = some (1, nX11_year, 4, 11) := by rfl
theorem cp_13_108 : cp 13 108 = some (1, nX11_span, 6, 11) := by rfl
theorem cp_13_112 : cp 13 112 = some (5, nX11_init, 0, 11) := by rfl
theorem cp_13_113 : cp 13 113 = some (12, 12, 51, 0) := by rfl
theorem cp_13_115 : cp 13 115 = some (5, nX12_init, 0, 12) := by rfl
theorem cp_13_116 : cp 13 116 = some (1, nX11_feed, 5, 11) := by rfl
theorem cp_13_120 : cp 13 120 = some (1, nX12_feed, 5, 12) := by rfl
theorem cp_13_121 : cp 13 121 = some (2, nL_house, 3, 13) := by rfl
theorem cp_13_126 : cp 13 126 = some (1, nX12_house, 1, 12) := by rfl
theorem cp_13_127 : cp 13 127 = some (1, nX12_thrown, 0, 12) := by rfl
theorem cp_13_131 : cp 13 131 = some (2, nL_law, 3, 13) := by rfl
theorem cp_13_133 : cp 13 133 = some (1, nX12_law, 1, 12) := by rfl
theorem cp_13_134 : cp 13 134 = some (2, nL_work, 3, 13) := by rfl
theorem cp_13_136 : cp 13 136 = some (1, nX12_work, 1, 12) := by rfl
theorem cp_13_137 : cp 13 137 = some (2, nL_book, 3, 13) := by rfl
theorem cp_13_139 : cp 13 139 = some (1, nX12_book, 1, 12) := by rfl
theorem cp_13_140 : cp 13 140 = some (1, nX11_fault, 0, 11) := by rfl
theorem cp_13_143 : cp 13 143 = some (1, nX12_fault, 0, 12) := by rfl
theorem cp_13_144 : cp 13 144 = some (1, nX11_undo, 0, 11) := by rfl
theorem cp_13_147 : cp 13 147 = some (1, nX12_undo, 0, 12) := by rfl
theorem cp_13_148 : cp 13 148 = some (2, nL_told, 3, 13) := by rfl
theorem cp_13_150 : cp 13 150 = some (1, nX12_told, 1, 12) := by rfl
theorem cp_13_151 : cp 13 151 = some (2, nL_piece, 4, 13) := by rfl
theorem cp_13_154 : cp 13 154 = some (1, nX12_piece, 2, 12) := by rfl
theorem cp_13_155 : cp 13 155 = some (2, nL_collar, 4, 13) := by rfl
theorem cp_13_157 : cp 13 157 = some (1, nX12_collar, 2, 12) := by rfl
theorem cp_13_158 : cp 13 158 = some (2, nL_fire, 4, 13) := by rfl
theorem cp_13_160 : cp 13 160 = some (1, nX12_fire, 2, 12) := by rfl
theorem cp_13_161 : cp 13 161 = some (2, nL_row, 3, 13) := by rfl
theorem cp_13_163 : cp 13 163 = some (1, nX12_row, 1, 12) := by rfl
theorem cp_13_164 : cp 13 164 = some (2, nL_behind, 3, 13) := by rfl
theorem cp_13_166 : cp 13 166 = some (1, nX12_behind, 1, 12) := by rfl
theorem cp_13_167 : cp 13 167 = some (2, nL_would, 11, 13) := by rfl
theorem cp_13_170 : cp 13 170 = some (1, nX12_would, 9, 12) := by rfl
theorem cp_13_171 : cp 13 171 = some (2, nL_fits, 4, 13) := by rfl
theorem cp_13_173 : cp 13 173 = some (1, nX12_fits, 2, 12) := by rfl
theorem cp_13_174 : cp 13 174 = some (2, nL_can, 3, 13) := by rfl
theorem cp_13_176 : cp 13 176 = some (1, nX12_can, 1, 12) := by rfl
theorem cp_13_177 : cp 13 177 = some (2, nL_ahead, 3, 13) := by rfl
theorem cp_13_179 : cp 13 179 = some (1, nX12_ahead, 1, 12) := by rfl
theorem cp_13_180 : cp 13 180 = some (2, nL_chain, 3, 13) := by rfl
theorem cp_13_182 : cp 13 182 = some (1, nX12_chain, 1, 12) := by rfl
theorem cp_13_183 : cp 13 183 = some (2, nL_chained, 3, 13) := by rfl
theorem cp_13_185 : cp 13 185 = some (1, nX12_chained, 1, 12) := by rfl
theorem cp_13_186 : cp 13 186 = some (2, nL_brief, 3, 13) := by rfl
theorem cp_13_188 : cp 13 188 = some (1, nX12_brief, 1, 12) := by rfl
theorem cp_13_189 : cp 13 189 = some (2, nL_briefly, 4, 13) := by rfl
theorem cp_13_191 : cp 13 191 = some (1, nX12_briefly, 2, 12) := by rfl
theorem cp_13_192 : cp 13 192 = some (2, nL_joiner, 3, 13) := by rfl
theorem cp_13_194 : cp 13 194 = some (1, nX12_joiner, 1, 12) := by rfl
theorem cp_13_195 : cp 13 195 = some (2, nL_leaks, 3, 13) := by rfl
theorem cp_13_197 : cp 13 197 = some (1, nX12_leaks, 1, 12) := by rfl
theorem cp_13_198 : cp 13 198 = some (2, nL_look, 3, 13) := by rfl
theorem cp_13_200 : cp 13 200 = some (1, nX12_look, 1, 12) := by rfl
theorem cp_13_201 : cp 13 201 = some (1, nX11_wed, 0, 11) := by rfl
theorem cp_13_204 : cp 13 204 = some (1, nX12_wed, 0, 12) := by rfl
theorem cp_13_205 : cp 13 205 = some (2, nL_sure, 5, 13) := by rfl
theorem cp_13_208 : cp 13 208 = some (1, nX12_sure, 3, 12) := by rfl
theorem cp_13_209 : cp 13 209 = some (2, nL_street, 5, 13) := by rfl
theorem cp_13_211 : cp 13 211 = some (1, nX12_street, 3, 12) := by rfl
theorem cp_13_212 : cp 13 212 = some (2, nL_share, 5, 13) := by rfl
theorem cp_13_214 : cp 13 214 = some (1, nX12_share, 3, 12) := by rfl
theorem cp_13_215 : cp 13 215 = some (2, nL_next, 3, 13) := by rfl
theorem cp_13_217 : cp 13 217 = some (1, nX12_next, 1, 12) := by rfl
theorem cp_13_218 : cp 13 218 = some (2, nL_worst, 3, 13) := by rfl
theorem cp_13_220 : cp 13 220 = some (1, nX12_worst, 1, 12) := by rfl
theorem cp_13_221 : cp 13 221 = some (2, nL_needed, 3, 13) := by rfl
theorem cp_13_223 : cp 13 223 = some (1, nX12_needed, 1, 12) := by rfl
theorem cp_13_224 : cp 13 224 = some (2, nL_kin, 3, 13) := by rfl
theorem cp_13_226 : cp 13 226 = some (1, nX12_kin, 1, 12) := by rfl
theorem cp_13_227 : cp 13 227 = some (2, nL_year, 6, 13) := by rfl
theorem cp_13_230 : cp 13 230 = some (1, nX12_year, 4, 12) := by rfl
theorem cp_13_231 : cp 13 231 = some (2, nL_span, 8, 13) := by rfl
theorem cp_13_234 : cp 13 234 = some (1, nX12_span, 6, 12) := by rfl
theorem cp_13_235 : cp 13 235 = some (1, nX11_image, 0, 11) := by rfl
theorem cp_13_238 : cp 13 238 = some (1, nX12_image, 0, 12) := by rfl
theorem cp_13_239 : cp 13 239 = some (1, nX11_restore, 0, 11) := by rfl
theorem cp_13_242 : cp 13 242 = some (1, nX12_restore, 0, 12) := by rfl
theorem cp_13_243 : cp 13 243 = some (1, nX11_status, 1, 11) := by rfl
theorem cp_13_246 : cp 13 246 = some (1, nX12_status, 1, 12) := by rfl
theorem cp_13_247 : cp 13 247 = some (1, nX11_count, 1, 11) := by rfl
theorem cp_13_250 : cp 13 250 = some (1, nX12_count, 1, 12) := by rfl
theorem cp_14_9 : cp 14 9 = some (20, 1, 0, 0) := by rfl
theorem cp_14_15 : cp 14 15 = some (20, 0, 0, 0) := by rfl
theorem cp_14_38 : cp 14 38 = some (19, 0, 0, 0) := by rfl
theorem cp_14_335 : cp 14 335 = some (10, nJ0_coder_7d493, 0, 14) := by rfl
theorem cp_14_492 : cp 14 492 = some (10, nJ0_isLatin1_aae02, 0, 14) := by rfl
theorem cp_14_495 : cp 14 495 = some (2, nJ1_charAt_3b067, 2, 15) := by rfl
theorem cp_14_1053 : cp 14 1053 = some (21, 0, 0, 0) := by rfl
theorem cp_14_1059 : cp 14 1059 = some (2, nJ3_checkIndex_8e157, 3, 17) := by rfl
theorem cp_15_9 : cp 15 9 = some (2, nJ0_checkIndex_df160, 2, 14) := by rfl
/-- where an exception is thrown: own class, its text, its constructor -/
def thrT (e : Nat) : Option (Nat × Nat × Nat) := [(11, 450, 452), (11, 443, 445)][e]?
/-- an exception's own constructor: where it calls its parent's, its code -/
def exI (e : Nat) : Nat := [13, 7].getD e 0
def exB (e : Nat) : ByteArray := if e = 0 then prog_30_method_4_code else prog_19_method_2_code
def exT (e : Nat) : String := ["no such piece, collar or fire", "a number that is none such"].getD e ""
