/-- a method: the number of its own kind, name, code, locals, answer, kind of answer (0 none, 1 int, 2 long, 3 boolean), values it takes, 0 static 1 virtual 2 init, cells and slots that it may make -/
abbrev MI : Type := Nat × MethodName × ByteArray × Nat × Option FieldType × Nat × Nat × Nat × Nat × Nat
def MI.yn (M : MI) : MethodName := M.2.1
def MI.cd (M : MI) : ByteArray := M.2.2.1
def MI.ml (M : MI) : Nat := M.2.2.2.1
def MI.rt (M : MI) : Option FieldType := M.2.2.2.2.1
def inf (M : MI) : Nat × Nat × Nat × Nat × Nat × Nat := (M.1, M.2.2.2.2.2)
def mX0_init : MI := (0, yX0_init, cX0_init, 2, none, 0, 2, 2, 0, 0)
theorem iX0_init : inf mX0_init = (0, 0, 2, 2, 0, 0) := rfl
def mX0_findBest : MI := (0, yX0_findBest, cX0_findBest, 2, some .boolean, 3, 1, 1, 0, 0)
theorem iX0_findBest : inf mX0_findBest = (0, 3, 1, 1, 0, 0) := rfl
def mX0_addUp : MI := (0, yX0_addUp, cX0_addUp, 4, none, 0, 1, 1, 0, 0)
theorem iX0_addUp : inf mX0_addUp = (0, 0, 1, 1, 0, 0) := rfl
def mX0_goOn : MI := (0, yX0_goOn, cX0_goOn, 6, none, 0, 4, 1, 0, 0)
theorem iX0_goOn : inf mX0_goOn = (0, 0, 4, 1, 0, 0) := rfl
def mX0_compare : MI := (0, yX0_compare, cX0_compare, 4, none, 0, 3, 1, 0, 0)
theorem iX0_compare : inf mX0_compare = (0, 0, 3, 1, 0, 0) := rfl
def mX0_cutAll : MI := (0, yX0_cutAll, cX0_cutAll, 3, some .int, 1, 1, 1, 0, 0)
theorem iX0_cutAll : inf mX0_cutAll = (0, 1, 1, 1, 0, 0) := rfl
def mX0_cutRing : MI := (0, yX0_cutRing, cX0_cutRing, 3, none, 0, 1, 1, 0, 0)
theorem iX0_cutRing : inf mX0_cutRing = (0, 0, 1, 1, 0, 0) := rfl
def mX1_init : MI := (1, yX1_init, cX1_init, 1, none, 0, 1, 2, 0, 0)
theorem iX1_init : inf mX1_init = (1, 0, 1, 2, 0, 0) := rfl
def mX1_look : MI := (1, yX1_look, cX1_look, 5, none, 0, 5, 1, 0, 0)
theorem iX1_look : inf mX1_look = (1, 0, 5, 1, 0, 0) := rfl
def mX1_lookAt : MI := (1, yX1_lookAt, cX1_lookAt, 7, none, 0, 7, 1, 0, 0)
theorem iX1_lookAt : inf mX1_lookAt = (1, 0, 7, 1, 0, 0) := rfl
def mX1_factOf : MI := (1, yX1_factOf, cX1_factOf, 1, some .int, 1, 1, 0, 0, 0)
theorem iX1_factOf : inf mX1_factOf = (1, 1, 1, 0, 0, 0) := rfl
def mX1_ask : MI := (1, yX1_ask, cX1_ask, 5, some .int, 1, 2, 1, 0, 0)
theorem iX1_ask : inf mX1_ask = (1, 1, 2, 1, 0, 0) := rfl
def mX1_reckon : MI := (1, yX1_reckon, cX1_reckon, 4, none, 0, 2, 1, 0, 0)
theorem iX1_reckon : inf mX1_reckon = (1, 0, 2, 1, 0, 0) := rfl
def mX1_put : MI := (1, yX1_put, cX1_put, 2, none, 0, 2, 1, 0, 0)
theorem iX1_put : inf mX1_put = (1, 0, 2, 1, 0, 0) := rfl
def mX1_combine : MI := (1, yX1_combine, cX1_combine, 4, none, 0, 2, 1, 0, 0)
theorem iX1_combine : inf mX1_combine = (1, 0, 2, 1, 0, 0) := rfl
def mX1_compare : MI := (1, yX1_compare, cX1_compare, 4, none, 0, 2, 1, 0, 0)
theorem iX1_compare : inf mX1_compare = (1, 0, 2, 1, 0, 0) := rfl
def mX1_forget : MI := (1, yX1_forget, cX1_forget, 1, none, 0, 1, 1, 0, 0)
theorem iX1_forget : inf mX1_forget = (1, 0, 1, 1, 0, 0) := rfl
def mX1_startClause : MI := (1, yX1_startClause, cX1_startClause, 2, none, 0, 2, 1, 0, 0)
theorem iX1_startClause : inf mX1_startClause = (1, 0, 2, 1, 0, 0) := rfl
def mX1_startCondition : MI := (1, yX1_startCondition, cX1_startCondition, 1, none, 0, 1, 1, 0, 0)
theorem iX1_startCondition : inf mX1_startCondition = (1, 0, 1, 1, 0, 0) := rfl
def mX1_emit : MI := (1, yX1_emit, cX1_emit, 3, none, 0, 3, 1, 0, 0)
theorem iX1_emit : inf mX1_emit = (1, 0, 3, 1, 0, 0) := rfl
def mX1_emitJump : MI := (1, yX1_emitJump, cX1_emitJump, 3, some .int, 1, 3, 1, 0, 0)
theorem iX1_emitJump : inf mX1_emitJump = (1, 1, 3, 1, 0, 0) := rfl
def mX1_aimHere : MI := (1, yX1_aimHere, cX1_aimHere, 5, none, 0, 2, 1, 0, 0)
theorem iX1_aimHere : inf mX1_aimHere = (1, 0, 2, 1, 0, 0) := rfl
def mX1_copyFrom : MI := (1, yX1_copyFrom, cX1_copyFrom, 2, none, 0, 2, 1, 0, 0)
theorem iX1_copyFrom : inf mX1_copyFrom = (1, 0, 2, 1, 0, 0) := rfl
def mX2_init : MI := (2, yX2_init, cX2_init, 2, none, 0, 2, 2, 0, 0)
theorem iX2_init : inf mX2_init = (2, 0, 2, 2, 0, 0) := rfl
def mX2_read : MI := (2, yX2_read, cX2_read, 4, some .int, 1, 2, 1, 0, 0)
theorem iX2_read : inf mX2_read = (2, 1, 2, 1, 0, 0) := rfl
def mX2_next : MI := (2, yX2_next, cX2_next, 1, some .int, 1, 1, 1, 0, 0)
theorem iX2_next : inf mX2_next = (2, 1, 1, 1, 0, 0) := rfl
def mX2_fail : MI := (2, yX2_fail, cX2_fail, 2, some .boolean, 3, 2, 1, 0, 0)
theorem iX2_fail : inf mX2_fail = (2, 3, 2, 1, 0, 0) := rfl
def mX2_take : MI := (2, yX2_take, cX2_take, 2, some .boolean, 3, 2, 1, 0, 0)
theorem iX2_take : inf mX2_take = (2, 3, 2, 1, 0, 0) := rfl
def mX2_open : MI := (2, yX2_open, cX2_open, 2, some .boolean, 3, 2, 1, 0, 0)
theorem iX2_open : inf mX2_open = (2, 3, 2, 1, 0, 0) := rfl
def mX2_readClause : MI := (2, yX2_readClause, cX2_readClause, 2, some .boolean, 3, 1, 1, 0, 0)
theorem iX2_readClause : inf mX2_readClause = (2, 3, 1, 1, 0, 0) := rfl
def mX2_readCondition : MI := (2, yX2_readCondition, cX2_readCondition, 3, some .boolean, 3, 2, 1, 0, 0)
theorem iX2_readCondition : inf mX2_readCondition = (2, 3, 2, 1, 0, 0) := rfl
def mX2_readPart : MI := (2, yX2_readPart, cX2_readPart, 3, some .boolean, 3, 2, 1, 0, 0)
theorem iX2_readPart : inf mX2_readPart = (2, 3, 2, 1, 0, 0) := rfl
def mX2_readPiece : MI := (2, yX2_readPiece, cX2_readPiece, 4, some .boolean, 3, 2, 1, 0, 0)
theorem iX2_readPiece : inf mX2_readPiece = (2, 3, 2, 1, 0, 0) := rfl
def mX2_readSum : MI := (2, yX2_readSum, cX2_readSum, 3, some .boolean, 3, 2, 1, 0, 0)
theorem iX2_readSum : inf mX2_readSum = (2, 3, 2, 1, 0, 0) := rfl
def mX2_readTerm : MI := (2, yX2_readTerm, cX2_readTerm, 3, some .boolean, 3, 2, 1, 0, 0)
theorem iX2_readTerm : inf mX2_readTerm = (2, 3, 2, 1, 0, 0) := rfl
def mX2_readFactor : MI := (2, yX2_readFactor, cX2_readFactor, 4, some .boolean, 3, 2, 1, 0, 0)
theorem iX2_readFactor : inf mX2_readFactor = (2, 3, 2, 1, 0, 0) := rfl
def mX2_readNumber : MI := (2, yX2_readNumber, cX2_readNumber, 3, some .boolean, 3, 1, 1, 0, 0)
theorem iX2_readNumber : inf mX2_readNumber = (2, 3, 1, 1, 0, 0) := rfl
def mX2_isDigit : MI := (2, yX2_isDigit, cX2_isDigit, 1, some .boolean, 3, 1, 0, 0, 0)
theorem iX2_isDigit : inf mX2_isDigit = (2, 3, 1, 0, 0, 0) := rfl
def mX3_init : MI := (3, yX3_init, cX3_init, 1, none, 0, 1, 2, 0, 0)
theorem iX3_init : inf mX3_init = (3, 0, 1, 2, 0, 0) := rfl
def mX3_addRod : MI := (3, yX3_addRod, cX3_addRod, 3, some .int, 1, 3, 1, 0, 0)
theorem iX3_addRod : inf mX3_addRod = (3, 1, 3, 1, 0, 0) := rfl
def mX3_addRibbon : MI := (3, yX3_addRibbon, cX3_addRibbon, 7, some .int, 1, 7, 1, 0, 0)
theorem iX3_addRibbon : inf mX3_addRibbon = (3, 1, 7, 1, 0, 0) := rfl
def mX3_hasRod : MI := (3, yX3_hasRod, cX3_hasRod, 2, some .boolean, 3, 2, 1, 0, 0)
theorem iX3_hasRod : inf mX3_hasRod = (3, 3, 2, 1, 0, 0) := rfl
def mX3_hasRibbon : MI := (3, yX3_hasRibbon, cX3_hasRibbon, 2, some .boolean, 3, 2, 1, 0, 0)
theorem iX3_hasRibbon : inf mX3_hasRibbon = (3, 3, 2, 1, 0, 0) := rfl
def mX3_isHanging : MI := (3, yX3_isHanging, cX3_isHanging, 2, some .boolean, 3, 2, 1, 0, 0)
theorem iX3_isHanging : inf mX3_isHanging = (3, 3, 2, 1, 0, 0) := rfl
def mX3_isWhiteOf : MI := (3, yX3_isWhiteOf, cX3_isWhiteOf, 3, some .boolean, 3, 3, 1, 0, 0)
theorem iX3_isWhiteOf : inf mX3_isWhiteOf = (3, 3, 3, 1, 0, 0) := rfl
def mX3_isDebt : MI := (3, yX3_isDebt, cX3_isDebt, 4, some .boolean, 3, 4, 1, 0, 0)
theorem iX3_isDebt : inf mX3_isDebt = (3, 3, 4, 1, 0, 0) := rfl
def mX3_hanging : MI := (3, yX3_hanging, cX3_hanging, 3, some .int, 1, 1, 1, 0, 0)
theorem iX3_hanging : inf mX3_hanging = (3, 1, 1, 1, 0, 0) := rfl
def mX3_seenRods : MI := (3, yX3_seenRods, cX3_seenRods, 3, some .int, 1, 1, 1, 0, 0)
theorem iX3_seenRods : inf mX3_seenRods = (3, 1, 1, 1, 0, 0) := rfl
def mX3_balanceOf : MI := (3, yX3_balanceOf, cX3_balanceOf, 4, some .int, 1, 2, 1, 0, 0)
theorem iX3_balanceOf : inf mX3_balanceOf = (3, 1, 2, 1, 0, 0) := rfl
def mX3_debt : MI := (3, yX3_debt, cX3_debt, 5, some .int, 1, 3, 1, 0, 0)
theorem iX3_debt : inf mX3_debt = (3, 1, 3, 1, 0, 0) := rfl
def mX3_cutDebt : MI := (3, yX3_cutDebt, cX3_cutDebt, 7, none, 0, 4, 1, 0, 0)
theorem iX3_cutDebt : inf mX3_cutDebt = (3, 0, 4, 1, 0, 0) := rfl
def mX3_copyFrom : MI := (3, yX3_copyFrom, cX3_copyFrom, 2, none, 0, 2, 1, 0, 0)
theorem iX3_copyFrom : inf mX3_copyFrom = (3, 0, 2, 1, 0, 0) := rfl
def mX4_init : MI := (4, yX4_init, cX4_init, 4, none, 0, 4, 2, 0, 0)
theorem iX4_init : inf mX4_init = (4, 0, 4, 2, 0, 0) := rfl
def mX4_read : MI := (4, yX4_read, cX4_read, 4, some .boolean, 3, 3, 1, 0, 0)
theorem iX4_read : inf mX4_read = (4, 3, 3, 1, 0, 0) := rfl
def mX4_isTwice : MI := (4, yX4_isTwice, cX4_isTwice, 3, some .boolean, 3, 2, 1, 0, 0)
theorem iX4_isTwice : inf mX4_isTwice = (4, 3, 2, 1, 0, 0) := rfl
def mX4_search : MI := (4, yX4_search, cX4_search, 3, none, 0, 1, 1, 0, 0)
theorem iX4_search : inf mX4_search = (4, 0, 1, 1, 0, 0) := rfl
def mX4_weighAtPlaces : MI := (4, yX4_weighAtPlaces, cX4_weighAtPlaces, 4, none, 0, 2, 1, 0, 0)
theorem iX4_weighAtPlaces : inf mX4_weighAtPlaces = (4, 0, 2, 1, 0, 0) := rfl
def mX4_hangFrom : MI := (4, yX4_hangFrom, cX4_hangFrom, 4, none, 0, 3, 1, 0, 0)
theorem iX4_hangFrom : inf mX4_hangFrom = (4, 0, 3, 1, 0, 0) := rfl
def mX4_compare : MI := (4, yX4_compare, cX4_compare, 2, none, 0, 1, 1, 0, 0)
theorem iX4_compare : inf mX4_compare = (4, 0, 1, 1, 0, 0) := rfl
def mX4_hang : MI := (4, yX4_hang, cX4_hang, 4, none, 0, 1, 1, 0, 0)
theorem iX4_hang : inf mX4_hang = (4, 0, 1, 1, 0, 0) := rfl
def mX5_init : MI := (5, yX5_init, cX5_init, 4, none, 0, 3, 2, 0, 0)
theorem iX5_init : inf mX5_init = (5, 0, 3, 2, 0, 0) := rfl
def mX5_findPayment : MI := (5, yX5_findPayment, cX5_findPayment, 5, some .boolean, 3, 4, 1, 0, 0)
theorem iX5_findPayment : inf mX5_findPayment = (5, 3, 4, 1, 0, 0) := rfl
def mX5_tryKnots : MI := (5, yX5_tryKnots, cX5_tryKnots, 5, none, 0, 3, 1, 0, 0)
theorem iX5_tryKnots : inf mX5_tryKnots = (5, 0, 3, 1, 0, 0) := rfl
def mX5_carryOut : MI := (5, yX5_carryOut, cX5_carryOut, 2, none, 0, 2, 1, 0, 0)
theorem iX5_carryOut : inf mX5_carryOut = (5, 0, 2, 1, 0, 0) := rfl
def mX5_findFraud : MI := (5, yX5_findFraud, cX5_findFraud, 6, some .int, 1, 5, 1, 0, 0)
theorem iX5_findFraud : inf mX5_findFraud = (5, 1, 5, 1, 0, 0) := rfl
def mX5_mostPayable : MI := (5, yX5_mostPayable, cX5_mostPayable, 4, some .int, 1, 1, 1, 0, 0)
theorem iX5_mostPayable : inf mX5_mostPayable = (5, 1, 1, 1, 0, 0) := rfl
def mX5_findUnseen : MI := (5, yX5_findUnseen, cX5_findUnseen, 5, some .boolean, 3, 3, 1, 0, 0)
theorem iX5_findUnseen : inf mX5_findUnseen = (5, 3, 3, 1, 0, 0) := rfl
def mX5_isUnseen : MI := (5, yX5_isUnseen, cX5_isUnseen, 6, some .boolean, 3, 4, 1, 0, 0)
theorem iX5_isUnseen : inf mX5_isUnseen = (5, 3, 4, 1, 0, 0) := rfl
def mX5_canCut : MI := (5, yX5_canCut, cX5_canCut, 3, some .boolean, 3, 3, 1, 0, 0)
theorem iX5_canCut : inf mX5_canCut = (5, 3, 3, 1, 0, 0) := rfl
def mX5_canKnot : MI := (5, yX5_canKnot, cX5_canKnot, 3, some .boolean, 3, 3, 1, 0, 0)
theorem iX5_canKnot : inf mX5_canKnot = (5, 3, 3, 1, 0, 0) := rfl
def mX5_startDay : MI := (5, yX5_startDay, cX5_startDay, 3, none, 0, 3, 1, 0, 0)
theorem iX5_startDay : inf mX5_startDay = (5, 0, 3, 1, 0, 0) := rfl
def mX5_weighChanges : MI := (5, yX5_weighChanges, cX5_weighChanges, 5, none, 0, 3, 1, 0, 0)
theorem iX5_weighChanges : inf mX5_weighChanges = (5, 0, 3, 1, 0, 0) := rfl
def mX5_shift : MI := (5, yX5_shift, cX5_shift, 5, none, 0, 4, 1, 0, 0)
theorem iX5_shift : inf mX5_shift = (5, 0, 4, 1, 0, 0) := rfl
def mX6_init : MI := (6, yX6_init, cX6_init, 3, none, 0, 3, 2, 0, 0)
theorem iX6_init : inf mX6_init = (6, 0, 3, 2, 0, 0) := rfl
def mX6_readPeople : MI := (6, yX6_readPeople, cX6_readPeople, 6, some .boolean, 3, 3, 1, 0, 0)
theorem iX6_readPeople : inf mX6_readPeople = (6, 3, 3, 1, 0, 0) := rfl
def mX6_weighPeople : MI := (6, yX6_weighPeople, cX6_weighPeople, 3, none, 0, 1, 1, 0, 0)
theorem iX6_weighPeople : inf mX6_weighPeople = (6, 0, 1, 1, 0, 0) := rfl
def mX6_isTipped : MI := (6, yX6_isTipped, cX6_isTipped, 5, some .boolean, 3, 3, 1, 0, 0)
theorem iX6_isTipped : inf mX6_isTipped = (6, 3, 3, 1, 0, 0) := rfl
def mX6_happen : MI := (6, yX6_happen, cX6_happen, 5, none, 0, 3, 1, 0, 0)
theorem iX6_happen : inf mX6_happen = (6, 0, 3, 1, 0, 0) := rfl
def mX6_findBest : MI := (6, yX6_findBest, cX6_findBest, 4, none, 0, 3, 1, 0, 0)
theorem iX6_findBest : inf mX6_findBest = (6, 0, 3, 1, 0, 0) := rfl
def mX6_bestFrom : MI := (6, yX6_bestFrom, cX6_bestFrom, 5, some .int, 1, 3, 1, 0, 0)
theorem iX6_bestFrom : inf mX6_bestFrom = (6, 1, 3, 1, 0, 0) := rfl
def mX6_hopeBy : MI := (6, yX6_hopeBy, cX6_hopeBy, 3, some .int, 1, 3, 1, 0, 0)
theorem iX6_hopeBy : inf mX6_hopeBy = (6, 1, 3, 1, 0, 0) := rfl
def mX6_hopeOf : MI := (6, yX6_hopeOf, cX6_hopeOf, 2, some .int, 1, 2, 1, 0, 0)
theorem iX6_hopeOf : inf mX6_hopeOf = (6, 1, 2, 1, 0, 0) := rfl
def mX6_most : MI := (6, yX6_most, cX6_most, 1, some .int, 1, 1, 1, 0, 0)
theorem iX6_most : inf mX6_most = (6, 1, 1, 1, 0, 0) := rfl
def mX6_personAt : MI := (6, yX6_personAt, cX6_personAt, 7, some .int, 1, 3, 1, 0, 0)
theorem iX6_personAt : inf mX6_personAt = (6, 1, 3, 1, 0, 0) := rfl
def mX6_nextPerson : MI := (6, yX6_nextPerson, cX6_nextPerson, 6, some .int, 1, 4, 1, 0, 0)
theorem iX6_nextPerson : inf mX6_nextPerson = (6, 1, 4, 1, 0, 0) := rfl
def mX7_init : MI := (7, yX7_init, cX7_init, 3, none, 0, 3, 2, 0, 0)
theorem iX7_init : inf mX7_init = (7, 0, 3, 2, 0, 0) := rfl
def mX7_weigh : MI := (7, yX7_weigh, cX7_weigh, 4, none, 0, 2, 1, 0, 0)
theorem iX7_weigh : inf mX7_weigh = (7, 0, 2, 1, 0, 0) := rfl
def mX7_shift : MI := (7, yX7_shift, cX7_shift, 8, none, 0, 5, 1, 0, 0)
theorem iX7_shift : inf mX7_shift = (7, 0, 5, 1, 0, 0) := rfl
def mX7_wouldLean : MI := (7, yX7_wouldLean, cX7_wouldLean, 8, some .boolean, 3, 5, 1, 0, 0)
theorem iX7_wouldLean : inf mX7_wouldLean = (7, 3, 5, 1, 0, 0) := rfl
def mX7_leanBeside : MI := (7, yX7_leanBeside, cX7_leanBeside, 6, some .boolean, 3, 3, 1, 0, 0)
theorem iX7_leanBeside : inf mX7_leanBeside = (7, 3, 3, 1, 0, 0) := rfl
def mX7_partOfMoment : MI := (7, yX7_partOfMoment, cX7_partOfMoment, 4, some .int, 1, 2, 1, 0, 0)
theorem iX7_partOfMoment : inf mX7_partOfMoment = (7, 1, 2, 1, 0, 0) := rfl
def mX7_lean : MI := (7, yX7_lean, cX7_lean, 2, some .int, 1, 2, 1, 0, 0)
theorem iX7_lean : inf mX7_lean = (7, 1, 2, 1, 0, 0) := rfl
def mX7_isSeenToLean : MI := (7, yX7_isSeenToLean, cX7_isSeenToLean, 2, some .boolean, 3, 1, 1, 0, 0)
theorem iX7_isSeenToLean : inf mX7_isSeenToLean = (7, 3, 1, 1, 0, 0) := rfl
def mX7_isPicture : MI := (7, yX7_isPicture, cX7_isPicture, 3, some .boolean, 3, 2, 1, 0, 0)
theorem iX7_isPicture : inf mX7_isPicture = (7, 3, 2, 1, 0, 0) := rfl
def mX7_picture : MI := (7, yX7_picture, cX7_picture, 4, some .long, 2, 1, 1, 0, 0)
theorem iX7_picture : inf mX7_picture = (7, 2, 1, 1, 0, 0) := rfl
def mX7_leansOtherThan : MI := (7, yX7_leansOtherThan, cX7_leansOtherThan, 4, some .int, 1, 2, 1, 0, 0)
theorem iX7_leansOtherThan : inf mX7_leansOtherThan = (7, 1, 2, 1, 0, 0) := rfl
def mX7_writeLeans : MI := (7, yX7_writeLeans, cX7_writeLeans, 3, none, 0, 2, 1, 0, 0)
theorem iX7_writeLeans : inf mX7_writeLeans = (7, 0, 2, 1, 0, 0) := rfl
def mX7_leansTogether : MI := (7, yX7_leansTogether, cX7_leansTogether, 3, some .int, 1, 1, 1, 0, 0)
theorem iX7_leansTogether : inf mX7_leansTogether = (7, 1, 1, 1, 0, 0) := rfl
def mX8_init : MI := (8, yX8_init, cX8_init, 1, none, 0, 1, 2, 0, 0)
theorem iX8_init : inf mX8_init = (8, 0, 1, 2, 0, 0) := rfl
def mX8_hasRoom : MI := (8, yX8_hasRoom, cX8_hasRoom, 1, some .boolean, 3, 1, 1, 0, 0)
theorem iX8_hasRoom : inf mX8_hasRoom = (8, 3, 1, 1, 0, 0) := rfl
def mX8_add : MI := (8, yX8_add, cX8_add, 3, none, 0, 2, 1, 0, 0)
theorem iX8_add : inf mX8_add = (8, 0, 2, 1, 0, 0) := rfl
def mX8_empty : MI := (8, yX8_empty, cX8_empty, 1, none, 0, 1, 1, 0, 0)
theorem iX8_empty : inf mX8_empty = (8, 0, 1, 1, 0, 0) := rfl
def mX8_byteAt : MI := (8, yX8_byteAt, cX8_byteAt, 2, some .int, 1, 2, 1, 0, 0)
theorem iX8_byteAt : inf mX8_byteAt = (8, 1, 2, 1, 0, 0) := rfl
def mX8_numberAt : MI := (8, yX8_numberAt, cX8_numberAt, 4, some .int, 1, 2, 1, 0, 0)
theorem iX8_numberAt : inf mX8_numberAt = (8, 1, 2, 1, 0, 0) := rfl
def mX8_allWithin : MI := (8, yX8_allWithin, cX8_allWithin, 5, some .boolean, 3, 4, 1, 0, 0)
theorem iX8_allWithin : inf mX8_allWithin = (8, 3, 4, 1, 0, 0) := rfl
def mX9_init : MI := (9, yX9_init, cX9_init, 4, none, 0, 4, 2, 0, 0)
theorem iX9_init : inf mX9_init = (9, 0, 4, 2, 0, 0) := rfl
def mX9_readPicture : MI := (9, yX9_readPicture, cX9_readPicture, 4, some .boolean, 3, 2, 1, 0, 0)
theorem iX9_readPicture : inf mX9_readPicture = (9, 3, 2, 1, 0, 0) := rfl
def mX9_startWatch : MI := (9, yX9_startWatch, cX9_startWatch, 2, none, 0, 1, 1, 0, 0)
theorem iX9_startWatch : inf mX9_startWatch = (9, 0, 1, 1, 0, 0) := rfl
def mX9_isInQuestion : MI := (9, yX9_isInQuestion, cX9_isInQuestion, 2, some .boolean, 3, 2, 1, 0, 0)
theorem iX9_isInQuestion : inf mX9_isInQuestion = (9, 3, 2, 1, 0, 0) := rfl
def mX9_mayBe : MI := (9, yX9_mayBe, cX9_mayBe, 5, some .boolean, 3, 3, 1, 0, 0)
theorem iX9_mayBe : inf mX9_mayBe = (9, 3, 3, 1, 0, 0) := rfl
def mX9_falseLengths : MI := (9, yX9_falseLengths, cX9_falseLengths, 4, some .int, 1, 2, 1, 0, 0)
theorem iX9_falseLengths : inf mX9_falseLengths = (9, 1, 2, 1, 0, 0) := rfl
def mX9_suspectBits : MI := (9, yX9_suspectBits, cX9_suspectBits, 6, some .long, 2, 1, 1, 0, 0)
theorem iX9_suspectBits : inf mX9_suspectBits = (9, 2, 1, 1, 0, 0) := rfl
def mX9_collectCases : MI := (9, yX9_collectCases, cX9_collectCases, 3, some .int, 1, 1, 1, 0, 0)
theorem iX9_collectCases : inf mX9_collectCases = (9, 1, 1, 1, 0, 0) := rfl
def mX9_findGust : MI := (9, yX9_findGust, cX9_findGust, 7, none, 0, 3, 1, 0, 0)
theorem iX9_findGust : inf mX9_findGust = (9, 0, 3, 1, 0, 0) := rfl
def mX9_crowdBy : MI := (9, yX9_crowdBy, cX9_crowdBy, 3, some .int, 1, 2, 1, 0, 0)
theorem iX9_crowdBy : inf mX9_crowdBy = (9, 1, 2, 1, 0, 0) := rfl
def mX9_pictureOf : MI := (9, yX9_pictureOf, cX9_pictureOf, 8, some .long, 2, 4, 1, 0, 0)
theorem iX9_pictureOf : inf mX9_pictureOf = (9, 2, 4, 1, 0, 0) := rfl
def mX9_sort : MI := (9, yX9_sort, cX9_sort, 8, none, 0, 2, 0, 0, 0)
theorem iX9_sort : inf mX9_sort = (9, 0, 2, 0, 0, 0) := rfl
def mX9_longestStretch : MI := (9, yX9_longestStretch, cX9_longestStretch, 5, some .int, 1, 2, 0, 0, 0)
theorem iX9_longestStretch : inf mX9_longestStretch = (9, 1, 2, 0, 0, 0) := rfl
def mX10_init : MI := (10, yX10_init, cX10_init, 1, none, 0, 1, 2, 0, 0)
theorem iX10_init : inf mX10_init = (10, 0, 1, 2, 0, 0) := rfl
def mX10_rod : MI := (10, yX10_rod, cX10_rod, 3, some .int, 1, 3, 1, 0, 0)
theorem iX10_rod : inf mX10_rod = (10, 1, 3, 1, 0, 0) := rfl
def mX10_stiff : MI := (10, yX10_stiff, cX10_stiff, 3, some .boolean, 3, 3, 1, 0, 0)
theorem iX10_stiff : inf mX10_stiff = (10, 3, 3, 1, 0, 0) := rfl
def mX10_seen : MI := (10, yX10_seen, cX10_seen, 3, some .boolean, 3, 3, 1, 0, 0)
theorem iX10_seen : inf mX10_seen = (10, 3, 3, 1, 0, 0) := rfl
def mX10_wet : MI := (10, yX10_wet, cX10_wet, 3, some .boolean, 3, 3, 1, 0, 0)
theorem iX10_wet : inf mX10_wet = (10, 3, 3, 1, 0, 0) := rfl
def mX10_white : MI := (10, yX10_white, cX10_white, 5, some .int, 1, 5, 1, 0, 0)
theorem iX10_white : inf mX10_white = (10, 1, 5, 1, 0, 0) := rfl
def mX10_red : MI := (10, yX10_red, cX10_red, 6, some .int, 1, 6, 1, 0, 0)
theorem iX10_red : inf mX10_red = (10, 1, 6, 1, 0, 0) := rfl
def mX10_wind : MI := (10, yX10_wind, cX10_wind, 2, some .boolean, 3, 2, 1, 0, 0)
theorem iX10_wind : inf mX10_wind = (10, 3, 2, 1, 0, 0) := rfl
def mX10_feed : MI := (10, yX10_feed, cX10_feed, 6, some .int, 1, 6, 1, 0, 0)
theorem iX10_feed : inf mX10_feed = (10, 1, 6, 1, 0, 0) := rfl
def mX10_law : MI := (10, yX10_law, cX10_law, 3, some .int, 1, 2, 1, 0, 0)
theorem iX10_law : inf mX10_law = (10, 1, 2, 1, 0, 0) := rfl
def mX10_rodIs : MI := (10, yX10_rodIs, cX10_rodIs, 3, some .int, 1, 3, 1, 0, 0)
theorem iX10_rodIs : inf mX10_rodIs = (10, 1, 3, 1, 0, 0) := rfl
def mX10_ribbon : MI := (10, yX10_ribbon, cX10_ribbon, 3, some .int, 1, 3, 1, 0, 0)
theorem iX10_ribbon : inf mX10_ribbon = (10, 1, 3, 1, 0, 0) := rfl
def mX10_balance : MI := (10, yX10_balance, cX10_balance, 2, some .int, 1, 2, 1, 0, 0)
theorem iX10_balance : inf mX10_balance = (10, 1, 2, 1, 0, 0) := rfl
def mX10_move : MI := (10, yX10_move, cX10_move, 4, some .boolean, 3, 4, 1, 0, 0)
theorem iX10_move : inf mX10_move = (10, 3, 4, 1, 0, 0) := rfl
def mX10_fall : MI := (10, yX10_fall, cX10_fall, 2, some .boolean, 3, 2, 1, 0, 0)
theorem iX10_fall : inf mX10_fall = (10, 3, 2, 1, 0, 0) := rfl
def mX10_pay : MI := (10, yX10_pay, cX10_pay, 5, some .int, 1, 5, 1, 0, 0)
theorem iX10_pay : inf mX10_pay = (10, 1, 5, 1, 0, 0) := rfl
def mX10_level : MI := (10, yX10_level, cX10_level, 5, some .int, 1, 3, 1, 0, 0)
theorem iX10_level : inf mX10_level = (10, 1, 3, 1, 0, 0) := rfl
def mX10_falseBy : MI := (10, yX10_falseBy, cX10_falseBy, 3, some .int, 1, 2, 1, 0, 0)
theorem iX10_falseBy : inf mX10_falseBy = (10, 1, 2, 1, 0, 0) := rfl
def mX10_suspects : MI := (10, yX10_suspects, cX10_suspects, 2, some .long, 2, 1, 1, 0, 0)
theorem iX10_suspects : inf mX10_suspects = (10, 2, 1, 1, 0, 0) := rfl
def mX10_gust : MI := (10, yX10_gust, cX10_gust, 5, some .int, 1, 3, 1, 0, 0)
theorem iX10_gust : inf mX10_gust = (10, 1, 3, 1, 0, 0) := rfl
def mX10_fraud : MI := (10, yX10_fraud, cX10_fraud, 6, some .int, 1, 5, 1, 0, 0)
theorem iX10_fraud : inf mX10_fraud = (10, 1, 5, 1, 0, 0) := rfl
def mX10_owes : MI := (10, yX10_owes, cX10_owes, 3, some .int, 1, 3, 1, 0, 0)
theorem iX10_owes : inf mX10_owes = (10, 1, 3, 1, 0, 0) := rfl
def mX10_ring : MI := (10, yX10_ring, cX10_ring, 2, some .int, 1, 2, 1, 0, 0)
theorem iX10_ring : inf mX10_ring = (10, 1, 2, 1, 0, 0) := rfl
def mX10_clear : MI := (10, yX10_clear, cX10_clear, 1, some .int, 1, 1, 1, 0, 0)
theorem iX10_clear : inf mX10_clear = (10, 1, 1, 1, 0, 0) := rfl
def mX10_run : MI := (10, yX10_run, cX10_run, 6, some .int, 1, 4, 1, 0, 0)
theorem iX10_run : inf mX10_run = (10, 1, 4, 1, 0, 0) := rfl
def mX10_order : MI := (10, yX10_order, cX10_order, 5, some .int, 1, 4, 1, 0, 0)
theorem iX10_order : inf mX10_order = (10, 1, 4, 1, 0, 0) := rfl
def mX10_seed : MI := (10, yX10_seed, cX10_seed, 2, some .boolean, 3, 2, 1, 0, 0)
theorem iX10_seed : inf mX10_seed = (10, 3, 2, 1, 0, 0) := rfl
def mX10_draw : MI := (10, yX10_draw, cX10_draw, 4, some .int, 1, 2, 1, 0, 0)
theorem iX10_draw : inf mX10_draw = (10, 1, 2, 1, 0, 0) := rfl
def mX10_keep : MI := (10, yX10_keep, cX10_keep, 1, some .int, 1, 1, 1, 0, 0)
theorem iX10_keep : inf mX10_keep = (10, 1, 1, 1, 0, 0) := rfl
def mX10_undo : MI := (10, yX10_undo, cX10_undo, 1, some .boolean, 3, 1, 1, 0, 0)
theorem iX10_undo : inf mX10_undo = (10, 3, 1, 1, 0, 0) := rfl
def mX10_check : MI := (10, yX10_check, cX10_check, 3, some .int, 1, 2, 1, 0, 0)
theorem iX10_check : inf mX10_check = (10, 1, 2, 1, 0, 0) := rfl
def mX10_count : MI := (10, yX10_count, cX10_count, 2, some .int, 1, 2, 1, 0, 0)
theorem iX10_count : inf mX10_count = (10, 1, 2, 1, 0, 0) := rfl
def mX10_mayHang : MI := (10, yX10_mayHang, cX10_mayHang, 5, some .boolean, 3, 5, 1, 0, 0)
theorem iX10_mayHang : inf mX10_mayHang = (10, 3, 5, 1, 0, 0) := rfl
def mX10_within : MI := (10, yX10_within, cX10_within, 3, some .boolean, 3, 3, 0, 0, 0)
theorem iX10_within : inf mX10_within = (10, 3, 3, 0, 0, 0) := rfl
def mX10_reaches : MI := (10, yX10_reaches, cX10_reaches, 1, some .boolean, 3, 1, 0, 0, 0)
theorem iX10_reaches : inf mX10_reaches = (10, 3, 1, 0, 0, 0) := rfl
def mX10_isPerson : MI := (10, yX10_isPerson, cX10_isPerson, 1, some .boolean, 3, 1, 0, 0, 0)
theorem iX10_isPerson : inf mX10_isPerson = (10, 3, 1, 0, 0, 0) := rfl
def mX10_areTwo : MI := (10, yX10_areTwo, cX10_areTwo, 2, some .boolean, 3, 2, 0, 0, 0)
theorem iX10_areTwo : inf mX10_areTwo = (10, 3, 2, 0, 0, 0) := rfl
def mX10_leanOf : MI := (10, yX10_leanOf, cX10_leanOf, 3, some .int, 1, 2, 0, 0, 0)
theorem iX10_leanOf : inf mX10_leanOf = (10, 1, 2, 0, 0, 0) := rfl
def mX11_init : MI := (11, yX11_init, cX11_init, 2, none, 0, 1, 2, 0, 0)
theorem iX11_init : inf mX11_init = (11, 0, 1, 2, 0, 0) := rfl
def mX11_lies : MI := (11, yX11_lies, cX11_lies, 6, some .boolean, 3, 3, 0, 0, 0)
theorem iX11_lies : inf mX11_lies = (11, 3, 3, 0, 0, 0) := rfl
def mX11_has : MI := (11, yX11_has, cX11_has, 2, some .boolean, 3, 2, 0, 0, 0)
theorem iX11_has : inf mX11_has = (11, 3, 2, 0, 0, 0) := rfl
def mX11_isRod : MI := (11, yX11_isRod, cX11_isRod, 2, some .boolean, 3, 2, 1, 0, 0)
theorem iX11_isRod : inf mX11_isRod = (11, 3, 2, 1, 0, 0) := rfl
def mX11_isArm : MI := (11, yX11_isArm, cX11_isArm, 1, some .boolean, 3, 1, 0, 0, 0)
theorem iX11_isArm : inf mX11_isArm = (11, 3, 1, 0, 0, 0) := rfl
def mX11_isPerson : MI := (11, yX11_isPerson, cX11_isPerson, 1, some .boolean, 3, 1, 0, 0, 0)
theorem iX11_isPerson : inf mX11_isPerson = (11, 3, 1, 0, 0, 0) := rfl
def mX11_isRibbon : MI := (11, yX11_isRibbon, cX11_isRibbon, 2, some .boolean, 3, 2, 1, 0, 0)
theorem iX11_isRibbon : inf mX11_isRibbon = (11, 3, 2, 1, 0, 0) := rfl
def mX11_rod : MI := (11, yX11_rod, cX11_rod, 3, some .int, 1, 3, 1, 0, 0)
theorem iX11_rod : inf mX11_rod = (11, 1, 3, 1, 0, 0) := rfl
def mX11_stiff : MI := (11, yX11_stiff, cX11_stiff, 3, some .boolean, 3, 3, 1, 0, 0)
theorem iX11_stiff : inf mX11_stiff = (11, 3, 3, 1, 0, 0) := rfl
def mX11_seen : MI := (11, yX11_seen, cX11_seen, 3, some .boolean, 3, 3, 1, 0, 0)
theorem iX11_seen : inf mX11_seen = (11, 3, 3, 1, 0, 0) := rfl
def mX11_wet : MI := (11, yX11_wet, cX11_wet, 3, some .boolean, 3, 3, 1, 0, 0)
theorem iX11_wet : inf mX11_wet = (11, 3, 3, 1, 0, 0) := rfl
def mX11_adds : MI := (11, yX11_adds, cX11_adds, 7, some .int, 1, 7, 1, 0, 0)
theorem iX11_adds : inf mX11_adds = (11, 1, 7, 1, 0, 0) := rfl
def mX11_white : MI := (11, yX11_white, cX11_white, 5, some .int, 1, 5, 1, 0, 0)
theorem iX11_white : inf mX11_white = (11, 1, 5, 1, 0, 0) := rfl
def mX11_red : MI := (11, yX11_red, cX11_red, 6, some .int, 1, 6, 1, 0, 0)
theorem iX11_red : inf mX11_red = (11, 1, 6, 1, 0, 0) := rfl
def mX11_wind : MI := (11, yX11_wind, cX11_wind, 2, some .boolean, 3, 2, 1, 0, 0)
theorem iX11_wind : inf mX11_wind = (11, 3, 2, 1, 0, 0) := rfl
def mX11_push : MI := (11, yX11_push, cX11_push, 3, none, 0, 2, 1, 0, 0)
theorem iX11_push : inf mX11_push = (11, 0, 2, 1, 0, 0) := rfl
def mX11_feed : MI := (11, yX11_feed, cX11_feed, 6, some .int, 1, 6, 1, 0, 0)
theorem iX11_feed : inf mX11_feed = (11, 1, 6, 1, 0, 0) := rfl
def mX11_byteAt : MI := (11, yX11_byteAt, cX11_byteAt, 2, some .int, 1, 2, 1, 0, 0)
theorem iX11_byteAt : inf mX11_byteAt = (11, 1, 2, 1, 0, 0) := rfl
def mX11_here : MI := (11, yX11_here, cX11_here, 1, some .int, 1, 1, 1, 0, 0)
theorem iX11_here : inf mX11_here = (11, 1, 1, 1, 0, 0) := rfl
def mX11_wrongs : MI := (11, yX11_wrongs, cX11_wrongs, 3, none, 0, 3, 1, 0, 0)
theorem iX11_wrongs : inf mX11_wrongs = (11, 0, 3, 1, 0, 0) := rfl
def mX11_isGood : MI := (11, yX11_isGood, cX11_isGood, 1, some .boolean, 3, 1, 1, 0, 0)
theorem iX11_isGood : inf mX11_isGood = (11, 3, 1, 1, 0, 0) := rfl
def mX11_emit : MI := (11, yX11_emit, cX11_emit, 3, none, 0, 3, 1, 0, 0)
theorem iX11_emit : inf mX11_emit = (11, 0, 3, 1, 0, 0) := rfl
def mX11_top : MI := (11, yX11_top, cX11_top, 1, some .int, 1, 1, 1, 0, 0)
theorem iX11_top : inf mX11_top = (11, 1, 1, 1, 0, 0) := rfl
def mX11_puts : MI := (11, yX11_puts, cX11_puts, 2, none, 0, 2, 1, 0, 0)
theorem iX11_puts : inf mX11_puts = (11, 0, 2, 1, 0, 0) := rfl
def mX11_opens : MI := (11, yX11_opens, cX11_opens, 1, none, 0, 1, 1, 0, 0)
theorem iX11_opens : inf mX11_opens = (11, 0, 1, 1, 0, 0) := rfl
def mX11_seesDigit : MI := (11, yX11_seesDigit, cX11_seesDigit, 1, some .boolean, 3, 1, 1, 0, 0)
theorem iX11_seesDigit : inf mX11_seesDigit = (11, 3, 1, 1, 0, 0) := rfl
def mX11_reads : MI := (11, yX11_reads, cX11_reads, 3, some .int, 1, 1, 1, 0, 0)
theorem iX11_reads : inf mX11_reads = (11, 1, 1, 1, 0, 0) := rfl
def mX11_isTimes : MI := (11, yX11_isTimes, cX11_isTimes, 1, some .boolean, 3, 1, 0, 0, 0)
theorem iX11_isTimes : inf mX11_isTimes = (11, 3, 1, 0, 0, 0) := rfl
def mX11_isPlus : MI := (11, yX11_isPlus, cX11_isPlus, 1, some .boolean, 3, 1, 0, 0, 0)
theorem iX11_isPlus : inf mX11_isPlus = (11, 3, 1, 0, 0, 0) := rfl
def mX11_isSign : MI := (11, yX11_isSign, cX11_isSign, 1, some .boolean, 3, 1, 0, 0, 0)
theorem iX11_isSign : inf mX11_isSign = (11, 3, 1, 0, 0, 0) := rfl
def mX11_isValue : MI := (11, yX11_isValue, cX11_isValue, 1, some .boolean, 3, 1, 0, 0, 0)
theorem iX11_isValue : inf mX11_isValue = (11, 3, 1, 0, 0, 0) := rfl
def mX11_sums : MI := (11, yX11_sums, cX11_sums, 2, none, 0, 2, 1, 0, 0)
theorem iX11_sums : inf mX11_sums = (11, 0, 2, 1, 0, 0) := rfl
def mX11_joins : MI := (11, yX11_joins, cX11_joins, 2, none, 0, 2, 1, 0, 0)
theorem iX11_joins : inf mX11_joins = (11, 0, 2, 1, 0, 0) := rfl
def mX11_ends : MI := (11, yX11_ends, cX11_ends, 1, none, 0, 1, 1, 0, 0)
theorem iX11_ends : inf mX11_ends = (11, 0, 1, 1, 0, 0) := rfl
def mX11_factor : MI := (11, yX11_factor, cX11_factor, 1, none, 0, 1, 1, 0, 0)
theorem iX11_factor : inf mX11_factor = (11, 0, 1, 1, 0, 0) := rfl
def mX11_stays : MI := (11, yX11_stays, cX11_stays, 2, some .boolean, 3, 1, 1, 0, 0)
theorem iX11_stays : inf mX11_stays = (11, 3, 1, 1, 0, 0) := rfl
def mX11_value : MI := (11, yX11_value, cX11_value, 2, none, 0, 1, 1, 0, 0)
theorem iX11_value : inf mX11_value = (11, 0, 1, 1, 0, 0) := rfl
def mX11_pieceOfC : MI := (11, yX11_pieceOfC, cX11_pieceOfC, 2, none, 0, 1, 1, 0, 0)
theorem iX11_pieceOfC : inf mX11_pieceOfC = (11, 0, 1, 1, 0, 0) := rfl
def mX11_goesBehind : MI := (11, yX11_goesBehind, cX11_goesBehind, 2, some .boolean, 3, 1, 1, 0, 0)
theorem iX11_goesBehind : inf mX11_goesBehind = (11, 3, 1, 1, 0, 0) := rfl
def mX11_condition : MI := (11, yX11_condition, cX11_condition, 2, none, 0, 1, 1, 0, 0)
theorem iX11_condition : inf mX11_condition = (11, 0, 1, 1, 0, 0) := rfl
def mX11_clause : MI := (11, yX11_clause, cX11_clause, 2, none, 0, 1, 1, 0, 0)
theorem iX11_clause : inf mX11_clause = (11, 0, 1, 1, 0, 0) := rfl
def mX11_law : MI := (11, yX11_law, cX11_law, 4, some .int, 1, 2, 1, 0, 0)
theorem iX11_law : inf mX11_law = (11, 1, 2, 1, 0, 0) := rfl
def mX11_valueOf : MI := (11, yX11_valueOf, cX11_valueOf, 2, some .int, 1, 2, 1, 0, 0)
theorem iX11_valueOf : inf mX11_valueOf = (11, 1, 2, 1, 0, 0) := rfl
def mX11_worked : MI := (11, yX11_worked, cX11_worked, 3, some .int, 1, 3, 0, 0, 0)
theorem iX11_worked : inf mX11_worked = (11, 1, 3, 0, 0, 0) := rfl
def mX11_does : MI := (11, yX11_does, cX11_does, 4, none, 0, 3, 1, 0, 0)
theorem iX11_does : inf mX11_does = (11, 0, 3, 1, 0, 0) := rfl
def mX11_works : MI := (11, yX11_works, cX11_works, 5, none, 0, 3, 1, 0, 0)
theorem iX11_works : inf mX11_works = (11, 0, 3, 1, 0, 0) := rfl
def mX11_tells : MI := (11, yX11_tells, cX11_tells, 8, some .int, 1, 6, 1, 0, 0)
theorem iX11_tells : inf mX11_tells = (11, 1, 6, 1, 0, 0) := rfl
def mX11_heavy : MI := (11, yX11_heavy, cX11_heavy, 2, some .int, 1, 2, 1, 0, 0)
theorem iX11_heavy : inf mX11_heavy = (11, 1, 2, 1, 0, 0) := rfl
def mX11_pushed : MI := (11, yX11_pushed, cX11_pushed, 2, some .int, 1, 2, 1, 0, 0)
theorem iX11_pushed : inf mX11_pushed = (11, 1, 2, 1, 0, 0) := rfl
def mX11_laysLeans : MI := (11, yX11_laysLeans, cX11_laysLeans, 3, none, 0, 1, 1, 0, 0)
theorem iX11_laysLeans : inf mX11_laysLeans = (11, 0, 1, 1, 0, 0) := rfl
def mX11_picture : MI := (11, yX11_picture, cX11_picture, 4, some .long, 2, 1, 1, 0, 0)
theorem iX11_picture : inf mX11_picture = (11, 2, 1, 1, 0, 0) := rfl
def mX11_rodIs : MI := (11, yX11_rodIs, cX11_rodIs, 3, some .int, 1, 3, 1, 0, 0)
theorem iX11_rodIs : inf mX11_rodIs = (11, 1, 3, 1, 0, 0) := rfl
def mX11_ribbon : MI := (11, yX11_ribbon, cX11_ribbon, 3, some .int, 1, 3, 1, 0, 0)
theorem iX11_ribbon : inf mX11_ribbon = (11, 1, 3, 1, 0, 0) := rfl
def mX11_balance : MI := (11, yX11_balance, cX11_balance, 4, some .int, 1, 2, 1, 0, 0)
theorem iX11_balance : inf mX11_balance = (11, 1, 2, 1, 0, 0) := rfl
def mX11_move : MI := (11, yX11_move, cX11_move, 4, some .boolean, 3, 4, 1, 0, 0)
theorem iX11_move : inf mX11_move = (11, 3, 4, 1, 0, 0) := rfl
def mX11_fall : MI := (11, yX11_fall, cX11_fall, 2, some .boolean, 3, 2, 1, 0, 0)
theorem iX11_fall : inf mX11_fall = (11, 3, 2, 1, 0, 0) := rfl
def mX11_isWhiteOf : MI := (11, yX11_isWhiteOf, cX11_isWhiteOf, 3, some .boolean, 3, 3, 1, 0, 0)
theorem iX11_isWhiteOf : inf mX11_isWhiteOf = (11, 3, 3, 1, 0, 0) := rfl
def mX11_canKnot : MI := (11, yX11_canKnot, cX11_canKnot, 6, some .boolean, 3, 6, 1, 0, 0)
theorem iX11_canKnot : inf mX11_canKnot = (11, 3, 6, 1, 0, 0) := rfl
def mX11_knots : MI := (11, yX11_knots, cX11_knots, 4, none, 0, 4, 1, 0, 0)
theorem iX11_knots : inf mX11_knots = (11, 0, 4, 1, 0, 0) := rfl
def mX11_othersBy : MI := (11, yX11_othersBy, cX11_othersBy, 6, some .int, 1, 4, 1, 0, 0)
theorem iX11_othersBy : inf mX11_othersBy = (11, 1, 4, 1, 0, 0) := rfl
def mX11_pay : MI := (11, yX11_pay, cX11_pay, 11, some .int, 1, 5, 1, 0, 0)
theorem iX11_pay : inf mX11_pay = (11, 1, 5, 1, 0, 0) := rfl
def mX11_takesPlaces : MI := (11, yX11_takesPlaces, cX11_takesPlaces, 5, some .boolean, 3, 2, 1, 0, 0)
theorem iX11_takesPlaces : inf mX11_takesPlaces = (11, 3, 2, 1, 0, 0) := rfl
def mX11_hangsBy : MI := (11, yX11_hangsBy, cX11_hangsBy, 3, none, 0, 3, 1, 0, 0)
theorem iX11_hangsBy : inf mX11_hangsBy = (11, 0, 3, 1, 0, 0) := rfl
def mX11_size : MI := (11, yX11_size, cX11_size, 1, some .int, 1, 1, 0, 0, 0)
theorem iX11_size : inf mX11_size = (11, 1, 1, 0, 0, 0) := rfl
def mX11_sumOfLeans : MI := (11, yX11_sumOfLeans, cX11_sumOfLeans, 3, some .int, 1, 1, 1, 0, 0)
theorem iX11_sumOfLeans : inf mX11_sumOfLeans = (11, 1, 1, 1, 0, 0) := rfl
def mX11_goesOn : MI := (11, yX11_goesOn, cX11_goesOn, 7, some .boolean, 3, 2, 1, 0, 0)
theorem iX11_goesOn : inf mX11_goesOn = (11, 3, 2, 1, 0, 0) := rfl
def mX11_level : MI := (11, yX11_level, cX11_level, 7, some .int, 1, 3, 1, 0, 0)
theorem iX11_level : inf mX11_level = (11, 1, 3, 1, 0, 0) := rfl
def mX11_seenMany : MI := (11, yX11_seenMany, cX11_seenMany, 3, some .int, 1, 1, 1, 0, 0)
theorem iX11_seenMany : inf mX11_seenMany = (11, 1, 1, 1, 0, 0) := rfl
def mX11_toldPicture : MI := (11, yX11_toldPicture, cX11_toldPicture, 5, some .long, 2, 2, 1, 0, 0)
theorem iX11_toldPicture : inf mX11_toldPicture = (11, 2, 2, 1, 0, 0) := rfl
def mX11_canBe : MI := (11, yX11_canBe, cX11_canBe, 7, some .boolean, 3, 4, 1, 0, 0)
theorem iX11_canBe : inf mX11_canBe = (11, 3, 4, 1, 0, 0) := rfl
def mX11_lengthsOf : MI := (11, yX11_lengthsOf, cX11_lengthsOf, 6, some .int, 1, 3, 1, 0, 0)
theorem iX11_lengthsOf : inf mX11_lengthsOf = (11, 1, 3, 1, 0, 0) := rfl
def mX11_falseBy : MI := (11, yX11_falseBy, cX11_falseBy, 5, some .int, 1, 2, 1, 0, 0)
theorem iX11_falseBy : inf mX11_falseBy = (11, 1, 2, 1, 0, 0) := rfl
def mX11_suspects : MI := (11, yX11_suspects, cX11_suspects, 7, some .long, 2, 1, 1, 0, 0)
theorem iX11_suspects : inf mX11_suspects = (11, 2, 1, 1, 0, 0) := rfl
def mX11_laysFalse : MI := (11, yX11_laysFalse, cX11_laysFalse, 5, none, 0, 2, 1, 0, 0)
theorem iX11_laysFalse : inf mX11_laysFalse = (11, 0, 2, 1, 0, 0) := rfl
def mX11_mostAlike : MI := (11, yX11_mostAlike, cX11_mostAlike, 7, some .int, 1, 2, 1, 0, 0)
theorem iX11_mostAlike : inf mX11_mostAlike = (11, 1, 2, 1, 0, 0) := rfl
def mX11_gust : MI := (11, yX11_gust, cX11_gust, 10, some .int, 1, 3, 1, 0, 0)
theorem iX11_gust : inf mX11_gust = (11, 1, 3, 1, 0, 0) := rfl
def mX11_isUnseen : MI := (11, yX11_isUnseen, cX11_isUnseen, 5, some .boolean, 3, 2, 1, 0, 0)
theorem iX11_isUnseen : inf mX11_isUnseen = (11, 3, 2, 1, 0, 0) := rfl
def mX11_isFraud : MI := (11, yX11_isFraud, cX11_isFraud, 6, some .boolean, 3, 5, 1, 0, 0)
theorem iX11_isFraud : inf mX11_isFraud = (11, 3, 5, 1, 0, 0) := rfl
def mX11_fraud : MI := (11, yX11_fraud, cX11_fraud, 9, some .int, 1, 5, 1, 0, 0)
theorem iX11_fraud : inf mX11_fraud = (11, 1, 5, 1, 0, 0) := rfl
def mX11_laysDebts : MI := (11, yX11_laysDebts, cX11_laysDebts, 2, none, 0, 1, 1, 0, 0)
theorem iX11_laysDebts : inf mX11_laysDebts = (11, 0, 1, 1, 0, 0) := rfl
def mX11_owes : MI := (11, yX11_owes, cX11_owes, 3, some .int, 1, 3, 1, 0, 0)
theorem iX11_owes : inf mX11_owes = (11, 1, 3, 1, 0, 0) := rfl
def mX11_isOn : MI := (11, yX11_isOn, cX11_isOn, 4, some .boolean, 3, 3, 1, 0, 0)
theorem iX11_isOn : inf mX11_isOn = (11, 3, 3, 1, 0, 0) := rfl
def mX11_looksAt : MI := (11, yX11_looksAt, cX11_looksAt, 5, none, 0, 2, 1, 0, 0)
theorem iX11_looksAt : inf mX11_looksAt = (11, 0, 2, 1, 0, 0) := rfl
def mX11_findsRing : MI := (11, yX11_findsRing, cX11_findsRing, 4, none, 0, 1, 1, 0, 0)
theorem iX11_findsRing : inf mX11_findsRing = (11, 0, 1, 1, 0, 0) := rfl
def mX11_ring : MI := (11, yX11_ring, cX11_ring, 2, some .int, 1, 2, 1, 0, 0)
theorem iX11_ring : inf mX11_ring = (11, 1, 2, 1, 0, 0) := rfl
def mX11_cuts : MI := (11, yX11_cuts, cX11_cuts, 7, none, 0, 4, 1, 0, 0)
theorem iX11_cuts : inf mX11_cuts = (11, 0, 4, 1, 0, 0) := rfl
def mX11_clear : MI := (11, yX11_clear, cX11_clear, 3, some .int, 1, 1, 1, 0, 0)
theorem iX11_clear : inf mX11_clear = (11, 1, 1, 1, 0, 0) := rfl
def mX11_isTipped : MI := (11, yX11_isTipped, cX11_isTipped, 4, some .boolean, 3, 3, 1, 0, 0)
theorem iX11_isTipped : inf mX11_isTipped = (11, 3, 3, 1, 0, 0) := rfl
def mX11_whiteOf : MI := (11, yX11_whiteOf, cX11_whiteOf, 4, some .int, 1, 2, 1, 0, 0)
theorem iX11_whiteOf : inf mX11_whiteOf = (11, 1, 2, 1, 0, 0) := rfl
def mX11_run : MI := (11, yX11_run, cX11_run, 8, some .int, 1, 4, 1, 0, 0)
theorem iX11_run : inf mX11_run = (11, 1, 4, 1, 0, 0) := rfl
def mX11_getsBy : MI := (11, yX11_getsBy, cX11_getsBy, 3, some .int, 1, 3, 1, 0, 0)
theorem iX11_getsBy : inf mX11_getsBy = (11, 1, 3, 1, 0, 0) := rfl
def mX11_sizeOf : MI := (11, yX11_sizeOf, cX11_sizeOf, 3, some .int, 1, 1, 0, 0, 0)
theorem iX11_sizeOf : inf mX11_sizeOf = (11, 1, 1, 0, 0, 0) := rfl
def mX11_order : MI := (11, yX11_order, cX11_order, 9, some .int, 1, 4, 1, 0, 0)
theorem iX11_order : inf mX11_order = (11, 1, 4, 1, 0, 0) := rfl
def mX11_seed : MI := (11, yX11_seed, cX11_seed, 2, some .boolean, 3, 2, 1, 0, 0)
theorem iX11_seed : inf mX11_seed = (11, 3, 2, 1, 0, 0) := rfl
def mX11_someLeans : MI := (11, yX11_someLeans, cX11_someLeans, 2, some .boolean, 3, 1, 1, 0, 0)
theorem iX11_someLeans : inf mX11_someLeans = (11, 3, 1, 1, 0, 0) := rfl
def mX11_draw : MI := (11, yX11_draw, cX11_draw, 4, some .int, 1, 2, 1, 0, 0)
theorem iX11_draw : inf mX11_draw = (11, 1, 2, 1, 0, 0) := rfl
def mX11_hanging : MI := (11, yX11_hanging, cX11_hanging, 3, some .int, 1, 1, 1, 0, 0)
theorem iX11_hanging : inf mX11_hanging = (11, 1, 1, 1, 0, 0) := rfl
def mX11_keep : MI := (11, yX11_keep, cX11_keep, 2, some .int, 1, 1, 1, 0, 0)
theorem iX11_keep : inf mX11_keep = (11, 1, 1, 1, 0, 0) := rfl
def mX11_undo : MI := (11, yX11_undo, cX11_undo, 2, some .boolean, 3, 1, 1, 0, 0)
theorem iX11_undo : inf mX11_undo = (11, 3, 1, 1, 0, 0) := rfl
def mX11_numberAt : MI := (11, yX11_numberAt, cX11_numberAt, 4, some .int, 1, 2, 1, 0, 0)
theorem iX11_numberAt : inf mX11_numberAt = (11, 1, 2, 1, 0, 0) := rfl
def mX11_check : MI := (11, yX11_check, cX11_check, 3, some .int, 1, 2, 1, 0, 0)
theorem iX11_check : inf mX11_check = (11, 1, 2, 1, 0, 0) := rfl
def mX11_count : MI := (11, yX11_count, cX11_count, 2, some .int, 1, 2, 1, 0, 0)
theorem iX11_count : inf mX11_count = (11, 1, 2, 1, 0, 0) := rfl
def mJ6_bitCount_0f7a4 : MI := (50, yJ6_bitCount_0f7a4, cJ6_bitCount_0f7a4, 1, some .int, 1, 1, 0, 0, 0)
theorem iJ6_bitCount_0f7a4 : inf mJ6_bitCount_0f7a4 = (50, 1, 1, 0, 0, 0) := rfl
def mL_law : MI := (99, yL_law, cL_law, 4, some .boolean, 3, 1, 0, 0, 0)
theorem iL_law : inf mL_law = (99, 3, 1, 0, 0, 0) := rfl
abbrev vwCl : List vw_C := [(RX0, TX0, 6), (RX1, TX1, 12), (RX2, TX2, 5), (RX3, TX3, 16), (RX4, TX4, 12), (RX5, TX5, 12), (RX6, TX6, 8), (RX7, TX7, 6), (RX8, TX8, 2), (RX9, TX9, 10), (RX10, TX10, 12), (RX11, TX11, 85)]
def cn : Nat → String := fun o => match o with
  | 0 => RX0
  | 1 => RX1
  | 2 => RX2
  | 3 => RX3
  | 4 => RX4
  | 5 => RX5
  | 6 => RX6
  | 7 => RX7
  | 8 => RX8
  | 9 => RX9
  | 10 => RX10
  | 11 => RX11
  | 50 => "java/lang/Integer"
  | _ => "BellRibbonsLaw"
def TT : Nat → u_T := fun o => match o with
  | 0 => TX0
  | 1 => TX1
  | 2 => TX2
  | 3 => TX3
  | 4 => TX4
  | 5 => TX5
  | 6 => TX6
  | 7 => TX7
  | 8 => TX8
  | 9 => TX9
  | 10 => TX10
  | _ => TX11
def tyT : Nat → Nat → FieldType := fun o => match o with
  | 0 => tyX0
  | 1 => tyX1
  | 2 => tyX2
  | 3 => tyX3
  | 4 => tyX4
  | 5 => tyX5
  | 6 => tyX6
  | 7 => tyX7
  | 8 => tyX8
  | 9 => tyX9
  | 10 => tyX10
  | _ => tyX11
def NF : Nat → Nat := fun o => match o with
  | 0 => 6
  | 1 => 12
  | 2 => 5
  | 3 => 16
  | 4 => 12
  | 5 => 12
  | 6 => 8
  | 7 => 6
  | 8 => 2
  | 9 => 10
  | 10 => 12
  | 11 => 85
  | _ => 0
/-- kinds of the fields: 0 int, 1 long, 2 reference, 3 boolean -/
def kdT : Nat → List Nat := fun o => match o with
  | 0 => [2, 2, 2, 2, 0, 0]
  | 1 => [2, 2, 2, 2, 2, 2, 2, 0, 0, 0, 3, 3]
  | 2 => [2, 2, 0, 0, 0]
  | 3 => [2, 2, 2, 2, 2, 2, 2, 2, 2, 2, 2, 2, 0, 0, 0, 0]
  | 4 => [2, 2, 2, 2, 2, 2, 2, 2, 2, 2, 0, 0]
  | 5 => [2, 2, 2, 2, 2, 2, 2, 0, 0, 0, 0, 0]
  | 6 => [2, 2, 2, 2, 2, 2, 0, 0]
  | 7 => [2, 2, 2, 2, 2, 2]
  | 8 => [2, 0]
  | 9 => [2, 2, 2, 2, 2, 2, 0, 1, 0, 0]
  | 10 => [2, 2, 2, 2, 2, 2, 2, 2, 2, 2, 2, 3]
  | 11 => [2, 0, 0, 0, 0, 0, 2, 2, 2, 2, 2, 2, 2, 2, 2, 2, 2, 2, 0, 2, 2, 2, 2, 2, 2, 2, 2, 2, 2, 2, 2, 0, 0, 0, 0, 0, 0, 0, 3, 3, 2, 0, 2, 2, 2, 2, 2, 2, 2, 2, 2, 2, 2, 2, 2, 2, 2, 2, 2, 0, 2, 2, 2, 2, 0, 0, 2, 2, 3, 0, 0, 0, 0, 2, 2, 2, 2, 2, 2, 2, 2, 2, 2, 2, 2]
  | _ => []
def gtbl : List Cond := lw_tbl.filter goodWord
def gat (i : Nat) (w : Cond) : Bool := decide (lw_tbl[i]? = some w) && goodWord w
theorem gat_mem {i : Nat} {w : Cond} (h : gat i w = true) : w ∈ gtbl := by
  unfold gat at h
  simp only [Bool.and_eq_true, decide_eq_true_eq] at h
  exact List.mem_filter.mpr ⟨List.mem_of_getElem? h.1, h.2⟩
def nestW : List Cond := [.methodLinkNest "BellRibbons" 9 ⟨"BellRibbons$Tape", "<init>", "()V"⟩ "BellRibbons", .fieldLinkNest "BellRibbons" 148 "BellRibbons$Tape" "size" "I" "BellRibbons", .methodLinkNest "BellRibbons" 18 ⟨"BellRibbons$Ledger", "<init>", "()V"⟩ "BellRibbons", .fieldLinkNest "BellRibbons$Scale" 68 "BellRibbons$Ledger" "on" "[I" "BellRibbons", .fieldLinkNest "BellRibbons" 181 "BellRibbons$Ledger" "on" "[I" "BellRibbons", .fieldLinkNest "BellRibbons$Scale" 71 "BellRibbons$Ledger" "rodArm" "[I" "BellRibbons", .fieldLinkNest "BellRibbons" 184 "BellRibbons$Ledger" "rodArm" "[I" "BellRibbons", .fieldLinkNest "BellRibbons" 114 "BellRibbons$Ledger" "stiff" "[I" "BellRibbons", .fieldLinkNest "BellRibbons$Rush" 70 "BellRibbons$Ledger" "stiff" "[I" "BellRibbons", .fieldLinkNest "BellRibbons$Scale" 80 "BellRibbons$Ledger" "stiff" "[I" "BellRibbons", .fieldLinkNest "BellRibbons$Watcher" 33 "BellRibbons$Ledger" "seen" "[Z" "BellRibbons", .fieldLinkNest "BellRibbons" 118 "BellRibbons$Ledger" "seen" "[Z" "BellRibbons", .fieldLinkNest "BellRibbons$Scale" 77 "BellRibbons$Ledger" "seen" "[Z" "BellRibbons", .fieldLinkNest "BellRibbons$Law" 58 "BellRibbons$Ledger" "wet" "[Z" "BellRibbons", .fieldLinkNest "BellRibbons" 122 "BellRibbons$Ledger" "wet" "[Z" "BellRibbons", .fieldLinkNest "BellRibbons$Law" 39 "BellRibbons$Ledger" "rod" "[I" "BellRibbons", .fieldLinkNest "BellRibbons$Scale" 38 "BellRibbons$Ledger" "rod" "[I" "BellRibbons", .fieldLinkNest "BellRibbons$Leveller" 93 "BellRibbons$Ledger" "rod" "[I" "BellRibbons", .fieldLinkNest "BellRibbons$Watcher" 143 "BellRibbons$Ledger" "rod" "[I" "BellRibbons", .fieldLinkNest "BellRibbons" 197 "BellRibbons$Ledger" "rod" "[I" "BellRibbons", .fieldLinkNest "BellRibbons$Payments" 155 "BellRibbons$Ledger" "rod" "[I" "BellRibbons", .fieldLinkNest "BellRibbons$Law" 42 "BellRibbons$Ledger" "arm" "[I" "BellRibbons", .fieldLinkNest "BellRibbons$Scale" 62 "BellRibbons$Ledger" "arm" "[I" "BellRibbons", .fieldLinkNest "BellRibbons$Leveller" 96 "BellRibbons$Ledger" "arm" "[I" "BellRibbons", .fieldLinkNest "BellRibbons$Watcher" 146 "BellRibbons$Ledger" "arm" "[I" "BellRibbons", .fieldLinkNest "BellRibbons" 200 "BellRibbons$Ledger" "arm" "[I" "BellRibbons", .fieldLinkNest "BellRibbons$Payments" 158 "BellRibbons$Ledger" "arm" "[I" "BellRibbons", .fieldLinkNest "BellRibbons$Scale" 49 "BellRibbons$Ledger" "length" "[I" "BellRibbons", .fieldLinkNest "BellRibbons$Rush" 61 "BellRibbons$Ledger" "length" "[I" "BellRibbons", .fieldLinkNest "BellRibbons$Debts" 63 "BellRibbons$Ledger" "length" "[I" "BellRibbons", .fieldLinkNest "BellRibbons$Payments" 96 "BellRibbons$Ledger" "length" "[I" "BellRibbons", .fieldLinkNest "BellRibbons$Watcher" 76 "BellRibbons$Ledger" "length" "[I" "BellRibbons", .fieldLinkNest "BellRibbons$Leveller" 120 "BellRibbons$Ledger" "length" "[I" "BellRibbons", .fieldLinkNest "BellRibbons" 190 "BellRibbons$Ledger" "length" "[I" "BellRibbons", .fieldLinkNest "BellRibbons$Law" 52 "BellRibbons$Ledger" "colour" "[I" "BellRibbons", .fieldLinkNest "BellRibbons" 203 "BellRibbons$Ledger" "colour" "[I" "BellRibbons", .fieldLinkNest "BellRibbons$Law" 55 "BellRibbons$Ledger" "owner" "[I" "BellRibbons", .fieldLinkNest "BellRibbons$Debts" 49 "BellRibbons$Ledger" "owner" "[I" "BellRibbons", .fieldLinkNest "BellRibbons" 206 "BellRibbons$Ledger" "owner" "[I" "BellRibbons", .fieldLinkNest "BellRibbons$Debts" 52 "BellRibbons$Ledger" "to" "[I" "BellRibbons", .fieldLinkNest "BellRibbons" 209 "BellRibbons$Ledger" "to" "[I" "BellRibbons", .fieldLinkNest "BellRibbons$Scale" 41 "BellRibbons$Ledger" "hangs" "[Z" "BellRibbons", .fieldLinkNest "BellRibbons$Watcher" 63 "BellRibbons$Ledger" "hangs" "[Z" "BellRibbons", .fieldLinkNest "BellRibbons$Debts" 55 "BellRibbons$Ledger" "hangs" "[Z" "BellRibbons", .fieldLinkNest "BellRibbons" 212 "BellRibbons$Ledger" "hangs" "[Z" "BellRibbons", .fieldLinkNest "BellRibbons$Watcher" 27 "BellRibbons$Ledger" "rods" "I" "BellRibbons", .fieldLinkNest "BellRibbons" 107 "BellRibbons$Ledger" "rods" "I" "BellRibbons", .fieldLinkNest "BellRibbons$Scale" 65 "BellRibbons$Ledger" "rods" "I" "BellRibbons", .fieldLinkNest "BellRibbons$Scale" 32 "BellRibbons$Ledger" "ribbons" "I" "BellRibbons", .fieldLinkNest "BellRibbons$Payments" 65 "BellRibbons$Ledger" "ribbons" "I" "BellRibbons", .fieldLinkNest "BellRibbons$Watcher" 60 "BellRibbons$Ledger" "ribbons" "I" "BellRibbons", .fieldLinkNest "BellRibbons$Rush" 54 "BellRibbons$Ledger" "ribbons" "I" "BellRibbons", .fieldLinkNest "BellRibbons$Debts" 44 "BellRibbons$Ledger" "ribbons" "I" "BellRibbons", .fieldLinkNest "BellRibbons" 354 "BellRibbons$Ledger" "ribbons" "I" "BellRibbons", .fieldLinkNest "BellRibbons$Payments" 50 "BellRibbons$Ledger" "wind" "I" "BellRibbons", .fieldLinkNest "BellRibbons$Watcher" 47 "BellRibbons$Ledger" "wind" "I" "BellRibbons", .fieldLinkNest "BellRibbons$Rush" 42 "BellRibbons$Ledger" "wind" "I" "BellRibbons", .fieldLinkNest "BellRibbons$Leveller" 81 "BellRibbons$Ledger" "wind" "I" "BellRibbons", .fieldLinkNest "BellRibbons" 137 "BellRibbons$Ledger" "wind" "I" "BellRibbons", .fieldLinkNest "BellRibbons" 96 "BellRibbons$Ledger" "x" "I" "BellRibbons", .methodLinkNest "BellRibbons" 28 ⟨"BellRibbons$Law", "<init>", "()V"⟩ "BellRibbons", .fieldLinkNest "BellRibbons$LawReader" 56 "BellRibbons$Law" "clauses" "I" "BellRibbons", .fieldLinkNest "BellRibbons" 165 "BellRibbons$Law" "clauses" "I" "BellRibbons", .methodLinkNest "BellRibbons$LawReader" 11 ⟨"BellRibbons$Law", "<init>", "()V"⟩ "BellRibbons", .fieldLinkNest "BellRibbons" 158 "BellRibbons$LawReader" "draft" "LBellRibbons$Law;" "BellRibbons", .fieldLinkNest "BellRibbons$Leveller" 99 "BellRibbons$Scale" "heavy" "[I" "BellRibbons", .fieldLinkNest "BellRibbons$Watcher" 88 "BellRibbons$Scale" "heavy" "[I" "BellRibbons", .fieldLinkNest "BellRibbons$Payments" 149 "BellRibbons$Scale" "heavy" "[I" "BellRibbons", .fieldLinkNest "BellRibbons$Leveller" 101 "BellRibbons$Scale" "push" "[I" "BellRibbons", .fieldLinkNest "BellRibbons$Watcher" 91 "BellRibbons$Scale" "push" "[I" "BellRibbons", .fieldLinkNest "BellRibbons$Payments" 152 "BellRibbons$Scale" "push" "[I" "BellRibbons", .fieldLinkNest "BellRibbons" 172 "BellRibbons$Scale" "load" "[I" "BellRibbons", .fieldLinkNest "BellRibbons$Rush" 67 "BellRibbons$Scale" "moment" "[I" "BellRibbons", .fieldLinkNest "BellRibbons" 175 "BellRibbons$Scale" "moment" "[I" "BellRibbons", .fieldLinkNest "BellRibbons" 230 "BellRibbons$Payments" "first" "I" "BellRibbons", .fieldLinkNest "BellRibbons" 233 "BellRibbons$Payments" "second" "I" "BellRibbons", .fieldLinkNest "BellRibbons" 239 "BellRibbons$Payments" "others" "I" "BellRibbons", .fieldLinkNest "BellRibbons" 251 "BellRibbons$Leveller" "best" "[I" "BellRibbons", .fieldLinkNest "BellRibbons" 254 "BellRibbons$Leveller" "least" "I" "BellRibbons", .fieldLinkNest "BellRibbons" 286 "BellRibbons$Watcher" "gustWind" "I" "BellRibbons", .fieldLinkNest "BellRibbons" 289 "BellRibbons$Watcher" "gustCrowd" "I" "BellRibbons", .fieldLinkNest "BellRibbons" 308 "BellRibbons$Debts" "best" "[I" "BellRibbons", .fieldLinkNest "BellRibbons" 305 "BellRibbons$Debts" "people" "I" "BellRibbons", .fieldLinkNest "BellRibbons" 302 "BellRibbons$Debts" "cut" "I" "BellRibbons", .fieldLinkNest "BellRibbons" 319 "BellRibbons$Rush" "served" "I" "BellRibbons", .fieldLinkNest "BellRibbons" 322 "BellRibbons$Rush" "got" "I" "BellRibbons", .methodLinkNest "BellRibbons$Law" 95 ⟨"BellRibbons", "within", "(III)Z"⟩ "BellRibbons", .methodLinkNest "BellRibbons$Scale" 83 ⟨"BellRibbons", "leanOf", "(II)I"⟩ "BellRibbons", .methodLinkNest "BellRibbons$Leveller" 75 ⟨"BellRibbons", "reaches", "(I)Z"⟩ "BellRibbons", .methodLinkNest "BellRibbons$Watcher" 43 ⟨"BellRibbons", "reaches", "(I)Z"⟩ "BellRibbons", .methodLinkNest "BellRibbons$Tape" 23 ⟨"BellRibbons", "within", "(III)Z"⟩ "BellRibbons", .methodLinkNest "BellRibbons$Debts" 59 ⟨"BellRibbons", "areTwo", "(II)Z"⟩ "BellRibbons", .methodLinkNest "BellRibbons$Rush" 38 ⟨"BellRibbons", "isPerson", "(I)Z"⟩ "BellRibbons", .methodLinkNest "BellRibbons$Rush" 73 ⟨"BellRibbons", "leanOf", "(II)I"⟩ "BellRibbons"]
theorem nestW_in : ∀ w ∈ nestW, w ∈ lw_tbl := by decide +kernel
theorem nestW_ok : ∀ w ∈ nestW, w.onTables = true := by decide +kernel
/-- what the tables say of a method: its code's word, its kind, its descriptor -/
def mokB (M : MI) (i1 i2 i3 i4 : Nat) : Bool :=
  gat i1 (.code M.yn M.cd M.ml M.rt) && gat i2 (.initialized M.yn.cls) && (if (inf M).2.2.2.1 = 0 then gat i3 (.static M.yn) else gat i3 (.instanceMethod M.yn)) && (if (inf M).2.2.2.1 = 1 then gat i4 (.selects M.yn.cls M.yn M.yn) else true)
  && plainName M.yn.cls && decide (M.yn.cls ≠ "java/lang/invoke/MethodHandle") && decide (M.yn.cls ≠ "java/lang/invoke/VarHandle") && decide ((parseMethodDescriptor M.yn.desc).map (fun d => d.parameters.length) = some ((inf M).2.2.1 - (if (inf M).2.2.2.1 = 0 then 0 else 1)))
  && decide (M.ml ≤ 40) && decide (cn M.1 = M.yn.cls) && decide ((inf M).2.2.2.1 = 2 → M.yn.name = "<init>") && decide ((inf M).2.2.2.1 ≤ 2) && decide ((inf M).2.2.2.1 ≠ 0 → M.1 < 12 ∧ 1 ≤ (inf M).2.2.1) && decide ((inf M).2.1 = (match M.rt with | none => 0 | some .int => 1 | some .long => 2 | some .boolean => 3 | _ => 9))
def mokD (M : MI) : Prop := ∃ i1 i2 i3 i4, mokB M i1 i2 i3 i4 = true
