def RX0 : String := "CleanStand$Drive"
def TX0 : u_T := fun k => match k with
  | 0 => ("CleanStand$Drive", "sort", "I", false)
  | 1 => ("CleanStand$Drive", "street", "I", false)
  | 2 => ("CleanStand$Drive", "length", "I", false)
  | 3 => ("CleanStand$Drive", "lookCost", "I", false)
  | 4 => ("CleanStand$Drive", "speed", "[I", true)
  | 5 => ("CleanStand$Drive", "load", "[I", true)
  | 6 => ("CleanStand$Drive", "turn", "[I", true)
  | 7 => ("CleanStand$Drive", "height", "[I", true)
  | 8 => ("CleanStand$Drive", "heat", "[I", true)
  | 9 => ("CleanStand$Drive", "turned", "[I", true)
  | _ => ("CleanStand$Drive", "soot", "[I", true)
def tyX0 : Nat → FieldType := fun k => match k with
  | 0 => .int
  | 1 => .int
  | 2 => .int
  | 3 => .int
  | 4 => .array .int
  | 5 => .array .int
  | 6 => .array .int
  | 7 => .array .int
  | 8 => .array .int
  | 9 => .array .int
  | _ => .array .int
def RX1 : String := "CleanStand$Law"
def TX1 : u_T := fun k => match k with
  | 0 => ("CleanStand$Law", "lines", "I", false)
  | 1 => ("CleanStand$Law", "kind", "[I", true)
  | _ => ("CleanStand$Law", "number", "[I", true)
def tyX1 : Nat → FieldType := fun k => match k with
  | 0 => .int
  | 1 => .array .int
  | _ => .array .int
def RX2 : String := "CleanStand$Measures"
def TX2 : u_T := fun k => match k with
  | 0 => ("CleanStand$Measures", "size", "I", false)
  | 1 => ("CleanStand$Measures", "drive", "[I", true)
  | 2 => ("CleanStand$Measures", "tick", "[I", true)
  | _ => ("CleanStand$Measures", "air", "[I", true)
def tyX2 : Nat → FieldType := fun k => match k with
  | 0 => .int
  | 1 => .array .int
  | 2 => .array .int
  | _ => .array .int
def RX3 : String := "CleanStand$Outcome"
def TX3 : u_T := fun k => match k with
  | 0 => ("CleanStand$Outcome", "map", "[I", true)
  | 1 => ("CleanStand$Outcome", "line", "[I", true)
  | 2 => ("CleanStand$Outcome", "used", "[I", true)
  | 3 => ("CleanStand$Outcome", "turnedOff", "[I", true)
  | 4 => ("CleanStand$Outcome", "air", "[I", true)
  | 5 => ("CleanStand$Outcome", "allUsed", "I", false)
  | 6 => ("CleanStand$Outcome", "allTurnedOff", "I", false)
  | 7 => ("CleanStand$Outcome", "allAir", "I", false)
  | _ => ("CleanStand$Outcome", "emptied", "I", false)
def tyX3 : Nat → FieldType := fun k => match k with
  | 0 => .array .int
  | 1 => .array .int
  | 2 => .array .int
  | 3 => .array .int
  | 4 => .array .int
  | 5 => .int
  | 6 => .int
  | 7 => .int
  | _ => .int
def RX4 : String := "CleanStand$Program"
def TX4 : u_T := fun k => match k with
  | 0 => ("CleanStand$Program", "lines", "I", false)
  | 1 => ("CleanStand$Program", "map", "[I", true)
  | 2 => ("CleanStand$Program", "tests", "[I", true)
  | 3 => ("CleanStand$Program", "reading", "[I", true)
  | 4 => ("CleanStand$Program", "above", "[Z", true)
  | _ => ("CleanStand$Program", "number", "[I", true)
def tyX4 : Nat → FieldType := fun k => match k with
  | 0 => .int
  | 1 => .array .int
  | 2 => .array .int
  | 3 => .array .int
  | 4 => .array .boolean
  | _ => .array .int
def RX5 : String := "CleanStand$Questions"
def TX5 : u_T := fun k => match k with
  | 0 => ("CleanStand$Questions", "size", "I", false)
  | 1 => ("CleanStand$Questions", "land", "[I", true)
  | 2 => ("CleanStand$Questions", "version", "[I", true)
  | 3 => ("CleanStand$Questions", "reading", "[I", true)
  | _ => ("CleanStand$Questions", "toldIn", "[I", true)
def tyX5 : Nat → FieldType := fun k => match k with
  | 0 => .int
  | 1 => .array .int
  | 2 => .array .int
  | 3 => .array .int
  | _ => .array .int
def RX6 : String := "CleanStand$Text"
def TX6 : u_T := fun k => match k with
  | 0 => ("CleanStand$Text", "length", "I", false)
  | 1 => ("CleanStand$Text", "bytes", "[I", true)
  | 2 => ("CleanStand$Text", "start", "I", false)
  | _ => ("CleanStand$Text", "end", "I", false)
def tyX6 : Nat → FieldType := fun k => match k with
  | 0 => .int
  | 1 => .array .int
  | 2 => .int
  | _ => .int
def RX7 : String := "CleanStand"
def TX7 : u_T := fun k => match k with
  | 0 => ("CleanStand", "drives", "[LCleanStand$Drive;", true)
  | 1 => ("CleanStand", "programs", "[LCleanStand$Program;", true)
  | 2 => ("CleanStand", "laws", "[LCleanStand$Law;", true)
  | 3 => ("CleanStand", "text", "LCleanStand$Text;", true)
  | 4 => ("CleanStand", "doses", "[[I", true)
  | 5 => ("CleanStand", "settings", "[I", true)
  | 6 => ("CleanStand", "cars", "[I", true)
  | 7 => ("CleanStand", "fees", "[I", true)
  | 8 => ("CleanStand", "measures", "LCleanStand$Measures;", true)
  | 9 => ("CleanStand", "questions", "LCleanStand$Questions;", true)
  | 10 => ("CleanStand", "month", "I", false)
  | 11 => ("CleanStand", "draftProgram", "LCleanStand$Program;", false)
  | 12 => ("CleanStand", "draftLaw", "LCleanStand$Law;", false)
  | 13 => ("CleanStand", "outcome", "LCleanStand$Outcome;", true)
  | 14 => ("CleanStand", "readings", "[I", true)
  | 15 => ("CleanStand", "airOf", "[[I", true)
  | 16 => ("CleanStand", "usedOf", "[[I", true)
  | 17 => ("CleanStand", "caughtBy", "[I", true)
  | _ => ("CleanStand", "leastSets", "[I", true)
def tyX7 : Nat → FieldType := fun k => match k with
  | 0 => .array (.object "CleanStand$Drive")
  | 1 => .array (.object "CleanStand$Program")
  | 2 => .array (.object "CleanStand$Law")
  | 3 => .object "CleanStand$Text"
  | 4 => .array (.array .int)
  | 5 => .array .int
  | 6 => .array .int
  | 7 => .array .int
  | 8 => .object "CleanStand$Measures"
  | 9 => .object "CleanStand$Questions"
  | 10 => .int
  | 11 => .object "CleanStand$Program"
  | 12 => .object "CleanStand$Law"
  | 13 => .object "CleanStand$Outcome"
  | 14 => .array .int
  | 15 => .array (.array .int)
  | 16 => .array (.array .int)
  | 17 => .array .int
  | _ => .array .int
def RX8 : String := "CleanStandModel"
def TX8 : u_T := fun k => match k with
  | 0 => ("CleanStandModel", "sorts", "[I", true)
  | 1 => ("CleanStandModel", "streets", "[I", true)
  | 2 => ("CleanStandModel", "tickMany", "[I", true)
  | 3 => ("CleanStandModel", "speeds", "[I", true)
  | 4 => ("CleanStandModel", "loads", "[I", true)
  | 5 => ("CleanStandModel", "turns", "[I", true)
  | 6 => ("CleanStandModel", "heights", "[I", true)
  | 7 => ("CleanStandModel", "heats", "[I", true)
  | 8 => ("CleanStandModel", "doses", "[I", true)
  | 9 => ("CleanStandModel", "settings", "[I", true)
  | 10 => ("CleanStandModel", "text", "[I", true)
  | 11 => ("CleanStandModel", "length", "I", false)
  | 12 => ("CleanStandModel", "lineMany", "[I", true)
  | 13 => ("CleanStandModel", "lineMap", "[I", true)
  | 14 => ("CleanStandModel", "testMany", "[I", true)
  | 15 => ("CleanStandModel", "testReading", "[I", true)
  | 16 => ("CleanStandModel", "testAbove", "[I", true)
  | 17 => ("CleanStandModel", "testNumber", "[I", true)
  | 18 => ("CleanStandModel", "lawMany", "[I", true)
  | 19 => ("CleanStandModel", "lawKind", "[I", true)
  | 20 => ("CleanStandModel", "lawNumber", "[I", true)
  | 21 => ("CleanStandModel", "measureDrive", "[I", true)
  | 22 => ("CleanStandModel", "measureTick", "[I", true)
  | 23 => ("CleanStandModel", "measureAir", "[I", true)
  | 24 => ("CleanStandModel", "measures", "I", false)
  | 25 => ("CleanStandModel", "carMany", "[I", true)
  | 26 => ("CleanStandModel", "fees", "[I", true)
  | 27 => ("CleanStandModel", "costs", "[I", true)
  | 28 => ("CleanStandModel", "month", "I", false)
  | 29 => ("CleanStandModel", "askLand", "[I", true)
  | 30 => ("CleanStandModel", "askVersion", "[I", true)
  | 31 => ("CleanStandModel", "askReading", "[I", true)
  | 32 => ("CleanStandModel", "askTold", "[I", true)
  | 33 => ("CleanStandModel", "asks", "I", false)
  | 34 => ("CleanStandModel", "at", "I", false)
  | 35 => ("CleanStandModel", "place", "I", false)
  | 36 => ("CleanStandModel", "end", "I", false)
  | 37 => ("CleanStandModel", "figure", "I", false)
  | 38 => ("CleanStandModel", "used", "[I", true)
  | 39 => ("CleanStandModel", "off", "[I", true)
  | 40 => ("CleanStandModel", "air", "[I", true)
  | 41 => ("CleanStandModel", "allUsed", "I", false)
  | 42 => ("CleanStandModel", "allOff", "I", false)
  | 43 => ("CleanStandModel", "allAir", "I", false)
  | 44 => ("CleanStandModel", "emptied", "I", false)
  | 45 => ("CleanStandModel", "parted", "[I", true)
  | 46 => ("CleanStandModel", "airs", "[I", true)
  | 47 => ("CleanStandModel", "fixCost", "I", false)
  | _ => ("CleanStandModel", "caught", "[I", true)
def tyX8 : Nat → FieldType := fun k => match k with
  | 0 => .array .int
  | 1 => .array .int
  | 2 => .array .int
  | 3 => .array .int
  | 4 => .array .int
  | 5 => .array .int
  | 6 => .array .int
  | 7 => .array .int
  | 8 => .array .int
  | 9 => .array .int
  | 10 => .array .int
  | 11 => .int
  | 12 => .array .int
  | 13 => .array .int
  | 14 => .array .int
  | 15 => .array .int
  | 16 => .array .int
  | 17 => .array .int
  | 18 => .array .int
  | 19 => .array .int
  | 20 => .array .int
  | 21 => .array .int
  | 22 => .array .int
  | 23 => .array .int
  | 24 => .int
  | 25 => .array .int
  | 26 => .array .int
  | 27 => .array .int
  | 28 => .int
  | 29 => .array .int
  | 30 => .array .int
  | 31 => .array .int
  | 32 => .array .int
  | 33 => .int
  | 34 => .int
  | 35 => .int
  | 36 => .int
  | 37 => .int
  | 38 => .array .int
  | 39 => .array .int
  | 40 => .array .int
  | 41 => .int
  | 42 => .int
  | 43 => .int
  | 44 => .int
  | 45 => .array .int
  | 46 => .array .int
  | 47 => .int
  | _ => .array .int
def RL : String := "CleanStandLaw"
def RJ9 : String := "java/lang/Math"
def RJ0 : String := "java/lang/String"
def RJ1 : String := "java/lang/StringLatin1"
def RJ7 : String := "java/util/Arrays"
def RJ3 : String := "jdk/internal/util/Preconditions"
def yL_law : MethodName := ⟨RL, "law", "([I)Z"⟩
def yX0_init : MethodName := ⟨RX0, "<init>", "()V"⟩
def yX0_restart : MethodName := ⟨RX0, "restart", "(II)V"⟩
def yX0_append : MethodName := ⟨RX0, "append", "(IIIII)V"⟩
def yX0_fillSoot : MethodName := ⟨RX0, "fillSoot", "(I)V"⟩
def yX0_burnsOff : MethodName := ⟨RX0, "burnsOff", "(II)Z"⟩
def yX0_fillReadings : MethodName := ⟨RX0, "fillReadings", "(I[I)V"⟩
def yX1_init : MethodName := ⟨RX1, "<init>", "()V"⟩
def yX1_leastGram : MethodName := ⟨RX1, "leastGram", "()I"⟩
def yX2_init : MethodName := ⟨RX2, "<init>", "()V"⟩
def yX2_append : MethodName := ⟨RX2, "append", "(III)V"⟩
def yX3_init : MethodName := ⟨RX3, "<init>", "()V"⟩
def yX3_clear : MethodName := ⟨RX3, "clear", "()V"⟩
def yX3_add : MethodName := ⟨RX3, "add", "(IIIZ)V"⟩
def yX3_airUpTo : MethodName := ⟨RX3, "airUpTo", "(I)I"⟩
def yX4_init : MethodName := ⟨RX4, "<init>", "()V"⟩
def yX4_lineFor : MethodName := ⟨RX4, "lineFor", "([I)I"⟩
def yX4_isTaken : MethodName := ⟨RX4, "isTaken", "(I[I)Z"⟩
def yX4_mapOf : MethodName := ⟨RX4, "mapOf", "(I)I"⟩
def yX4_asksFor : MethodName := ⟨RX4, "asksFor", "(I)Z"⟩
def yX5_init : MethodName := ⟨RX5, "<init>", "()V"⟩
def yX5_append : MethodName := ⟨RX5, "append", "(III)V"⟩
def yX5_toldReadings : MethodName := ⟨RX5, "toldReadings", "(III)I"⟩
def yX5_howManyTold : MethodName := ⟨RX5, "howManyTold", "()I"⟩
def yX6_init : MethodName := ⟨RX6, "<init>", "()V"⟩
def yX6_append : MethodName := ⟨RX6, "append", "(JI)V"⟩
def yX6_faultAsProgram : MethodName := ⟨RX6, "faultAsProgram", "(LCleanStand$Program;)I"⟩
def yX6_faultAsLaw : MethodName := ⟨RX6, "faultAsLaw", "(LCleanStand$Law;)I"⟩
def yX6_takesProgramLine : MethodName := ⟨RX6, "takesProgramLine", "(LCleanStand$Program;I)Z"⟩
def yX6_takesTest : MethodName := ⟨RX6, "takesTest", "(LCleanStand$Program;I)Z"⟩
def yX6_takesLawLine : MethodName := ⟨RX6, "takesLawLine", "(LCleanStand$Law;I)Z"⟩
def yX6_takeKind : MethodName := ⟨RX6, "takeKind", "()I"⟩
def yX6_takeReading : MethodName := ⟨RX6, "takeReading", "()I"⟩
def yX6_wordOf : MethodName := ⟨RX6, "wordOf", "(I)Ljava/lang/String;"⟩
def yX6_goToFirst : MethodName := ⟨RX6, "goToFirst", "()V"⟩
def yX6_goToNext : MethodName := ⟨RX6, "goToNext", "()V"⟩
def yX6_isOfOneRow : MethodName := ⟨RX6, "isOfOneRow", "(II)Z"⟩
def yX6_isAt : MethodName := ⟨RX6, "isAt", "(Ljava/lang/String;)Z"⟩
def yX6_takesWord : MethodName := ⟨RX6, "takesWord", "(Ljava/lang/String;)Z"⟩
def yX6_takeNumber : MethodName := ⟨RX6, "takeNumber", "(I)I"⟩
def yX7_init : MethodName := ⟨RX7, "<init>", "()V"⟩
def yX7_drive : MethodName := ⟨RX7, "drive", "(III)I"⟩
def yX7_tick : MethodName := ⟨RX7, "tick", "(IIIIII)I"⟩
def yX7_dose : MethodName := ⟨RX7, "dose", "(III)I"⟩
def yX7_set : MethodName := ⟨RX7, "set", "(II)I"⟩
def yX7_reading : MethodName := ⟨RX7, "reading", "(III)I"⟩
def yX7_write : MethodName := ⟨RX7, "write", "(JI)I"⟩
def yX7_erase : MethodName := ⟨RX7, "erase", "()I"⟩
def yX7_fault : MethodName := ⟨RX7, "fault", "(I)I"⟩
def yX7_program : MethodName := ⟨RX7, "program", "(I)I"⟩
def yX7_law : MethodName := ⟨RX7, "law", "(I)I"⟩
def yX7_run : MethodName := ⟨RX7, "run", "(IIII)I"⟩
def yX7_all : MethodName := ⟨RX7, "all", "(III)I"⟩
def yX7_parts : MethodName := ⟨RX7, "parts", "(I)I"⟩
def yX7_bound : MethodName := ⟨RX7, "bound", "(I)I"⟩
def yX7_fewest : MethodName := ⟨RX7, "fewest", "()I"⟩
def yX7_spy : MethodName := ⟨RX7, "spy", "(III)I"⟩
def yX7_measure : MethodName := ⟨RX7, "measure", "(III)I"⟩
def yX7_lets : MethodName := ⟨RX7, "lets", "()I"⟩
def yX7_parting : MethodName := ⟨RX7, "parting", "(I)I"⟩
def yX7_breaks : MethodName := ⟨RX7, "breaks", "(II)I"⟩
def yX7_cold : MethodName := ⟨RX7, "cold", "(IIII)I"⟩
def yX7_lasts : MethodName := ⟨RX7, "lasts", "(II)I"⟩
def yX7_saves : MethodName := ⟨RX7, "saves", "(II)I"⟩
def yX7_cars : MethodName := ⟨RX7, "cars", "(III)I"⟩
def yX7_fix : MethodName := ⟨RX7, "fix", "(III)I"⟩
def yX7_owed : MethodName := ⟨RX7, "owed", "(I)I"⟩
def yX7_cost : MethodName := ⟨RX7, "cost", "(II)I"⟩
def yX7_looks : MethodName := ⟨RX7, "looks", "(II)I"⟩
def yX7_months : MethodName := ⟨RX7, "months", "(I)I"⟩
def yX7_ask : MethodName := ⟨RX7, "ask", "(III)I"⟩
def yX7_tell : MethodName := ⟨RX7, "tell", "(I)I"⟩
def yX7_known : MethodName := ⟨RX7, "known", "(III)I"⟩
def yX7_comes : MethodName := ⟨RX7, "comes", "(I)J"⟩
def yX7_count : MethodName := ⟨RX7, "count", "(I)I"⟩
def yX7_isBelow : MethodName := ⟨RX7, "isBelow", "(II)Z"⟩
def yX7_isUpTo : MethodName := ⟨RX7, "isUpTo", "(II)Z"⟩
def yX7_isTick : MethodName := ⟨RX7, "isTick", "(II)Z"⟩
def yX7_replaced : MethodName := ⟨RX7, "replaced", "([III)I"⟩
def yX7_ticksOfAllDrives : MethodName := ⟨RX7, "ticksOfAllDrives", "()I"⟩
def yX7_fillOutcome : MethodName := ⟨RX7, "fillOutcome", "(II)V"⟩
def yX7_fillTotals : MethodName := ⟨RX7, "fillTotals", "(I)V"⟩
def yX7_fillAllTotals : MethodName := ⟨RX7, "fillAllTotals", "()V"⟩
def yX7_usedOnRoads : MethodName := ⟨RX7, "usedOnRoads", "(I)I"⟩
def yX7_ticksWithout : MethodName := ⟨RX7, "ticksWithout", "(ILCleanStand$Drive;I)I"⟩
def yX7_isHidden : MethodName := ⟨RX7, "isHidden", "(LCleanStand$Program;LCleanStand$Drive;III)Z"⟩
def yX7_isAbove : MethodName := ⟨RX7, "isAbove", "(I)Z"⟩
def yX7_numberInTest : MethodName := ⟨RX7, "numberInTest", "(I)I"⟩
def yX7_partedRoads : MethodName := ⟨RX7, "partedRoads", "(I)I"⟩
def yX7_failsOn : MethodName := ⟨RX7, "failsOn", "(LCleanStand$Drive;II)Z"⟩
def yX7_addToLeastSets : MethodName := ⟨RX7, "addToLeastSets", "(III)V"⟩
def yX7_isLet : MethodName := ⟨RX7, "isLet", "(I)Z"⟩
def yX7_unlikeAirs : MethodName := ⟨RX7, "unlikeAirs", "(II)I"⟩
def yX7_brokenLines : MethodName := ⟨RX7, "brokenLines", "(II)I"⟩
def yX7_someAirAbove : MethodName := ⟨RX7, "someAirAbove", "(IIII)Z"⟩
def yX7_lawfulVersions : MethodName := ⟨RX7, "lawfulVersions", "(I)I"⟩
def yX7_cheapestFix : MethodName := ⟨RX7, "cheapestFix", "(II)I"⟩
def yX7_fixCost : MethodName := ⟨RX7, "fixCost", "(II)I"⟩
def yX7_fillCaught : MethodName := ⟨RX7, "fillCaught", "(I)V"⟩
def yX7_caughtByAny : MethodName := ⟨RX7, "caughtByAny", "(I)I"⟩
def yX7_lookCosts : MethodName := ⟨RX7, "lookCosts", "(I)I"⟩
def yX7_airInStreet : MethodName := ⟨RX7, "airInStreet", "(I)J"⟩
def yX7_blownAway : MethodName := ⟨RX7, "blownAway", "(J)J"⟩
def yX8_init : MethodName := ⟨RX8, "<init>", "()V"⟩
def yX8_in : MethodName := ⟨RX8, "in", "(JJJ)Z"⟩
def yX8_isDrive : MethodName := ⟨RX8, "isDrive", "(I)Z"⟩
def yX8_isFour : MethodName := ⟨RX8, "isFour", "(I)Z"⟩
def yX8_isLand : MethodName := ⟨RX8, "isLand", "(I)Z"⟩
def yX8_isTick : MethodName := ⟨RX8, "isTick", "(II)Z"⟩
def yX8_drive : MethodName := ⟨RX8, "drive", "(III)I"⟩
def yX8_tick : MethodName := ⟨RX8, "tick", "(IIIIII)I"⟩
def yX8_dose : MethodName := ⟨RX8, "dose", "(III)I"⟩
def yX8_set : MethodName := ⟨RX8, "set", "(II)I"⟩
def yX8_wheelOf : MethodName := ⟨RX8, "wheelOf", "(II)I"⟩
def yX8_sootOf : MethodName := ⟨RX8, "sootOf", "(II)I"⟩
def yX8_readingOf : MethodName := ⟨RX8, "readingOf", "(III)I"⟩
def yX8_reading : MethodName := ⟨RX8, "reading", "(III)I"⟩
def yX8_write : MethodName := ⟨RX8, "write", "(JI)I"⟩
def yX8_erase : MethodName := ⟨RX8, "erase", "()I"⟩
def yX8_sort : MethodName := ⟨RX8, "sort", "(I)I"⟩
def yX8_token : MethodName := ⟨RX8, "token", "()V"⟩
def yX8_isWord : MethodName := ⟨RX8, "isWord", "(II)Z"⟩
def yX8_skips : MethodName := ⟨RX8, "skips", "(II)Z"⟩
def yX8_skipsNumber : MethodName := ⟨RX8, "skipsNumber", "(I)Z"⟩
def yX8_skipsReading : MethodName := ⟨RX8, "skipsReading", "()Z"⟩
def yX8_readsTest : MethodName := ⟨RX8, "readsTest", "(I)Z"⟩
def yX8_readsLine : MethodName := ⟨RX8, "readsLine", "()Z"⟩
def yX8_readsLaw : MethodName := ⟨RX8, "readsLaw", "()Z"⟩
def yX8_readsOne : MethodName := ⟨RX8, "readsOne", "(I)Z"⟩
def yX8_faultAs : MethodName := ⟨RX8, "faultAs", "(I)I"⟩
def yX8_fault : MethodName := ⟨RX8, "fault", "(I)I"⟩
def yX8_program : MethodName := ⟨RX8, "program", "(I)I"⟩
def yX8_law : MethodName := ⟨RX8, "law", "(I)I"⟩
def yX8_lineOf : MethodName := ⟨RX8, "lineOf", "(III)I"⟩
def yX8_mapOf : MethodName := ⟨RX8, "mapOf", "(III)I"⟩
def yX8_layRun : MethodName := ⟨RX8, "layRun", "(II)V"⟩
def yX8_run : MethodName := ⟨RX8, "run", "(IIII)I"⟩
def yX8_all : MethodName := ⟨RX8, "all", "(III)I"⟩
def yX8_boundOf : MethodName := ⟨RX8, "boundOf", "(I)I"⟩
def yX8_partsOf : MethodName := ⟨RX8, "partsOf", "(I)I"⟩
def yX8_parts : MethodName := ⟨RX8, "parts", "(I)I"⟩
def yX8_bound : MethodName := ⟨RX8, "bound", "(I)I"⟩
def yX8_bits : MethodName := ⟨RX8, "bits", "(I)I"⟩
def yX8_fewest : MethodName := ⟨RX8, "fewest", "()I"⟩
def yX8_spy : MethodName := ⟨RX8, "spy", "(III)I"⟩
def yX8_measure : MethodName := ⟨RX8, "measure", "(III)I"⟩
def yX8_isLet : MethodName := ⟨RX8, "isLet", "(I)Z"⟩
def yX8_letsNow : MethodName := ⟨RX8, "letsNow", "()I"⟩
def yX8_lets : MethodName := ⟨RX8, "lets", "()I"⟩
def yX8_unlike : MethodName := ⟨RX8, "unlike", "(II)I"⟩
def yX8_parting : MethodName := ⟨RX8, "parting", "(I)I"⟩
def yX8_testsOf : MethodName := ⟨RX8, "testsOf", "(II)Z"⟩
def yX8_wasTold : MethodName := ⟨RX8, "wasTold", "(III)Z"⟩
def yX8_leastGram : MethodName := ⟨RX8, "leastGram", "(I)I"⟩
def yX8_hasMore : MethodName := ⟨RX8, "hasMore", "(IIII)Z"⟩
def yX8_breaksOf : MethodName := ⟨RX8, "breaksOf", "(II)I"⟩
def yX8_breaks : MethodName := ⟨RX8, "breaks", "(II)I"⟩
def yX8_cold : MethodName := ⟨RX8, "cold", "(IIII)I"⟩
def yX8_lasts : MethodName := ⟨RX8, "lasts", "(II)I"⟩
def yX8_usedOnRoads : MethodName := ⟨RX8, "usedOnRoads", "(I)I"⟩
def yX8_saves : MethodName := ⟨RX8, "saves", "(II)I"⟩
def yX8_cars : MethodName := ⟨RX8, "cars", "(III)I"⟩
def yX8_fixOf : MethodName := ⟨RX8, "fixOf", "(II)I"⟩
def yX8_fix : MethodName := ⟨RX8, "fix", "(III)I"⟩
def yX8_owed : MethodName := ⟨RX8, "owed", "(I)I"⟩
def yX8_cost : MethodName := ⟨RX8, "cost", "(II)I"⟩
def yX8_looks : MethodName := ⟨RX8, "looks", "(II)I"⟩
def yX8_months : MethodName := ⟨RX8, "months", "(I)I"⟩
def yX8_ask : MethodName := ⟨RX8, "ask", "(III)I"⟩
def yX8_tell : MethodName := ⟨RX8, "tell", "(I)I"⟩
def yX8_known : MethodName := ⟨RX8, "known", "(III)I"⟩
def yX8_madeIn : MethodName := ⟨RX8, "madeIn", "(I)J"⟩
def yX8_comes : MethodName := ⟨RX8, "comes", "(I)J"⟩
def yX8_count : MethodName := ⟨RX8, "count", "(I)I"⟩
def yJ9_abs_0f7a4 : MethodName := ⟨RJ9, "abs", "(I)I"⟩
def yJ9_max_7cf53 : MethodName := ⟨RJ9, "max", "(II)I"⟩
def yJ9_min_7cf53 : MethodName := ⟨RJ9, "min", "(II)I"⟩
def yJ9_min_f86c9 : MethodName := ⟨RJ9, "min", "(JJ)J"⟩
def yJ0_length_8abf5 : MethodName := ⟨RJ0, "length", "()I"⟩
def yJ0_charAt_5068e : MethodName := ⟨RJ0, "charAt", "(I)C"⟩
def yJ0_coder_7d493 : MethodName := ⟨RJ0, "coder", "()B"⟩
def yJ0_isLatin1_aae02 : MethodName := ⟨RJ0, "isLatin1", "()Z"⟩
def yJ0_checkIndex_df160 : MethodName := ⟨RJ0, "checkIndex", "(II)V"⟩
def yJ1_charAt_3b067 : MethodName := ⟨RJ1, "charAt", "([BI)C"⟩
def yJ7_fill_53178 : MethodName := ⟨RJ7, "fill", "([II)V"⟩
def yJ3_checkIndex_8e157 : MethodName := ⟨RJ3, "checkIndex", "(IILjava/util/function/BiFunction;)I"⟩
def pm_R (i : Nat) : String := ([RX0, RX1, RX2, RX3, RX4, RX5, RX6, RX7, RX8, RL, RJ9, RJ0, RJ1, RJ7, RJ3] : List String).getD i ""
abbrev pm_cls : List vw_C := [(RX0, TX0, 11), (RX1, TX1, 3), (RX2, TX2, 4), (RX3, TX3, 9), (RX4, TX4, 6), (RX5, TX5, 5), (RX6, TX6, 4), (RX7, TX7, 19), (RX8, TX8, 49)]
def pm_N (ci : Nat) : Nat := ([11, 3, 4, 9, 6, 5, 4, 19, 49] : List Nat).getD ci 0
def pm_ty (ci : Nat) : Nat → FieldType := match ci with
  | 0 => tyX0
  | 1 => tyX1
  | 2 => tyX2
  | 3 => tyX3
  | 4 => tyX4
  | 5 => tyX5
  | 6 => tyX6
  | 7 => tyX7
  | _ => tyX8
def pm_isR (ci k : Nat) : Bool := match pm_ty ci k with
  | .int => false
  | _ => true
def pm_fin (ci k : Nat) : Bool := match pm_cls[ci]? with
  | some q => (q.2.1 k).2.2.2
  | none => false
/-- a method: its name, bytes, locals, answer, code class, height, cells and slots that it may make, masks at its joins -/
abbrev pm_E : Type := MethodName × ByteArray × Nat × Option FieldType × Nat × Nat × Nat × Nat × List (Nat × List Bool)
def pm_mts_0 : List pm_E := [(yL_law, code, 4, (some .boolean), 9, 13, 600000, 7302250, [(1355, [false, false, false, false])]),
  (yX0_init, prog_2_method_1_code, 1, none, 0, 1, 20, 400, []),
  (yX0_restart, prog_2_method_2_code, 3, none, 0, 1, 0, 0, []),
  (yX0_append, prog_2_method_3_code, 6, none, 0, 2, 0, 0, [(85, [true, false, false, false, false, false]), (96, [true, false, false, false, false, false])]),
  (yX0_fillSoot, prog_2_method_4_code, 4, none, 0, 2, 0, 0, [(43, [true, true, false, true]), (50, [false, false, false, false])]),
  (yX0_burnsOff, prog_2_method_5_code, 3, (some .boolean), 0, 1, 0, 0, [(24, [false, false, false]), (25, [false, false, false])]),
  (yX0_fillReadings, prog_2_method_6_code, 3, none, 0, 2, 0, 0, []),
  (yX1_init, prog_3_method_1_code, 1, none, 1, 1, 20, 400, []),
  (yX1_leastGram, prog_3_method_2_code, 3, (some .int), 1, 1, 0, 0, [(36, [true, false, true]), (49, [false, true, false])]),
  (yX2_init, prog_4_method_1_code, 1, none, 2, 1, 20, 400, []),
  (yX2_append, prog_4_method_2_code, 4, none, 2, 1, 0, 0, []),
  (yX3_init, prog_5_method_1_code, 1, none, 3, 1, 20, 400, []),
  (yX3_clear, prog_5_method_2_code, 1, none, 3, 1, 0, 0, []),
  (yX3_add, prog_5_method_3_code, 6, none, 3, 2, 0, 0, [(43, [true, true, false, true, true, true]), (44, [true, true, false, true, true, true]), (96, [false, false, false, false, false, false]), (97, [false, false, false, false, false, false])]),
  (yX3_airUpTo, prog_5_method_4_code, 4, (some .int), 3, 1, 0, 0, [(24, [false, false, true, false])]),
  (yX4_init, prog_6_method_1_code, 1, none, 4, 1, 20, 400, [])]
def pm_mts_1 : List pm_E := [(yX4_lineFor, prog_6_method_2_code, 3, (some .int), 4, 2, 0, 0, [(27, [false, false, false])]),
  (yX4_isTaken, prog_6_method_3_code, 6, (some .boolean), 4, 1, 0, 0, [(7, [true, true, true, true, true, false]), (68, [false, false, false, false, false, false]), (70, [true, true, true, true, true, false]), (76, [false, false, false, false, false, false])]),
  (yX4_mapOf, prog_6_method_4_code, 2, (some .int), 4, 1, 0, 0, [(15, [false, false])]),
  (yX4_asksFor, prog_6_method_5_code, 5, (some .boolean), 4, 1, 0, 0, [(2, [true, true, true, false, false]), (49, [true, true, true, false, false]), (55, [false, false, false, false, false])]),
  (yX5_init, prog_7_method_1_code, 1, none, 5, 1, 20, 400, []),
  (yX5_append, prog_7_method_2_code, 4, none, 5, 1, 0, 0, []),
  (yX5_toldReadings, prog_7_method_3_code, 6, (some .int), 5, 1, 0, 0, [(79, [false, false, false, false, true, false])]),
  (yX5_howManyTold, prog_7_method_4_code, 3, (some .int), 5, 1, 0, 0, [(27, [true, false, true]), (28, [true, false, true]), (36, [false, true, false])]),
  (yX6_init, prog_8_method_1_code, 1, none, 6, 1, 20, 400, []),
  (yX6_append, prog_8_method_2_code, 5, none, 6, 1, 0, 0, [(3, [true, true, false, true, true]), (56, [false, false, false, false, false])]),
  (yX6_faultAsProgram, prog_8_method_3_code, 4, (some .int), 6, 9, 0, 0, [(37, [true, true, false, true]), (66, [true, true, false, true]), (67, [true, true, false, true]), (74, [true, false, false, false]), (89, [true, false, false, false]), (93, [false, false, false, false])]),
  (yX6_faultAsLaw, prog_8_method_4_code, 4, (some .int), 6, 9, 0, 0, [(37, [true, true, false, true]), (66, [true, true, false, true]), (67, [true, true, false, true]), (74, [true, false, false, false]), (89, [true, false, false, false]), (93, [false, false, false, false])]),
  (yX6_takesProgramLine, prog_8_method_5_code, 5, (some .boolean), 6, 8, 0, 0, [(18, [true, true, true, false, false]), (41, [true, true, true, false, false]), (77, [true, true, true, false, true]), (110, [true, true, true, false, true]), (111, [true, true, true, false, true]), (118, [false, false, false, false, false])]),
  (yX6_takesTest, prog_8_method_6_code, 3, (some .boolean), 6, 7, 0, 0, [(81, [false, false, false]), (82, [false, false, false])]),
  (yX6_takesLawLine, prog_8_method_7_code, 4, (some .boolean), 6, 8, 0, 0, [(22, [true, true, true, false]), (42, [true, true, true, false]), (46, [true, true, true, false]), (47, [true, true, true, false]), (64, [true, true, true, false]), (71, [false, true, true, false]), (86, [false, false, false, false]), (87, [false, false, false, false])]),
  (yX6_takeKind, prog_8_method_8_code, 1, (some .int), 6, 7, 0, 0, [(46, [false]), (47, [false])])]
def pm_mts_2 : List pm_E := [(yX6_takeReading, prog_8_method_9_code, 2, (some .int), 6, 6, 0, 0, [(31, [false, false])]),
  (yX6_wordOf, prog_8_method_10_code, 1, (some (.object "java/lang/String")), 6, 1, 0, 0, [(44, [false]), (47, [false]), (50, [false]), (53, [false]), (56, [false]), (59, [false]), (62, [false]), (65, [false])]),
  (yX6_goToFirst, prog_8_method_11_code, 1, none, 6, 3, 0, 0, []),
  (yX6_goToNext, prog_8_method_12_code, 1, none, 6, 2, 0, 0, [(111, [false])]),
  (yX6_isOfOneRow, prog_8_method_13_code, 4, (some .boolean), 6, 1, 0, 0, [(28, [true, true, false, false]), (29, [true, true, false, false]), (58, [false, false, true, false]), (59, [false, false, true, false]), (68, [false, false, false, false]), (72, [false, false, false, false]), (73, [false, false, false, false])]),
  (yX6_isAt, prog_8_method_14_code, 3, (some .boolean), 6, 5, 0, 0, [(18, [true, true, false]), (55, [false, false, false])]),
  (yX6_takesWord, prog_8_method_15_code, 2, (some .boolean), 6, 6, 0, 0, [(10, [true, false])]),
  (yX6_takeNumber, prog_8_method_16_code, 4, (some .int), 6, 3, 0, 0, [(52, [false, false, false, false]), (54, [true, true, false, false]), (90, [true, true, true, false]), (97, [true, false, true, false])]),
  (yX7_init, prog_1_method_1_code, 2, none, 7, 2, 1000, 20000, [(207, [true, false]), (233, [true, false]), (259, [true, false])]),
  (yX7_drive, prog_1_method_2_code, 4, (some .int), 7, 2, 0, 0, [(17, [false, false, false, false])]),
  (yX7_tick, prog_1_method_3_code, 8, (some .int), 7, 3, 0, 0, [(12, [true, true, true, true, true, true, true, false]), (65, [false, false, false, false, false, false, false, false]), (68, [true, true, true, true, true, true, true, false]), (89, [true, false, true, true, true, true, true, true])]),
  (yX7_dose, prog_1_method_4_code, 4, (some .int), 7, 2, 0, 0, [(28, [false, false, false, false])]),
  (yX7_set, prog_1_method_5_code, 5, (some .int), 7, 3, 0, 0, [(30, [false, false, false, false, false]), (33, [true, true, true, false, false]), (46, [true, false, false, true, true]), (75, [false, false, false, true, false])]),
  (yX7_reading, prog_1_method_6_code, 4, (some .int), 7, 3, 0, 0, []),
  (yX7_write, prog_1_method_7_code, 4, (some .int), 7, 2, 0, 0, [(11, [false, false, false, false]), (14, [true, true, false, true]), (32, [true, true, false, true])]),
  (yX7_erase, prog_1_method_8_code, 2, (some .int), 7, 1, 0, 0, [])]
def pm_mts_3 : List pm_E := [(yX7_fault, prog_1_method_9_code, 2, (some .int), 7, 10, 0, 0, [(35, [false, false]), (37, [false, false])]),
  (yX7_program, prog_1_method_10_code, 3, (some .int), 7, 10, 0, 0, [(11, [true, true, false]), (29, [true, true, false])]),
  (yX7_law, prog_1_method_11_code, 3, (some .int), 7, 10, 0, 0, [(11, [true, true, false]), (29, [true, true, false])]),
  (yX7_run, prog_1_method_12_code, 5, (some .int), 7, 4, 0, 0, [(17, [false, false, false, false, false]), (64, [true, false, false, true, false]), (74, [true, false, false, true, false]), (84, [true, false, false, true, false]), (94, [true, false, false, true, false]), (104, [true, false, false, true, false]), (114, [false, false, false, false, false])]),
  (yX7_all, prog_1_method_13_code, 4, (some .int), 7, 4, 0, 0, [(17, [false, false, false, false]), (56, [true, false, false, false]), (64, [true, false, false, false]), (72, [true, false, false, false]), (80, [true, false, false, false]), (88, [false, false, false, false])]),
  (yX7_parts, prog_1_method_14_code, 2, (some .int), 7, 5, 0, 0, [(17, [false, false]), (19, [false, false])]),
  (yX7_bound, prog_1_method_15_code, 2, (some .int), 7, 4, 0, 0, [(17, [false, false]), (19, [false, false])]),
  (yX7_fewest, prog_1_method_16_code, 5, (some .int), 7, 5, 0, 0, [(22, [true, true, true, true, false]), (54, [true, false, true, false, false])]),
  (yX7_spy, prog_1_method_17_code, 7, (some .int), 7, 4, 0, 0, [(25, [false, false, false, false, false, false, false]), (28, [true, true, true, true, false, false, false]), (39, [true, true, false, true, true, true, false]), (49, [true, true, false, true, true, true, true]), (101, [true, true, false, true, true, true, true]), (107, [true, true, false, true, true, true, false]), (113, [false, false, false, false, false, false, false])]),
  (yX7_measure, prog_1_method_18_code, 4, (some .int), 7, 3, 0, 0, []),
  (yX7_lets, prog_1_method_19_code, 3, (some .int), 7, 5, 0, 0, [(29, [false, true, false])]),
  (yX7_parting, prog_1_method_20_code, 7, (some .int), 7, 6, 0, 0, [(11, [true, true, false, false, false, false, false]), (28, [true, true, true, true, true, true, false]), (58, [true, true, true, true, true, true, false]), (64, [false, true, false, true, true, false, false]), (72, [false, false, false, false, true, false, false]), (74, [false, false, false, false, false, false, false])]),
  (yX7_breaks, prog_1_method_21_code, 3, (some .int), 7, 5, 0, 0, [(16, [false, false, false])]),
  (yX7_cold, prog_1_method_22_code, 8, (some .int), 7, 4, 0, 0, [(16, [false, false, false, false, false, false, false, false]), (19, [true, true, true, true, true, false, false, false]), (37, [false, false, false, false, false, false, false, false]), (40, [true, true, true, true, true, false, false, false]), (49, [true, true, true, false, false, false, false, false]), (51, [true, true, true, false, false, false, false, false]), (59, [true, true, true, false, false, true, true, true]), (106, [true, true, true, false, false, true, true, true]), (112, [false, false, false, false, false, false, true, false])]),
  (yX7_lasts, prog_1_method_23_code, 3, (some .int), 7, 4, 0, 0, [(17, [false, false, false]), (55, [true, false, false])]),
  (yX7_saves, prog_1_method_24_code, 3, (some .int), 7, 5, 0, 0, [(16, [false, false, false])])]
def pm_mts_4 : List pm_E := [(yX7_cars, prog_1_method_25_code, 4, (some .int), 7, 2, 0, 0, [(39, [false, false, false, false]), (53, [true, true, false, true]), (57, [false, true, false, true])]),
  (yX7_fix, prog_1_method_26_code, 5, (some .int), 7, 6, 0, 0, [(16, [false, false, false, false, false]), (19, [true, true, true, true, false]), (30, [true, true, true, true, false]), (55, [true, true, false, false, true]), (62, [false, false, false, false, false])]),
  (yX7_owed, prog_1_method_27_code, 6, (some .int), 7, 6, 0, 0, [(11, [true, true, false, false, false, false]), (26, [true, false, true, true, false, true]), (64, [false, false, false, true, false, false])]),
  (yX7_cost, prog_1_method_28_code, 4, (some .int), 7, 2, 0, 0, [(12, [true, true, true, false]), (24, [true, true, true, false])]),
  (yX7_looks, prog_1_method_29_code, 7, (some .int), 7, 6, 0, 0, [(18, [false, false, false, false, false, false, false]), (21, [true, true, true, false, false, false, false]), (48, [true, false, true, true, true, false, false]), (54, [true, false, true, false, true, true, true]), (89, [true, false, true, false, true, true, true]), (95, [true, false, true, false, false, true, false]), (104, [true, false, false, false, false, true, false]), (110, [false, false, false, false, false, false, false])]),
  (yX7_months, prog_1_method_30_code, 2, (some .int), 7, 1, 0, 0, [(23, [false, false])]),
  (yX7_ask, prog_1_method_31_code, 4, (some .int), 7, 2, 0, 0, [(16, [false, false, false, false])]),
  (yX7_tell, prog_1_method_32_code, 2, (some .int), 7, 2, 0, 0, []),
  (yX7_known, prog_1_method_33_code, 4, (some .int), 7, 2, 0, 0, [(16, [false, false, false, false]), (42, [false, false, false, false]), (44, [false, false, false, false])]),
  (yX7_comes, prog_1_method_34_code, 6, (some .long), 7, 6, 0, 0, [(12, [true, true, false, false, false, false])]),
  (yX7_count, prog_1_method_35_code, 2, (some .int), 7, 2, 0, 0, [(40, [true, false]), (45, [true, false]), (53, [true, false]), (61, [true, false]), (69, [true, false]), (77, [true, false]), (82, [false, false])]),
  (yX7_isBelow, prog_1_method_36_code, 2, (some .boolean), 7, 1, 0, 0, [(13, [false, false]), (14, [false, false])]),
  (yX7_isUpTo, prog_1_method_37_code, 2, (some .boolean), 7, 1, 0, 0, [(13, [false, false]), (14, [false, false])]),
  (yX7_isTick, prog_1_method_38_code, 3, (some .boolean), 7, 2, 0, 0, [(29, [false, false, false]), (30, [false, false, false])]),
  (yX7_replaced, prog_1_method_39_code, 4, (some .int), 7, 1, 0, 0, []),
  (yX7_ticksOfAllDrives, prog_1_method_40_code, 3, (some .int), 7, 1, 0, 0, [(28, [false, true, false])])]
def pm_mts_5 : List pm_E := [(yX7_fillOutcome, prog_1_method_41_code, 11, none, 7, 3, 0, 0, [(33, [true, false, false, true, true, true, true, false, false, false, false]), (182, [false, false, false, false, false, false, false, false, false, false, false])]),
  (yX7_fillTotals, prog_1_method_42_code, 3, none, 7, 4, 0, 0, [(50, [false, false, false])]),
  (yX7_fillAllTotals, prog_1_method_43_code, 2, none, 7, 5, 0, 0, [(18, [false, false])]),
  (yX7_usedOnRoads, prog_1_method_44_code, 4, (some .int), 7, 1, 0, 0, [(40, [false, false, true, false])]),
  (yX7_ticksWithout, prog_1_method_45_code, 6, (some .int), 7, 1, 0, 0, [(49, [false, false, false, false, true, false])]),
  (yX7_isHidden, prog_1_method_46_code, 8, (some .boolean), 7, 3, 0, 0, [(88, [false, false, false, false, false, false, false, false])]),
  (yX7_isAbove, prog_1_method_47_code, 1, (some .boolean), 7, 1, 0, 0, [(11, [false]), (12, [false])]),
  (yX7_numberInTest, prog_1_method_48_code, 8, (some .int), 7, 3, 0, 0, [(10, [true, true, true, true, true, false, false, false]), (29, [true, true, true, true, true, true, true, false]), (92, [true, true, true, false, true, true, true, true]), (95, [true, true, true, true, true, true, true, false]), (101, [true, true, true, true, true, false, false, false]), (107, [false, false, true, true, false, false, false, false]), (114, [false, false, true, true, false, false, false, false]), (124, [false, false, false, true, false, false, false, false]), (127, [false, false, false, false, false, false, false, false])]),
  (yX7_partedRoads, prog_1_method_49_code, 5, (some .int), 7, 4, 0, 0, [(66, [false, false, false, true, false])]),
  (yX7_failsOn, prog_1_method_50_code, 6, (some .boolean), 7, 3, 0, 0, [(3, [true, true, true, true, true, false]), (54, [false, false, false, false, false, false]), (56, [true, true, true, true, true, false]), (62, [false, false, false, false, false, false])]),
  (yX7_addToLeastSets, prog_1_method_51_code, 7, none, 7, 2, 0, 0, [(18, [true, false, true, true, true, true, false]), (75, [true, false, true, true, true, true, false]), (81, [false, false, false, false, false, false, false])]),
  (yX7_isLet, prog_1_method_52_code, 5, (some .boolean), 7, 4, 0, 0, [(2, [true, true, true, false, false]), (75, [true, true, true, false, false]), (81, [false, false, false, false, false])]),
  (yX7_unlikeAirs, prog_1_method_53_code, 7, (some .int), 7, 1, 0, 0, [(5, [true, true, true, true, true, false, false]), (25, [true, true, true, true, true, false, false]), (26, [true, true, true, true, true, false, false]), (78, [true, true, true, true, true, true, false]), (86, [true, true, true, true, true, false, false]), (92, [false, false, false, true, false, false, false])]),
  (yX7_brokenLines, prog_1_method_54_code, 10, (some .int), 7, 2, 0, 0, [(33, [true, true, false, true, true, true, true, true, false, false]), (92, [true, true, false, true, true, true, true, true, true, false]), (107, [true, true, false, true, true, true, true, true, true, false]), (134, [true, true, false, true, true, true, true, true, false, false]), (135, [true, true, false, true, true, true, true, true, false, false]), (140, [true, true, false, true, true, true, true, true, true, false]), (156, [true, true, false, true, true, true, true, true, true, false]), (184, [true, true, false, true, true, true, true, true, false, false]), (185, [true, true, false, true, true, true, true, true, false, false]), (190, [true, true, false, true, true, true, true, true, false, true]), (204, [true, true, false, true, true, true, true, true, false, false]), (210, [false, false, false, false, false, false, true, false, false, false])]),
  (yX7_someAirAbove, prog_1_method_55_code, 7, (some .boolean), 7, 1, 0, 0, [(3, [true, true, true, true, true, true, false]), (52, [true, true, true, true, true, true, false]), (58, [false, false, false, false, false, false, false])]),
  (yX7_lawfulVersions, prog_1_method_56_code, 4, (some .int), 7, 3, 0, 0, [(30, [false, false, true, false])])]
def pm_mts_6 : List pm_E := [(yX7_cheapestFix, prog_1_method_57_code, 5, (some .int), 7, 3, 0, 0, [(45, [false, false, false, true, false])]),
  (yX7_fixCost, prog_1_method_58_code, 3, (some .int), 7, 2, 0, 0, []),
  (yX7_fillCaught, prog_1_method_59_code, 4, none, 7, 1, 0, 0, [(2, [true, true, true, false]), (65, [true, true, true, false]), (71, [false, false, false, false])]),
  (yX7_caughtByAny, prog_1_method_60_code, 4, (some .int), 7, 1, 0, 0, [(34, [false, false, true, false])]),
  (yX7_lookCosts, prog_1_method_61_code, 4, (some .int), 7, 1, 0, 0, [(37, [false, false, true, false])]),
  (yX7_airInStreet, prog_1_method_62_code, 6, (some .long), 7, 1, 0, 0, [(5, [true, true, true, false, true, false]), (43, [true, true, true, false, true, true]), (78, [true, true, true, false, true, false]), (84, [false, false, true, false, false, false])]),
  (yX7_blownAway, prog_1_method_63_code, 3, (some .long), 7, 1, 0, 0, []),
  (yX8_init, prog_10_method_1_code, 1, none, 8, 1, 100, 5000, []),
  (yX8_in, prog_10_method_2_code, 6, (some .boolean), 8, 1, 0, 0, [(17, [false, false, false, false, false, false]), (18, [false, false, false, false, false, false])]),
  (yX8_isDrive, prog_10_method_3_code, 1, (some .boolean), 8, 2, 0, 0, []),
  (yX8_isFour, prog_10_method_4_code, 1, (some .boolean), 8, 2, 0, 0, []),
  (yX8_isLand, prog_10_method_5_code, 1, (some .boolean), 8, 2, 0, 0, []),
  (yX8_isTick, prog_10_method_6_code, 3, (some .boolean), 8, 3, 0, 0, [(29, [false, false, false]), (30, [false, false, false])]),
  (yX8_drive, prog_10_method_7_code, 4, (some .int), 8, 3, 0, 0, [(14, [false, false, false, false])]),
  (yX8_tick, prog_10_method_8_code, 8, (some .int), 8, 3, 0, 0, [(10, [true, true, true, true, true, true, true, false]), (75, [false, false, false, false, false, false, false, false]), (78, [true, true, true, true, true, true, true, false]), (92, [true, true, true, true, true, true, true, false])]),
  (yX8_dose, prog_10_method_9_code, 5, (some .int), 8, 3, 0, 0, [(10, [true, true, true, true, false]), (29, [false, false, false, false, false]), (32, [true, true, true, true, false])])]
def pm_mts_7 : List pm_E := [(yX8_set, prog_10_method_10_code, 4, (some .int), 8, 3, 0, 0, [(20, [true, true, true, false]), (21, [true, true, true, false]), (31, [true, true, true, false]), (42, [true, true, true, false]), (53, [true, true, true, false]), (56, [true, true, true, false]), (62, [false, false, false, false]), (65, [true, true, true, false])]),
  (yX8_wheelOf, prog_10_method_11_code, 4, (some .int), 8, 1, 0, 0, [(21, [false, false, false, true]), (22, [false, false, false, false])]),
  (yX8_sootOf, prog_10_method_12_code, 5, (some .int), 8, 1, 0, 0, [(44, [true, true, true, false, true]), (51, [false, false, false, true, false])]),
  (yX8_readingOf, prog_10_method_13_code, 7, (some .int), 8, 2, 0, 0, [(56, [false, false, true, false, false, false, false]), (58, [true, true, true, false, false, false, false]), (65, [true, true, true, false, false, true, false]), (68, [true, true, true, false, false, true, true]), (92, [false, false, false, false, false, true, false]), (95, [true, false, false, false, true, false, false]), (103, [true, false, false, false, true, false, false]), (111, [true, false, false, false, true, false, false]), (119, [true, false, false, false, true, false, false]), (127, [true, true, true, false, false, false, false])]),
  (yX8_reading, prog_10_method_14_code, 4, (some .int), 8, 4, 0, 0, [(34, [false, false, false, false]), (36, [false, false, false, false])]),
  (yX8_write, prog_10_method_15_code, 5, (some .int), 8, 2, 0, 0, [(15, [true, true, false, true, false]), (30, [true, true, false, true, false]), (33, [true, true, false, true, true]), (76, [true, false, false, false, false])]),
  (yX8_erase, prog_10_method_16_code, 2, (some .int), 8, 1, 0, 0, []),
  (yX8_sort, prog_10_method_17_code, 1, (some .int), 8, 1, 0, 0, [(32, [false]), (33, [false])]),
  (yX8_token, prog_10_method_18_code, 1, none, 8, 2, 0, 0, []),
  (yX8_isWord, prog_10_method_19_code, 5, (some .boolean), 8, 1, 0, 0, [(17, [true, true, true, false, false]), (18, [true, true, true, false, false]), (63, [true, true, true, false, true]), (64, [true, true, true, false, true]), (71, [false, false, false, true, false])]),
  (yX8_skips, prog_10_method_20_code, 4, (some .boolean), 8, 3, 0, 0, [(15, [false, false, false, true])]),
  (yX8_skipsNumber, prog_10_method_21_code, 4, (some .boolean), 8, 3, 0, 0, [(44, [true, true, false, false]), (45, [true, true, false, false]), (95, [true, true, true, false]), (111, [true, false, false, false]), (112, [true, false, false, false]), (121, [false, false, true, false])]),
  (yX8_skipsReading, prog_10_method_22_code, 2, (some .boolean), 8, 3, 0, 0, [(14, [true, false]), (28, [true, false]), (43, [true, false]), (58, [true, false]), (72, [true, false]), (86, [true, false]), (101, [true, false]), (116, [true, false]), (117, [true, false])]),
  (yX8_readsTest, prog_10_method_23_code, 4, (some .boolean), 8, 4, 0, 0, [(9, [true, true, false, false]), (83, [true, true, true, false]), (84, [true, true, true, false])]),
  (yX8_readsLine, prog_10_method_24_code, 3, (some .boolean), 8, 5, 0, 0, [(36, [false, false, false]), (38, [true, true, false]), (70, [true, true, false]), (95, [true, true, false]), (96, [true, true, false]), (100, [true, false, false])]),
  (yX8_readsLaw, prog_10_method_25_code, 3, (some .boolean), 8, 4, 0, 0, [(24, [true, true, false]), (38, [true, true, false]), (53, [true, true, false]), (68, [true, true, false]), (69, [true, true, false]), (106, [false, false, false])])]
def pm_mts_8 : List pm_E := [(yX8_readsOne, prog_10_method_26_code, 2, (some .boolean), 8, 6, 0, 0, [(11, [true, false]), (15, [false, false])]),
  (yX8_faultAs, prog_10_method_27_code, 3, (some .int), 8, 7, 0, 0, [(36, [true, true, false]), (92, [true, true, false]), (103, [true, true, false]), (107, [true, true, false]), (108, [true, true, false]), (132, [true, true, false]), (135, [false, false, false])]),
  (yX8_fault, prog_10_method_28_code, 2, (some .int), 8, 8, 0, 0, [(18, [false, false]), (20, [false, false])]),
  (yX8_program, prog_10_method_29_code, 4, (some .int), 8, 8, 0, 0, [(10, [true, true, false, false]), (22, [true, true, false, false]), (36, [true, true, true, false]), (183, [true, true, true, false]), (189, [true, true, false, false])]),
  (yX8_law, prog_10_method_30_code, 3, (some .int), 8, 8, 0, 0, [(10, [true, true, false]), (22, [true, true, false]), (92, [true, true, false])]),
  (yX8_lineOf, prog_10_method_31_code, 8, (some .int), 8, 3, 0, 0, [(6, [true, true, true, true, true, false, false, false]), (31, [true, true, true, true, true, true, true, false]), (94, [true, true, true, true, true, false, true, true]), (106, [true, true, true, true, true, false, true, false]), (110, [true, true, true, true, true, false, true, false]), (111, [true, true, true, true, true, false, true, false]), (119, [true, true, true, true, true, true, false, false]), (132, [true, true, true, true, true, false, false, false]), (138, [false, false, false, false, false, false, false, false])]),
  (yX8_mapOf, prog_10_method_32_code, 5, (some .int), 8, 4, 0, 0, [(19, [true, true, false, false, true]), (31, [false, false, false, false, false])]),
  (yX8_layRun, prog_10_method_33_code, 9, none, 8, 5, 0, 0, [(33, [true, true, true, true, true, true, false, false, false]), (117, [true, true, true, true, true, true, true, true, false]), (118, [true, true, true, true, true, true, true, true, false]), (161, [true, true, true, true, true, true, true, true, false]), (163, [true, true, true, true, true, true, true, true, false]), (232, [true, true, true, true, true, true, false, false, false]), (286, [false, false, false, false, false, false, false, false, false])]),
  (yX8_run, prog_10_method_34_code, 5, (some .int), 8, 6, 0, 0, [(16, [false, false, false, false, false]), (72, [true, false, false, true, true]), (87, [true, false, false, true, true]), (102, [true, false, false, true, false]), (108, [false, false, false, false, false])]),
  (yX8_all, prog_10_method_35_code, 4, (some .int), 8, 6, 0, 0, [(14, [false, false, false, false]), (52, [true, false, false, true]), (64, [true, false, false, true]), (76, [true, false, false, false]), (80, [false, false, false, false])]),
  (yX8_boundOf, prog_10_method_36_code, 7, (some .int), 8, 3, 0, 0, [(9, [true, true, true, true, true, false, false]), (19, [true, true, true, true, true, true, false]), (66, [true, true, false, true, true, true, true]), (78, [true, true, true, true, true, true, false]), (79, [true, true, true, false, true, true, false]), (86, [true, true, true, true, true, false, false]), (92, [false, true, true, true, false, false, false]), (101, [false, true, true, true, false, false, false]), (113, [false, false, true, false, false, false, false]), (116, [false, false, false, false, false, false, false])]),
  (yX8_partsOf, prog_10_method_37_code, 7, (some .int), 8, 4, 0, 0, [(11, [true, true, true, true, true, false, false]), (26, [true, true, true, true, true, true, false]), (78, [true, true, true, false, true, true, true]), (84, [true, true, true, false, true, true, false]), (88, [true, true, true, false, true, true, false]), (92, [true, true, true, false, true, true, false]), (100, [true, true, true, true, true, false, false]), (106, [false, false, false, true, false, false, false])]),
  (yX8_parts, prog_10_method_38_code, 2, (some .int), 8, 5, 0, 0, [(20, [false, false]), (22, [false, false])]),
  (yX8_bound, prog_10_method_39_code, 2, (some .int), 8, 4, 0, 0, [(20, [false, false]), (22, [false, false])]),
  (yX8_bits, prog_10_method_40_code, 3, (some .int), 8, 1, 0, 0, [(24, [false, true, false])]),
  (yX8_fewest, prog_10_method_41_code, 6, (some .int), 8, 5, 0, 0, [(4, [true, true, true, false, false, false]), (36, [true, true, false, false, false, false]), (42, [true, true, true, true, false, false]), (84, [true, true, true, true, false, true]), (85, [true, true, true, true, false, true]), (94, [true, true, true, true, true, false]), (115, [true, true, true, true, false, false]), (116, [true, true, false, true, false, false]), (123, [false, false, true, false, false, false])])]
def pm_mts_9 : List pm_E := [(yX8_spy, prog_10_method_42_code, 9, (some .int), 8, 5, 0, 0, [(21, [false, false, false, false, false, false, false, false, false]), (24, [true, true, true, true, false, false, false, false, false]), (27, [true, true, true, true, true, false, false, false, false]), (37, [true, true, true, true, true, true, false, false, false]), (87, [true, true, true, true, true, true, true, false, false]), (88, [true, true, true, true, true, true, true, false, false]), (126, [true, true, true, true, true, true, true, false, true]), (127, [true, true, true, true, true, true, true, false, true]), (135, [true, true, true, true, true, true, true, true, false]), (163, [true, true, true, true, true, true, false, false, false]), (169, [true, true, true, true, true, false, false, false, false]), (175, [false, false, false, false, false, false, false, false, false])]),
  (yX8_measure, prog_10_method_43_code, 4, (some .int), 8, 4, 0, 0, []),
  (yX8_isLet, prog_10_method_44_code, 5, (some .boolean), 8, 6, 0, 0, [(2, [true, true, true, false, false]), (31, [true, true, true, false, false]), (74, [true, true, true, true, false]), (86, [true, true, true, false, false]), (92, [false, false, false, false, false])]),
  (yX8_letsNow, prog_10_method_45_code, 3, (some .int), 8, 7, 0, 0, [(24, [true, false, true]), (25, [true, false, true]), (33, [false, true, false])]),
  (yX8_lets, prog_10_method_46_code, 1, (some .int), 8, 8, 0, 0, []),
  (yX8_unlike, prog_10_method_47_code, 7, (some .int), 8, 6, 0, 0, [(5, [true, true, true, true, true, false, false]), (59, [true, true, true, true, true, false, true]), (63, [true, true, true, true, true, false, true]), (64, [true, true, true, true, true, false, true]), (72, [true, true, true, true, true, true, false]), (90, [true, true, true, true, true, false, false]), (96, [false, false, false, true, false, false, false])]),
  (yX8_parting, prog_10_method_48_code, 7, (some .int), 8, 8, 0, 0, [(13, [true, true, false, false, false, false, false]), (26, [true, true, true, true, true, true, false]), (55, [true, true, true, false, true, true, true]), (68, [true, true, true, true, true, true, false]), (70, [true, true, true, true, false, true, false]), (78, [false, true, true, true, true, false, false]), (88, [false, false, true, true, false, false, false]), (96, [false, false, false, true, false, false, false]), (97, [false, false, false, false, false, false, false])]),
  (yX8_testsOf, prog_10_method_49_code, 6, (some .boolean), 8, 1, 0, 0, [(8, [true, true, true, true, true, false]), (62, [true, true, true, false, true, true]), (66, [true, true, true, false, true, true]), (67, [true, true, true, false, true, true]), (74, [true, true, true, true, true, false]), (80, [false, false, false, true, false, false])]),
  (yX8_wasTold, prog_10_method_50_code, 6, (some .boolean), 8, 1, 0, 0, [(64, [true, true, true, true, false, true]), (68, [true, true, true, true, false, true]), (69, [true, true, true, true, false, true]), (77, [false, false, false, false, true, false])]),
  (yX8_leastGram, prog_10_method_51_code, 4, (some .int), 8, 1, 0, 0, [(46, [true, true, false, true]), (56, [true, true, false, true]), (63, [false, false, true, false])]),
  (yX8_hasMore, prog_10_method_52_code, 7, (some .boolean), 8, 6, 0, 0, [(70, [true, true, true, true, true, false, true]), (74, [true, true, true, true, true, false, true]), (75, [true, true, true, true, true, false, true]), (83, [false, false, false, false, false, true, false])]),
  (yX8_breaksOf, prog_10_method_53_code, 9, (some .int), 8, 7, 0, 0, [(12, [true, true, true, true, true, true, false, false, false]), (69, [true, true, true, true, true, true, true, true, false]), (102, [true, true, true, true, true, true, false, false, false]), (106, [true, true, true, true, true, true, true, true, false]), (133, [true, true, true, true, true, true, false, false, false]), (137, [true, true, true, true, true, true, false, false, false]), (138, [true, true, true, true, true, true, false, false, false]), (153, [true, true, true, false, true, true, false, false, false]), (154, [true, true, true, false, true, true, false, false, false]), (162, [false, false, false, true, false, false, false, false, false])]),
  (yX8_breaks, prog_10_method_54_code, 3, (some .int), 8, 8, 0, 0, [(23, [false, false, false]), (25, [false, false, false])]),
  (yX8_cold, prog_10_method_55_code, 10, (some .int), 8, 5, 0, 0, [(14, [false, false, false, false, false, false, false, false, false, false]), (17, [true, true, true, true, true, false, false, false, false, false]), (40, [false, false, false, false, false, false, false, false, false, false]), (43, [true, true, true, true, true, false, false, false, false, false]), (52, [true, true, true, true, true, true, true, true, false, false]), (62, [true, true, true, true, true, true, true, true, true, false]), (102, [true, true, true, true, true, true, true, true, true, false]), (103, [true, true, true, true, true, true, true, true, true, false]), (116, [true, true, true, true, true, true, false, true, true, true]), (117, [true, true, true, true, true, true, false, true, true, true]), (148, [true, true, true, true, true, false, true, true, true, false]), (149, [true, true, true, true, true, false, true, true, true, false]), (158, [true, true, true, true, true, true, true, true, false, false]), (164, [false, false, false, false, true, true, true, false, false, false]), (174, [false, false, false, false, false, false, true, false, false, false]), (176, [false, false, false, false, false, false, false, false, false, false])]),
  (yX8_lasts, prog_10_method_56_code, 4, (some .int), 8, 6, 0, 0, [(14, [false, false, false, false]), (17, [true, true, true, false]), (29, [true, true, true, false]), (48, [true, false, false, false]), (59, [false, false, false, false]), (73, [false, false, false, true]), (74, [false, false, false, false])]),
  (yX8_usedOnRoads, prog_10_method_57_code, 4, (some .int), 8, 6, 0, 0, [(39, [false, false, true, false])])]
def pm_mts_10 : List pm_E := [(yX8_saves, prog_10_method_58_code, 3, (some .int), 8, 7, 0, 0, [(28, [false, false, false]), (31, [false, false, false])]),
  (yX8_cars, prog_10_method_59_code, 5, (some .int), 8, 3, 0, 0, [(10, [true, true, true, true, false]), (33, [true, true, true, true, false]), (36, [true, true, true, true, false]), (42, [false, false, false, false, false]), (45, [true, true, true, true, false]), (58, [true, true, true, true, false]), (64, [true, true, true, true, false]), (100, [true, true, false, false, true]), (106, [false, false, false, false, true])]),
  (yX8_fixOf, prog_10_method_60_code, 8, (some .int), 8, 8, 0, 0, [(19, [true, true, true, true, true, true, false, false]), (46, [true, true, true, true, true, true, true, false]), (53, [true, true, true, true, true, true, true, false]), (63, [true, true, true, true, true, true, false, false]), (64, [true, true, true, true, true, true, false, false]), (95, [true, true, true, true, true, true, false, false]), (101, [true, false, false, true, false, false, false, false]), (126, [false, false, false, true, false, false, false, false])]),
  (yX8_fix, prog_10_method_61_code, 5, (some .int), 8, 9, 0, 0, [(14, [false, false, false, false, false]), (17, [true, true, true, true, false]), (30, [true, true, true, true, false]), (47, [true, false, false, false, false]), (51, [false, false, false, false, false])]),
  (yX8_owed, prog_10_method_62_code, 5, (some .int), 8, 9, 0, 0, [(10, [true, true, false, false, false]), (15, [true, true, true, false, true]), (52, [false, false, true, false, false]), (66, [false, false, true, false, false]), (67, [false, false, false, false, false])]),
  (yX8_cost, prog_10_method_63_code, 4, (some .int), 8, 3, 0, 0, [(10, [true, true, true, false]), (25, [true, true, true, false])]),
  (yX8_looks, prog_10_method_64_code, 10, (some .int), 8, 6, 0, 0, [(24, [false, false, false, false, false, false, false, false, false, false]), (27, [true, true, true, false, false, false, false, false, false, false]), (32, [true, true, true, true, true, false, false, false, false, false]), (50, [true, true, true, true, true, true, false, false, false, false]), (113, [true, true, true, true, true, true, false, false, false, false]), (114, [true, true, true, true, true, true, false, false, false, false]), (122, [true, true, true, true, true, false, false, false, false, false]), (138, [true, false, true, true, false, false, false, false, false, false]), (149, [true, false, true, true, true, true, true, false, false, false]), (165, [true, false, true, true, true, true, true, true, true, true]), (195, [true, false, true, true, true, true, true, false, true, true]), (196, [true, false, true, true, true, true, true, false, true, true]), (222, [true, false, true, true, true, true, true, true, false, true]), (223, [true, false, true, true, true, true, true, true, false, true]), (232, [true, false, true, true, true, true, true, true, true, false]), (253, [true, false, true, true, true, true, true, false, false, false]), (259, [false, false, true, true, true, true, false, false, false, false]), (268, [false, false, true, true, false, true, false, false, false, false]), (278, [false, false, false, true, false, false, false, false, false, false]), (279, [false, false, false, false, false, false, false, false, false, false])]),
  (yX8_months, prog_10_method_65_code, 2, (some .int), 8, 2, 0, 0, [(24, [false, false])]),
  (yX8_ask, prog_10_method_66_code, 4, (some .int), 8, 3, 0, 0, [(14, [false, false, false, false])]),
  (yX8_tell, prog_10_method_67_code, 2, (some .int), 8, 2, 0, 0, []),
  (yX8_known, prog_10_method_68_code, 7, (some .int), 8, 3, 0, 0, [(14, [false, false, false, false, false, false, false]), (17, [true, true, true, true, false, false, false]), (32, [true, true, true, true, false, false, false]), (38, [true, true, true, true, true, true, false]), (95, [true, true, true, true, true, true, false]), (96, [true, true, true, true, true, true, false]), (117, [true, true, true, true, false, true, false]), (118, [true, true, true, true, false, true, false]), (127, [false, false, false, false, true, false, false])]),
  (yX8_madeIn, prog_10_method_69_code, 6, (some .long), 8, 6, 0, 0, [(5, [true, true, true, false, true, false]), (15, [true, true, true, false, true, true]), (74, [true, true, true, false, true, false]), (80, [false, false, true, false, false, false])]),
  (yX8_comes, prog_10_method_70_code, 4, (some .long), 8, 7, 0, 0, [(11, [true, true, false, false])]),
  (yX8_count, prog_10_method_71_code, 4, (some .int), 8, 1, 0, 0, [(40, [true, false, false, false]), (45, [true, false, false, false]), (50, [true, false, false, false]), (55, [true, false, false, false]), (60, [true, false, true, false]), (62, [true, false, true, true]), (85, [true, false, false, true]), (86, [true, false, false, true]), (94, [false, false, true, false]), (96, [true, false, true, false]), (98, [true, false, true, true]), (119, [false, false, true, false]), (121, [false, false, false, false])]),
  (yJ9_abs_0f7a4, prog_11_method_59_code, 1, (some .int), 10, 1, 0, 0, [(10, [false])]),
  (yJ9_max_7cf53, prog_11_method_65_code, 2, (some .int), 10, 1, 0, 0, [(9, [false, true]), (10, [false, false])])]
def pm_mts_11 : List pm_E := [(yJ9_min_7cf53, prog_11_method_69_code, 2, (some .int), 10, 1, 0, 0, [(9, [false, true]), (10, [false, false])]),
  (yJ9_min_f86c9, prog_11_method_70_code, 4, (some .long), 10, 1, 0, 0, [(10, [false, false, true, false]), (11, [false, false, false, false])]),
  (yJ0_length_8abf5, prog_12_method_54_code, 1, (some .int), 11, 2, 0, 0, []),
  (yJ0_charAt_5068e, prog_12_method_56_code, 2, (some .char), 11, 4, 0, 0, []),
  (yJ0_coder_7d493, prog_12_method_152_code, 1, (some .byte), 11, 1, 0, 0, [(13, [false]), (14, [false])]),
  (yJ0_isLatin1_aae02, prog_12_method_154_code, 1, (some .boolean), 11, 1, 0, 0, [(17, [false]), (18, [false])]),
  (yJ0_checkIndex_df160, prog_12_method_155_code, 2, none, 11, 2, 0, 0, []),
  (yJ1_charAt_3b067, prog_13_method_2_code, 2, (some .char), 12, 3, 0, 0, []),
  (yJ7_fill_53178, prog_16_method_103_code, 4, none, 13, 1, 0, 0, [(20, [false, false, false, false])]),
  (yJ3_checkIndex_8e157, prog_17_method_11_code, 3, (some .int), 14, 1, 0, 0, [(16, [true, false, false])])]
def pm_mts : List pm_E := pm_mts_0 ++ (pm_mts_1 ++ (pm_mts_2 ++ (pm_mts_3 ++ (pm_mts_4 ++ (pm_mts_5 ++ (pm_mts_6 ++ (pm_mts_7 ++ (pm_mts_8 ++ (pm_mts_9 ++ (pm_mts_10 ++ (pm_mts_11)))))))))))
def pm_mt (k : Nat) : Option pm_E := pm_mts[k]?
/-- calls: code class and index; the method, its kind (0 virtual, 1 static, 2 <init>, 3 <init> of a nest mate), how many parameters -/
def pm_mls : List ((Nat × Nat) × (Nat × Nat × Nat)) := [((0, 46), (174, 1, 1)), ((0, 52), (5, 0, 2)), ((3, 40), (176, 1, 2)), ((4, 32), (17, 0, 2)), ((6, 27), (34, 0, 0)), ((6, 35), (28, 0, 2)), ((6, 41), (38, 0, 1)), ((6, 48), (30, 0, 2)), ((6, 59), (39, 0, 1)), ((6, 65), (29, 0, 2)), ((6, 73), (32, 0, 0)), ((6, 90), (31, 0, 0)), ((6, 102), (33, 1, 1)), ((6, 106), (37, 0, 1)), ((6, 109), (35, 0, 0)), ((6, 128), (176, 1, 2)), ((6, 134), (36, 1, 2)), ((6, 138), (178, 0, 0)), ((6, 142), (179, 0, 1)), ((7, 29), (24, 3, 0)), ((7, 54), (9, 3, 0)), ((7, 61), (20, 3, 0)), ((7, 70), (15, 3, 0)), ((7, 75), (7, 3, 0)), ((7, 82), (11, 3, 0)), ((7, 102), (1, 3, 0)), ((7, 109), (75, 1, 2)), ((7, 113), (2, 0, 2)), ((7, 117), (76, 1, 2)), ((7, 123), (3, 0, 5)), ((7, 127), (4, 0, 1)), ((7, 131), (78, 1, 3)), ((7, 141), (77, 0, 2)), ((7, 144), (6, 0, 2)), ((7, 149), (25, 0, 2)), ((7, 152), (26, 0, 1)), ((7, 156), (27, 0, 1)), ((7, 164), (80, 0, 2)), ((7, 194), (88, 0, 1)), ((7, 198), (87, 0, 1)), ((7, 202), (184, 1, 2)), ((7, 208), (90, 0, 3)), ((7, 216), (85, 0, 5)), ((7, 223), (10, 0, 3)), ((7, 225), (91, 0, 1)), ((7, 229), (58, 0, 0)), ((7, 233), (82, 0, 0)), ((7, 236), (92, 0, 2)), ((7, 240), (81, 0, 1)), ((7, 243), (93, 0, 2)), ((7, 249), (84, 0, 3)), ((7, 253), (176, 1, 2)), ((7, 261), (83, 0, 1)), ((7, 264), (95, 0, 1)), ((7, 267), (96, 0, 2)), ((7, 270), (97, 0, 2)), ((7, 275), (177, 1, 2)), ((7, 282), (98, 0, 1)), ((7, 285), (99, 0, 1)), ((7, 288), (100, 0, 1)), ((7, 292), (21, 0, 3)), ((7, 296), (22, 0, 3)), ((7, 302), (101, 0, 1)), ((7, 306), (102, 0, 1)), ((7, 310), (23, 0, 0)), ((7, 313), (79, 0, 0)), ((7, 316), (12, 0, 0)), ((7, 319), (16, 0, 1)), ((7, 323), (18, 0, 1)), ((7, 332), (5, 0, 2)), ((7, 335), (13, 0, 4)), ((7, 342), (174, 1, 1)), ((7, 345), (86, 1, 1)), ((7, 348), (89, 0, 3)), ((7, 359), (14, 0, 1)), ((7, 363), (8, 0, 0)), ((7, 372), (94, 0, 4)), ((7, 376), (19, 0, 1)), ((7, 379), (175, 1, 2)), ((8, 120), (104, 1, 3)), ((8, 126), (105, 1, 1)), ((8, 130), (106, 1, 1)), ((8, 155), (113, 0, 2)), ((8, 159), (114, 0, 2)), ((8, 162), (108, 0, 2)), ((8, 168), (115, 0, 3)), ((8, 186), (119, 1, 1)), ((8, 193), (121, 0, 2)), ((8, 196), (120, 0, 0)), ((8, 210), (124, 0, 0)), ((8, 216), (123, 0, 1)), ((8, 219), (122, 0, 2)), ((8, 223), (125, 0, 1)), ((8, 228), (126, 0, 0)), ((8, 231), (127, 0, 0)), ((8, 234), (128, 0, 1)), ((8, 237), (129, 0, 1)), ((8, 240), (107, 1, 1)), ((8, 243), (133, 0, 3)), ((8, 258), (134, 0, 3)), ((8, 263), (135, 0, 2)), ((8, 270), (138, 0, 1)), ((8, 275), (139, 0, 1)), ((8, 280), (142, 1, 1)), ((8, 286), (146, 0, 1)), ((8, 289), (147, 0, 0)), ((8, 293), (149, 0, 2)), ((8, 299), (153, 0, 1)), ((8, 302), (154, 0, 4)), ((8, 306), (151, 0, 2)), ((8, 309), (152, 0, 3)), ((8, 313), (155, 0, 2)), ((8, 318), (159, 0, 1)), ((8, 325), (162, 0, 2)), ((8, 337), (171, 0, 1)), ((9, 9), (40, 2, 0)), ((9, 12), (103, 2, 0)), ((9, 13), (41, 0, 3)), ((9, 17), (109, 0, 3)), ((9, 18), (42, 0, 6)), ((9, 22), (110, 0, 6)), ((9, 23), (43, 0, 3)), ((9, 26), (111, 0, 3)), ((9, 27), (44, 0, 2)), ((9, 31), (112, 0, 2)), ((9, 32), (45, 0, 3)), ((9, 35), (116, 0, 3)), ((9, 38), (46, 0, 2)), ((9, 42), (117, 0, 2)), ((9, 43), (47, 0, 0)), ((9, 47), (118, 0, 0)), ((9, 48), (48, 0, 1)), ((9, 52), (130, 0, 1)), ((9, 53), (49, 0, 1)), ((9, 56), (131, 0, 1)), ((9, 57), (50, 0, 1)), ((9, 60), (132, 0, 1)), ((9, 61), (51, 0, 4)), ((9, 65), (136, 0, 4)), ((9, 66), (52, 0, 3)), ((9, 69), (137, 0, 3)), ((9, 70), (53, 0, 1)), ((9, 73), (140, 0, 1)), ((9, 74), (54, 0, 1)), ((9, 77), (141, 0, 1)), ((9, 78), (55, 0, 0)), ((9, 81), (143, 0, 0)), ((9, 82), (56, 0, 3)), ((9, 85), (144, 0, 3)), ((9, 86), (57, 0, 3)), ((9, 89), (145, 0, 3)), ((9, 90), (58, 0, 0)), ((9, 93), (148, 0, 0)), ((9, 94), (59, 0, 1)), ((9, 97), (150, 0, 1)), ((9, 98), (60, 0, 2)), ((9, 101), (156, 0, 2)), ((9, 102), (61, 0, 4)), ((9, 105), (157, 0, 4)), ((9, 106), (62, 0, 2)), ((9, 109), (158, 0, 2)), ((9, 110), (63, 0, 2)), ((9, 113), (160, 0, 2)), ((9, 114), (64, 0, 3)), ((9, 117), (161, 0, 3)), ((9, 118), (65, 0, 3)), ((9, 121), (163, 0, 3)), ((9, 122), (66, 0, 1)), ((9, 125), (164, 0, 1)), ((9, 126), (67, 0, 2)), ((9, 129), (165, 0, 2)), ((9, 130), (68, 0, 2)), ((9, 133), (166, 0, 2)), ((9, 134), (69, 0, 1)), ((9, 137), (167, 0, 1)), ((9, 138), (70, 0, 3)), ((9, 141), (168, 0, 3)), ((9, 142), (71, 0, 1)), ((9, 145), (169, 0, 1)), ((9, 146), (72, 0, 3)), ((9, 149), (170, 0, 3)), ((9, 150), (73, 0, 1)), ((9, 154), (172, 0, 1)), ((9, 155), (74, 0, 1)), ((9, 158), (173, 0, 1)), ((11, 335), (180, 0, 0)), ((11, 492), (181, 0, 0)), ((11, 495), (183, 1, 2)), ((11, 1059), (185, 1, 3)), ((12, 9), (182, 1, 2))]
def pm_ml (own idx : Nat) : Option (Nat × Nat × Nat) := pm_mls.lookup (own, idx)
def pm_mls_pos : List Nat := [394, 401, 611, 597, 453, 467, 472, 560, 528, 533, 537, 564, 541, 476, 457, 461, 464, 480, 490, 98, 123, 146, 169, 201, 223, 265, 376, 379, 387, 390, 397, 409, 424, 428, 436, 449, 556, 585, 620, 624, 644, 647, 657, 666, 674, 686, 687, 695, 691, 703, 727, 605, 740, 752, 756, 760, 772, 784, 788, 792, 804, 707, 821, 825, 834, 838, 589, 593, 601, 606, 607, 661, 628, 631, 678, 711, 715, 719, 764, 1004, 1000, 1007, 1047, 1051, 1038, 1043, 1077, 1092, 1073, 1105, 1096, 1088, 1101, 1084, 1119, 1080, 1069, 1133, 1149, 1145, 1141, 1167, 1163, 1182, 1201, 1197, 1209, 1221, 1225, 1229, 1233, 1217, 1250, 1263, 1302, 84, 844, 372, 996, 383, 1011, 405, 1021, 412, 1025, 420, 1034, 432, 1055, 441, 1061, 445, 1065, 573, 1125, 577, 1129, 581, 1136, 612, 1153, 616, 1158, 635, 1172, 639, 1176, 653, 1185, 662, 1189, 670, 1193, 682, 1205, 699, 1213, 723, 1237, 731, 1242, 735, 1246, 744, 1255, 748, 1259, 767, 1267, 775, 1272, 779, 1276, 796, 1280, 800, 1284, 808, 1288, 812, 1292, 816, 1297, 830, 1306, 484, 494, 498, 506, 501]
def pm_fls : List ((Nat × Nat) × (Nat × Nat)) := [((0, 9), (0, 0)), ((0, 15), (0, 1)), ((0, 18), (0, 2)), ((0, 21), (0, 3)), ((0, 24), (0, 4)), ((0, 28), (0, 5)), ((0, 31), (0, 6)), ((0, 34), (0, 7)), ((0, 37), (0, 8)), ((0, 40), (0, 9)), ((0, 43), (0, 10)), ((1, 9), (1, 0)), ((1, 15), (1, 1)), ((1, 19), (1, 2)), ((2, 9), (2, 0)), ((2, 15), (2, 1)), ((2, 19), (2, 2)), ((2, 22), (2, 3)), ((3, 9), (3, 0)), ((3, 15), (3, 1)), ((3, 18), (3, 2)), ((3, 21), (3, 3)), ((3, 24), (3, 4)), ((3, 27), (3, 5)), ((3, 31), (3, 6)), ((3, 34), (3, 7)), ((3, 37), (3, 8)), ((4, 9), (4, 0)), ((4, 15), (4, 1)), ((4, 19), (4, 2)), ((4, 22), (4, 3)), ((4, 25), (4, 4)), ((4, 29), (4, 5)), ((5, 9), (5, 0)), ((5, 15), (5, 1)), ((5, 19), (5, 2)), ((5, 22), (5, 3)), ((5, 25), (5, 4)), ((6, 9), (6, 0)), ((6, 15), (6, 1)), ((6, 19), (6, 2)), ((6, 22), (6, 3)), ((6, 30), (4, 0)), ((6, 45), (1, 0)), ((6, 52), (4, 2)), ((6, 57), (4, 1)), ((6, 70), (4, 3)), ((6, 77), (4, 4)), ((6, 84), (4, 5)), ((6, 87), (1, 1)), ((6, 93), (1, 2)), ((7, 11), (7, 0)), ((7, 17), (7, 1)), ((7, 23), (7, 2)), ((7, 30), (7, 3)), ((7, 36), (7, 4)), ((7, 43), (7, 5)), ((7, 46), (7, 6)), ((7, 49), (7, 7)), ((7, 55), (7, 8)), ((7, 62), (7, 9)), ((7, 66), (7, 10)), ((7, 71), (7, 11)), ((7, 76), (7, 12)), ((7, 83), (7, 13)), ((7, 87), (7, 14)), ((7, 90), (7, 15)), ((7, 93), (7, 16)), ((7, 96), (7, 17)), ((7, 99), (7, 18)), ((7, 120), (0, 2)), ((7, 148), (6, 0)), ((7, 160), (4, 0)), ((7, 163), (1, 0)), ((7, 167), (3, 0)), ((7, 170), (3, 1)), ((7, 173), (3, 2)), ((7, 176), (3, 3)), ((7, 179), (3, 4)), ((7, 182), (3, 5)), ((7, 185), (3, 6)), ((7, 188), (3, 7)), ((7, 191), (3, 8)), ((7, 213), (0, 6)), ((7, 220), (2, 0)), ((7, 246), (0, 0)), ((7, 278), (0, 3)), ((7, 291), (5, 0)), ((7, 293), (5, 4)), ((7, 326), (0, 5)), ((7, 329), (0, 4)), ((7, 339), (0, 8)), ((7, 353), (2, 1)), ((7, 356), (2, 2)), ((7, 362), (2, 3)), ((7, 366), (1, 2)), ((7, 369), (1, 1)), ((7, 382), (0, 1)), ((8, 7), (8, 0)), ((8, 13), (8, 1)), ((8, 16), (8, 2)), ((8, 19), (8, 3)), ((8, 22), (8, 4)), ((8, 25), (8, 5)), ((8, 28), (8, 6)), ((8, 31), (8, 7)), ((8, 34), (8, 8)), ((8, 37), (8, 9)), ((8, 40), (8, 10)), ((8, 43), (8, 12)), ((8, 46), (8, 13)), ((8, 49), (8, 14)), ((8, 52), (8, 15)), ((8, 55), (8, 16)), ((8, 58), (8, 17)), ((8, 61), (8, 18)), ((8, 64), (8, 19)), ((8, 67), (8, 20)), ((8, 70), (8, 21)), ((8, 73), (8, 22)), ((8, 76), (8, 23)), ((8, 79), (8, 25)), ((8, 82), (8, 26)), ((8, 85), (8, 27)), ((8, 88), (8, 29)), ((8, 91), (8, 30)), ((8, 94), (8, 31)), ((8, 97), (8, 32)), ((8, 100), (8, 38)), ((8, 103), (8, 39)), ((8, 106), (8, 40)), ((8, 109), (8, 45)), ((8, 112), (8, 46)), ((8, 115), (8, 48)), ((8, 174), (8, 11)), ((8, 180), (8, 34)), ((8, 183), (8, 35)), ((8, 190), (8, 36)), ((8, 199), (8, 37)), ((8, 246), (8, 41)), ((8, 249), (8, 42)), ((8, 252), (8, 43)), ((8, 255), (8, 44)), ((8, 283), (8, 24)), ((8, 296), (8, 33)), ((8, 322), (8, 47)), ((8, 330), (8, 28))]
def pm_fld (own idx : Nat) : Option (Nat × Nat) := pm_fls.lookup (own, idx)
def pm_fls_pos : List Nat := [269, 271, 273, 275, 277, 279, 281, 283, 284, 286, 287, 205, 208, 211, 127, 129, 131, 133, 227, 229, 231, 233, 235, 237, 239, 241, 243, 173, 176, 178, 180, 182, 184, 150, 152, 153, 154, 155, 102, 104, 105, 106, 174, 206, 179, 177, 181, 183, 185, 209, 212, 314, 315, 316, 317, 318, 319, 320, 321, 322, 323, 324, 325, 326, 327, 328, 329, 330, 331, 332, 274, 103, 175, 207, 228, 230, 232, 234, 236, 238, 240, 242, 244, 282, 128, 270, 276, 151, 156, 280, 278, 285, 130, 132, 134, 213, 210, 272, 848, 849, 850, 851, 852, 853, 854, 855, 856, 857, 858, 860, 861, 862, 863, 864, 865, 866, 867, 868, 869, 870, 871, 873, 874, 875, 877, 878, 879, 880, 886, 887, 888, 893, 894, 896, 859, 882, 883, 884, 885, 889, 890, 891, 892, 872, 881, 895, 876]
def pm_cis : List ((Nat × Nat) × Int32) := [((7, 201), 1114112), ((7, 212), 65535), ((7, 260), -2147483648), ((7, 281), 99999), ((7, 352), 65536), ((8, 202), 177460), ((8, 203), 12752151), ((8, 204), 139938484), ((8, 205), 679716008), ((8, 206), 656552), ((8, 207), 4363795), ((8, 208), 132588), ((8, 209), 671219), ((8, 214), 5979201), ((8, 215), 24621218), ((8, 222), 464151), ((8, 226), 427591), ((8, 227), 132594), ((8, 269), 268435456), ((8, 278), 65535), ((8, 279), 65536), ((8, 321), -2147483648)]
def pm_ci (own idx : Nat) : Option Int32 := pm_cis.lookup (own, idx)
def pm_cis_pos : List Nat := [643, 652, 739, 783, 651, 1109, 1110, 1111, 1112, 1113, 1114, 1115, 1116, 1117, 1118, 1100, 1123, 1124, 1171, 1180, 1181, 1254]
def pm_clgs : List ((Nat × Nat) × Int64) := [((6, 25), 255), ((7, 273), 999999999), ((7, 300), -2), ((7, 385), 100), ((8, 118), 5), ((8, 124), 3), ((8, 133), 159), ((8, 135), 99), ((8, 137), -9), ((8, 139), 9), ((8, 141), 30), ((8, 143), 60), ((8, 145), 20), ((8, 147), 9999), ((8, 149), 999), ((8, 151), 99999), ((8, 153), 100), ((8, 166), 7), ((8, 172), 8), ((8, 178), 255), ((8, 261), 4), ((8, 267), 2), ((8, 273), 15), ((8, 316), 61), ((8, 328), 999999999), ((8, 333), 200), ((8, 335), -2), ((9, 36), 4294967295)]
def pm_clg (own idx : Nat) : Option Int64 := pm_clgs.lookup (own, idx)
def pm_clgs_pos : List Nat := [440, 771, 820, 829, 1003, 1010, 1015, 1016, 1017, 1018, 1019, 1020, 1029, 1030, 1031, 1032, 1033, 1042, 1059, 1060, 1140, 1157, 1162, 1241, 1271, 1296, 1301, 1310]
/-- string constants: code class and index, place, text -/
def pm_sts : List ((Nat × Nat) × Nat) := [((6, 39), 0), ((6, 55), 1), ((6, 63), 2), ((6, 68), 3), ((6, 81), 4), ((6, 82), 5), ((6, 94), 6), ((6, 96), 7), ((6, 98), 8), ((6, 100), 9), ((6, 112), 10), ((6, 114), 11), ((6, 116), 12), ((6, 118), 13), ((6, 120), 14), ((6, 122), 15), ((6, 124), 16), ((6, 126), 17)]
def pm_sl (own idx : Nat) : Option Nat := pm_sts.lookup (own, idx)
def pm_stx : List (Nat × String × List Int32) := [(39, ";", [59]), (55, "map", [109, 97, 112]), (63, "when", [119, 104, 101, 110]), (68, "and", [97, 110, 100]), (81, "above", [97, 98, 111, 118, 101]), (82, "below", [98, 101, 108, 111, 119]), (94, "gram", [103, 114, 97, 109]), (96, "road", [114, 111, 97, 100]), (98, "ban", [98, 97, 110]), (100, "ask", [97, 115, 107]), (112, "time", [116, 105, 109, 101]), (114, "wheel", [119, 104, 101, 101, 108]), (116, "turned", [116, 117, 114, 110, 101, 100]), (118, "height", [104, 101, 105, 103, 104, 116]), (120, "heat", [104, 101, 97, 116]), (122, "speed", [115, 112, 101, 101, 100]), (124, "load", [108, 111, 97, 100]), (126, "soot", [115, 111, 111, 116])]
def pm_stb (i : Nat) : List Int32 := ((pm_stx[i]?).map (fun q => q.2.2)).getD []
def pm_sts_pos : List Nat := [555, 471, 532, 554, 552, 553, 568, 569, 570, 571, 544, 545, 546, 547, 548, 549, 550, 551]
