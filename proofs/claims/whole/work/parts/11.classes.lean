/-! CLASSES: their fields; printed by wip/gen/tables.py out of the tables -/
def ai_T0 : u_T := fun k => match k with
  | 0 => ("TickHouse$Automata", "count", "I", false)
  | 1 => ("TickHouse$Automata", "states", "I", false)
  | 2 => ("TickHouse$Automata", "moves", "I", false)
  | 3 => ("TickHouse$Automata", "dollar", "[I", true)
  | 4 => ("TickHouse$Automata", "stateFrom", "[I", true)
  | 5 => ("TickHouse$Automata", "moveFrom", "[I", true)
  | 6 => ("TickHouse$Automata", "cell", "[I", true)
  | 7 => ("TickHouse$Automata", "needs", "[I", true)
  | 8 => ("TickHouse$Automata", "done", "[Z", true)
  | 9 => ("TickHouse$Automata", "owner", "[I", true)
  | 10 => ("TickHouse$Automata", "stateLetters", "[I", true)
  | 11 => ("TickHouse$Automata", "cellFrom", "[I", true)
  | 12 => ("TickHouse$Automata", "cellTo", "[I", true)
  | 13 => ("TickHouse$Automata", "moveState", "[I", true)
  | 14 => ("TickHouse$Automata", "strong", "[Z", true)
  | 15 => ("TickHouse$Automata", "anew", "[Z", true)
  | 16 => ("TickHouse$Automata", "movePartFrom", "[I", true)
  | 17 => ("TickHouse$Automata", "moveX", "[I", true)
  | 18 => ("TickHouse$Automata", "target", "[I", true)
  | _ => ("TickHouse$Automata", "targetPlace", "[I", true)
def ai_ty0 : Nat → FieldType := fun k => match k with
  | 0 => .int
  | 1 => .int
  | 2 => .int
  | 3 => (.array .int)
  | 4 => (.array .int)
  | 5 => (.array .int)
  | 6 => (.array .int)
  | 7 => (.array .int)
  | 8 => (.array .boolean)
  | 9 => (.array .int)
  | 10 => (.array .int)
  | 11 => (.array .int)
  | 12 => (.array .int)
  | 13 => (.array .int)
  | 14 => (.array .boolean)
  | 15 => (.array .boolean)
  | 16 => (.array .int)
  | 17 => (.array .int)
  | 18 => (.array .int)
  | _ => (.array .int)
def ai_T1 : u_T := fun k => match k with
  | 0 => ("TickHouse$Equations", "count", "I", false)
  | 1 => ("TickHouse$Equations", "heads", "I", false)
  | 2 => ("TickHouse$Equations", "headFrom", "[I", true)
  | 3 => ("TickHouse$Equations", "partFrom", "[I", true)
  | 4 => ("TickHouse$Equations", "x", "[I", true)
  | 5 => ("TickHouse$Equations", "state", "[I", true)
  | 6 => ("TickHouse$Equations", "needs", "[I", true)
  | 7 => ("TickHouse$Equations", "done", "[Z", true)
  | 8 => ("TickHouse$Equations", "headLetter", "[I", true)
  | _ => ("TickHouse$Equations", "headPlace", "[I", true)
def ai_ty1 : Nat → FieldType := fun k => match k with
  | 0 => .int
  | 1 => .int
  | 2 => (.array .int)
  | 3 => (.array .int)
  | 4 => (.array .int)
  | 5 => (.array .int)
  | 6 => (.array .int)
  | 7 => (.array .boolean)
  | 8 => (.array .int)
  | _ => (.array .int)
def ai_T2 : u_T := fun k => match k with
  | 0 => ("TickHouse$Instance", "nodeNumber", "I", false)
  | 1 => ("TickHouse$Instance", "tickCount", "I", false)
  | 2 => ("TickHouse$Instance", "ticked", "Z", false)
  | 3 => ("TickHouse$Instance", "inputs", "[I", true)
  | 4 => ("TickHouse$Instance", "memory", "[I", true)
  | 5 => ("TickHouse$Instance", "letterValue", "[I", true)
  | 6 => ("TickHouse$Instance", "letterOn", "[Z", true)
  | 7 => ("TickHouse$Instance", "kept", "[I", true)
  | _ => ("TickHouse$Instance", "keptTicks", "[I", true)
def ai_ty2 : Nat → FieldType := fun k => match k with
  | 0 => .int
  | 1 => .int
  | 2 => .boolean
  | 3 => (.array .int)
  | 4 => (.array .int)
  | 5 => (.array .int)
  | 6 => (.array .boolean)
  | 7 => (.array .int)
  | _ => (.array .int)
def ai_T3 : u_T := fun k => match k with
  | 0 => ("TickHouse$Judge", "program", "LTickHouse$Program;", true)
  | 1 => ("TickHouse$Judge", "parts", "LTickHouse$Parts;", true)
  | 2 => ("TickHouse$Judge", "letters", "LTickHouse$Letters;", true)
  | 3 => ("TickHouse$Judge", "equations", "LTickHouse$Equations;", true)
  | 4 => ("TickHouse$Judge", "automata", "LTickHouse$Automata;", true)
  | _ => ("TickHouse$Judge", "least", "I", false)
def ai_ty3 : Nat → FieldType := fun k => match k with
  | 0 => (.object "TickHouse$Program")
  | 1 => (.object "TickHouse$Parts")
  | 2 => (.object "TickHouse$Letters")
  | 3 => (.object "TickHouse$Equations")
  | 4 => (.object "TickHouse$Automata")
  | _ => .int
def ai_T4 : u_T := fun k => match k with
  | 0 => ("TickHouse$Letters", "told", "[I", true)
  | 1 => ("TickHouse$Letters", "role", "[I", true)
  | 2 => ("TickHouse$Letters", "sort", "[I", true)
  | 3 => ("TickHouse$Letters", "clock", "[I", true)
  | 4 => ("TickHouse$Letters", "clockPlace", "[I", true)
  | 5 => ("TickHouse$Letters", "lasting", "[Z", true)
  | 6 => ("TickHouse$Letters", "last", "[I", true)
  | 7 => ("TickHouse$Letters", "lastCell", "[I", true)
  | 8 => ("TickHouse$Letters", "owner", "[I", true)
  | 9 => ("TickHouse$Letters", "ownerState", "[I", true)
  | 10 => ("TickHouse$Letters", "headPlace", "[I", true)
  | 11 => ("TickHouse$Letters", "bare", "[Z", true)
  | 12 => ("TickHouse$Letters", "hangs", "[I", true)
  | _ => ("TickHouse$Letters", "pending", "[I", true)
def ai_ty4 : Nat → FieldType := fun k => match k with
  | 0 => (.array .int)
  | 1 => (.array .int)
  | 2 => (.array .int)
  | 3 => (.array .int)
  | 4 => (.array .int)
  | 5 => (.array .boolean)
  | 6 => (.array .int)
  | 7 => (.array .int)
  | 8 => (.array .int)
  | 9 => (.array .int)
  | 10 => (.array .int)
  | 11 => (.array .boolean)
  | 12 => (.array .int)
  | _ => (.array .int)
def ai_T5 : u_T := fun k => match k with
  | 0 => ("TickHouse$Machine", "program", "LTickHouse$Program;", false)
  | 1 => ("TickHouse$Machine", "parts", "LTickHouse$Parts;", false)
  | 2 => ("TickHouse$Machine", "letters", "LTickHouse$Letters;", false)
  | 3 => ("TickHouse$Machine", "equations", "LTickHouse$Equations;", false)
  | 4 => ("TickHouse$Machine", "automata", "LTickHouse$Automata;", false)
  | 5 => ("TickHouse$Machine", "value", "[I", true)
  | 6 => ("TickHouse$Machine", "letterValue", "[I", true)
  | 7 => ("TickHouse$Machine", "letterOn", "[Z", true)
  | 8 => ("TickHouse$Machine", "now", "[I", true)
  | 9 => ("TickHouse$Machine", "memory", "[I", true)
  | _ => ("TickHouse$Machine", "failed", "I", false)
def ai_ty5 : Nat → FieldType := fun k => match k with
  | 0 => (.object "TickHouse$Program")
  | 1 => (.object "TickHouse$Parts")
  | 2 => (.object "TickHouse$Letters")
  | 3 => (.object "TickHouse$Equations")
  | 4 => (.object "TickHouse$Automata")
  | 5 => (.array .int)
  | 6 => (.array .int)
  | 7 => (.array .boolean)
  | 8 => (.array .int)
  | 9 => (.array .int)
  | _ => .int
def ai_T6 : u_T := fun k => match k with
  | 0 => ("TickHouse$Parts", "count", "I", false)
  | 1 => ("TickHouse$Parts", "op", "[I", true)
  | 2 => ("TickHouse$Parts", "begin", "[I", true)
  | 3 => ("TickHouse$Parts", "place", "[I", true)
  | 4 => ("TickHouse$Parts", "what", "[I", true)
  | 5 => ("TickHouse$Parts", "first", "[I", true)
  | 6 => ("TickHouse$Parts", "next", "[I", true)
  | 7 => ("TickHouse$Parts", "hat", "[I", true)
  | 8 => ("TickHouse$Parts", "hatPlace", "[I", true)
  | 9 => ("TickHouse$Parts", "state", "[I", true)
  | 10 => ("TickHouse$Parts", "late", "[Z", true)
  | 11 => ("TickHouse$Parts", "heads", "[I", true)
  | 12 => ("TickHouse$Parts", "sort", "[I", true)
  | 13 => ("TickHouse$Parts", "clock", "[I", true)
  | 14 => ("TickHouse$Parts", "bare", "[Z", true)
  | _ => ("TickHouse$Parts", "cell", "[I", true)
def ai_ty6 : Nat → FieldType := fun k => match k with
  | 0 => .int
  | 1 => (.array .int)
  | 2 => (.array .int)
  | 3 => (.array .int)
  | 4 => (.array .int)
  | 5 => (.array .int)
  | 6 => (.array .int)
  | 7 => (.array .int)
  | 8 => (.array .int)
  | 9 => (.array .int)
  | 10 => (.array .boolean)
  | 11 => (.array .int)
  | 12 => (.array .int)
  | 13 => (.array .int)
  | 14 => (.array .boolean)
  | _ => (.array .int)
def ai_T7 : u_T := fun k => match k with
  | 0 => ("TickHouse$Planner", "program", "LTickHouse$Program;", true)
  | 1 => ("TickHouse$Planner", "parts", "LTickHouse$Parts;", true)
  | 2 => ("TickHouse$Planner", "letters", "LTickHouse$Letters;", true)
  | 3 => ("TickHouse$Planner", "equations", "LTickHouse$Equations;", true)
  | 4 => ("TickHouse$Planner", "automata", "LTickHouse$Automata;", true)
  | 5 => ("TickHouse$Planner", "steps", "I", false)
  | _ => ("TickHouse$Planner", "ready", "I", false)
def ai_ty7 : Nat → FieldType := fun k => match k with
  | 0 => (.object "TickHouse$Program")
  | 1 => (.object "TickHouse$Parts")
  | 2 => (.object "TickHouse$Letters")
  | 3 => (.object "TickHouse$Equations")
  | 4 => (.object "TickHouse$Automata")
  | 5 => .int
  | _ => .int
def ai_T8 : u_T := fun k => match k with
  | 0 => ("TickHouse$Program", "nodes", "I", false)
  | 1 => ("TickHouse$Program", "name", "[I", true)
  | 2 => ("TickHouse$Program", "place", "[I", true)
  | 3 => ("TickHouse$Program", "inputs", "[I", true)
  | 4 => ("TickHouse$Program", "outputs", "[I", true)
  | 5 => ("TickHouse$Program", "locals", "[I", true)
  | 6 => ("TickHouse$Program", "inputLetter", "[I", true)
  | 7 => ("TickHouse$Program", "outputLetter", "[I", true)
  | 8 => ("TickHouse$Program", "partFrom", "[I", true)
  | 9 => ("TickHouse$Program", "equationFrom", "[I", true)
  | 10 => ("TickHouse$Program", "automatonFrom", "[I", true)
  | 11 => ("TickHouse$Program", "stepFrom", "[I", true)
  | 12 => ("TickHouse$Program", "steps", "[I", true)
  | 13 => ("TickHouse$Program", "instances", "[I", true)
  | 14 => ("TickHouse$Program", "values", "[I", true)
  | 15 => ("TickHouse$Program", "firstMemory", "[I", true)
  | 16 => ("TickHouse$Program", "parts", "LTickHouse$Parts;", true)
  | 17 => ("TickHouse$Program", "letters", "LTickHouse$Letters;", true)
  | 18 => ("TickHouse$Program", "equations", "LTickHouse$Equations;", true)
  | _ => ("TickHouse$Program", "automata", "LTickHouse$Automata;", true)
def ai_ty8 : Nat → FieldType := fun k => match k with
  | 0 => .int
  | 1 => (.array .int)
  | 2 => (.array .int)
  | 3 => (.array .int)
  | 4 => (.array .int)
  | 5 => (.array .int)
  | 6 => (.array .int)
  | 7 => (.array .int)
  | 8 => (.array .int)
  | 9 => (.array .int)
  | 10 => (.array .int)
  | 11 => (.array .int)
  | 12 => (.array .int)
  | 13 => (.array .int)
  | 14 => (.array .int)
  | 15 => (.array .int)
  | 16 => (.object "TickHouse$Parts")
  | 17 => (.object "TickHouse$Letters")
  | 18 => (.object "TickHouse$Equations")
  | _ => (.object "TickHouse$Automata")
def ai_T9 : u_T := fun k => match k with
  | 0 => ("TickHouse$Prover", "hasTold", "Z", false)
  | 1 => ("TickHouse$Prover", "found", "I", false)
  | 2 => ("TickHouse$Prover", "pathLength", "I", false)
  | 3 => ("TickHouse$Prover", "path", "[I", true)
  | 4 => ("TickHouse$Prover", "rows", "[I", false)
  | 5 => ("TickHouse$Prover", "nextRow", "[I", true)
  | 6 => ("TickHouse$Prover", "from", "[I", true)
  | 7 => ("TickHouse$Prover", "by", "[I", true)
  | 8 => ("TickHouse$Prover", "table", "[I", true)
  | 9 => ("TickHouse$Prover", "outputs", "[I", true)
  | 10 => ("TickHouse$Prover", "bits", "[I", true)
  | 11 => ("TickHouse$Prover", "machine", "LTickHouse$Machine;", false)
  | 12 => ("TickHouse$Prover", "program", "LTickHouse$Program;", false)
  | 13 => ("TickHouse$Prover", "nodeNumber", "I", false)
  | 14 => ("TickHouse$Prover", "other", "I", false)
  | 15 => ("TickHouse$Prover", "proved", "I", false)
  | 16 => ("TickHouse$Prover", "most", "I", false)
  | _ => ("TickHouse$Prover", "width", "I", false)
def ai_ty9 : Nat → FieldType := fun k => match k with
  | 0 => .boolean
  | 1 => .int
  | 2 => .int
  | 3 => (.array .int)
  | 4 => (.array .int)
  | 5 => (.array .int)
  | 6 => (.array .int)
  | 7 => (.array .int)
  | 8 => (.array .int)
  | 9 => (.array .int)
  | 10 => (.array .int)
  | 11 => (.object "TickHouse$Machine")
  | 12 => (.object "TickHouse$Program")
  | 13 => .int
  | 14 => .int
  | 15 => .int
  | 16 => .int
  | _ => .int
def ai_T10 : u_T := fun k => match k with
  | 0 => ("TickHouse$Reader", "text", "[C", true)
  | 1 => ("TickHouse$Reader", "length", "I", true)
  | 2 => ("TickHouse$Reader", "program", "LTickHouse$Program;", true)
  | 3 => ("TickHouse$Reader", "parts", "LTickHouse$Parts;", true)
  | 4 => ("TickHouse$Reader", "equations", "LTickHouse$Equations;", true)
  | 5 => ("TickHouse$Reader", "automata", "LTickHouse$Automata;", true)
  | 6 => ("TickHouse$Reader", "at", "I", false)
  | 7 => ("TickHouse$Reader", "twice", "I", false)
  | 8 => ("TickHouse$Reader", "reading", "I", false)
  | 9 => ("TickHouse$Reader", "state", "I", false)
  | 10 => ("TickHouse$Reader", "inMove", "Z", false)
  | 11 => ("TickHouse$Reader", "depth", "I", false)
  | 12 => ("TickHouse$Reader", "parens", "I", false)
  | _ => ("TickHouse$Reader", "delays", "I", false)
def ai_ty10 : Nat → FieldType := fun k => match k with
  | 0 => (.array .char)
  | 1 => .int
  | 2 => (.object "TickHouse$Program")
  | 3 => (.object "TickHouse$Parts")
  | 4 => (.object "TickHouse$Equations")
  | 5 => (.object "TickHouse$Automata")
  | 6 => .int
  | 7 => .int
  | 8 => .int
  | 9 => .int
  | 10 => .boolean
  | 11 => .int
  | 12 => .int
  | _ => .int
def ai_T11 : u_T := fun k => match k with
  | 0 => ("TickHouse", "text", "[C", true)
  | 1 => ("TickHouse", "length", "I", false)
  | 2 => ("TickHouse", "faultKind", "I", false)
  | 3 => ("TickHouse", "faultPlace", "I", false)
  | 4 => ("TickHouse", "program", "LTickHouse$Program;", false)
  | 5 => ("TickHouse", "spare", "LTickHouse$Program;", false)
  | 6 => ("TickHouse", "machine", "LTickHouse$Machine;", true)
  | 7 => ("TickHouse", "instances", "[LTickHouse$Instance;", true)
  | 8 => ("TickHouse", "made", "I", false)
  | _ => ("TickHouse", "prover", "LTickHouse$Prover;", true)
def ai_ty11 : Nat → FieldType := fun k => match k with
  | 0 => (.array .char)
  | 1 => .int
  | 2 => .int
  | 3 => .int
  | 4 => (.object "TickHouse$Program")
  | 5 => (.object "TickHouse$Program")
  | 6 => (.object "TickHouse$Machine")
  | 7 => (.array (.object "TickHouse$Instance"))
  | 8 => .int
  | _ => (.object "TickHouse$Prover")
def ai_T12 : u_T := fun k => match k with
  | 0 => ("TickHouseModel", "thrown", "I", false)
  | 1 => ("TickHouseModel", "typed", "I", false)
  | 2 => ("TickHouseModel", "tape", "[I", true)
  | 3 => ("TickHouseModel", "size", "I", false)
  | 4 => ("TickHouseModel", "text", "[I", true)
  | 5 => ("TickHouseModel", "oldSize", "I", false)
  | 6 => ("TickHouseModel", "old", "[I", true)
  | 7 => ("TickHouseModel", "isThere", "Z", false)
  | 8 => ("TickHouseModel", "faultKind", "I", false)
  | 9 => ("TickHouseModel", "faultPlace", "I", false)
  | 10 => ("TickHouseModel", "nodes", "I", false)
  | 11 => ("TickHouseModel", "name", "[I", true)
  | 12 => ("TickHouseModel", "inputs", "[I", true)
  | 13 => ("TickHouseModel", "outputs", "[I", true)
  | 14 => ("TickHouseModel", "locals", "[I", true)
  | 15 => ("TickHouseModel", "inputOf", "[I", true)
  | 16 => ("TickHouseModel", "outputOf", "[I", true)
  | 17 => ("TickHouseModel", "kind", "[I", true)
  | 18 => ("TickHouseModel", "type", "[I", true)
  | 19 => ("TickHouseModel", "told", "[I", true)
  | 20 => ("TickHouseModel", "clock", "[I", true)
  | 21 => ("TickHouseModel", "hasLast", "[Z", true)
  | 22 => ("TickHouseModel", "first", "[I", true)
  | 23 => ("TickHouseModel", "equation", "[I", true)
  | 24 => ("TickHouseModel", "automaton", "[I", true)
  | 25 => ("TickHouseModel", "lastSlot", "[I", true)
  | 26 => ("TickHouseModel", "parts", "I", false)
  | 27 => ("TickHouseModel", "op", "[I", true)
  | 28 => ("TickHouseModel", "begin", "[I", true)
  | 29 => ("TickHouseModel", "sign", "[I", true)
  | 30 => ("TickHouseModel", "spot", "[I", true)
  | 31 => ("TickHouseModel", "a", "[I", true)
  | 32 => ("TickHouseModel", "b", "[I", true)
  | 33 => ("TickHouseModel", "c", "[I", true)
  | 34 => ("TickHouseModel", "letter", "[I", true)
  | 35 => ("TickHouseModel", "number", "[I", true)
  | 36 => ("TickHouseModel", "nodeOf", "[I", true)
  | 37 => ("TickHouseModel", "called", "[I", true)
  | 38 => ("TickHouseModel", "nextArgument", "[I", true)
  | 39 => ("TickHouseModel", "gives", "[I", true)
  | 40 => ("TickHouseModel", "on", "[I", true)
  | 41 => ("TickHouseModel", "has", "[Z", true)
  | 42 => ("TickHouseModel", "later", "[Z", true)
  | 43 => ("TickHouseModel", "slot", "[I", true)
  | 44 => ("TickHouseModel", "equations", "I", false)
  | 45 => ("TickHouseModel", "eqNode", "[I", true)
  | 46 => ("TickHouseModel", "eqFrom", "[I", true)
  | 47 => ("TickHouseModel", "eqMany", "[I", true)
  | 48 => ("TickHouseModel", "eqFirst", "[I", true)
  | 49 => ("TickHouseModel", "eqWhole", "[I", true)
  | 50 => ("TickHouseModel", "eqAutomaton", "[I", true)
  | 51 => ("TickHouseModel", "eqState", "[I", true)
  | 52 => ("TickHouseModel", "lefts", "I", false)
  | 53 => ("TickHouseModel", "left", "[I", true)
  | 54 => ("TickHouseModel", "leftPlace", "[I", true)
  | 55 => ("TickHouseModel", "automata", "I", false)
  | 56 => ("TickHouseModel", "auNode", "[I", true)
  | 57 => ("TickHouseModel", "auPlace", "[I", true)
  | 58 => ("TickHouseModel", "auStates", "[I", true)
  | 59 => ("TickHouseModel", "auSlot", "[I", true)
  | 60 => ("TickHouseModel", "transitions", "I", false)
  | 61 => ("TickHouseModel", "trAutomaton", "[I", true)
  | 62 => ("TickHouseModel", "trState", "[I", true)
  | 63 => ("TickHouseModel", "isStrong", "[Z", true)
  | 64 => ("TickHouseModel", "isAnew", "[Z", true)
  | 65 => ("TickHouseModel", "trTo", "[I", true)
  | 66 => ("TickHouseModel", "trFirst", "[I", true)
  | 67 => ("TickHouseModel", "trWhole", "[I", true)
  | 68 => ("TickHouseModel", "at", "I", false)
  | 69 => ("TickHouseModel", "deep", "I", false)
  | 70 => ("TickHouseModel", "inAutomaton", "Z", false)
  | 71 => ("TickHouseModel", "inTransition", "Z", false)
  | 72 => ("TickHouseModel", "brackets", "I", false)
  | 73 => ("TickHouseModel", "noted", "I", false)
  | 74 => ("TickHouseModel", "part", "I", false)
  | 75 => ("TickHouseModel", "value", "I", false)
  | 76 => ("TickHouseModel", "trPlace", "[I", true)
  | 77 => ("TickHouseModel", "clocks", "I", false)
  | 78 => ("TickHouseModel", "clockLetter", "[I", true)
  | 79 => ("TickHouseModel", "clockSpot", "[I", true)
  | 80 => ("TickHouseModel", "clockNode", "[I", true)
  | 81 => ("TickHouseModel", "hasFirst", "[Z", true)
  | 82 => ("TickHouseModel", "hangs", "[Z", true)
  | 83 => ("TickHouseModel", "orders", "[I", true)
  | 84 => ("TickHouseModel", "order", "[I", true)
  | 85 => ("TickHouseModel", "placed", "[Z", true)
  | 86 => ("TickHouseModel", "nodeCount", "I", false)
  | 87 => ("TickHouseModel", "namePlace", "[I", true)
  | 88 => ("TickHouseModel", "wrongKind", "I", false)
  | 89 => ("TickHouseModel", "wrongPlace", "I", false)
  | 90 => ("TickHouseModel", "much", "[I", true)
  | 91 => ("TickHouseModel", "many", "[I", true)
  | 92 => ("TickHouseModel", "image", "[I", true)
  | 93 => ("TickHouseModel", "now", "[I", true)
  | 94 => ("TickHouseModel", "then", "[I", true)
  | 95 => ("TickHouseModel", "letterValue", "[I", true)
  | 96 => ("TickHouseModel", "isPresent", "[Z", true)
  | 97 => ("TickHouseModel", "isDone", "[Z", true)
  | 98 => ("TickHouseModel", "partValue", "[I", true)
  | 99 => ("TickHouseModel", "isChosen", "[Z", true)
  | 100 => ("TickHouseModel", "chosen", "[I", true)
  | 101 => ("TickHouseModel", "failed", "I", false)
  | 102 => ("TickHouseModel", "instances", "I", false)
  | 103 => ("TickHouseModel", "its", "[I", true)
  | 104 => ("TickHouseModel", "fed", "[I", true)
  | 105 => ("TickHouseModel", "memory", "[I", true)
  | 106 => ("TickHouseModel", "ticks", "[I", true)
  | 107 => ("TickHouseModel", "hasTicked", "[Z", true)
  | 108 => ("TickHouseModel", "flow", "[I", true)
  | 109 => ("TickHouseModel", "isFlow", "[Z", true)
  | 110 => ("TickHouseModel", "isSaved", "[Z", true)
  | 111 => ("TickHouseModel", "saved", "[I", true)
  | 112 => ("TickHouseModel", "savedTicks", "[I", true)
  | 113 => ("TickHouseModel", "isProved", "Z", false)
  | 114 => ("TickHouseModel", "verdict", "I", false)
  | 115 => ("TickHouseModel", "found", "I", false)
  | 116 => ("TickHouseModel", "wide", "I", false)
  | 117 => ("TickHouseModel", "seen", "[I", true)
  | 118 => ("TickHouseModel", "from", "[I", true)
  | 119 => ("TickHouseModel", "by", "[I", true)
  | 120 => ("TickHouseModel", "path", "I", false)
  | 121 => ("TickHouseModel", "way", "[I", true)
  | 122 => ("TickHouseModel", "given", "[I", true)
  | _ => ("TickHouseModel", "bothFail", "Z", false)
def ai_ty12 : Nat → FieldType := fun k => match k with
  | 0 => .int
  | 1 => .int
  | 2 => (.array .int)
  | 3 => .int
  | 4 => (.array .int)
  | 5 => .int
  | 6 => (.array .int)
  | 7 => .boolean
  | 8 => .int
  | 9 => .int
  | 10 => .int
  | 11 => (.array .int)
  | 12 => (.array .int)
  | 13 => (.array .int)
  | 14 => (.array .int)
  | 15 => (.array .int)
  | 16 => (.array .int)
  | 17 => (.array .int)
  | 18 => (.array .int)
  | 19 => (.array .int)
  | 20 => (.array .int)
  | 21 => (.array .boolean)
  | 22 => (.array .int)
  | 23 => (.array .int)
  | 24 => (.array .int)
  | 25 => (.array .int)
  | 26 => .int
  | 27 => (.array .int)
  | 28 => (.array .int)
  | 29 => (.array .int)
  | 30 => (.array .int)
  | 31 => (.array .int)
  | 32 => (.array .int)
  | 33 => (.array .int)
  | 34 => (.array .int)
  | 35 => (.array .int)
  | 36 => (.array .int)
  | 37 => (.array .int)
  | 38 => (.array .int)
  | 39 => (.array .int)
  | 40 => (.array .int)
  | 41 => (.array .boolean)
  | 42 => (.array .boolean)
  | 43 => (.array .int)
  | 44 => .int
  | 45 => (.array .int)
  | 46 => (.array .int)
  | 47 => (.array .int)
  | 48 => (.array .int)
  | 49 => (.array .int)
  | 50 => (.array .int)
  | 51 => (.array .int)
  | 52 => .int
  | 53 => (.array .int)
  | 54 => (.array .int)
  | 55 => .int
  | 56 => (.array .int)
  | 57 => (.array .int)
  | 58 => (.array .int)
  | 59 => (.array .int)
  | 60 => .int
  | 61 => (.array .int)
  | 62 => (.array .int)
  | 63 => (.array .boolean)
  | 64 => (.array .boolean)
  | 65 => (.array .int)
  | 66 => (.array .int)
  | 67 => (.array .int)
  | 68 => .int
  | 69 => .int
  | 70 => .boolean
  | 71 => .boolean
  | 72 => .int
  | 73 => .int
  | 74 => .int
  | 75 => .int
  | 76 => (.array .int)
  | 77 => .int
  | 78 => (.array .int)
  | 79 => (.array .int)
  | 80 => (.array .int)
  | 81 => (.array .boolean)
  | 82 => (.array .boolean)
  | 83 => (.array .int)
  | 84 => (.array .int)
  | 85 => (.array .boolean)
  | 86 => .int
  | 87 => (.array .int)
  | 88 => .int
  | 89 => .int
  | 90 => (.array .int)
  | 91 => (.array .int)
  | 92 => (.array .int)
  | 93 => (.array .int)
  | 94 => (.array .int)
  | 95 => (.array .int)
  | 96 => (.array .boolean)
  | 97 => (.array .boolean)
  | 98 => (.array .int)
  | 99 => (.array .boolean)
  | 100 => (.array .int)
  | 101 => .int
  | 102 => .int
  | 103 => (.array .int)
  | 104 => (.array .int)
  | 105 => (.array .int)
  | 106 => (.array .int)
  | 107 => (.array .boolean)
  | 108 => (.array .int)
  | 109 => (.array .boolean)
  | 110 => (.array .boolean)
  | 111 => (.array .int)
  | 112 => (.array .int)
  | 113 => .boolean
  | 114 => .int
  | 115 => .int
  | 116 => .int
  | 117 => (.array .int)
  | 118 => (.array .int)
  | 119 => (.array .int)
  | 120 => .int
  | 121 => (.array .int)
  | 122 => (.array .int)
  | _ => .boolean
def ai_T13 : u_T := fun _ => ("", "", "", false)
def ai_ty13 : Nat → FieldType := fun _ => .int
def ai_T14 : u_T := fun _ => ("", "", "", false)
def ai_ty14 : Nat → FieldType := fun _ => .int
def ai_cl : List vw_C := [("TickHouse$Automata", ai_T0, 20), ("TickHouse$Equations", ai_T1, 10), ("TickHouse$Instance", ai_T2, 9), ("TickHouse$Judge", ai_T3, 6), ("TickHouse$Letters", ai_T4, 14), ("TickHouse$Machine", ai_T5, 11), ("TickHouse$Parts", ai_T6, 16), ("TickHouse$Planner", ai_T7, 7), ("TickHouse$Program", ai_T8, 20), ("TickHouse$Prover", ai_T9, 18), ("TickHouse$Reader", ai_T10, 14), ("TickHouse", ai_T11, 10), ("TickHouseModel", ai_T12, 124), ("java/lang/IllegalArgumentException", ai_T13, 0), ("java/util/NoSuchElementException", ai_T14, 0)]
def ai_own : Nat → String := fun k => match k with
  | 0 => "TickHouse$Automata"
  | 1 => "TickHouse$Equations"
  | 2 => "TickHouse$Instance"
  | 3 => "TickHouse$Judge"
  | 4 => "TickHouse$Letters"
  | 5 => "TickHouse$Machine"
  | 6 => "TickHouse$Parts"
  | 7 => "TickHouse$Planner"
  | 8 => "TickHouse$Program"
  | 9 => "TickHouse$Prover"
  | 10 => "TickHouse$Reader"
  | 11 => "TickHouse"
  | 12 => "TickHouseModel"
  | 13 => "java/lang/IllegalArgumentException"
  | 14 => "java/util/NoSuchElementException"
  | 15 => "TickHouseLaw"
  | 16 => "java/util/Arrays"
  | _ => "java/lang/Math"
def ai_tl : List FieldType := [.int, .boolean, .char, .long, .object "TickHouse$Instance"]
def ai_df : Nat → List Value := fun k => match k with
  | 0 => [.int 0, .int 0, .int 0, .null, .null, .null, .null, .null, .null, .null, .null, .null, .null, .null, .null, .null, .null, .null, .null, .null]
  | 1 => [.int 0, .int 0, .null, .null, .null, .null, .null, .null, .null, .null]
  | 2 => [.int 0, .int 0, .int 0, .null, .null, .null, .null, .null, .null]
  | 3 => [.null, .null, .null, .null, .null, .int 0]
  | 4 => [.null, .null, .null, .null, .null, .null, .null, .null, .null, .null, .null, .null, .null, .null]
  | 5 => [.null, .null, .null, .null, .null, .null, .null, .null, .null, .null, .int 0]
  | 6 => [.int 0, .null, .null, .null, .null, .null, .null, .null, .null, .null, .null, .null, .null, .null, .null, .null]
  | 7 => [.null, .null, .null, .null, .null, .int 0, .int 0]
  | 8 => [.int 0, .null, .null, .null, .null, .null, .null, .null, .null, .null, .null, .null, .null, .null, .null, .null, .null, .null, .null, .null]
  | 9 => [.int 0, .int 0, .int 0, .null, .null, .null, .null, .null, .null, .null, .null, .null, .null, .int 0, .int 0, .int 0, .int 0, .int 0]
  | 10 => [.null, .int 0, .null, .null, .null, .null, .int 0, .int 0, .int 0, .int 0, .int 0, .int 0, .int 0, .int 0]
  | 11 => [.null, .int 0, .int 0, .int 0, .null, .null, .null, .null, .int 0, .null]
  | 12 => [.int 0, .int 0, .null, .int 0, .null, .int 0, .null, .int 0, .int 0, .int 0, .int 0, .null, .null, .null, .null, .null, .null, .null, .null, .null, .null, .null, .null, .null, .null, .null, .int 0, .null, .null, .null, .null, .null, .null, .null, .null, .null, .null, .null, .null, .null, .null, .null, .null, .null, .int 0, .null, .null, .null, .null, .null, .null, .null, .int 0, .null, .null, .int 0, .null, .null, .null, .null, .int 0, .null, .null, .null, .null, .null, .null, .null, .int 0, .int 0, .int 0, .int 0, .int 0, .int 0, .int 0, .int 0, .null, .int 0, .null, .null, .null, .null, .null, .null, .null, .null, .int 0, .null, .int 0, .int 0, .null, .null, .null, .null, .null, .null, .null, .null, .null, .null, .null, .int 0, .int 0, .null, .null, .null, .null, .null, .null, .null, .null, .null, .null, .int 0, .int 0, .int 0, .int 0, .null, .null, .null, .int 0, .null, .null, .int 0]
  | 13 => []
  | _ => []
def ai_big : List Cond := lw_tbl.filter goodWord
theorem ai_big_good : ∀ w ∈ ai_big, (w.onTables && w.keeps) = true ∨ ∃ ty, w = .arrayClass ty := fun w h => good_of_word (List.mem_filter.mp h).2
theorem ai_big_of {w : Cond} {i : Nat} (h : tables_1[i]? = some w) (g : goodWord w = true) : w ∈ ai_big := List.mem_filter.mpr ⟨List.mem_append_right _ (List.mem_of_getElem? h), g⟩
theorem ai_big_sel {w : Cond} {i : Nat} (h : (k2_sels lw_privs)[i]? = some w) (g : goodWord w = true) : w ∈ ai_big := List.mem_filter.mpr ⟨List.mem_append_left _ (List.mem_of_getElem? h), g⟩
/-- a word stands at a place of the tables, and lasts -/
def ai_has (i : Nat) (w : Cond) : Bool := decide (tables_1[i]? = some w) && goodWord w
theorem ai_has_of {i : Nat} {w : Cond} (h : ai_has i w = true) : w ∈ ai_big := by
  simp only [ai_has, Bool.and_eq_true, decide_eq_true_eq] at h
  exact ai_big_of h.1 h.2
def ai_hasS (i : Nat) (w : Cond) : Bool := decide ((k2_sels lw_privs)[i]? = some w) && goodWord w
theorem ai_hasS_of {i : Nat} {w : Cond} (h : ai_hasS i w = true) : w ∈ ai_big := by
  simp only [ai_hasS, Bool.and_eq_true, decide_eq_true_eq] at h
  exact ai_big_sel h.1 h.2
/-- a class's fields stand in the tables at these places -/
def ai_ckT (C : String) (T : u_T) (N : Nat) (ps : List Nat) : Bool := (List.range N).all (fun k => match ps[k]? with
  | some i => ai_has i (u_lay C T k)
  | none => false)
theorem ai_ckT_of {C : String} {T : u_T} {N : Nat} {ps : List Nat} (h : ai_ckT C T N ps = true) : ∀ w ∈ u_ws C T N, w ∈ ai_big := by
  intro w hw
  obtain ⟨k, hk, rfl⟩ := List.mem_map.mp hw
  have h1 := List.all_eq_true.mp h k hk
  split at h1
  · exact ai_has_of h1
  · cases h1
theorem ai_T0_in : ai_ckT "TickHouse$Automata" ai_T0 20 [335, 337, 339, 341, 343, 345, 347, 349, 351, 353, 355, 357, 359, 361, 363, 365, 367, 369, 371, 373] = true := by decide +kernel
theorem ai_T0_ty : ∀ k, k < 20 → parseFieldDescriptor (ai_T0 k).2.2.1 = some (ai_ty0 k) := by decide +kernel
theorem ai_T0_nm : ∀ a, a < 20 → ∀ b, b < 20 → a ≠ b → (ai_T0 a).2.1 ≠ (ai_T0 b).2.1 := by decide +kernel
theorem ai_T1_in : ai_ckT "TickHouse$Equations" ai_T1 10 [245, 247, 249, 251, 253, 255, 257, 259, 261, 263] = true := by decide +kernel
theorem ai_T1_ty : ∀ k, k < 10 → parseFieldDescriptor (ai_T1 k).2.2.1 = some (ai_ty1 k) := by decide +kernel
theorem ai_T1_nm : ∀ a, a < 10 → ∀ b, b < 10 → a ≠ b → (ai_T1 a).2.1 ≠ (ai_T1 b).2.1 := by decide +kernel
theorem ai_T2_in : ai_ckT "TickHouse$Instance" ai_T2 9 [638, 640, 642, 644, 646, 648, 650, 652, 654] = true := by decide +kernel
theorem ai_T2_ty : ∀ k, k < 9 → parseFieldDescriptor (ai_T2 k).2.2.1 = some (ai_ty2 k) := by decide +kernel
theorem ai_T2_nm : ∀ a, a < 9 → ∀ b, b < 9 → a ≠ b → (ai_T2 a).2.1 ≠ (ai_T2 b).2.1 := by decide +kernel
theorem ai_T3_in : ai_ckT "TickHouse$Judge" ai_T3 6 [977, 979, 981, 983, 985, 987] = true := by decide +kernel
theorem ai_T3_ty : ∀ k, k < 6 → parseFieldDescriptor (ai_T3 k).2.2.1 = some (ai_ty3 k) := by decide +kernel
theorem ai_T3_nm : ∀ a, a < 6 → ∀ b, b < 6 → a ≠ b → (ai_T3 a).2.1 ≠ (ai_T3 b).2.1 := by decide +kernel
theorem ai_T4_in : ai_ckT "TickHouse$Letters" ai_T4 14 [176, 178, 180, 182, 184, 186, 188, 190, 192, 194, 196, 198, 200, 202] = true := by decide +kernel
theorem ai_T4_ty : ∀ k, k < 14 → parseFieldDescriptor (ai_T4 k).2.2.1 = some (ai_ty4 k) := by decide +kernel
theorem ai_T4_nm : ∀ a, a < 14 → ∀ b, b < 14 → a ≠ b → (ai_T4 a).2.1 ≠ (ai_T4 b).2.1 := by decide +kernel
theorem ai_T5_in : ai_ckT "TickHouse$Machine" ai_T5 11 [527, 529, 531, 533, 535, 537, 539, 541, 543, 545, 547] = true := by decide +kernel
theorem ai_T5_ty : ∀ k, k < 11 → parseFieldDescriptor (ai_T5 k).2.2.1 = some (ai_ty5 k) := by decide +kernel
theorem ai_T5_nm : ∀ a, a < 11 → ∀ b, b < 11 → a ≠ b → (ai_T5 a).2.1 ≠ (ai_T5 b).2.1 := by decide +kernel
theorem ai_T6_in : ai_ckT "TickHouse$Parts" ai_T6 16 [99, 101, 103, 105, 107, 109, 111, 113, 115, 117, 119, 121, 123, 125, 127, 129] = true := by decide +kernel
theorem ai_T6_ty : ∀ k, k < 16 → parseFieldDescriptor (ai_T6 k).2.2.1 = some (ai_ty6 k) := by decide +kernel
theorem ai_T6_nm : ∀ a, a < 16 → ∀ b, b < 16 → a ≠ b → (ai_T6 a).2.1 ≠ (ai_T6 b).2.1 := by decide +kernel
theorem ai_T7_in : ai_ckT "TickHouse$Planner" ai_T7 7 [1381, 1383, 1385, 1387, 1389, 1391, 1393] = true := by decide +kernel
theorem ai_T7_ty : ∀ k, k < 7 → parseFieldDescriptor (ai_T7 k).2.2.1 = some (ai_ty7 k) := by decide +kernel
theorem ai_T7_nm : ∀ a, a < 7 → ∀ b, b < 7 → a ≠ b → (ai_T7 a).2.1 ≠ (ai_T7 b).2.1 := by decide +kernel
theorem ai_T8_in : ai_ckT "TickHouse$Program" ai_T8 20 [461, 463, 465, 467, 469, 471, 473, 475, 477, 479, 481, 483, 485, 487, 489, 491, 493, 495, 497, 499] = true := by decide +kernel
theorem ai_T8_ty : ∀ k, k < 20 → parseFieldDescriptor (ai_T8 k).2.2.1 = some (ai_ty8 k) := by decide +kernel
theorem ai_T8_nm : ∀ a, a < 20 → ∀ b, b < 20 → a ≠ b → (ai_T8 a).2.1 ≠ (ai_T8 b).2.1 := by decide +kernel
theorem ai_T9_in : ai_ckT "TickHouse$Prover" ai_T9 18 [580, 582, 584, 586, 588, 590, 592, 594, 596, 598, 600, 602, 604, 606, 608, 610, 612, 614] = true := by decide +kernel
theorem ai_T9_ty : ∀ k, k < 18 → parseFieldDescriptor (ai_T9 k).2.2.1 = some (ai_ty9 k) := by decide +kernel
theorem ai_T9_nm : ∀ a, a < 18 → ∀ b, b < 18 → a ≠ b → (ai_T9 a).2.1 ≠ (ai_T9 b).2.1 := by decide +kernel
theorem ai_T10_in : ai_ckT "TickHouse$Reader" ai_T10 14 [935, 937, 939, 941, 943, 945, 947, 949, 951, 953, 955, 957, 959, 961] = true := by decide +kernel
theorem ai_T10_ty : ∀ k, k < 14 → parseFieldDescriptor (ai_T10 k).2.2.1 = some (ai_ty10 k) := by decide +kernel
theorem ai_T10_nm : ∀ a, a < 14 → ∀ b, b < 14 → a ≠ b → (ai_T10 a).2.1 ≠ (ai_T10 b).2.1 := by decide +kernel
theorem ai_T11_in : ai_ckT "TickHouse" ai_T11 10 [667, 669, 671, 673, 675, 677, 679, 681, 683, 685] = true := by decide +kernel
theorem ai_T11_ty : ∀ k, k < 10 → parseFieldDescriptor (ai_T11 k).2.2.1 = some (ai_ty11 k) := by decide +kernel
theorem ai_T11_nm : ∀ a, a < 10 → ∀ b, b < 10 → a ≠ b → (ai_T11 a).2.1 ≠ (ai_T11 b).2.1 := by decide +kernel
theorem ai_T12_in : ai_ckT "TickHouseModel" ai_T12 124 [1629, 1631, 1633, 1635, 1637, 1639, 1641, 1643, 1645, 1647, 1649, 1651, 1653, 1655, 1657, 1659, 1661, 1663, 1665, 1667, 1669, 1671, 1673, 1675, 1677, 1679, 1681, 1683, 1685, 1687, 1689, 1691, 1693, 1695, 1697, 1699, 1701, 1703, 1705, 1707, 1709, 1711, 1713, 1715, 1717, 1719, 1721, 1723, 1725, 1727, 1729, 1731, 1733, 1735, 1737, 1739, 1741, 1743, 1745, 1747, 1749, 1751, 1753, 1755, 1757, 1759, 1761, 1763, 1765, 1767, 1769, 1771, 1773, 1775, 1777, 1779, 1781, 1783, 1785, 1787, 1789, 1791, 1793, 1795, 1797, 1799, 1801, 1803, 1805, 1807, 1809, 1811, 1813, 1815, 1817, 1819, 1821, 1823, 1825, 1827, 1829, 1831, 1833, 1835, 1837, 1839, 1841, 1843, 1845, 1847, 1849, 1851, 1853, 1855, 1857, 1859, 1861, 1863, 1865, 1867, 1869, 1871, 1873, 1875] = true := by decide +kernel
theorem ai_T12_ty : ∀ k, k < 124 → parseFieldDescriptor (ai_T12 k).2.2.1 = some (ai_ty12 k) := by decide +kernel
theorem ai_T12_nm : ∀ a, a < 124 → ∀ b, b < 124 → a ≠ b → (ai_T12 a).2.1 ≠ (ai_T12 b).2.1 := by decide +kernel
theorem ai_T13_in : ai_ckT "java/lang/IllegalArgumentException" ai_T13 0 [] = true := by decide +kernel
theorem ai_T13_ty : ∀ k, k < 0 → parseFieldDescriptor (ai_T13 k).2.2.1 = some (ai_ty13 k) := by decide +kernel
theorem ai_T13_nm : ∀ a, a < 0 → ∀ b, b < 0 → a ≠ b → (ai_T13 a).2.1 ≠ (ai_T13 b).2.1 := by decide +kernel
theorem ai_T14_in : ai_ckT "java/util/NoSuchElementException" ai_T14 0 [] = true := by decide +kernel
theorem ai_T14_ty : ∀ k, k < 0 → parseFieldDescriptor (ai_T14 k).2.2.1 = some (ai_ty14 k) := by decide +kernel
theorem ai_T14_nm : ∀ a, a < 0 → ∀ b, b < 0 → a ≠ b → (ai_T14 a).2.1 ≠ (ai_T14 b).2.1 := by decide +kernel
theorem ai_cl_ok : ai_CL ai_cl ai_big := by
  intro ci C T N h
  match ci, h with
  | 0, h => cases h; exact ⟨ai_ckT_of ai_T0_in, ⟨ai_ty0, ai_T0_ty⟩, ai_T0_nm⟩
  | 1, h => cases h; exact ⟨ai_ckT_of ai_T1_in, ⟨ai_ty1, ai_T1_ty⟩, ai_T1_nm⟩
  | 2, h => cases h; exact ⟨ai_ckT_of ai_T2_in, ⟨ai_ty2, ai_T2_ty⟩, ai_T2_nm⟩
  | 3, h => cases h; exact ⟨ai_ckT_of ai_T3_in, ⟨ai_ty3, ai_T3_ty⟩, ai_T3_nm⟩
  | 4, h => cases h; exact ⟨ai_ckT_of ai_T4_in, ⟨ai_ty4, ai_T4_ty⟩, ai_T4_nm⟩
  | 5, h => cases h; exact ⟨ai_ckT_of ai_T5_in, ⟨ai_ty5, ai_T5_ty⟩, ai_T5_nm⟩
  | 6, h => cases h; exact ⟨ai_ckT_of ai_T6_in, ⟨ai_ty6, ai_T6_ty⟩, ai_T6_nm⟩
  | 7, h => cases h; exact ⟨ai_ckT_of ai_T7_in, ⟨ai_ty7, ai_T7_ty⟩, ai_T7_nm⟩
  | 8, h => cases h; exact ⟨ai_ckT_of ai_T8_in, ⟨ai_ty8, ai_T8_ty⟩, ai_T8_nm⟩
  | 9, h => cases h; exact ⟨ai_ckT_of ai_T9_in, ⟨ai_ty9, ai_T9_ty⟩, ai_T9_nm⟩
  | 10, h => cases h; exact ⟨ai_ckT_of ai_T10_in, ⟨ai_ty10, ai_T10_ty⟩, ai_T10_nm⟩
  | 11, h => cases h; exact ⟨ai_ckT_of ai_T11_in, ⟨ai_ty11, ai_T11_ty⟩, ai_T11_nm⟩
  | 12, h => cases h; exact ⟨ai_ckT_of ai_T12_in, ⟨ai_ty12, ai_T12_ty⟩, ai_T12_nm⟩
  | 13, h => cases h; exact ⟨ai_ckT_of ai_T13_in, ⟨ai_ty13, ai_T13_ty⟩, ai_T13_nm⟩
  | 14, h => cases h; exact ⟨ai_ckT_of ai_T14_in, ⟨ai_ty14, ai_T14_ty⟩, ai_T14_nm⟩
  | k + 15, h => simp [ai_cl] at h
theorem ai_cl_own : ∀ (ci : Nat) (C : String) (T : u_T) (N : Nat), ai_cl[ci]? = some (C, T, N) → ai_own ci = C := by
  intro ci C T N h
  match ci, h with
  | 0, h => cases h; rfl
  | 1, h => cases h; rfl
  | 2, h => cases h; rfl
  | 3, h => cases h; rfl
  | 4, h => cases h; rfl
  | 5, h => cases h; rfl
  | 6, h => cases h; rfl
  | 7, h => cases h; rfl
  | 8, h => cases h; rfl
  | 9, h => cases h; rfl
  | 10, h => cases h; rfl
  | 11, h => cases h; rfl
  | 12, h => cases h; rfl
  | 13, h => cases h; rfl
  | 14, h => cases h; rfl
  | k + 15, h => simp [ai_cl] at h
