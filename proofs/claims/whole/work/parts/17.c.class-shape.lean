/-! THE CLASS BY SHAPE: a Program is a block of 74 cells at B (numbers 500 + k); others by their places. PRINTED by wip/gen/rules.py -/
def az_P (B : Nat) : List ax_S := [.inr (500, .inr (8, [none, some (.ref (B + 1)), some (.ref (B + 2)), some (.ref (B + 3)), some (.ref (B + 4)), some (.ref (B + 5)), some (.ref (B + 6)), some (.ref (B + 7)), some (.ref (B + 8)), some (.ref (B + 9)), some (.ref (B + 10)), some (.ref (B + 11)), some (.ref (B + 12)), some (.ref (B + 13)), some (.ref (B + 14)), some (.ref (B + 15)), some (.ref (B + 16)), some (.ref (B + 32)), some (.ref (B + 47)), some (.ref (B + 56))])), .inr (501, .inl (0, 8)), .inr (502, .inl (0, 8)), .inr (503, .inl (0, 8)), .inr (504, .inl (0, 8)), .inr (505, .inl (0, 8)), .inr (506, .inl (0, 208)), .inr (507, .inl (0, 208)), .inr (508, .inl (0, 9)), .inr (509, .inl (0, 9)), .inr (510, .inl (0, 9)), .inr (511, .inl (0, 9)), .inr (512, .inl (0, 2048)), .inr (513, .inl (0, 8)), .inr (514, .inl (0, 8)), .inr (515, .inl (0, 2400)), .inr (516, .inr (6, [none, some (.ref (B + 17)), some (.ref (B + 18)), some (.ref (B + 19)), some (.ref (B + 20)), some (.ref (B + 21)), some (.ref (B + 22)), some (.ref (B + 23)), some (.ref (B + 24)), some (.ref (B + 25)), some (.ref (B + 26)), some (.ref (B + 27)), some (.ref (B + 28)), some (.ref (B + 29)), some (.ref (B + 30)), some (.ref (B + 31))])), .inr (517, .inl (0, 700)), .inr (518, .inl (0, 700)), .inr (519, .inl (0, 700)), .inr (520, .inl (0, 700)), .inr (521, .inl (0, 700)), .inr (522, .inl (0, 700)), .inr (523, .inl (0, 700)), .inr (524, .inl (0, 700)), .inr (525, .inl (0, 700)), .inr (526, .inl (1, 700)), .inr (527, .inl (0, 700)), .inr (528, .inl (0, 700)), .inr (529, .inl (0, 700)), .inr (530, .inl (1, 700)), .inr (531, .inl (0, 700)), .inr (532, .inr (4, [some (.ref (B + 33)), some (.ref (B + 34)), some (.ref (B + 35)), some (.ref (B + 36)), some (.ref (B + 37)), some (.ref (B + 38)), some (.ref (B + 39)), some (.ref (B + 40)), some (.ref (B + 41)), some (.ref (B + 42)), some (.ref (B + 43)), some (.ref (B + 44)), some (.ref (B + 45)), some (.ref (B + 46))])), .inr (533, .inl (0, 208)), .inr (534, .inl (0, 208)), .inr (535, .inl (0, 208)), .inr (536, .inl (0, 208)), .inr (537, .inl (0, 208)), .inr (538, .inl (1, 208)), .inr (539, .inl (0, 208)), .inr (540, .inl (0, 208)), .inr (541, .inl (0, 208)), .inr (542, .inl (0, 208)), .inr (543, .inl (0, 208)), .inr (544, .inl (1, 208)), .inr (545, .inl (0, 208)), .inr (546, .inl (0, 208)), .inr (547, .inr (1, [none, none, some (.ref (B + 48)), some (.ref (B + 49)), some (.ref (B + 50)), some (.ref (B + 51)), some (.ref (B + 52)), some (.ref (B + 53)), some (.ref (B + 54)), some (.ref (B + 55))])), .inr (548, .inl (0, 351)), .inr (549, .inl (0, 350)), .inr (550, .inl (0, 350)), .inr (551, .inl (0, 350)), .inr (552, .inl (0, 350)), .inr (553, .inl (1, 350)), .inr (554, .inl (0, 350)), .inr (555, .inl (0, 350)), .inr (556, .inr (0, [none, none, none, some (.ref (B + 57)), some (.ref (B + 58)), some (.ref (B + 59)), some (.ref (B + 60)), some (.ref (B + 61)), some (.ref (B + 62)), some (.ref (B + 63)), some (.ref (B + 64)), some (.ref (B + 65)), some (.ref (B + 66)), some (.ref (B + 67)), some (.ref (B + 68)), some (.ref (B + 69)), some (.ref (B + 70)), some (.ref (B + 71)), some (.ref (B + 72)), some (.ref (B + 73))])), .inr (557, .inl (0, 350)), .inr (558, .inl (0, 351)), .inr (559, .inl (0, 351)), .inr (560, .inl (0, 350)), .inr (561, .inl (0, 350)), .inr (562, .inl (1, 350)), .inr (563, .inl (0, 350)), .inr (564, .inl (0, 350)), .inr (565, .inl (0, 350)), .inr (566, .inl (0, 350)), .inr (567, .inl (0, 350)), .inr (568, .inl (1, 350)), .inr (569, .inl (1, 350)), .inr (570, .inl (0, 350)), .inr (571, .inl (0, 350)), .inr (572, .inl (0, 350)), .inr (573, .inl (0, 350))]
def az_W (B : Nat) (E : List (Nat × ax_S)) : ax_Lay := fun ss => ax_ok ss ∧ (∀ (k : Nat) (e : ax_S), (az_P B)[k]? = some e → ss[B + k]? = some e) ∧ ∀ (i : Nat) (q : Nat × ax_S), E[i]? = some q → ss[q.1]? = some q.2
theorem az_ok {B : Nat} {E : List (Nat × ax_S)} : ∀ ss, az_W B E ss → ax_ok ss := fun _ h => h.1
theorem az_b {B : Nat} {E : List (Nat × ax_S)} (k : Nat) {e : ax_S} (h : (az_P B)[k]? = some e) : ∀ ss, az_W B E ss → ss[B + k]? = some e := fun _ hs => hs.2.1 k e h
theorem az_e {B : Nat} {E : List (Nat × ax_S)} (i : Nat) {a : Nat} {s : ax_S} (h : E[i]? = some (a, s)) : ∀ ss, az_W B E ss → ss[a]? = some s := fun _ hs => hs.2.2 i (a, s) h
def az_ER (B r : Nat) : List (Nat × ax_S) := [(1, .inr (1, .inl (2, 700))), (r, .inr (600, .inr (10, [some (.ref 1), none, some (.ref B), some (.ref (B + 16)), some (.ref (B + 47)), some (.ref (B + 56)), none, none, none, none, none, none, none, none])))]
def az_EJ (B r : Nat) : List (Nat × ax_S) := [(r, .inr (601, .inr (3, [some (.ref B), some (.ref (B + 16)), some (.ref (B + 32)), some (.ref (B + 47)), some (.ref (B + 56)), none])))]
def az_EL (B r : Nat) : List (Nat × ax_S) := [(r, .inr (602, .inr (7, [some (.ref B), some (.ref (B + 16)), some (.ref (B + 32)), some (.ref (B + 47)), some (.ref (B + 56)), none, none])))]
theorem fl_0_9 : ai_P0.2.1 0 9 = some (0, 3, (.array .int), true) := rfl
theorem fl_0_15 : ai_P0.2.1 0 15 = some (0, 4, (.array .int), true) := rfl
theorem fl_0_18 : ai_P0.2.1 0 18 = some (0, 5, (.array .int), true) := rfl
theorem fl_0_21 : ai_P0.2.1 0 21 = some (0, 6, (.array .int), true) := rfl
theorem fl_0_24 : ai_P0.2.1 0 24 = some (0, 7, (.array .int), true) := rfl
theorem fl_0_27 : ai_P0.2.1 0 27 = some (0, 8, (.array .boolean), true) := rfl
theorem fl_0_31 : ai_P0.2.1 0 31 = some (0, 9, (.array .int), true) := rfl
theorem fl_0_34 : ai_P0.2.1 0 34 = some (0, 10, (.array .int), true) := rfl
theorem fl_0_37 : ai_P0.2.1 0 37 = some (0, 11, (.array .int), true) := rfl
theorem fl_0_40 : ai_P0.2.1 0 40 = some (0, 12, (.array .int), true) := rfl
theorem fl_0_43 : ai_P0.2.1 0 43 = some (0, 13, (.array .int), true) := rfl
theorem fl_0_46 : ai_P0.2.1 0 46 = some (0, 14, (.array .boolean), true) := rfl
theorem fl_0_52 : ai_P0.2.1 0 52 = some (0, 16, (.array .int), true) := rfl
theorem fl_0_64 : ai_P0.2.1 0 64 = some (0, 0, .int, false) := rfl
theorem fl_0_68 : ai_P0.2.1 0 68 = some (0, 1, .int, false) := rfl
theorem fl_0_71 : ai_P0.2.1 0 71 = some (0, 2, .int, false) := rfl
theorem fl_1_9 : ai_P0.2.1 1 9 = some (1, 2, (.array .int), true) := rfl
theorem fl_1_15 : ai_P0.2.1 1 15 = some (1, 3, (.array .int), true) := rfl
theorem fl_1_18 : ai_P0.2.1 1 18 = some (1, 4, (.array .int), true) := rfl
theorem fl_1_21 : ai_P0.2.1 1 21 = some (1, 5, (.array .int), true) := rfl
theorem fl_1_24 : ai_P0.2.1 1 24 = some (1, 6, (.array .int), true) := rfl
theorem fl_1_27 : ai_P0.2.1 1 27 = some (1, 7, (.array .boolean), true) := rfl
theorem fl_1_31 : ai_P0.2.1 1 31 = some (1, 8, (.array .int), true) := rfl
theorem fl_1_34 : ai_P0.2.1 1 34 = some (1, 9, (.array .int), true) := rfl
theorem fl_1_37 : ai_P0.2.1 1 37 = some (1, 0, .int, false) := rfl
theorem fl_1_41 : ai_P0.2.1 1 41 = some (1, 1, .int, false) := rfl
theorem fl_3_9 : ai_P0.2.1 3 9 = some (3, 5, .int, false) := rfl
theorem fl_3_15 : ai_P0.2.1 3 15 = some (3, 0, (.object "TickHouse$Program"), true) := rfl
theorem fl_3_25 : ai_P0.2.1 3 25 = some (3, 1, (.object "TickHouse$Parts"), true) := rfl
theorem fl_3_30 : ai_P0.2.1 3 30 = some (3, 2, (.object "TickHouse$Letters"), true) := rfl
theorem fl_3_35 : ai_P0.2.1 3 35 = some (3, 3, (.object "TickHouse$Equations"), true) := rfl
theorem fl_3_40 : ai_P0.2.1 3 40 = some (3, 4, (.object "TickHouse$Automata"), true) := rfl
theorem fl_3_41 : ai_P0.2.1 3 41 = some (8, 0, .int, false) := rfl
theorem fl_3_85 : ai_P0.2.1 3 85 = some (4, 0, (.array .int), true) := rfl
theorem fl_3_91 : ai_P0.2.1 3 91 = some (4, 2, (.array .int), true) := rfl
theorem fl_3_94 : ai_P0.2.1 3 94 = some (8, 9, (.array .int), true) := rfl
theorem fl_3_97 : ai_P0.2.1 3 97 = some (1, 2, (.array .int), true) := rfl
theorem fl_3_102 : ai_P0.2.1 3 102 = some (1, 8, (.array .int), true) := rfl
theorem fl_3_105 : ai_P0.2.1 3 105 = some (1, 9, (.array .int), true) := rfl
theorem fl_3_108 : ai_P0.2.1 3 108 = some (1, 5, (.array .int), true) := rfl
theorem fl_3_115 : ai_P0.2.1 3 115 = some (0, 9, (.array .int), true) := rfl
theorem fl_3_120 : ai_P0.2.1 3 120 = some (4, 1, (.array .int), true) := rfl
theorem fl_3_127 : ai_P0.2.1 3 127 = some (0, 10, (.array .int), true) := rfl
theorem fl_3_134 : ai_P0.2.1 3 134 = some (4, 8, (.array .int), true) := rfl
theorem fl_3_135 : ai_P0.2.1 3 135 = some (4, 10, (.array .int), true) := rfl
theorem fl_3_136 : ai_P0.2.1 3 136 = some (4, 9, (.array .int), true) := rfl
theorem fl_3_139 : ai_P0.2.1 3 139 = some (8, 1, (.array .int), true) := rfl
theorem fl_3_146 : ai_P0.2.1 3 146 = some (8, 2, (.array .int), true) := rfl
theorem fl_3_149 : ai_P0.2.1 3 149 = some (8, 8, (.array .int), true) := rfl
theorem fl_3_152 : ai_P0.2.1 3 152 = some (6, 4, (.array .int), true) := rfl
theorem fl_3_157 : ai_P0.2.1 3 157 = some (6, 3, (.array .int), true) := rfl
theorem fl_3_158 : ai_P0.2.1 3 158 = some (6, 1, (.array .int), true) := rfl
theorem fl_3_161 : ai_P0.2.1 3 161 = some (4, 5, (.array .boolean), true) := rfl
theorem fl_3_169 : ai_P0.2.1 3 169 = some (6, 7, (.array .int), true) := rfl
theorem fl_3_172 : ai_P0.2.1 3 172 = some (6, 8, (.array .int), true) := rfl
theorem fl_3_175 : ai_P0.2.1 3 175 = some (8, 10, (.array .int), true) := rfl
theorem fl_3_178 : ai_P0.2.1 3 178 = some (0, 4, (.array .int), true) := rfl
theorem fl_3_181 : ai_P0.2.1 3 181 = some (0, 3, (.array .int), true) := rfl
theorem fl_3_184 : ai_P0.2.1 3 184 = some (0, 5, (.array .int), true) := rfl
theorem fl_3_187 : ai_P0.2.1 3 187 = some (0, 18, (.array .int), true) := rfl
theorem fl_3_190 : ai_P0.2.1 3 190 = some (0, 19, (.array .int), true) := rfl
theorem fl_3_193 : ai_P0.2.1 3 193 = some (4, 3, (.array .int), true) := rfl
theorem fl_3_196 : ai_P0.2.1 3 196 = some (4, 4, (.array .int), true) := rfl
theorem fl_3_199 : ai_P0.2.1 3 199 = some (6, 12, (.array .int), true) := rfl
theorem fl_3_209 : ai_P0.2.1 3 209 = some (0, 17, (.array .int), true) := rfl
theorem fl_3_215 : ai_P0.2.1 3 215 = some (6, 5, (.array .int), true) := rfl
theorem fl_3_221 : ai_P0.2.1 3 221 = some (8, 7, (.array .int), true) := rfl
theorem fl_3_224 : ai_P0.2.1 3 224 = some (6, 6, (.array .int), true) := rfl
theorem fl_3_227 : ai_P0.2.1 3 227 = some (6, 2, (.array .int), true) := rfl
theorem fl_3_233 : ai_P0.2.1 3 233 = some (8, 3, (.array .int), true) := rfl
theorem fl_3_236 : ai_P0.2.1 3 236 = some (8, 6, (.array .int), true) := rfl
theorem fl_3_239 : ai_P0.2.1 3 239 = some (8, 4, (.array .int), true) := rfl
theorem fl_3_242 : ai_P0.2.1 3 242 = some (6, 11, (.array .int), true) := rfl
theorem fl_3_245 : ai_P0.2.1 3 245 = some (1, 4, (.array .int), true) := rfl
theorem fl_3_248 : ai_P0.2.1 3 248 = some (6, 13, (.array .int), true) := rfl
theorem fl_3_261 : ai_P0.2.1 3 261 = some (6, 9, (.array .int), true) := rfl
theorem fl_3_262 : ai_P0.2.1 3 262 = some (6, 14, (.array .boolean), true) := rfl
theorem fl_3_268 : ai_P0.2.1 3 268 = some (4, 11, (.array .boolean), true) := rfl
theorem fl_3_275 : ai_P0.2.1 3 275 = some (6, 10, (.array .boolean), true) := rfl
theorem fl_3_281 : ai_P0.2.1 3 281 = some (4, 12, (.array .int), true) := rfl
theorem fl_3_284 : ai_P0.2.1 3 284 = some (0, 14, (.array .boolean), true) := rfl
theorem fl_3_287 : ai_P0.2.1 3 287 = some (0, 7, (.array .int), true) := rfl
theorem fl_3_290 : ai_P0.2.1 3 290 = some (0, 16, (.array .int), true) := rfl
theorem fl_3_296 : ai_P0.2.1 3 296 = some (1, 3, (.array .int), true) := rfl
theorem fl_3_297 : ai_P0.2.1 3 297 = some (1, 6, (.array .int), true) := rfl
theorem fl_4_9 : ai_P0.2.1 4 9 = some (4, 0, (.array .int), true) := rfl
theorem fl_4_15 : ai_P0.2.1 4 15 = some (4, 1, (.array .int), true) := rfl
theorem fl_4_18 : ai_P0.2.1 4 18 = some (4, 2, (.array .int), true) := rfl
theorem fl_4_21 : ai_P0.2.1 4 21 = some (4, 3, (.array .int), true) := rfl
theorem fl_4_24 : ai_P0.2.1 4 24 = some (4, 4, (.array .int), true) := rfl
theorem fl_4_27 : ai_P0.2.1 4 27 = some (4, 5, (.array .boolean), true) := rfl
theorem fl_4_31 : ai_P0.2.1 4 31 = some (4, 6, (.array .int), true) := rfl
theorem fl_4_34 : ai_P0.2.1 4 34 = some (4, 7, (.array .int), true) := rfl
theorem fl_4_37 : ai_P0.2.1 4 37 = some (4, 8, (.array .int), true) := rfl
theorem fl_4_40 : ai_P0.2.1 4 40 = some (4, 9, (.array .int), true) := rfl
theorem fl_4_43 : ai_P0.2.1 4 43 = some (4, 10, (.array .int), true) := rfl
theorem fl_4_46 : ai_P0.2.1 4 46 = some (4, 11, (.array .boolean), true) := rfl
theorem fl_4_49 : ai_P0.2.1 4 49 = some (4, 12, (.array .int), true) := rfl
theorem fl_4_52 : ai_P0.2.1 4 52 = some (4, 13, (.array .int), true) := rfl
theorem fl_6_9 : ai_P0.2.1 6 9 = some (6, 1, (.array .int), true) := rfl
theorem fl_6_15 : ai_P0.2.1 6 15 = some (6, 2, (.array .int), true) := rfl
theorem fl_6_18 : ai_P0.2.1 6 18 = some (6, 3, (.array .int), true) := rfl
theorem fl_6_21 : ai_P0.2.1 6 21 = some (6, 4, (.array .int), true) := rfl
theorem fl_6_24 : ai_P0.2.1 6 24 = some (6, 5, (.array .int), true) := rfl
theorem fl_6_27 : ai_P0.2.1 6 27 = some (6, 6, (.array .int), true) := rfl
theorem fl_6_30 : ai_P0.2.1 6 30 = some (6, 7, (.array .int), true) := rfl
theorem fl_6_33 : ai_P0.2.1 6 33 = some (6, 8, (.array .int), true) := rfl
theorem fl_6_43 : ai_P0.2.1 6 43 = some (6, 11, (.array .int), true) := rfl
theorem fl_6_55 : ai_P0.2.1 6 55 = some (6, 15, (.array .int), true) := rfl
theorem fl_6_58 : ai_P0.2.1 6 58 = some (6, 0, .int, false) := rfl
theorem fl_7_9 : ai_P0.2.1 7 9 = some (7, 0, (.object "TickHouse$Program"), true) := rfl
theorem fl_7_21 : ai_P0.2.1 7 21 = some (7, 1, (.object "TickHouse$Parts"), true) := rfl
theorem fl_7_26 : ai_P0.2.1 7 26 = some (7, 2, (.object "TickHouse$Letters"), true) := rfl
theorem fl_7_31 : ai_P0.2.1 7 31 = some (7, 3, (.object "TickHouse$Equations"), true) := rfl
theorem fl_7_36 : ai_P0.2.1 7 36 = some (7, 4, (.object "TickHouse$Automata"), true) := rfl
theorem fl_7_37 : ai_P0.2.1 7 37 = some (8, 0, .int, false) := rfl
theorem fl_7_45 : ai_P0.2.1 7 45 = some (8, 11, (.array .int), true) := rfl
theorem fl_7_49 : ai_P0.2.1 7 49 = some (7, 5, .int, false) := rfl
theorem fl_7_68 : ai_P0.2.1 7 68 = some (8, 10, (.array .int), true) := rfl
theorem fl_7_71 : ai_P0.2.1 7 71 = some (8, 8, (.array .int), true) := rfl
theorem fl_7_90 : ai_P0.2.1 7 90 = some (8, 13, (.array .int), true) := rfl
theorem fl_7_93 : ai_P0.2.1 7 93 = some (6, 4, (.array .int), true) := rfl
theorem fl_7_96 : ai_P0.2.1 7 96 = some (4, 5, (.array .boolean), true) := rfl
theorem fl_7_102 : ai_P0.2.1 7 102 = some (8, 14, (.array .int), true) := rfl
theorem fl_7_105 : ai_P0.2.1 7 105 = some (6, 1, (.array .int), true) := rfl
theorem fl_7_108 : ai_P0.2.1 7 108 = some (6, 9, (.array .int), true) := rfl
theorem fl_7_111 : ai_P0.2.1 7 111 = some (6, 15, (.array .int), true) := rfl
theorem fl_7_114 : ai_P0.2.1 7 114 = some (0, 12, (.array .int), true) := rfl
theorem fl_7_119 : ai_P0.2.1 7 119 = some (0, 11, (.array .int), true) := rfl
theorem fl_7_122 : ai_P0.2.1 7 122 = some (0, 6, (.array .int), true) := rfl
theorem fl_7_123 : ai_P0.2.1 7 123 = some (4, 7, (.array .int), true) := rfl
theorem fl_7_126 : ai_P0.2.1 7 126 = some (8, 15, (.array .int), true) := rfl
theorem fl_7_135 : ai_P0.2.1 7 135 = some (4, 6, (.array .int), true) := rfl
theorem fl_7_138 : ai_P0.2.1 7 138 = some (8, 9, (.array .int), true) := rfl
theorem fl_7_141 : ai_P0.2.1 7 141 = some (1, 4, (.array .int), true) := rfl
theorem fl_7_146 : ai_P0.2.1 7 146 = some (4, 3, (.array .int), true) := rfl
theorem fl_7_149 : ai_P0.2.1 7 149 = some (1, 8, (.array .int), true) := rfl
theorem fl_7_152 : ai_P0.2.1 7 152 = some (1, 2, (.array .int), true) := rfl
theorem fl_7_159 : ai_P0.2.1 7 159 = some (6, 5, (.array .int), true) := rfl
theorem fl_7_162 : ai_P0.2.1 7 162 = some (6, 13, (.array .int), true) := rfl
theorem fl_7_163 : ai_P0.2.1 7 163 = some (6, 6, (.array .int), true) := rfl
theorem fl_7_166 : ai_P0.2.1 7 166 = some (8, 12, (.array .int), true) := rfl
theorem fl_7_180 : ai_P0.2.1 7 180 = some (7, 6, .int, false) := rfl
theorem fl_7_183 : ai_P0.2.1 7 183 = some (8, 3, (.array .int), true) := rfl
theorem fl_7_186 : ai_P0.2.1 7 186 = some (8, 6, (.array .int), true) := rfl
theorem fl_7_192 : ai_P0.2.1 7 192 = some (4, 13, (.array .int), true) := rfl
theorem fl_7_195 : ai_P0.2.1 7 195 = some (0, 8, (.array .boolean), true) := rfl
theorem fl_7_198 : ai_P0.2.1 7 198 = some (0, 7, (.array .int), true) := rfl
theorem fl_7_208 : ai_P0.2.1 7 208 = some (0, 5, (.array .int), true) := rfl
theorem fl_7_211 : ai_P0.2.1 7 211 = some (0, 16, (.array .int), true) := rfl
theorem fl_7_214 : ai_P0.2.1 7 214 = some (0, 17, (.array .int), true) := rfl
theorem fl_7_217 : ai_P0.2.1 7 217 = some (0, 14, (.array .boolean), true) := rfl
theorem fl_7_220 : ai_P0.2.1 7 220 = some (1, 5, (.array .int), true) := rfl
theorem fl_7_221 : ai_P0.2.1 7 221 = some (0, 9, (.array .int), true) := rfl
theorem fl_7_224 : ai_P0.2.1 7 224 = some (1, 7, (.array .boolean), true) := rfl
theorem fl_7_225 : ai_P0.2.1 7 225 = some (1, 6, (.array .int), true) := rfl
theorem fl_7_229 : ai_P0.2.1 7 229 = some (1, 3, (.array .int), true) := rfl
theorem fl_7_230 : ai_P0.2.1 7 230 = some (6, 10, (.array .boolean), true) := rfl
theorem fl_8_9 : ai_P0.2.1 8 9 = some (8, 1, (.array .int), true) := rfl
theorem fl_8_18 : ai_P0.2.1 8 18 = some (8, 3, (.array .int), true) := rfl
theorem fl_8_21 : ai_P0.2.1 8 21 = some (8, 4, (.array .int), true) := rfl
theorem fl_8_24 : ai_P0.2.1 8 24 = some (8, 5, (.array .int), true) := rfl
theorem fl_8_27 : ai_P0.2.1 8 27 = some (8, 6, (.array .int), true) := rfl
theorem fl_8_30 : ai_P0.2.1 8 30 = some (8, 7, (.array .int), true) := rfl
theorem fl_8_33 : ai_P0.2.1 8 33 = some (8, 8, (.array .int), true) := rfl
theorem fl_8_36 : ai_P0.2.1 8 36 = some (8, 9, (.array .int), true) := rfl
theorem fl_8_39 : ai_P0.2.1 8 39 = some (8, 10, (.array .int), true) := rfl
theorem fl_8_48 : ai_P0.2.1 8 48 = some (8, 13, (.array .int), true) := rfl
theorem fl_8_51 : ai_P0.2.1 8 51 = some (8, 14, (.array .int), true) := rfl
theorem fl_8_60 : ai_P0.2.1 8 60 = some (8, 16, (.object "TickHouse$Parts"), true) := rfl
theorem fl_8_67 : ai_P0.2.1 8 67 = some (8, 17, (.object "TickHouse$Letters"), true) := rfl
theorem fl_8_74 : ai_P0.2.1 8 74 = some (8, 18, (.object "TickHouse$Equations"), true) := rfl
theorem fl_8_81 : ai_P0.2.1 8 81 = some (8, 19, (.object "TickHouse$Automata"), true) := rfl
theorem fl_8_85 : ai_P0.2.1 8 85 = some (8, 0, .int, false) := rfl
theorem fl_8_95 : ai_P0.2.1 8 95 = some (6, 0, .int, false) := rfl
theorem fl_8_98 : ai_P0.2.1 8 98 = some (1, 0, .int, false) := rfl
theorem fl_8_99 : ai_P0.2.1 8 99 = some (1, 1, .int, false) := rfl
theorem fl_8_102 : ai_P0.2.1 8 102 = some (0, 0, .int, false) := rfl
theorem fl_8_103 : ai_P0.2.1 8 103 = some (0, 1, .int, false) := rfl
theorem fl_8_106 : ai_P0.2.1 8 106 = some (0, 2, .int, false) := rfl
theorem fl_10_9 : ai_P0.2.1 10 9 = some (10, 7, .int, false) := rfl
theorem fl_10_15 : ai_P0.2.1 10 15 = some (10, 9, .int, false) := rfl
theorem fl_10_18 : ai_P0.2.1 10 18 = some (10, 0, (.array .char), true) := rfl
theorem fl_10_22 : ai_P0.2.1 10 22 = some (10, 1, .int, true) := rfl
theorem fl_10_25 : ai_P0.2.1 10 25 = some (10, 2, (.object "TickHouse$Program"), true) := rfl
theorem fl_10_35 : ai_P0.2.1 10 35 = some (10, 3, (.object "TickHouse$Parts"), true) := rfl
theorem fl_10_40 : ai_P0.2.1 10 40 = some (10, 4, (.object "TickHouse$Equations"), true) := rfl
theorem fl_10_45 : ai_P0.2.1 10 45 = some (10, 5, (.object "TickHouse$Automata"), true) := rfl
theorem fl_10_49 : ai_P0.2.1 10 49 = some (10, 6, .int, false) := rfl
theorem fl_10_87 : ai_P0.2.1 10 87 = some (10, 8, .int, false) := rfl
theorem fl_10_100 : ai_P0.2.1 10 100 = some (8, 1, (.array .int), true) := rfl
theorem fl_10_104 : ai_P0.2.1 10 104 = some (8, 2, (.array .int), true) := rfl
theorem fl_10_113 : ai_P0.2.1 10 113 = some (8, 17, (.object "TickHouse$Letters"), true) := rfl
theorem fl_10_117 : ai_P0.2.1 10 117 = some (4, 0, (.array .int), true) := rfl
theorem fl_10_149 : ai_P0.2.1 10 149 = some (1, 0, .int, false) := rfl
theorem fl_10_154 : ai_P0.2.1 10 154 = some (6, 0, .int, false) := rfl
theorem fl_10_160 : ai_P0.2.1 10 160 = some (1, 1, .int, false) := rfl
theorem fl_10_169 : ai_P0.2.1 10 169 = some (1, 4, (.array .int), true) := rfl
theorem fl_10_172 : ai_P0.2.1 10 172 = some (6, 11, (.array .int), true) := rfl
theorem fl_10_174 : ai_P0.2.1 10 174 = some (1, 2, (.array .int), true) := rfl
theorem fl_10_177 : ai_P0.2.1 10 177 = some (0, 0, .int, false) := rfl
theorem fl_10_183 : ai_P0.2.1 10 183 = some (0, 1, .int, false) := rfl
theorem fl_10_192 : ai_P0.2.1 10 192 = some (0, 2, .int, false) := rfl
theorem fl_10_199 : ai_P0.2.1 10 199 = some (10, 10, .boolean, false) := rfl
theorem fl_10_203 : ai_P0.2.1 10 203 = some (0, 17, (.array .int), true) := rfl
theorem fl_10_206 : ai_P0.2.1 10 206 = some (0, 15, (.array .boolean), true) := rfl
theorem fl_10_210 : ai_P0.2.1 10 210 = some (0, 18, (.array .int), true) := rfl
theorem fl_10_213 : ai_P0.2.1 10 213 = some (0, 19, (.array .int), true) := rfl
theorem fl_10_219 : ai_P0.2.1 10 219 = some (6, 9, (.array .int), true) := rfl
theorem fl_10_221 : ai_P0.2.1 10 221 = some (6, 10, (.array .boolean), true) := rfl
theorem fl_10_224 : ai_P0.2.1 10 224 = some (10, 13, .int, false) := rfl
theorem fl_10_227 : ai_P0.2.1 10 227 = some (6, 2, (.array .int), true) := rfl
theorem fl_10_233 : ai_P0.2.1 10 233 = some (6, 5, (.array .int), true) := rfl
theorem fl_10_236 : ai_P0.2.1 10 236 = some (6, 6, (.array .int), true) := rfl
theorem fl_10_239 : ai_P0.2.1 10 239 = some (10, 11, .int, false) := rfl
theorem fl_10_271 : ai_P0.2.1 10 271 = some (10, 12, .int, false) := rfl
theorem fl_10_289 : ai_P0.2.1 10 289 = some (6, 8, (.array .int), true) := rfl
theorem fl_10_292 : ai_P0.2.1 10 292 = some (6, 7, (.array .int), true) := rfl
theorem ml_3_44 : ai_P0.2.2.2.1 3 44 = some (0, 108, 2, 3) := rfl
theorem ml_3_48 : ai_P0.2.2.2.1 3 48 = some (0, 109, 1, 3) := rfl
theorem ml_3_52 : ai_P0.2.2.2.1 3 52 = some (0, 113, 1, 3) := rfl
theorem ml_3_55 : ai_P0.2.2.2.1 3 55 = some (0, 115, 1, 3) := rfl
theorem ml_3_58 : ai_P0.2.2.2.1 3 58 = some (0, 116, 1, 3) := rfl
theorem ml_3_61 : ai_P0.2.2.2.1 3 61 = some (0, 117, 1, 3) := rfl
theorem ml_3_64 : ai_P0.2.2.2.1 3 64 = some (0, 123, 1, 3) := rfl
theorem ml_3_67 : ai_P0.2.2.2.1 3 67 = some (0, 124, 1, 3) := rfl
theorem ml_3_70 : ai_P0.2.2.2.1 3 70 = some (0, 129, 1, 3) := rfl
theorem ml_3_73 : ai_P0.2.2.2.1 3 73 = some (0, 130, 1, 3) := rfl
theorem ml_3_76 : ai_P0.2.2.2.1 3 76 = some (0, 133, 1, 3) := rfl
theorem ml_3_79 : ai_P0.2.2.2.1 3 79 = some (0, 135, 1, 3) := rfl
theorem ml_3_82 : ai_P0.2.2.2.1 3 82 = some (0, 136, 1, 3) := rfl
theorem ml_3_111 : ai_P0.2.2.2.1 3 111 = some (0, 110, 3, 3) := rfl
theorem ml_3_123 : ai_P0.2.2.2.1 3 123 = some (0, 111, 2, 3) := rfl
theorem ml_3_130 : ai_P0.2.2.2.1 3 130 = some (2, 112, 1, 0) := rfl
theorem ml_3_142 : ai_P0.2.2.2.1 3 142 = some (0, 94, 2, 8) := rfl
theorem ml_3_165 : ai_P0.2.2.2.1 3 165 = some (0, 114, 1, 3) := rfl
theorem ml_3_200 : ai_P0.2.2.2.1 3 200 = some (0, 118, 1, 3) := rfl
theorem ml_3_203 : ai_P0.2.2.2.1 3 203 = some (0, 119, 1, 3) := rfl
theorem ml_3_206 : ai_P0.2.2.2.1 3 206 = some (0, 122, 1, 3) := rfl
theorem ml_3_212 : ai_P0.2.2.2.1 3 212 = some (0, 121, 2, 3) := rfl
theorem ml_3_218 : ai_P0.2.2.2.1 3 218 = some (0, 34, 1, 6) := rfl
theorem ml_3_230 : ai_P0.2.2.2.1 3 230 = some (0, 120, 1, 3) := rfl
theorem ml_3_249 : ai_P0.2.2.2.1 3 249 = some (0, 125, 1, 3) := rfl
theorem ml_3_252 : ai_P0.2.2.2.1 3 252 = some (0, 126, 2, 3) := rfl
theorem ml_3_255 : ai_P0.2.2.2.1 3 255 = some (0, 127, 1, 3) := rfl
theorem ml_3_258 : ai_P0.2.2.2.1 3 258 = some (0, 128, 1, 3) := rfl
theorem ml_3_265 : ai_P0.2.2.2.1 3 265 = some (0, 131, 1, 3) := rfl
theorem ml_3_269 : ai_P0.2.2.2.1 3 269 = some (0, 132, 1, 6) := rfl
theorem ml_3_272 : ai_P0.2.2.2.1 3 272 = some (0, 134, 1, 3) := rfl
theorem ml_3_278 : ai_P0.2.2.2.1 3 278 = some (0, 137, 1, 3) := rfl
theorem ml_3_293 : ai_P0.2.2.2.1 3 293 = some (0, 138, 2, 3) := rfl
theorem ml_4_55 : ai_P0.2.2.2.1 4 55 = some (2, 17, 2, 0) := rfl
theorem ml_7_41 : ai_P0.2.2.2.1 7 41 = some (0, 141, 1, 7) := rfl
theorem ml_7_52 : ai_P0.2.2.2.1 7 52 = some (0, 15, 1, 8) := rfl
theorem ml_7_56 : ai_P0.2.2.2.1 7 56 = some (0, 143, 1, 7) := rfl
theorem ml_7_59 : ai_P0.2.2.2.1 7 59 = some (0, 144, 1, 7) := rfl
theorem ml_7_62 : ai_P0.2.2.2.1 7 62 = some (0, 145, 1, 7) := rfl
theorem ml_7_65 : ai_P0.2.2.2.1 7 65 = some (0, 147, 1, 7) := rfl
theorem ml_7_75 : ai_P0.2.2.2.1 7 75 = some (0, 142, 1, 7) := rfl
theorem ml_7_79 : ai_P0.2.2.2.1 7 79 = some (6, 0, 0, 0) := rfl
theorem ml_7_85 : ai_P0.2.2.2.1 7 85 = some (0, 34, 1, 6) := rfl
theorem ml_7_129 : ai_P0.2.2.2.1 7 129 = some (5, 0, 0, 0) := rfl
theorem ml_7_155 : ai_P0.2.2.2.1 7 155 = some (0, 146, 2, 7) := rfl
theorem ml_7_168 : ai_P0.2.2.2.1 7 168 = some (0, 148, 1, 7) := rfl
theorem ml_7_171 : ai_P0.2.2.2.1 7 171 = some (0, 149, 1, 7) := rfl
theorem ml_7_174 : ai_P0.2.2.2.1 7 174 = some (0, 152, 1, 7) := rfl
theorem ml_7_177 : ai_P0.2.2.2.1 7 177 = some (0, 154, 1, 7) := rfl
theorem ml_7_189 : ai_P0.2.2.2.1 7 189 = some (2, 112, 1, 0) := rfl
theorem ml_7_201 : ai_P0.2.2.2.1 7 201 = some (0, 150, 2, 7) := rfl
theorem ml_7_205 : ai_P0.2.2.2.1 7 205 = some (0, 151, 2, 7) := rfl
theorem ml_7_226 : ai_P0.2.2.2.1 7 226 = some (0, 153, 1, 7) := rfl
theorem ml_8_89 : ai_P0.2.2.2.1 8 89 = some (2, 17, 2, 0) := rfl
theorem ml_8_109 : ai_P0.2.2.2.1 8 109 = some (0, 64, 0, 4) := rfl
theorem ml_8_112 : ai_P0.2.2.2.1 8 112 = some (0, 13, 1, 8) := rfl
theorem ml_10_46 : ai_P0.2.2.2.1 10 46 = some (0, 63, 0, 8) := rfl
theorem ml_10_52 : ai_P0.2.2.2.1 10 52 = some (0, 65, 1, 10) := rfl
theorem ml_10_56 : ai_P0.2.2.2.1 10 56 = some (0, 66, 0, 10) := rfl
theorem ml_10_60 : ai_P0.2.2.2.1 10 60 = some (2, 73, 1, 0) := rfl
theorem ml_10_64 : ai_P0.2.2.2.1 10 64 = some (0, 81, 0, 10) := rfl
theorem ml_10_67 : ai_P0.2.2.2.1 10 67 = some (0, 84, 0, 10) := rfl
theorem ml_10_70 : ai_P0.2.2.2.1 10 70 = some (0, 69, 1, 10) := rfl
theorem ml_10_74 : ai_P0.2.2.2.1 10 74 = some (0, 106, 1, 8) := rfl
theorem ml_10_84 : ai_P0.2.2.2.1 10 84 = some (0, 68, 0, 10) := rfl
theorem ml_10_90 : ai_P0.2.2.2.1 10 90 = some (0, 72, 0, 10) := rfl
theorem ml_10_94 : ai_P0.2.2.2.1 10 94 = some (2, 79, 1, 0) := rfl
theorem ml_10_97 : ai_P0.2.2.2.1 10 97 = some (2, 67, 1, 0) := rfl
theorem ml_10_107 : ai_P0.2.2.2.1 10 107 = some (0, 70, 1, 10) := rfl
theorem ml_10_110 : ai_P0.2.2.2.1 10 110 = some (0, 71, 1, 10) := rfl
theorem ml_10_122 : ai_P0.2.2.2.1 10 122 = some (0, 74, 4, 4) := rfl
theorem ml_10_126 : ai_P0.2.2.2.1 10 126 = some (0, 75, 3, 8) := rfl
theorem ml_10_130 : ai_P0.2.2.2.1 10 130 = some (6, 0, 0, 0) := rfl
theorem ml_10_136 : ai_P0.2.2.2.1 10 136 = some (0, 76, 0, 10) := rfl
theorem ml_10_139 : ai_P0.2.2.2.1 10 139 = some (0, 77, 3, 4) := rfl
theorem ml_10_142 : ai_P0.2.2.2.1 10 142 = some (0, 78, 0, 10) := rfl
theorem ml_10_145 : ai_P0.2.2.2.1 10 145 = some (0, 80, 2, 4) := rfl
theorem ml_10_157 : ai_P0.2.2.2.1 10 157 = some (0, 85, 2, 1) := rfl
theorem ml_10_163 : ai_P0.2.2.2.1 10 163 = some (0, 86, 3, 1) := rfl
theorem ml_10_166 : ai_P0.2.2.2.1 10 166 = some (0, 87, 0, 10) := rfl
theorem ml_10_180 : ai_P0.2.2.2.1 10 180 = some (0, 82, 1, 0) := rfl
theorem ml_10_186 : ai_P0.2.2.2.1 10 186 = some (0, 83, 1, 0) := rfl
theorem ml_10_189 : ai_P0.2.2.2.1 10 189 = some (0, 104, 0, 10) := rfl
theorem ml_10_195 : ai_P0.2.2.2.1 10 195 = some (0, 105, 3, 0) := rfl
theorem ml_10_216 : ai_P0.2.2.2.1 10 216 = some (0, 92, 4, 6) := rfl
theorem ml_10_230 : ai_P0.2.2.2.1 10 230 = some (0, 91, 4, 10) := rfl
theorem ml_10_242 : ai_P0.2.2.2.1 10 242 = some (0, 88, 0, 10) := rfl
theorem ml_10_245 : ai_P0.2.2.2.1 10 245 = some (0, 97, 0, 10) := rfl
theorem ml_10_249 : ai_P0.2.2.2.1 10 249 = some (0, 95, 0, 10) := rfl
theorem ml_10_252 : ai_P0.2.2.2.1 10 252 = some (0, 103, 5, 10) := rfl
theorem ml_10_256 : ai_P0.2.2.2.1 10 256 = some (0, 89, 1, 10) := rfl
theorem ml_10_259 : ai_P0.2.2.2.1 10 259 = some (0, 90, 0, 10) := rfl
theorem ml_10_262 : ai_P0.2.2.2.1 10 262 = some (0, 100, 1, 10) := rfl
theorem ml_10_265 : ai_P0.2.2.2.1 10 265 = some (0, 101, 0, 10) := rfl
theorem ml_10_268 : ai_P0.2.2.2.1 10 268 = some (2, 102, 1, 0) := rfl
theorem ml_10_274 : ai_P0.2.2.2.1 10 274 = some (0, 93, 0, 10) := rfl
theorem ml_10_277 : ai_P0.2.2.2.1 10 277 = some (0, 96, 1, 10) := rfl
theorem ml_10_280 : ai_P0.2.2.2.1 10 280 = some (0, 98, 0, 10) := rfl
theorem ml_10_283 : ai_P0.2.2.2.1 10 283 = some (0, 99, 0, 10) := rfl
theorem ml_10_286 : ai_P0.2.2.2.1 10 286 = some (0, 94, 2, 8) := rfl
