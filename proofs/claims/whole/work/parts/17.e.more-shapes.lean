/-! MORE SHAPES: the machine, an instance, the prover, the house. PRINTED by wip/gen/rules.py -/
def az_EM (B : Nat) : List (Nat × ax_S) := [(150, .inr (150, .inr (5, [some (.ref B), some (.ref (B + 16)), some (.ref (B + 32)), some (.ref (B + 47)), some (.ref (B + 56)), some (.ref 151), some (.ref 152), some (.ref 153), some (.ref 154), some (.ref 155), none]))), (151, .inr (151, .inl (0, 700))), (152, .inr (152, .inl (0, 208))), (153, .inr (153, .inl (1, 208))), (154, .inr (154, .inl (0, 350))), (155, .inr (155, .inl (0, 300)))]
def az_EN (B a na b nb : Nat) : List (Nat × ax_S) := [(150, .inr (150, .inr (5, [some (.ref B), some (.ref (B + 16)), some (.ref (B + 32)), some (.ref (B + 47)), some (.ref (B + 56)), some (.ref 151), some (.ref 152), some (.ref 153), some (.ref 154), some (.ref 155), none]))), (151, .inr (151, .inl (0, 700))), (152, .inr (152, .inl (0, 208))), (153, .inr (153, .inl (1, 208))), (154, .inr (154, .inl (0, 350))), (155, .inr (155, .inl (0, 300))), (a, .inr (610, .inl (0, na))), (b, .inr (611, .inl (0, nb)))]
def az_EI (B q : Nat) : List (Nat × ax_S) := [(150, .inr (150, .inr (5, [some (.ref B), some (.ref (B + 16)), some (.ref (B + 32)), some (.ref (B + 47)), some (.ref (B + 56)), some (.ref 151), some (.ref 152), some (.ref 153), some (.ref 154), some (.ref 155), none]))), (151, .inr (151, .inl (0, 700))), (152, .inr (152, .inl (0, 208))), (153, .inr (153, .inl (1, 208))), (154, .inr (154, .inl (0, 350))), (155, .inr (155, .inl (0, 300))), (q, .inr (800, .inr (2, [none, none, none, some (.ref (q + 1)), some (.ref (q + 2)), some (.ref (q + 3)), some (.ref (q + 4)), some (.ref (q + 5)), some (.ref (q + 6))]))), (q + 1, .inr (801, .inl (0, 26))), (q + 2, .inr (802, .inl (0, 300))), (q + 3, .inr (803, .inl (0, 26))), (q + 4, .inr (804, .inl (1, 26))), (q + 5, .inr (805, .inl (0, 1200))), (q + 6, .inr (806, .inl (0, 4)))]
def az_EP (B w nw : Nat) : List (Nat × ax_S) := [(150, .inr (150, .inr (5, [some (.ref B), some (.ref (B + 16)), some (.ref (B + 32)), some (.ref (B + 47)), some (.ref (B + 56)), some (.ref 151), some (.ref 152), some (.ref 153), some (.ref 154), some (.ref 155), none]))), (151, .inr (151, .inl (0, 700))), (152, .inr (152, .inl (0, 208))), (153, .inr (153, .inl (1, 208))), (154, .inr (154, .inl (0, 350))), (155, .inr (155, .inl (0, 300))), (157, .inr (157, .inr (9, [none, none, none, some (.ref 158), some (.ref w), some (.ref 160), some (.ref 161), some (.ref 162), some (.ref 163), some (.ref 164), some (.ref 165), some (.ref 150), some (.ref B), none, none, none, none, none]))), (158, .inr (158, .inl (0, 300))), (160, .inr (160, .inl (0, 600))), (161, .inr (161, .inl (0, 300))), (162, .inr (162, .inl (0, 300))), (163, .inr (163, .inl (0, 1024))), (164, .inr (164, .inl (0, 26))), (165, .inr (165, .inl (0, 4))), (w, .inr (620, .inl (0, nw)))]
abbrev az_H := Nat × Nat × Value × Value × (Nat → Option Nat)
def az_EH (B : Nat) (S : az_H) (q : Nat) (J : Int) : List (Nat × ax_S) := [(0, .inr (0, .inr (11, [some (.ref 1), none, none, none, some (.ref B), some (.ref S.1), some (.ref 150), some (.ref 156), none, some (.ref 157)]))), (156, .inl (.inl (4, 8, .inr (.inr (.inr (.inr (fun j => if (j : Int) = J then some q else S.2.2.2.2 j))))))), (150, .inr (150, .inr (5, [some (.ref B), some (.ref (B + 16)), some (.ref (B + 32)), some (.ref (B + 47)), some (.ref (B + 56)), some (.ref 151), some (.ref 152), some (.ref 153), some (.ref 154), some (.ref 155), none]))), (151, .inr (151, .inl (0, 700))), (152, .inr (152, .inl (0, 208))), (153, .inr (153, .inl (1, 208))), (154, .inr (154, .inl (0, 350))), (155, .inr (155, .inl (0, 300))), (q, .inr (800, .inr (2, [none, none, none, some (.ref (q + 1)), some (.ref (q + 2)), some (.ref (q + 3)), some (.ref (q + 4)), some (.ref (q + 5)), some (.ref (q + 6))]))), (q + 1, .inr (801, .inl (0, 26))), (q + 2, .inr (802, .inl (0, 300))), (q + 3, .inr (803, .inl (0, 26))), (q + 4, .inr (804, .inl (1, 26))), (q + 5, .inr (805, .inl (0, 1200))), (q + 6, .inr (806, .inl (0, 4))), (157, .inr (157, .inr (9, [none, none, none, some (.ref 158), some (.ref S.2.1), some (.ref 160), some (.ref 161), some (.ref 162), some (.ref 163), some (.ref 164), some (.ref 165), some S.2.2.1, some S.2.2.2.1, none, none, none, none, none]))), (158, .inr (158, .inl (0, 300)))]
theorem fl_2_9 : ai_P0.2.1 2 9 = some (2, 3, (.array .int), true) := rfl
theorem fl_2_15 : ai_P0.2.1 2 15 = some (2, 4, (.array .int), true) := rfl
theorem fl_2_18 : ai_P0.2.1 2 18 = some (2, 5, (.array .int), true) := rfl
theorem fl_2_21 : ai_P0.2.1 2 21 = some (2, 6, (.array .boolean), true) := rfl
theorem fl_2_25 : ai_P0.2.1 2 25 = some (2, 7, (.array .int), true) := rfl
theorem fl_2_28 : ai_P0.2.1 2 28 = some (2, 8, (.array .int), true) := rfl
theorem fl_2_31 : ai_P0.2.1 2 31 = some (2, 0, .int, false) := rfl
theorem fl_2_35 : ai_P0.2.1 2 35 = some (2, 1, .int, false) := rfl
theorem fl_2_38 : ai_P0.2.1 2 38 = some (2, 2, .boolean, false) := rfl
theorem fl_2_48 : ai_P0.2.1 2 48 = some (8, 15, (.array .int), true) := rfl
theorem fl_2_59 : ai_P0.2.1 2 59 = some (5, 9, (.array .int), true) := rfl
theorem fl_2_62 : ai_P0.2.1 2 62 = some (5, 2, (.object "TickHouse$Letters"), false) := rfl
theorem fl_2_66 : ai_P0.2.1 2 66 = some (4, 0, (.array .int), true) := rfl
theorem fl_2_71 : ai_P0.2.1 2 71 = some (5, 7, (.array .boolean), true) := rfl
theorem fl_2_72 : ai_P0.2.1 2 72 = some (5, 6, (.array .int), true) := rfl
theorem fl_5_9 : ai_P0.2.1 5 9 = some (5, 5, (.array .int), true) := rfl
theorem fl_5_15 : ai_P0.2.1 5 15 = some (5, 6, (.array .int), true) := rfl
theorem fl_5_18 : ai_P0.2.1 5 18 = some (5, 7, (.array .boolean), true) := rfl
theorem fl_5_22 : ai_P0.2.1 5 22 = some (5, 8, (.array .int), true) := rfl
theorem fl_5_25 : ai_P0.2.1 5 25 = some (5, 9, (.array .int), true) := rfl
theorem fl_5_28 : ai_P0.2.1 5 28 = some (5, 10, .int, false) := rfl
theorem fl_5_32 : ai_P0.2.1 5 32 = some (5, 0, (.object "TickHouse$Program"), false) := rfl
theorem fl_5_36 : ai_P0.2.1 5 36 = some (8, 16, (.object "TickHouse$Parts"), true) := rfl
theorem fl_5_42 : ai_P0.2.1 5 42 = some (5, 1, (.object "TickHouse$Parts"), false) := rfl
theorem fl_5_43 : ai_P0.2.1 5 43 = some (8, 17, (.object "TickHouse$Letters"), true) := rfl
theorem fl_5_47 : ai_P0.2.1 5 47 = some (5, 2, (.object "TickHouse$Letters"), false) := rfl
theorem fl_5_48 : ai_P0.2.1 5 48 = some (8, 18, (.object "TickHouse$Equations"), true) := rfl
theorem fl_5_52 : ai_P0.2.1 5 52 = some (5, 3, (.object "TickHouse$Equations"), false) := rfl
theorem fl_5_53 : ai_P0.2.1 5 53 = some (8, 19, (.object "TickHouse$Automata"), true) := rfl
theorem fl_5_57 : ai_P0.2.1 5 57 = some (5, 4, (.object "TickHouse$Automata"), false) := rfl
theorem fl_5_58 : ai_P0.2.1 5 58 = some (8, 6, (.array .int), true) := rfl
theorem fl_5_61 : ai_P0.2.1 5 61 = some (8, 14, (.array .int), true) := rfl
theorem fl_5_70 : ai_P0.2.1 5 70 = some (8, 3, (.array .int), true) := rfl
theorem fl_5_81 : ai_P0.2.1 5 81 = some (8, 10, (.array .int), true) := rfl
theorem fl_5_84 : ai_P0.2.1 5 84 = some (0, 4, (.array .int), true) := rfl
theorem fl_5_89 : ai_P0.2.1 5 89 = some (0, 6, (.array .int), true) := rfl
theorem fl_5_92 : ai_P0.2.1 5 92 = some (8, 11, (.array .int), true) := rfl
theorem fl_5_95 : ai_P0.2.1 5 95 = some (8, 12, (.array .int), true) := rfl
theorem fl_5_114 : ai_P0.2.1 5 114 = some (6, 15, (.array .int), true) := rfl
theorem fl_5_117 : ai_P0.2.1 5 117 = some (6, 5, (.array .int), true) := rfl
theorem fl_5_120 : ai_P0.2.1 5 120 = some (4, 7, (.array .int), true) := rfl
theorem fl_5_125 : ai_P0.2.1 5 125 = some (6, 9, (.array .int), true) := rfl
theorem fl_5_128 : ai_P0.2.1 5 128 = some (0, 9, (.array .int), true) := rfl
theorem fl_5_131 : ai_P0.2.1 5 131 = some (6, 13, (.array .int), true) := rfl
theorem fl_5_137 : ai_P0.2.1 5 137 = some (6, 6, (.array .int), true) := rfl
theorem fl_5_140 : ai_P0.2.1 5 140 = some (6, 1, (.array .int), true) := rfl
theorem fl_5_143 : ai_P0.2.1 5 143 = some (6, 4, (.array .int), true) := rfl
theorem fl_5_152 : ai_P0.2.1 5 152 = some (6, 3, (.array .int), true) := rfl
theorem fl_5_170 : ai_P0.2.1 5 170 = some (6, 7, (.array .int), true) := rfl
theorem fl_5_177 : ai_P0.2.1 5 177 = some (8, 7, (.array .int), true) := rfl
theorem fl_5_180 : ai_P0.2.1 5 180 = some (8, 15, (.array .int), true) := rfl
theorem fl_5_183 : ai_P0.2.1 5 183 = some (1, 5, (.array .int), true) := rfl
theorem fl_5_186 : ai_P0.2.1 5 186 = some (1, 4, (.array .int), true) := rfl
theorem fl_5_189 : ai_P0.2.1 5 189 = some (1, 2, (.array .int), true) := rfl
theorem fl_5_195 : ai_P0.2.1 5 195 = some (1, 8, (.array .int), true) := rfl
theorem fl_5_198 : ai_P0.2.1 5 198 = some (4, 3, (.array .int), true) := rfl
theorem fl_5_199 : ai_P0.2.1 5 199 = some (0, 5, (.array .int), true) := rfl
theorem fl_5_202 : ai_P0.2.1 5 202 = some (0, 14, (.array .boolean), true) := rfl
theorem fl_5_205 : ai_P0.2.1 5 205 = some (0, 13, (.array .int), true) := rfl
theorem fl_5_208 : ai_P0.2.1 5 208 = some (0, 17, (.array .int), true) := rfl
theorem fl_5_215 : ai_P0.2.1 5 215 = some (0, 18, (.array .int), true) := rfl
theorem fl_5_218 : ai_P0.2.1 5 218 = some (0, 15, (.array .boolean), true) := rfl
theorem fl_5_221 : ai_P0.2.1 5 221 = some (0, 11, (.array .int), true) := rfl
theorem fl_5_224 : ai_P0.2.1 5 224 = some (0, 12, (.array .int), true) := rfl
theorem fl_9_9 : ai_P0.2.1 9 9 = some (9, 3, (.array .int), true) := rfl
theorem fl_9_15 : ai_P0.2.1 9 15 = some (9, 4, (.array .int), false) := rfl
theorem fl_9_18 : ai_P0.2.1 9 18 = some (9, 5, (.array .int), true) := rfl
theorem fl_9_21 : ai_P0.2.1 9 21 = some (9, 6, (.array .int), true) := rfl
theorem fl_9_24 : ai_P0.2.1 9 24 = some (9, 7, (.array .int), true) := rfl
theorem fl_9_27 : ai_P0.2.1 9 27 = some (9, 8, (.array .int), true) := rfl
theorem fl_9_30 : ai_P0.2.1 9 30 = some (9, 9, (.array .int), true) := rfl
theorem fl_9_33 : ai_P0.2.1 9 33 = some (9, 10, (.array .int), true) := rfl
theorem fl_9_36 : ai_P0.2.1 9 36 = some (9, 11, (.object "TickHouse$Machine"), false) := rfl
theorem fl_9_40 : ai_P0.2.1 9 40 = some (5, 0, (.object "TickHouse$Program"), false) := rfl
theorem fl_9_46 : ai_P0.2.1 9 46 = some (9, 12, (.object "TickHouse$Program"), false) := rfl
theorem fl_9_47 : ai_P0.2.1 9 47 = some (9, 13, .int, false) := rfl
theorem fl_9_51 : ai_P0.2.1 9 51 = some (9, 14, .int, false) := rfl
theorem fl_9_54 : ai_P0.2.1 9 54 = some (9, 15, .int, false) := rfl
theorem fl_9_57 : ai_P0.2.1 9 57 = some (9, 16, .int, false) := rfl
theorem fl_9_60 : ai_P0.2.1 9 60 = some (8, 14, (.array .int), true) := rfl
theorem fl_9_65 : ai_P0.2.1 9 65 = some (9, 17, .int, false) := rfl
theorem fl_9_84 : ai_P0.2.1 9 84 = some (9, 1, .int, false) := rfl
theorem fl_9_87 : ai_P0.2.1 9 87 = some (9, 2, .int, false) := rfl
theorem fl_9_90 : ai_P0.2.1 9 90 = some (9, 0, .boolean, false) := rfl
theorem fl_9_97 : ai_P0.2.1 9 97 = some (8, 3, (.array .int), true) := rfl
theorem fl_9_116 : ai_P0.2.1 9 116 = some (8, 15, (.array .int), true) := rfl
theorem fl_9_129 : ai_P0.2.1 9 129 = some (5, 9, (.array .int), true) := rfl
theorem fl_9_132 : ai_P0.2.1 9 132 = some (5, 6, (.array .int), true) := rfl
theorem fl_9_142 : ai_P0.2.1 9 142 = some (8, 4, (.array .int), true) := rfl
theorem fl_9_143 : ai_P0.2.1 9 143 = some (8, 7, (.array .int), true) := rfl
theorem fl_11_9 : ai_P0.2.1 11 9 = some (11, 0, (.array .char), true) := rfl
theorem fl_11_16 : ai_P0.2.1 11 16 = some (11, 4, (.object "TickHouse$Program"), false) := rfl
theorem fl_11_20 : ai_P0.2.1 11 20 = some (11, 5, (.object "TickHouse$Program"), false) := rfl
theorem fl_11_28 : ai_P0.2.1 11 28 = some (11, 6, (.object "TickHouse$Machine"), true) := rfl
theorem fl_11_34 : ai_P0.2.1 11 34 = some (11, 7, (.array (.object "TickHouse$Instance")), true) := rfl
theorem fl_11_41 : ai_P0.2.1 11 41 = some (11, 9, (.object "TickHouse$Prover"), true) := rfl
theorem fl_11_46 : ai_P0.2.1 11 46 = some (11, 1, .int, false) := rfl
theorem fl_11_66 : ai_P0.2.1 11 66 = some (10, 7, .int, false) := rfl
theorem fl_11_73 : ai_P0.2.1 11 73 = some (11, 2, .int, false) := rfl
theorem fl_11_76 : ai_P0.2.1 11 76 = some (10, 6, .int, false) := rfl
theorem fl_11_79 : ai_P0.2.1 11 79 = some (3, 5, .int, false) := rfl
theorem fl_11_82 : ai_P0.2.1 11 82 = some (11, 3, .int, false) := rfl
theorem fl_11_101 : ai_P0.2.1 11 101 = some (11, 8, .int, false) := rfl
theorem fl_11_104 : ai_P0.2.1 11 104 = some (8, 0, .int, false) := rfl
theorem fl_11_111 : ai_P0.2.1 11 111 = some (8, 1, (.array .int), true) := rfl
theorem fl_11_115 : ai_P0.2.1 11 115 = some (8, 3, (.array .int), true) := rfl
theorem fl_11_118 : ai_P0.2.1 11 118 = some (8, 4, (.array .int), true) := rfl
theorem fl_11_121 : ai_P0.2.1 11 121 = some (8, 5, (.array .int), true) := rfl
theorem fl_11_124 : ai_P0.2.1 11 124 = some (8, 13, (.array .int), true) := rfl
theorem fl_11_126 : ai_P0.2.1 11 126 = some (8, 14, (.array .int), true) := rfl
theorem fl_11_139 : ai_P0.2.1 11 139 = some (2, 0, .int, false) := rfl
theorem fl_11_142 : ai_P0.2.1 11 142 = some (8, 6, (.array .int), true) := rfl
theorem fl_11_145 : ai_P0.2.1 11 145 = some (8, 17, (.object "TickHouse$Letters"), true) := rfl
theorem fl_11_149 : ai_P0.2.1 11 149 = some (4, 2, (.array .int), true) := rfl
theorem fl_11_154 : ai_P0.2.1 11 154 = some (2, 3, (.array .int), true) := rfl
theorem fl_11_155 : ai_P0.2.1 11 155 = some (2, 4, (.array .int), true) := rfl
theorem fl_11_162 : ai_P0.2.1 11 162 = some (5, 10, .int, false) := rfl
theorem fl_11_169 : ai_P0.2.1 11 169 = some (2, 2, .boolean, false) := rfl
theorem fl_11_178 : ai_P0.2.1 11 178 = some (2, 5, (.array .int), true) := rfl
theorem fl_11_181 : ai_P0.2.1 11 181 = some (8, 7, (.array .int), true) := rfl
theorem fl_11_184 : ai_P0.2.1 11 184 = some (2, 6, (.array .boolean), true) := rfl
theorem fl_11_190 : ai_P0.2.1 11 190 = some (8, 10, (.array .int), true) := rfl
theorem fl_11_193 : ai_P0.2.1 11 193 = some (8, 19, (.object "TickHouse$Automata"), true) := rfl
theorem fl_11_197 : ai_P0.2.1 11 197 = some (0, 6, (.array .int), true) := rfl
theorem fl_11_202 : ai_P0.2.1 11 202 = some (2, 1, .int, false) := rfl
theorem fl_11_226 : ai_P0.2.1 11 226 = some (9, 0, .boolean, false) := rfl
theorem fl_11_229 : ai_P0.2.1 11 229 = some (9, 2, .int, false) := rfl
theorem fl_11_232 : ai_P0.2.1 11 232 = some (9, 1, .int, false) := rfl
theorem fl_11_235 : ai_P0.2.1 11 235 = some (9, 3, (.array .int), true) := rfl
theorem ml_2_42 : ai_P0.2.2.2.1 2 42 = some (2, 17, 2, 0) := rfl
theorem ml_2_53 : ai_P0.2.2.2.1 2 53 = some (5, 0, 0, 0) := rfl
theorem ml_5_64 : ai_P0.2.2.2.1 5 64 = some (5, 0, 0, 0) := rfl
theorem ml_5_73 : ai_P0.2.2.2.1 5 73 = some (0, 22, 3, 5) := rfl
theorem ml_5_77 : ai_P0.2.2.2.1 5 77 = some (0, 23, 2, 5) := rfl
theorem ml_5_98 : ai_P0.2.2.2.1 5 98 = some (0, 24, 1, 5) := rfl
theorem ml_5_102 : ai_P0.2.2.2.1 5 102 = some (0, 26, 3, 5) := rfl
theorem ml_5_106 : ai_P0.2.2.2.1 5 106 = some (0, 33, 1, 5) := rfl
theorem ml_5_110 : ai_P0.2.2.2.1 5 110 = some (0, 35, 4, 5) := rfl
theorem ml_5_134 : ai_P0.2.2.2.1 5 134 = some (0, 25, 1, 5) := rfl
theorem ml_5_146 : ai_P0.2.2.2.1 5 146 = some (0, 27, 3, 5) := rfl
theorem ml_5_149 : ai_P0.2.2.2.1 5 149 = some (0, 28, 3, 5) := rfl
theorem ml_5_155 : ai_P0.2.2.2.1 5 155 = some (0, 30, 3, 5) := rfl
theorem ml_5_158 : ai_P0.2.2.2.1 5 158 = some (0, 31, 3, 5) := rfl
theorem ml_5_161 : ai_P0.2.2.2.1 5 161 = some (2, 32, 3, 0) := rfl
theorem ml_5_164 : ai_P0.2.2.2.1 5 164 = some (6, 0, 0, 0) := rfl
theorem ml_5_173 : ai_P0.2.2.2.1 5 173 = some (0, 29, 4, 5) := rfl
theorem ml_5_192 : ai_P0.2.2.2.1 5 192 = some (0, 34, 1, 6) := rfl
theorem ml_5_211 : ai_P0.2.2.2.1 5 211 = some (0, 36, 2, 5) := rfl
theorem ml_9_69 : ai_P0.2.2.2.1 9 69 = some (7, 0, 0, 0) := rfl
theorem ml_9_75 : ai_P0.2.2.2.1 9 75 = some (6, 0, 0, 0) := rfl
theorem ml_9_78 : ai_P0.2.2.2.1 9 78 = some (2, 17, 2, 0) := rfl
theorem ml_9_94 : ai_P0.2.2.2.1 9 94 = some (0, 48, 0, 9) := rfl
theorem ml_9_100 : ai_P0.2.2.2.1 9 100 = some (0, 52, 1, 9) := rfl
theorem ml_9_104 : ai_P0.2.2.2.1 9 104 = some (0, 55, 2, 9) := rfl
theorem ml_9_108 : ai_P0.2.2.2.1 9 108 = some (0, 49, 0, 9) := rfl
theorem ml_9_112 : ai_P0.2.2.2.1 9 112 = some (0, 51, 3, 9) := rfl
theorem ml_9_119 : ai_P0.2.2.2.1 9 119 = some (5, 0, 0, 0) := rfl
theorem ml_9_125 : ai_P0.2.2.2.1 9 125 = some (0, 21, 4, 5) := rfl
theorem ml_9_135 : ai_P0.2.2.2.1 9 135 = some (0, 53, 0, 9) := rfl
theorem ml_9_138 : ai_P0.2.2.2.1 9 138 = some (0, 54, 0, 9) := rfl
theorem ml_9_146 : ai_P0.2.2.2.1 9 146 = some (0, 50, 1, 9) := rfl
theorem ml_11_50 : ai_P0.2.2.2.1 11 50 = some (2, 10, 2, 0) := rfl
theorem ml_11_62 : ai_P0.2.2.2.1 11 62 = some (0, 286, 0, 10) := rfl
theorem ml_11_69 : ai_P0.2.2.2.1 11 69 = some (0, 107, 1, 3) := rfl
theorem ml_11_95 : ai_P0.2.2.2.1 11 95 = some (0, 140, 0, 7) := rfl
theorem ml_11_98 : ai_P0.2.2.2.1 11 98 = some (0, 155, 1, 5) := rfl
theorem ml_11_107 : ai_P0.2.2.2.1 11 107 = some (0, 13, 1, 8) := rfl
theorem ml_11_129 : ai_P0.2.2.2.1 11 129 = some (0, 15, 1, 8) := rfl
theorem ml_11_132 : ai_P0.2.2.2.1 11 132 = some (0, 16, 2, 2) := rfl
theorem ml_11_136 : ai_P0.2.2.2.1 11 136 = some (0, 19, 1, 11) := rfl
theorem ml_11_158 : ai_P0.2.2.2.1 11 158 = some (0, 21, 4, 5) := rfl
theorem ml_11_165 : ai_P0.2.2.2.1 11 165 = some (0, 37, 2, 2) := rfl
theorem ml_11_205 : ai_P0.2.2.2.1 11 205 = some (0, 41, 1, 2) := rfl
theorem ml_11_209 : ai_P0.2.2.2.1 11 209 = some (0, 43, 1, 2) := rfl
theorem ml_11_212 : ai_P0.2.2.2.1 11 212 = some (0, 45, 1, 11) := rfl
theorem ml_11_215 : ai_P0.2.2.2.1 11 215 = some (0, 46, 5, 9) := rfl
theorem ml_11_218 : ai_P0.2.2.2.1 11 218 = some (0, 47, 0, 9) := rfl
theorem ml_11_222 : ai_P0.2.2.2.1 11 222 = some (0, 57, 2, 11) := rfl
