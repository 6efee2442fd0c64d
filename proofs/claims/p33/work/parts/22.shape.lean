/-! which cells there are: of the law's object (0), its parts, the law's rows (46 to 49), none (50 to 83); behind them, once there is one, the machine (84 ..) -/
def shMid : Sh := [.inr (4, [some (some (2, 2)), some (some (4, 4)), some (some (6, 6)), some (some (8, 8)), some (some (10, 10)), some (some (12, 12)), some (some (14, 14)), none]), .inr (6, [some (some (3, 3))]), .inl (0, 120), .inr (6, [some (some (5, 5))]), .inl (0, 120), .inr (6, [some (some (7, 7))]), .inl (0, 120), .inr (6, [some (some (9, 9))]), .inl (0, 120), .inr (6, [some (some (11, 11))]), .inl (0, 120), .inr (6, [some (some (13, 13))]), .inl (0, 120), .inr (0, [some (some (15, 15)), some (some (17, 17)), none]), .inr (6, [some (some (16, 16))]), .inl (0, 1081), .inr (6, [some (some (18, 18))]), .inl (0, 1081), .inr (9, [some (some (20, 20)), some (some (25, 25)), some (some (30, 30)), some (some (32, 32)), some (some (34, 34)), some (some (36, 36)), some (some (38, 38)), none, none]), .inr (8, [some (some (21, 21)), some (some (23, 23)), none, none]), .inr (6, [some (some (22, 22))]), .inl (0, 40), .inr (6, [some (some (24, 24))]), .inl (0, 4), .inr (8, [some (some (26, 26)), some (some (28, 28)), none, none]), .inr (6, [some (some (27, 27))]), .inl (0, 40), .inr (6, [some (some (29, 29))]), .inl (0, 4), .inr (6, [some (some (31, 31))]), .inl (0, 4), .inr (6, [some (some (33, 33))]), .inl (0, 4), .inr (6, [some (some (35, 35))]), .inl (0, 6), .inr (6, [some (some (37, 37))]), .inl (0, 6), .inr (6, [some (some (39, 39))]), .inl (0, 6), .inr (5, [none, none, none, none, some (some (41, 41))]), .inr (6, [some (some (42, 42))]), .inl (0, 13), .inr (5, [none, none, none, none, some (some (44, 44))]), .inr (6, [some (some (45, 45))]), .inl (0, 13), .inl (0, 60), .inl (0, 7), .inl (0, 26), .inl (0, 62), .inl (9, 0), .inl (9, 0), .inl (9, 0), .inl (9, 0), .inl (9, 0), .inl (9, 0), .inl (9, 0), .inl (9, 0), .inl (9, 0), .inl (9, 0), .inl (9, 0), .inl (9, 0), .inl (9, 0), .inl (9, 0), .inl (9, 0), .inl (9, 0), .inl (9, 0), .inl (9, 0), .inl (9, 0), .inl (9, 0), .inl (9, 0), .inl (9, 0), .inl (9, 0), .inl (9, 0), .inl (9, 0), .inl (9, 0), .inl (9, 0), .inl (9, 0), .inl (9, 0), .inl (9, 0), .inl (9, 0), .inl (9, 0), .inl (9, 0), .inl (9, 0)]
def shTail : Sh := [.inr (2, [some (some (1, 1)), some (some (19, 19)), some (some (85, 85)), some (some (106, 106)), some (some (129, 129)), some (some (134, 134)), some (some (40, 43)), none, none, none, none, none, none, none, none, none, none, none, none, none]), .inr (9, [some (some (86, 86)), some (some (91, 91)), some (some (96, 96)), some (some (98, 98)), some (some (100, 100)), some (some (102, 102)), some (some (104, 104)), none, none]), .inr (8, [some (some (87, 87)), some (some (89, 89)), none, none]), .inr (6, [some (some (88, 88))]), .inl (0, 40), .inr (6, [some (some (90, 90))]), .inl (0, 4), .inr (8, [some (some (92, 92)), some (some (94, 94)), none, none]), .inr (6, [some (some (93, 93))]), .inl (0, 40), .inr (6, [some (some (95, 95))]), .inl (0, 4), .inr (6, [some (some (97, 97))]), .inl (0, 4), .inr (6, [some (some (99, 99))]), .inl (0, 4), .inr (6, [some (some (101, 101))]), .inl (0, 6), .inr (6, [some (some (103, 103))]), .inl (0, 6), .inr (6, [some (some (105, 105))]), .inl (0, 6), .inr (1, [some (some (107, 107)), some (some (109, 109)), some (some (111, 111)), some (some (113, 113)), some (some (115, 115)), some (some (117, 117)), some (some (119, 119)), some (some (121, 121)), some (some (123, 123)), some (some (125, 125)), some (some (127, 127))]), .inr (6, [some (some (108, 108))]), .inl (0, 601), .inr (6, [some (some (110, 110))]), .inl (0, 601), .inr (6, [some (some (112, 112))]), .inl (0, 601), .inr (6, [some (some (114, 114))]), .inl (0, 601), .inr (6, [some (some (116, 116))]), .inl (0, 601), .inr (6, [some (some (118, 118))]), .inl (0, 601), .inr (6, [some (some (120, 120))]), .inl (0, 601), .inr (6, [some (some (122, 122))]), .inl (0, 601), .inr (6, [some (some (124, 124))]), .inl (0, 601), .inr (6, [some (some (126, 126))]), .inl (0, 601), .inr (6, [some (some (128, 128))]), .inl (0, 601), .inr (7, [some (some (130, 130)), some (some (132, 132)), none]), .inr (6, [some (some (131, 131))]), .inl (0, 1210), .inr (6, [some (some (133, 133))]), .inl (0, 9680), .inr (3, [some (some (135, 135)), some (some (137, 137)), some (some (139, 139)), some (some (141, 141)), some (some (143, 143)), none, none]), .inr (6, [some (some (136, 136))]), .inl (0, 601), .inr (6, [some (some (138, 138))]), .inl (0, 601), .inr (6, [some (some (140, 140))]), .inl (0, 601), .inr (6, [some (some (142, 142))]), .inl (0, 601), .inr (6, [some (some (144, 144))]), .inl (0, 601)]
def shA : Sh := (.inr (10, [some (some (1, 1)), some (some (19, 19)), some (some (40, 40)), some (some (43, 43)), none, some none])) :: shMid
def shB : Sh := (.inr (10, [some (some (1, 1)), some (some (19, 19)), some (some (40, 40)), some (some (43, 43)), none, some (some (84, 84))])) :: (shMid ++ shTail)
def shOK (sh : Sh) : Prop := ∀ k, k < 83 → sh[k + 1]? = shMid[k]?
theorem shOK_A : shOK shA := fun k h => by rw [shA, List.getElem?_cons_succ]
theorem shOK_B : shOK shB := fun k h => by rw [shB, List.getElem?_cons_succ, List.getElem?_append_left (show k < shMid.length from h)]
theorem sA_1 {sh : Sh} (S : shOK sh) : sh[1]? = some (.inr (4, [some (some (2, 2)), some (some (4, 4)), some (some (6, 6)), some (some (8, 8)), some (some (10, 10)), some (some (12, 12)), some (some (14, 14)), none])) := (S 0 (Nat.le_of_ble_eq_true rfl)).trans rfl
theorem sA_2 {sh : Sh} (S : shOK sh) : sh[2]? = some (.inr (6, [some (some (3, 3))])) := (S 1 (Nat.le_of_ble_eq_true rfl)).trans rfl
theorem sA_3 {sh : Sh} (S : shOK sh) : sh[3]? = some (.inl (0, 120)) := (S 2 (Nat.le_of_ble_eq_true rfl)).trans rfl
theorem sA_4 {sh : Sh} (S : shOK sh) : sh[4]? = some (.inr (6, [some (some (5, 5))])) := (S 3 (Nat.le_of_ble_eq_true rfl)).trans rfl
theorem sA_5 {sh : Sh} (S : shOK sh) : sh[5]? = some (.inl (0, 120)) := (S 4 (Nat.le_of_ble_eq_true rfl)).trans rfl
theorem sA_6 {sh : Sh} (S : shOK sh) : sh[6]? = some (.inr (6, [some (some (7, 7))])) := (S 5 (Nat.le_of_ble_eq_true rfl)).trans rfl
theorem sA_7 {sh : Sh} (S : shOK sh) : sh[7]? = some (.inl (0, 120)) := (S 6 (Nat.le_of_ble_eq_true rfl)).trans rfl
theorem sA_8 {sh : Sh} (S : shOK sh) : sh[8]? = some (.inr (6, [some (some (9, 9))])) := (S 7 (Nat.le_of_ble_eq_true rfl)).trans rfl
theorem sA_9 {sh : Sh} (S : shOK sh) : sh[9]? = some (.inl (0, 120)) := (S 8 (Nat.le_of_ble_eq_true rfl)).trans rfl
theorem sA_10 {sh : Sh} (S : shOK sh) : sh[10]? = some (.inr (6, [some (some (11, 11))])) := (S 9 (Nat.le_of_ble_eq_true rfl)).trans rfl
theorem sA_11 {sh : Sh} (S : shOK sh) : sh[11]? = some (.inl (0, 120)) := (S 10 (Nat.le_of_ble_eq_true rfl)).trans rfl
theorem sA_12 {sh : Sh} (S : shOK sh) : sh[12]? = some (.inr (6, [some (some (13, 13))])) := (S 11 (Nat.le_of_ble_eq_true rfl)).trans rfl
theorem sA_13 {sh : Sh} (S : shOK sh) : sh[13]? = some (.inl (0, 120)) := (S 12 (Nat.le_of_ble_eq_true rfl)).trans rfl
theorem sA_14 {sh : Sh} (S : shOK sh) : sh[14]? = some (.inr (0, [some (some (15, 15)), some (some (17, 17)), none])) := (S 13 (Nat.le_of_ble_eq_true rfl)).trans rfl
theorem sA_15 {sh : Sh} (S : shOK sh) : sh[15]? = some (.inr (6, [some (some (16, 16))])) := (S 14 (Nat.le_of_ble_eq_true rfl)).trans rfl
theorem sA_16 {sh : Sh} (S : shOK sh) : sh[16]? = some (.inl (0, 1081)) := (S 15 (Nat.le_of_ble_eq_true rfl)).trans rfl
theorem sA_17 {sh : Sh} (S : shOK sh) : sh[17]? = some (.inr (6, [some (some (18, 18))])) := (S 16 (Nat.le_of_ble_eq_true rfl)).trans rfl
theorem sA_18 {sh : Sh} (S : shOK sh) : sh[18]? = some (.inl (0, 1081)) := (S 17 (Nat.le_of_ble_eq_true rfl)).trans rfl
theorem sA_19 {sh : Sh} (S : shOK sh) : sh[19]? = some (.inr (9, [some (some (20, 20)), some (some (25, 25)), some (some (30, 30)), some (some (32, 32)), some (some (34, 34)), some (some (36, 36)), some (some (38, 38)), none, none])) := (S 18 (Nat.le_of_ble_eq_true rfl)).trans rfl
theorem sA_20 {sh : Sh} (S : shOK sh) : sh[20]? = some (.inr (8, [some (some (21, 21)), some (some (23, 23)), none, none])) := (S 19 (Nat.le_of_ble_eq_true rfl)).trans rfl
theorem sA_21 {sh : Sh} (S : shOK sh) : sh[21]? = some (.inr (6, [some (some (22, 22))])) := (S 20 (Nat.le_of_ble_eq_true rfl)).trans rfl
theorem sA_22 {sh : Sh} (S : shOK sh) : sh[22]? = some (.inl (0, 40)) := (S 21 (Nat.le_of_ble_eq_true rfl)).trans rfl
theorem sA_23 {sh : Sh} (S : shOK sh) : sh[23]? = some (.inr (6, [some (some (24, 24))])) := (S 22 (Nat.le_of_ble_eq_true rfl)).trans rfl
theorem sA_24 {sh : Sh} (S : shOK sh) : sh[24]? = some (.inl (0, 4)) := (S 23 (Nat.le_of_ble_eq_true rfl)).trans rfl
theorem sA_25 {sh : Sh} (S : shOK sh) : sh[25]? = some (.inr (8, [some (some (26, 26)), some (some (28, 28)), none, none])) := (S 24 (Nat.le_of_ble_eq_true rfl)).trans rfl
theorem sA_26 {sh : Sh} (S : shOK sh) : sh[26]? = some (.inr (6, [some (some (27, 27))])) := (S 25 (Nat.le_of_ble_eq_true rfl)).trans rfl
theorem sA_27 {sh : Sh} (S : shOK sh) : sh[27]? = some (.inl (0, 40)) := (S 26 (Nat.le_of_ble_eq_true rfl)).trans rfl
theorem sA_28 {sh : Sh} (S : shOK sh) : sh[28]? = some (.inr (6, [some (some (29, 29))])) := (S 27 (Nat.le_of_ble_eq_true rfl)).trans rfl
theorem sA_29 {sh : Sh} (S : shOK sh) : sh[29]? = some (.inl (0, 4)) := (S 28 (Nat.le_of_ble_eq_true rfl)).trans rfl
theorem sA_30 {sh : Sh} (S : shOK sh) : sh[30]? = some (.inr (6, [some (some (31, 31))])) := (S 29 (Nat.le_of_ble_eq_true rfl)).trans rfl
theorem sA_31 {sh : Sh} (S : shOK sh) : sh[31]? = some (.inl (0, 4)) := (S 30 (Nat.le_of_ble_eq_true rfl)).trans rfl
theorem sA_32 {sh : Sh} (S : shOK sh) : sh[32]? = some (.inr (6, [some (some (33, 33))])) := (S 31 (Nat.le_of_ble_eq_true rfl)).trans rfl
theorem sA_33 {sh : Sh} (S : shOK sh) : sh[33]? = some (.inl (0, 4)) := (S 32 (Nat.le_of_ble_eq_true rfl)).trans rfl
theorem sA_34 {sh : Sh} (S : shOK sh) : sh[34]? = some (.inr (6, [some (some (35, 35))])) := (S 33 (Nat.le_of_ble_eq_true rfl)).trans rfl
theorem sA_35 {sh : Sh} (S : shOK sh) : sh[35]? = some (.inl (0, 6)) := (S 34 (Nat.le_of_ble_eq_true rfl)).trans rfl
theorem sA_36 {sh : Sh} (S : shOK sh) : sh[36]? = some (.inr (6, [some (some (37, 37))])) := (S 35 (Nat.le_of_ble_eq_true rfl)).trans rfl
theorem sA_37 {sh : Sh} (S : shOK sh) : sh[37]? = some (.inl (0, 6)) := (S 36 (Nat.le_of_ble_eq_true rfl)).trans rfl
theorem sA_38 {sh : Sh} (S : shOK sh) : sh[38]? = some (.inr (6, [some (some (39, 39))])) := (S 37 (Nat.le_of_ble_eq_true rfl)).trans rfl
theorem sA_39 {sh : Sh} (S : shOK sh) : sh[39]? = some (.inl (0, 6)) := (S 38 (Nat.le_of_ble_eq_true rfl)).trans rfl
theorem sA_40 {sh : Sh} (S : shOK sh) : sh[40]? = some (.inr (5, [none, none, none, none, some (some (41, 41))])) := (S 39 (Nat.le_of_ble_eq_true rfl)).trans rfl
theorem sA_41 {sh : Sh} (S : shOK sh) : sh[41]? = some (.inr (6, [some (some (42, 42))])) := (S 40 (Nat.le_of_ble_eq_true rfl)).trans rfl
theorem sA_42 {sh : Sh} (S : shOK sh) : sh[42]? = some (.inl (0, 13)) := (S 41 (Nat.le_of_ble_eq_true rfl)).trans rfl
theorem sA_43 {sh : Sh} (S : shOK sh) : sh[43]? = some (.inr (5, [none, none, none, none, some (some (44, 44))])) := (S 42 (Nat.le_of_ble_eq_true rfl)).trans rfl
theorem sA_44 {sh : Sh} (S : shOK sh) : sh[44]? = some (.inr (6, [some (some (45, 45))])) := (S 43 (Nat.le_of_ble_eq_true rfl)).trans rfl
theorem sA_45 {sh : Sh} (S : shOK sh) : sh[45]? = some (.inl (0, 13)) := (S 44 (Nat.le_of_ble_eq_true rfl)).trans rfl
theorem sA_46 {sh : Sh} (S : shOK sh) : sh[46]? = some (.inl (0, 60)) := (S 45 (Nat.le_of_ble_eq_true rfl)).trans rfl
theorem sA_47 {sh : Sh} (S : shOK sh) : sh[47]? = some (.inl (0, 7)) := (S 46 (Nat.le_of_ble_eq_true rfl)).trans rfl
theorem sA_48 {sh : Sh} (S : shOK sh) : sh[48]? = some (.inl (0, 26)) := (S 47 (Nat.le_of_ble_eq_true rfl)).trans rfl
theorem sA_49 {sh : Sh} (S : shOK sh) : sh[49]? = some (.inl (0, 62)) := (S 48 (Nat.le_of_ble_eq_true rfl)).trans rfl
theorem sA_50 {sh : Sh} (S : shOK sh) : sh[50]? = some (.inl (9, 0)) := (S 49 (Nat.le_of_ble_eq_true rfl)).trans rfl
theorem sA_51 {sh : Sh} (S : shOK sh) : sh[51]? = some (.inl (9, 0)) := (S 50 (Nat.le_of_ble_eq_true rfl)).trans rfl
theorem sA_52 {sh : Sh} (S : shOK sh) : sh[52]? = some (.inl (9, 0)) := (S 51 (Nat.le_of_ble_eq_true rfl)).trans rfl
theorem sA_53 {sh : Sh} (S : shOK sh) : sh[53]? = some (.inl (9, 0)) := (S 52 (Nat.le_of_ble_eq_true rfl)).trans rfl
theorem sA_54 {sh : Sh} (S : shOK sh) : sh[54]? = some (.inl (9, 0)) := (S 53 (Nat.le_of_ble_eq_true rfl)).trans rfl
theorem sA_55 {sh : Sh} (S : shOK sh) : sh[55]? = some (.inl (9, 0)) := (S 54 (Nat.le_of_ble_eq_true rfl)).trans rfl
theorem sA_56 {sh : Sh} (S : shOK sh) : sh[56]? = some (.inl (9, 0)) := (S 55 (Nat.le_of_ble_eq_true rfl)).trans rfl
theorem sA_57 {sh : Sh} (S : shOK sh) : sh[57]? = some (.inl (9, 0)) := (S 56 (Nat.le_of_ble_eq_true rfl)).trans rfl
theorem sA_58 {sh : Sh} (S : shOK sh) : sh[58]? = some (.inl (9, 0)) := (S 57 (Nat.le_of_ble_eq_true rfl)).trans rfl
theorem sA_59 {sh : Sh} (S : shOK sh) : sh[59]? = some (.inl (9, 0)) := (S 58 (Nat.le_of_ble_eq_true rfl)).trans rfl
theorem sA_60 {sh : Sh} (S : shOK sh) : sh[60]? = some (.inl (9, 0)) := (S 59 (Nat.le_of_ble_eq_true rfl)).trans rfl
theorem sA_61 {sh : Sh} (S : shOK sh) : sh[61]? = some (.inl (9, 0)) := (S 60 (Nat.le_of_ble_eq_true rfl)).trans rfl
theorem sA_62 {sh : Sh} (S : shOK sh) : sh[62]? = some (.inl (9, 0)) := (S 61 (Nat.le_of_ble_eq_true rfl)).trans rfl
theorem sA_63 {sh : Sh} (S : shOK sh) : sh[63]? = some (.inl (9, 0)) := (S 62 (Nat.le_of_ble_eq_true rfl)).trans rfl
theorem sA_64 {sh : Sh} (S : shOK sh) : sh[64]? = some (.inl (9, 0)) := (S 63 (Nat.le_of_ble_eq_true rfl)).trans rfl
theorem sA_65 {sh : Sh} (S : shOK sh) : sh[65]? = some (.inl (9, 0)) := (S 64 (Nat.le_of_ble_eq_true rfl)).trans rfl
theorem sA_66 {sh : Sh} (S : shOK sh) : sh[66]? = some (.inl (9, 0)) := (S 65 (Nat.le_of_ble_eq_true rfl)).trans rfl
theorem sA_67 {sh : Sh} (S : shOK sh) : sh[67]? = some (.inl (9, 0)) := (S 66 (Nat.le_of_ble_eq_true rfl)).trans rfl
theorem sA_68 {sh : Sh} (S : shOK sh) : sh[68]? = some (.inl (9, 0)) := (S 67 (Nat.le_of_ble_eq_true rfl)).trans rfl
theorem sA_69 {sh : Sh} (S : shOK sh) : sh[69]? = some (.inl (9, 0)) := (S 68 (Nat.le_of_ble_eq_true rfl)).trans rfl
theorem sA_70 {sh : Sh} (S : shOK sh) : sh[70]? = some (.inl (9, 0)) := (S 69 (Nat.le_of_ble_eq_true rfl)).trans rfl
theorem sA_71 {sh : Sh} (S : shOK sh) : sh[71]? = some (.inl (9, 0)) := (S 70 (Nat.le_of_ble_eq_true rfl)).trans rfl
theorem sA_72 {sh : Sh} (S : shOK sh) : sh[72]? = some (.inl (9, 0)) := (S 71 (Nat.le_of_ble_eq_true rfl)).trans rfl
theorem sA_73 {sh : Sh} (S : shOK sh) : sh[73]? = some (.inl (9, 0)) := (S 72 (Nat.le_of_ble_eq_true rfl)).trans rfl
theorem sA_74 {sh : Sh} (S : shOK sh) : sh[74]? = some (.inl (9, 0)) := (S 73 (Nat.le_of_ble_eq_true rfl)).trans rfl
theorem sA_75 {sh : Sh} (S : shOK sh) : sh[75]? = some (.inl (9, 0)) := (S 74 (Nat.le_of_ble_eq_true rfl)).trans rfl
theorem sA_76 {sh : Sh} (S : shOK sh) : sh[76]? = some (.inl (9, 0)) := (S 75 (Nat.le_of_ble_eq_true rfl)).trans rfl
theorem sA_77 {sh : Sh} (S : shOK sh) : sh[77]? = some (.inl (9, 0)) := (S 76 (Nat.le_of_ble_eq_true rfl)).trans rfl
theorem sA_78 {sh : Sh} (S : shOK sh) : sh[78]? = some (.inl (9, 0)) := (S 77 (Nat.le_of_ble_eq_true rfl)).trans rfl
theorem sA_79 {sh : Sh} (S : shOK sh) : sh[79]? = some (.inl (9, 0)) := (S 78 (Nat.le_of_ble_eq_true rfl)).trans rfl
theorem sA_80 {sh : Sh} (S : shOK sh) : sh[80]? = some (.inl (9, 0)) := (S 79 (Nat.le_of_ble_eq_true rfl)).trans rfl
theorem sA_81 {sh : Sh} (S : shOK sh) : sh[81]? = some (.inl (9, 0)) := (S 80 (Nat.le_of_ble_eq_true rfl)).trans rfl
theorem sA_82 {sh : Sh} (S : shOK sh) : sh[82]? = some (.inl (9, 0)) := (S 81 (Nat.le_of_ble_eq_true rfl)).trans rfl
theorem sA_83 {sh : Sh} (S : shOK sh) : sh[83]? = some (.inl (9, 0)) := (S 82 (Nat.le_of_ble_eq_true rfl)).trans rfl
theorem shA_0 : shA[0]? = some (.inr (10, [some (some (1, 1)), some (some (19, 19)), some (some (40, 40)), some (some (43, 43)), none, some none])) := rfl
theorem shB_0 : shB[0]? = some (.inr (10, [some (some (1, 1)), some (some (19, 19)), some (some (40, 40)), some (some (43, 43)), none, some (some (84, 84))])) := rfl
theorem shB_1 : shB[1]? = some (.inr (4, [some (some (2, 2)), some (some (4, 4)), some (some (6, 6)), some (some (8, 8)), some (some (10, 10)), some (some (12, 12)), some (some (14, 14)), none])) := sA_1 shOK_B
theorem shB_2 : shB[2]? = some (.inr (6, [some (some (3, 3))])) := sA_2 shOK_B
theorem shB_3 : shB[3]? = some (.inl (0, 120)) := sA_3 shOK_B
theorem shB_4 : shB[4]? = some (.inr (6, [some (some (5, 5))])) := sA_4 shOK_B
theorem shB_5 : shB[5]? = some (.inl (0, 120)) := sA_5 shOK_B
theorem shB_6 : shB[6]? = some (.inr (6, [some (some (7, 7))])) := sA_6 shOK_B
theorem shB_7 : shB[7]? = some (.inl (0, 120)) := sA_7 shOK_B
theorem shB_8 : shB[8]? = some (.inr (6, [some (some (9, 9))])) := sA_8 shOK_B
theorem shB_9 : shB[9]? = some (.inl (0, 120)) := sA_9 shOK_B
theorem shB_10 : shB[10]? = some (.inr (6, [some (some (11, 11))])) := sA_10 shOK_B
theorem shB_11 : shB[11]? = some (.inl (0, 120)) := sA_11 shOK_B
theorem shB_12 : shB[12]? = some (.inr (6, [some (some (13, 13))])) := sA_12 shOK_B
theorem shB_13 : shB[13]? = some (.inl (0, 120)) := sA_13 shOK_B
theorem shB_14 : shB[14]? = some (.inr (0, [some (some (15, 15)), some (some (17, 17)), none])) := sA_14 shOK_B
theorem shB_15 : shB[15]? = some (.inr (6, [some (some (16, 16))])) := sA_15 shOK_B
theorem shB_16 : shB[16]? = some (.inl (0, 1081)) := sA_16 shOK_B
theorem shB_17 : shB[17]? = some (.inr (6, [some (some (18, 18))])) := sA_17 shOK_B
theorem shB_18 : shB[18]? = some (.inl (0, 1081)) := sA_18 shOK_B
theorem shB_19 : shB[19]? = some (.inr (9, [some (some (20, 20)), some (some (25, 25)), some (some (30, 30)), some (some (32, 32)), some (some (34, 34)), some (some (36, 36)), some (some (38, 38)), none, none])) := sA_19 shOK_B
theorem shB_20 : shB[20]? = some (.inr (8, [some (some (21, 21)), some (some (23, 23)), none, none])) := sA_20 shOK_B
theorem shB_21 : shB[21]? = some (.inr (6, [some (some (22, 22))])) := sA_21 shOK_B
theorem shB_22 : shB[22]? = some (.inl (0, 40)) := sA_22 shOK_B
theorem shB_23 : shB[23]? = some (.inr (6, [some (some (24, 24))])) := sA_23 shOK_B
theorem shB_24 : shB[24]? = some (.inl (0, 4)) := sA_24 shOK_B
theorem shB_25 : shB[25]? = some (.inr (8, [some (some (26, 26)), some (some (28, 28)), none, none])) := sA_25 shOK_B
theorem shB_26 : shB[26]? = some (.inr (6, [some (some (27, 27))])) := sA_26 shOK_B
theorem shB_27 : shB[27]? = some (.inl (0, 40)) := sA_27 shOK_B
theorem shB_28 : shB[28]? = some (.inr (6, [some (some (29, 29))])) := sA_28 shOK_B
theorem shB_29 : shB[29]? = some (.inl (0, 4)) := sA_29 shOK_B
theorem shB_30 : shB[30]? = some (.inr (6, [some (some (31, 31))])) := sA_30 shOK_B
theorem shB_31 : shB[31]? = some (.inl (0, 4)) := sA_31 shOK_B
theorem shB_32 : shB[32]? = some (.inr (6, [some (some (33, 33))])) := sA_32 shOK_B
theorem shB_33 : shB[33]? = some (.inl (0, 4)) := sA_33 shOK_B
theorem shB_34 : shB[34]? = some (.inr (6, [some (some (35, 35))])) := sA_34 shOK_B
theorem shB_35 : shB[35]? = some (.inl (0, 6)) := sA_35 shOK_B
theorem shB_36 : shB[36]? = some (.inr (6, [some (some (37, 37))])) := sA_36 shOK_B
theorem shB_37 : shB[37]? = some (.inl (0, 6)) := sA_37 shOK_B
theorem shB_38 : shB[38]? = some (.inr (6, [some (some (39, 39))])) := sA_38 shOK_B
theorem shB_39 : shB[39]? = some (.inl (0, 6)) := sA_39 shOK_B
theorem shB_40 : shB[40]? = some (.inr (5, [none, none, none, none, some (some (41, 41))])) := sA_40 shOK_B
theorem shB_41 : shB[41]? = some (.inr (6, [some (some (42, 42))])) := sA_41 shOK_B
theorem shB_42 : shB[42]? = some (.inl (0, 13)) := sA_42 shOK_B
theorem shB_43 : shB[43]? = some (.inr (5, [none, none, none, none, some (some (44, 44))])) := sA_43 shOK_B
theorem shB_44 : shB[44]? = some (.inr (6, [some (some (45, 45))])) := sA_44 shOK_B
theorem shB_45 : shB[45]? = some (.inl (0, 13)) := sA_45 shOK_B
theorem shB_46 : shB[46]? = some (.inl (0, 60)) := sA_46 shOK_B
theorem shB_47 : shB[47]? = some (.inl (0, 7)) := sA_47 shOK_B
theorem shB_48 : shB[48]? = some (.inl (0, 26)) := sA_48 shOK_B
theorem shB_49 : shB[49]? = some (.inl (0, 62)) := sA_49 shOK_B
theorem shB_50 : shB[50]? = some (.inl (9, 0)) := sA_50 shOK_B
theorem shB_51 : shB[51]? = some (.inl (9, 0)) := sA_51 shOK_B
theorem shB_52 : shB[52]? = some (.inl (9, 0)) := sA_52 shOK_B
theorem shB_53 : shB[53]? = some (.inl (9, 0)) := sA_53 shOK_B
theorem shB_54 : shB[54]? = some (.inl (9, 0)) := sA_54 shOK_B
theorem shB_55 : shB[55]? = some (.inl (9, 0)) := sA_55 shOK_B
theorem shB_56 : shB[56]? = some (.inl (9, 0)) := sA_56 shOK_B
theorem shB_57 : shB[57]? = some (.inl (9, 0)) := sA_57 shOK_B
theorem shB_58 : shB[58]? = some (.inl (9, 0)) := sA_58 shOK_B
theorem shB_59 : shB[59]? = some (.inl (9, 0)) := sA_59 shOK_B
theorem shB_60 : shB[60]? = some (.inl (9, 0)) := sA_60 shOK_B
theorem shB_61 : shB[61]? = some (.inl (9, 0)) := sA_61 shOK_B
theorem shB_62 : shB[62]? = some (.inl (9, 0)) := sA_62 shOK_B
theorem shB_63 : shB[63]? = some (.inl (9, 0)) := sA_63 shOK_B
theorem shB_64 : shB[64]? = some (.inl (9, 0)) := sA_64 shOK_B
theorem shB_65 : shB[65]? = some (.inl (9, 0)) := sA_65 shOK_B
theorem shB_66 : shB[66]? = some (.inl (9, 0)) := sA_66 shOK_B
theorem shB_67 : shB[67]? = some (.inl (9, 0)) := sA_67 shOK_B
theorem shB_68 : shB[68]? = some (.inl (9, 0)) := sA_68 shOK_B
theorem shB_69 : shB[69]? = some (.inl (9, 0)) := sA_69 shOK_B
theorem shB_70 : shB[70]? = some (.inl (9, 0)) := sA_70 shOK_B
theorem shB_71 : shB[71]? = some (.inl (9, 0)) := sA_71 shOK_B
theorem shB_72 : shB[72]? = some (.inl (9, 0)) := sA_72 shOK_B
theorem shB_73 : shB[73]? = some (.inl (9, 0)) := sA_73 shOK_B
theorem shB_74 : shB[74]? = some (.inl (9, 0)) := sA_74 shOK_B
theorem shB_75 : shB[75]? = some (.inl (9, 0)) := sA_75 shOK_B
theorem shB_76 : shB[76]? = some (.inl (9, 0)) := sA_76 shOK_B
theorem shB_77 : shB[77]? = some (.inl (9, 0)) := sA_77 shOK_B
theorem shB_78 : shB[78]? = some (.inl (9, 0)) := sA_78 shOK_B
theorem shB_79 : shB[79]? = some (.inl (9, 0)) := sA_79 shOK_B
theorem shB_80 : shB[80]? = some (.inl (9, 0)) := sA_80 shOK_B
theorem shB_81 : shB[81]? = some (.inl (9, 0)) := sA_81 shOK_B
theorem shB_82 : shB[82]? = some (.inl (9, 0)) := sA_82 shOK_B
theorem shB_83 : shB[83]? = some (.inl (9, 0)) := sA_83 shOK_B
theorem shB_84 : shB[84]? = some (.inr (2, [some (some (1, 1)), some (some (19, 19)), some (some (85, 85)), some (some (106, 106)), some (some (129, 129)), some (some (134, 134)), some (some (40, 43)), none, none, none, none, none, none, none, none, none, none, none, none, none])) := rfl
theorem shB_85 : shB[85]? = some (.inr (9, [some (some (86, 86)), some (some (91, 91)), some (some (96, 96)), some (some (98, 98)), some (some (100, 100)), some (some (102, 102)), some (some (104, 104)), none, none])) := rfl
theorem shB_86 : shB[86]? = some (.inr (8, [some (some (87, 87)), some (some (89, 89)), none, none])) := rfl
theorem shB_87 : shB[87]? = some (.inr (6, [some (some (88, 88))])) := rfl
theorem shB_88 : shB[88]? = some (.inl (0, 40)) := rfl
theorem shB_89 : shB[89]? = some (.inr (6, [some (some (90, 90))])) := rfl
theorem shB_90 : shB[90]? = some (.inl (0, 4)) := rfl
theorem shB_91 : shB[91]? = some (.inr (8, [some (some (92, 92)), some (some (94, 94)), none, none])) := rfl
theorem shB_92 : shB[92]? = some (.inr (6, [some (some (93, 93))])) := rfl
theorem shB_93 : shB[93]? = some (.inl (0, 40)) := rfl
theorem shB_94 : shB[94]? = some (.inr (6, [some (some (95, 95))])) := rfl
theorem shB_95 : shB[95]? = some (.inl (0, 4)) := rfl
theorem shB_96 : shB[96]? = some (.inr (6, [some (some (97, 97))])) := rfl
theorem shB_97 : shB[97]? = some (.inl (0, 4)) := rfl
theorem shB_98 : shB[98]? = some (.inr (6, [some (some (99, 99))])) := rfl
theorem shB_99 : shB[99]? = some (.inl (0, 4)) := rfl
theorem shB_100 : shB[100]? = some (.inr (6, [some (some (101, 101))])) := rfl
theorem shB_101 : shB[101]? = some (.inl (0, 6)) := rfl
theorem shB_102 : shB[102]? = some (.inr (6, [some (some (103, 103))])) := rfl
theorem shB_103 : shB[103]? = some (.inl (0, 6)) := rfl
theorem shB_104 : shB[104]? = some (.inr (6, [some (some (105, 105))])) := rfl
theorem shB_105 : shB[105]? = some (.inl (0, 6)) := rfl
theorem shB_106 : shB[106]? = some (.inr (1, [some (some (107, 107)), some (some (109, 109)), some (some (111, 111)), some (some (113, 113)), some (some (115, 115)), some (some (117, 117)), some (some (119, 119)), some (some (121, 121)), some (some (123, 123)), some (some (125, 125)), some (some (127, 127))])) := rfl
theorem shB_107 : shB[107]? = some (.inr (6, [some (some (108, 108))])) := rfl
theorem shB_108 : shB[108]? = some (.inl (0, 601)) := rfl
theorem shB_109 : shB[109]? = some (.inr (6, [some (some (110, 110))])) := rfl
theorem shB_110 : shB[110]? = some (.inl (0, 601)) := rfl
theorem shB_111 : shB[111]? = some (.inr (6, [some (some (112, 112))])) := rfl
theorem shB_112 : shB[112]? = some (.inl (0, 601)) := rfl
theorem shB_113 : shB[113]? = some (.inr (6, [some (some (114, 114))])) := rfl
theorem shB_114 : shB[114]? = some (.inl (0, 601)) := rfl
theorem shB_115 : shB[115]? = some (.inr (6, [some (some (116, 116))])) := rfl
theorem shB_116 : shB[116]? = some (.inl (0, 601)) := rfl
theorem shB_117 : shB[117]? = some (.inr (6, [some (some (118, 118))])) := rfl
theorem shB_118 : shB[118]? = some (.inl (0, 601)) := rfl
theorem shB_119 : shB[119]? = some (.inr (6, [some (some (120, 120))])) := rfl
theorem shB_120 : shB[120]? = some (.inl (0, 601)) := rfl
theorem shB_121 : shB[121]? = some (.inr (6, [some (some (122, 122))])) := rfl
theorem shB_122 : shB[122]? = some (.inl (0, 601)) := rfl
theorem shB_123 : shB[123]? = some (.inr (6, [some (some (124, 124))])) := rfl
theorem shB_124 : shB[124]? = some (.inl (0, 601)) := rfl
theorem shB_125 : shB[125]? = some (.inr (6, [some (some (126, 126))])) := rfl
theorem shB_126 : shB[126]? = some (.inl (0, 601)) := rfl
theorem shB_127 : shB[127]? = some (.inr (6, [some (some (128, 128))])) := rfl
theorem shB_128 : shB[128]? = some (.inl (0, 601)) := rfl
theorem shB_129 : shB[129]? = some (.inr (7, [some (some (130, 130)), some (some (132, 132)), none])) := rfl
theorem shB_130 : shB[130]? = some (.inr (6, [some (some (131, 131))])) := rfl
theorem shB_131 : shB[131]? = some (.inl (0, 1210)) := rfl
theorem shB_132 : shB[132]? = some (.inr (6, [some (some (133, 133))])) := rfl
theorem shB_133 : shB[133]? = some (.inl (0, 9680)) := rfl
theorem shB_134 : shB[134]? = some (.inr (3, [some (some (135, 135)), some (some (137, 137)), some (some (139, 139)), some (some (141, 141)), some (some (143, 143)), none, none])) := rfl
theorem shB_135 : shB[135]? = some (.inr (6, [some (some (136, 136))])) := rfl
theorem shB_136 : shB[136]? = some (.inl (0, 601)) := rfl
theorem shB_137 : shB[137]? = some (.inr (6, [some (some (138, 138))])) := rfl
theorem shB_138 : shB[138]? = some (.inl (0, 601)) := rfl
theorem shB_139 : shB[139]? = some (.inr (6, [some (some (140, 140))])) := rfl
theorem shB_140 : shB[140]? = some (.inl (0, 601)) := rfl
theorem shB_141 : shB[141]? = some (.inr (6, [some (some (142, 142))])) := rfl
theorem shB_142 : shB[142]? = some (.inl (0, 601)) := rfl
theorem shB_143 : shB[143]? = some (.inr (6, [some (some (144, 144))])) := rfl
theorem shB_144 : shB[144]? = some (.inl (0, 601)) := rfl
def isRow (sh : Sh) (r a N : Nat) : Prop := sh[r]? = some (.inr (6, [some (some (a, a))])) ∧ sh[a]? = some (.inl (0, N))
def isText (sh : Sh) (t : Nat) : Prop := sh[t]? = some (.inr (8, [some (some (t + 1, t + 1)), some (some (t + 3, t + 3)), none, none])) ∧ isRow sh (t + 1) (t + 2) 40 ∧ isRow sh (t + 3) (t + 4) 4
def isWorld (sh : Sh) (w : Nat) : Prop := sh[w]? = some (.inr (9, [some (some (w + 1, w + 1)), some (some (w + 6, w + 6)), some (some (w + 11, w + 11)), some (some (w + 13, w + 13)), some (some (w + 15, w + 15)), some (some (w + 17, w + 17)), some (some (w + 19, w + 19)), none, none])) ∧ isText sh (w + 1) ∧ isText sh (w + 6) ∧ isRow sh (w + 11) (w + 12) 4 ∧ isRow sh (w + 13) (w + 14) 4 ∧ isRow sh (w + 15) (w + 16) 6 ∧ isRow sh (w + 17) (w + 18) 6 ∧ isRow sh (w + 19) (w + 20) 6
def isReport (sh : Sh) (q : Nat) : Prop := sh[q]? = some (.inr (5, [none, none, none, none, some (some (q + 1, q + 1))])) ∧ isRow sh (q + 1) (q + 2) 13
theorem rowS_2 {sh : Sh} (S : shOK sh) : isRow sh 2 3 120 := ⟨sA_2 S, sA_3 S⟩
theorem rowS_4 {sh : Sh} (S : shOK sh) : isRow sh 4 5 120 := ⟨sA_4 S, sA_5 S⟩
theorem rowS_6 {sh : Sh} (S : shOK sh) : isRow sh 6 7 120 := ⟨sA_6 S, sA_7 S⟩
theorem rowS_8 {sh : Sh} (S : shOK sh) : isRow sh 8 9 120 := ⟨sA_8 S, sA_9 S⟩
theorem rowS_10 {sh : Sh} (S : shOK sh) : isRow sh 10 11 120 := ⟨sA_10 S, sA_11 S⟩
theorem rowS_12 {sh : Sh} (S : shOK sh) : isRow sh 12 13 120 := ⟨sA_12 S, sA_13 S⟩
theorem rowS_15 {sh : Sh} (S : shOK sh) : isRow sh 15 16 1081 := ⟨sA_15 S, sA_16 S⟩
theorem rowS_17 {sh : Sh} (S : shOK sh) : isRow sh 17 18 1081 := ⟨sA_17 S, sA_18 S⟩
theorem rowS_21 {sh : Sh} (S : shOK sh) : isRow sh 21 22 40 := ⟨sA_21 S, sA_22 S⟩
theorem rowS_23 {sh : Sh} (S : shOK sh) : isRow sh 23 24 4 := ⟨sA_23 S, sA_24 S⟩
theorem rowS_26 {sh : Sh} (S : shOK sh) : isRow sh 26 27 40 := ⟨sA_26 S, sA_27 S⟩
theorem rowS_28 {sh : Sh} (S : shOK sh) : isRow sh 28 29 4 := ⟨sA_28 S, sA_29 S⟩
theorem rowS_30 {sh : Sh} (S : shOK sh) : isRow sh 30 31 4 := ⟨sA_30 S, sA_31 S⟩
theorem rowS_32 {sh : Sh} (S : shOK sh) : isRow sh 32 33 4 := ⟨sA_32 S, sA_33 S⟩
theorem rowS_34 {sh : Sh} (S : shOK sh) : isRow sh 34 35 6 := ⟨sA_34 S, sA_35 S⟩
theorem rowS_36 {sh : Sh} (S : shOK sh) : isRow sh 36 37 6 := ⟨sA_36 S, sA_37 S⟩
theorem rowS_38 {sh : Sh} (S : shOK sh) : isRow sh 38 39 6 := ⟨sA_38 S, sA_39 S⟩
theorem rowS_41 {sh : Sh} (S : shOK sh) : isRow sh 41 42 13 := ⟨sA_41 S, sA_42 S⟩
theorem rowS_44 {sh : Sh} (S : shOK sh) : isRow sh 44 45 13 := ⟨sA_44 S, sA_45 S⟩
theorem rowB_87 : isRow shB 87 88 40 := ⟨shB_87, shB_88⟩
theorem rowB_89 : isRow shB 89 90 4 := ⟨shB_89, shB_90⟩
theorem rowB_92 : isRow shB 92 93 40 := ⟨shB_92, shB_93⟩
theorem rowB_94 : isRow shB 94 95 4 := ⟨shB_94, shB_95⟩
theorem rowB_96 : isRow shB 96 97 4 := ⟨shB_96, shB_97⟩
theorem rowB_98 : isRow shB 98 99 4 := ⟨shB_98, shB_99⟩
theorem rowB_100 : isRow shB 100 101 6 := ⟨shB_100, shB_101⟩
theorem rowB_102 : isRow shB 102 103 6 := ⟨shB_102, shB_103⟩
theorem rowB_104 : isRow shB 104 105 6 := ⟨shB_104, shB_105⟩
theorem rowB_107 : isRow shB 107 108 601 := ⟨shB_107, shB_108⟩
theorem rowB_109 : isRow shB 109 110 601 := ⟨shB_109, shB_110⟩
theorem rowB_111 : isRow shB 111 112 601 := ⟨shB_111, shB_112⟩
theorem rowB_113 : isRow shB 113 114 601 := ⟨shB_113, shB_114⟩
theorem rowB_115 : isRow shB 115 116 601 := ⟨shB_115, shB_116⟩
theorem rowB_117 : isRow shB 117 118 601 := ⟨shB_117, shB_118⟩
theorem rowB_119 : isRow shB 119 120 601 := ⟨shB_119, shB_120⟩
theorem rowB_121 : isRow shB 121 122 601 := ⟨shB_121, shB_122⟩
theorem rowB_123 : isRow shB 123 124 601 := ⟨shB_123, shB_124⟩
theorem rowB_125 : isRow shB 125 126 601 := ⟨shB_125, shB_126⟩
theorem rowB_127 : isRow shB 127 128 601 := ⟨shB_127, shB_128⟩
theorem rowB_130 : isRow shB 130 131 1210 := ⟨shB_130, shB_131⟩
theorem rowB_132 : isRow shB 132 133 9680 := ⟨shB_132, shB_133⟩
theorem rowB_135 : isRow shB 135 136 601 := ⟨shB_135, shB_136⟩
theorem rowB_137 : isRow shB 137 138 601 := ⟨shB_137, shB_138⟩
theorem rowB_139 : isRow shB 139 140 601 := ⟨shB_139, shB_140⟩
theorem rowB_141 : isRow shB 141 142 601 := ⟨shB_141, shB_142⟩
theorem rowB_143 : isRow shB 143 144 601 := ⟨shB_143, shB_144⟩
theorem textS_20 {sh : Sh} (S : shOK sh) : isText sh 20 := ⟨sA_20 S, rowS_21 S, rowS_23 S⟩
theorem textS_25 {sh : Sh} (S : shOK sh) : isText sh 25 := ⟨sA_25 S, rowS_26 S, rowS_28 S⟩
theorem textB_86 : isText shB 86 := ⟨shB_86, rowB_87, rowB_89⟩
theorem textB_91 : isText shB 91 := ⟨shB_91, rowB_92, rowB_94⟩
theorem worldS_19 {sh : Sh} (S : shOK sh) : isWorld sh 19 := ⟨sA_19 S, textS_20 S, textS_25 S, rowS_30 S, rowS_32 S, rowS_34 S, rowS_36 S, rowS_38 S⟩
theorem reportS_40 {sh : Sh} (S : shOK sh) : isReport sh 40 := ⟨sA_40 S, rowS_41 S⟩
theorem reportS_43 {sh : Sh} (S : shOK sh) : isReport sh 43 := ⟨sA_43 S, rowS_44 S⟩
theorem worldB_85 : isWorld shB 85 := ⟨shB_85, textB_86, textB_91, rowB_96, rowB_98, rowB_100, rowB_102, rowB_104⟩
def rpt (G : Gt) : Nat := if G 84 6 = 0 then 40 else 43
theorem report_rpt (G : Gt) : isReport shB (rpt G) := by
  unfold rpt
  split
  · exact reportS_40 shOK_B
  · exact reportS_43 shOK_B
def txo (w : Nat) (x : Int32) : Nat := if x = 0 then w + 1 else w + 6
theorem text_txo {sh : Sh} {w : Nat} (h : isWorld sh w) (x : Int32) : isText sh (txo w x) := by
  unfold txo
  split
  · exact h.2.1
  · exact h.2.2.1
