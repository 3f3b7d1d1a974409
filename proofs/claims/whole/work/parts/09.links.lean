/-! the shapes of the two worlds: the class's roles (0 BootHall, 1 Tape, 2 bytes, 3 Reader, 4 operators, 5 Scanner, 6 Hall, 7 machines, 8 blocks, 9 nexts, 10 wakes, 11 Facts, 12 bits, 13 wrong, 14 keepers, 15 Run, 16 record, 17 sendings, 18 timesSent, 19 lastSent, 20 line, 21 vars, 32+i Machine i, 40+j Rules j with isAfter 50+j, numbers 60+j, starts 70+j, stops 80+j, code 90+j, stack 100+j); the reference's (100 the object; the array of slot k is role k) -/
def fI : Nat → Nat × Nat := fun _ => (0, 0)
def fsB : Nat → Nat × Nat := fun k => match k with | 0 => (1, 1) | 1 => (1, 3) | 2 => (1, 6) | 3 => (1, 15) | _ => (0, 0)
def fsTape : Nat → Nat × Nat := fun k => match k with | 0 => (1, 2) | _ => (0, 0)
def fsReader : Nat → Nat × Nat := fun k => match k with | 0 => (1, 5) | 1 => (1, 4) | 3 => (2, 0) | _ => (0, 0)
def fsScanner : Nat → Nat × Nat := fun k => match k with | 0 => (1, 1) | _ => (0, 0)
def fsHall : Nat → Nat × Nat := fun k => match k with | 0 => (1, 7) | 2 => (1, 8) | 3 => (1, 9) | 6 => (1, 10) | 7 => (1, 11) | 8 => (1, 14) | _ => (0, 0)
def fsFacts : Nat → Nat × Nat := fun k => match k with | 2 => (1, 12) | 3 => (1, 13) | _ => (0, 0)
def fsRun : Nat → Nat × Nat := fun k => match k with | 0 => (1, 6) | 1 => (1, 16) | 2 => (1, 17) | 3 => (1, 18) | 4 => (1, 19) | 7 => (1, 20) | 8 => (1, 21) | _ => (0, 0)
def fsRules (j : Nat) : Nat → Nat × Nat := fun k => match k with | 2 => (1, 50 + j) | 3 => (1, 60 + j) | 4 => (1, 70 + j) | 5 => (1, 80 + j) | 6 => (1, 90 + j) | 7 => (1, 100 + j) | _ => (0, 0)
def fsMs : Nat → Nat × Nat := fun k => (1, 32 + k)
def fsKs : Nat → Nat × Nat := fun _ => (2, 0)
def shC : gH := fun r => match r with
  | 0 => (0, 8, 5, fsB)
  | 1 => (0, 7, 2, fsTape)
  | 2 => (1, 0, 2000, fI)
  | 3 => (0, 3, 9, fsReader)
  | 4 => (1, 0, 32, fI)
  | 5 => (0, 6, 5, fsScanner)
  | 6 => (0, 1, 9, fsHall)
  | 7 => (3, 4, 8, fsMs)
  | 8 => (1, 0, 6, fI)
  | 9 => (1, 0, 6, fI)
  | 10 => (1, 0, 4, fI)
  | 11 => (0, 0, 4, fsFacts)
  | 12 => (1, 0, 300, fI)
  | 13 => (2, 3, 600, fI)
  | 14 => (3, 5, 2, fsKs)
  | 15 => (0, 5, 9, fsRun)
  | 16 => (2, 3, 2400, fI)
  | 17 => (1, 0, 300, fI)
  | 18 => (1, 0, 72, fI)
  | 19 => (1, 0, 72, fI)
  | 20 => (1, 0, 8, fI)
  | 21 => (1, 0, 7, fI)
  | r => if r < 40 then (0, 2, 16, fI) else if r < 43 then (0, 4, 8, fsRules (r - 40)) else if r < 53 then (1, 1, 20, fI) else if r < 83 then (1, 0, 20, fI) else if r < 93 then (1, 0, 400, fI) else (1, 0, 32, fI)
def LC : List Nat := [0, 1, 2, 3, 4, 5, 6, 7, 8, 9, 10, 11, 12, 13, 14, 15, 16, 17, 18, 19, 20, 21, 32, 33, 34, 35, 36, 37, 38, 39, 40, 41, 42, 50, 51, 52, 60, 61, 62, 70, 71, 72, 80, 81, 82, 90, 91, 92, 100, 101, 102]
def wC : gU := (LC, shC)
def fsMod : Nat → Nat × Nat := fun k => if k ∈ [1, 3, 5, 6, 7, 8, 9, 18, 20, 21, 22, 23, 24, 25, 26, 27, 28, 29, 30, 32, 33, 34, 37, 38, 39, 40, 42, 43, 46, 47, 48, 49, 50, 51, 54, 55, 56, 57, 58, 59, 60, 61, 62, 63, 64, 65, 67, 68, 69, 70, 71, 72, 73, 74, 75, 76, 77, 78, 79, 80, 81, 82] then (1, k) else (0, 0)
def shM : gH := fun r => match r with
  | 1 => (1, 2, 2000, fI)
  | 3 => (1, 2, 2000, fI)
  | 5 => (1, 0, 403, fI)
  | 6 => (1, 0, 403, fI)
  | 7 => (1, 0, 403, fI)
  | 8 => (2, 3, 403, fI)
  | 9 => (2, 3, 12, fI)
  | 18 => (1, 0, 2, fI)
  | 20 => (1, 0, 4, fI)
  | 21 => (1, 0, 80, fI)
  | 22 => (1, 0, 80, fI)
  | 23 => (1, 0, 80, fI)
  | 24 => (1, 0, 80, fI)
  | 25 => (1, 0, 4, fI)
  | 26 => (1, 0, 800, fI)
  | 27 => (1, 0, 800, fI)
  | 28 => (1, 0, 800, fI)
  | 29 => (1, 0, 800, fI)
  | 30 => (1, 1, 800, fI)
  | 32 => (1, 0, 2000, fI)
  | 33 => (1, 0, 2000, fI)
  | 34 => (1, 0, 48, fI)
  | 37 => (1, 0, 8, fI)
  | 38 => (1, 0, 8, fI)
  | 39 => (1, 0, 8, fI)
  | 40 => (1, 0, 4, fI)
  | 42 => (1, 0, 6, fI)
  | 43 => (1, 0, 6, fI)
  | 46 => (1, 1, 2400, fI)
  | 47 => (1, 1, 2400, fI)
  | 48 => (1, 1, 600, fI)
  | 49 => (1, 1, 21600, fI)
  | 50 => (1, 0, 7, fI)
  | 51 => (1, 0, 500, fI)
  | 54 => (1, 0, 2400, fI)
  | 55 => (1, 0, 2400, fI)
  | 56 => (1, 0, 2400, fI)
  | 57 => (1, 0, 2400, fI)
  | 58 => (1, 0, 2400, fI)
  | 59 => (1, 0, 2400, fI)
  | 60 => (1, 0, 2400, fI)
  | 61 => (1, 0, 2400, fI)
  | 62 => (1, 0, 2400, fI)
  | 63 => (1, 0, 2400, fI)
  | 64 => (1, 0, 300, fI)
  | 65 => (1, 0, 72, fI)
  | 67 => (1, 0, 8, fI)
  | 68 => (1, 0, 8, fI)
  | 69 => (1, 0, 8, fI)
  | 70 => (1, 0, 8, fI)
  | 71 => (1, 0, 8, fI)
  | 72 => (1, 0, 8, fI)
  | 73 => (1, 0, 8, fI)
  | 74 => (1, 0, 8, fI)
  | 75 => (1, 0, 8, fI)
  | 76 => (1, 0, 8, fI)
  | 77 => (1, 0, 8, fI)
  | 78 => (1, 0, 8, fI)
  | 79 => (1, 0, 8, fI)
  | 80 => (1, 1, 72, fI)
  | 81 => (1, 1, 8, fI)
  | 82 => (1, 0, 4, fI)
  | _ => (0, 9, 83, fsMod)
def LM : List Nat := [1, 3, 5, 6, 7, 8, 9, 18, 20, 21, 22, 23, 24, 25, 26, 27, 28, 29, 30, 32, 33, 34, 37, 38, 39, 40, 42, 43, 46, 47, 48, 49, 50, 51, 54, 55, 56, 57, 58, 59, 60, 61, 62, 63, 64, 65, 67, 68, 69, 70, 71, 72, 73, 74, 75, 76, 77, 78, 79, 80, 81, 82, 100]
def wM : gU := (LM, shM)
theorem gF0 : gF 0 RX0 TX0 4 := ⟨rfl, fun x hx => by
    have h : ([124, 126, 128, 130] : List Nat).map (fun i => (k2_sels lw_privs ++ tables_1)[i]?) = (u_ws RX0 TX0 4).map some := by decide +kernel
    have hg : (u_ws RX0 TX0 4).all goodWord = true := by decide +kernel
    obtain ⟨k, hk⟩ := List.getElem?_of_mem hx
    have h1 : (([124, 126, 128, 130] : List Nat).map (fun i => (k2_sels lw_privs ++ tables_1)[i]?))[k]? = some (some x) := by rw [h, List.getElem?_map, hk]; rfl
    rw [List.getElem?_map] at h1
    refine List.mem_filter.mpr ⟨?_, List.all_eq_true.mp hg x hx⟩
    cases hi : ([124, 126, 128, 130] : List Nat)[k]? with
    | none => rw [hi] at h1; cases h1
    | some i => rw [hi] at h1; exact List.mem_of_getElem? (Option.some.inj h1), nmX0, tyX0, tyX0_ok⟩
theorem gF1 : gF 1 RX1 TX1 9 := ⟨rfl, fun x hx => by
    have h : ([262, 264, 266, 268, 270, 272, 274, 276, 278] : List Nat).map (fun i => (k2_sels lw_privs ++ tables_1)[i]?) = (u_ws RX1 TX1 9).map some := by decide +kernel
    have hg : (u_ws RX1 TX1 9).all goodWord = true := by decide +kernel
    obtain ⟨k, hk⟩ := List.getElem?_of_mem hx
    have h1 : (([262, 264, 266, 268, 270, 272, 274, 276, 278] : List Nat).map (fun i => (k2_sels lw_privs ++ tables_1)[i]?))[k]? = some (some x) := by rw [h, List.getElem?_map, hk]; rfl
    rw [List.getElem?_map] at h1
    refine List.mem_filter.mpr ⟨?_, List.all_eq_true.mp hg x hx⟩
    cases hi : ([262, 264, 266, 268, 270, 272, 274, 276, 278] : List Nat)[k]? with
    | none => rw [hi] at h1; cases h1
    | some i => rw [hi] at h1; exact List.mem_of_getElem? (Option.some.inj h1), nmX1, tyX1, tyX1_ok⟩
theorem gF2 : gF 2 RX2 TX2 16 := ⟨rfl, fun x hx => by
    have h : ([172, 174, 176, 178, 180, 182, 184, 186, 188, 190, 192, 194, 196, 198, 200, 202] : List Nat).map (fun i => (k2_sels lw_privs ++ tables_1)[i]?) = (u_ws RX2 TX2 16).map some := by decide +kernel
    have hg : (u_ws RX2 TX2 16).all goodWord = true := by decide +kernel
    obtain ⟨k, hk⟩ := List.getElem?_of_mem hx
    have h1 : (([172, 174, 176, 178, 180, 182, 184, 186, 188, 190, 192, 194, 196, 198, 200, 202] : List Nat).map (fun i => (k2_sels lw_privs ++ tables_1)[i]?))[k]? = some (some x) := by rw [h, List.getElem?_map, hk]; rfl
    rw [List.getElem?_map] at h1
    refine List.mem_filter.mpr ⟨?_, List.all_eq_true.mp hg x hx⟩
    cases hi : ([172, 174, 176, 178, 180, 182, 184, 186, 188, 190, 192, 194, 196, 198, 200, 202] : List Nat)[k]? with
    | none => rw [hi] at h1; cases h1
    | some i => rw [hi] at h1; exact List.mem_of_getElem? (Option.some.inj h1), nmX2, tyX2, tyX2_ok⟩
theorem gF3 : gF 3 RX3 TX3 9 := ⟨rfl, fun x hx => by
    have h : ([324, 326, 328, 330, 332, 334, 336, 338, 340] : List Nat).map (fun i => (k2_sels lw_privs ++ tables_1)[i]?) = (u_ws RX3 TX3 9).map some := by decide +kernel
    have hg : (u_ws RX3 TX3 9).all goodWord = true := by decide +kernel
    obtain ⟨k, hk⟩ := List.getElem?_of_mem hx
    have h1 : (([324, 326, 328, 330, 332, 334, 336, 338, 340] : List Nat).map (fun i => (k2_sels lw_privs ++ tables_1)[i]?))[k]? = some (some x) := by rw [h, List.getElem?_map, hk]; rfl
    rw [List.getElem?_map] at h1
    refine List.mem_filter.mpr ⟨?_, List.all_eq_true.mp hg x hx⟩
    cases hi : ([324, 326, 328, 330, 332, 334, 336, 338, 340] : List Nat)[k]? with
    | none => rw [hi] at h1; cases h1
    | some i => rw [hi] at h1; exact List.mem_of_getElem? (Option.some.inj h1), nmX3, tyX3, tyX3_ok⟩
theorem gF4 : gF 4 RX4 TX4 8 := ⟨rfl, fun x hx => by
    have h : ([220, 222, 224, 226, 228, 230, 232, 234] : List Nat).map (fun i => (k2_sels lw_privs ++ tables_1)[i]?) = (u_ws RX4 TX4 8).map some := by decide +kernel
    have hg : (u_ws RX4 TX4 8).all goodWord = true := by decide +kernel
    obtain ⟨k, hk⟩ := List.getElem?_of_mem hx
    have h1 : (([220, 222, 224, 226, 228, 230, 232, 234] : List Nat).map (fun i => (k2_sels lw_privs ++ tables_1)[i]?))[k]? = some (some x) := by rw [h, List.getElem?_map, hk]; rfl
    rw [List.getElem?_map] at h1
    refine List.mem_filter.mpr ⟨?_, List.all_eq_true.mp hg x hx⟩
    cases hi : ([220, 222, 224, 226, 228, 230, 232, 234] : List Nat)[k]? with
    | none => rw [hi] at h1; cases h1
    | some i => rw [hi] at h1; exact List.mem_of_getElem? (Option.some.inj h1), nmX4, tyX4, tyX4_ok⟩
theorem gF5 : gF 5 RX5 TX5 9 := ⟨rfl, fun x hx => by
    have h : ([361, 363, 365, 367, 369, 371, 373, 375, 377] : List Nat).map (fun i => (k2_sels lw_privs ++ tables_1)[i]?) = (u_ws RX5 TX5 9).map some := by decide +kernel
    have hg : (u_ws RX5 TX5 9).all goodWord = true := by decide +kernel
    obtain ⟨k, hk⟩ := List.getElem?_of_mem hx
    have h1 : (([361, 363, 365, 367, 369, 371, 373, 375, 377] : List Nat).map (fun i => (k2_sels lw_privs ++ tables_1)[i]?))[k]? = some (some x) := by rw [h, List.getElem?_map, hk]; rfl
    rw [List.getElem?_map] at h1
    refine List.mem_filter.mpr ⟨?_, List.all_eq_true.mp hg x hx⟩
    cases hi : ([361, 363, 365, 367, 369, 371, 373, 375, 377] : List Nat)[k]? with
    | none => rw [hi] at h1; cases h1
    | some i => rw [hi] at h1; exact List.mem_of_getElem? (Option.some.inj h1), nmX5, tyX5, tyX5_ok⟩
theorem gF6 : gF 6 RX6 TX6 5 := ⟨rfl, fun x hx => by
    have h : ([303, 305, 307, 309, 311] : List Nat).map (fun i => (k2_sels lw_privs ++ tables_1)[i]?) = (u_ws RX6 TX6 5).map some := by decide +kernel
    have hg : (u_ws RX6 TX6 5).all goodWord = true := by decide +kernel
    obtain ⟨k, hk⟩ := List.getElem?_of_mem hx
    have h1 : (([303, 305, 307, 309, 311] : List Nat).map (fun i => (k2_sels lw_privs ++ tables_1)[i]?))[k]? = some (some x) := by rw [h, List.getElem?_map, hk]; rfl
    rw [List.getElem?_map] at h1
    refine List.mem_filter.mpr ⟨?_, List.all_eq_true.mp hg x hx⟩
    cases hi : ([303, 305, 307, 309, 311] : List Nat)[k]? with
    | none => rw [hi] at h1; cases h1
    | some i => rw [hi] at h1; exact List.mem_of_getElem? (Option.some.inj h1), nmX6, tyX6, tyX6_ok⟩
theorem gF7 : gF 7 RX7 TX7 2 := ⟨rfl, fun x hx => by
    have h : ([98, 100] : List Nat).map (fun i => (k2_sels lw_privs ++ tables_1)[i]?) = (u_ws RX7 TX7 2).map some := by decide +kernel
    have hg : (u_ws RX7 TX7 2).all goodWord = true := by decide +kernel
    obtain ⟨k, hk⟩ := List.getElem?_of_mem hx
    have h1 : (([98, 100] : List Nat).map (fun i => (k2_sels lw_privs ++ tables_1)[i]?))[k]? = some (some x) := by rw [h, List.getElem?_map, hk]; rfl
    rw [List.getElem?_map] at h1
    refine List.mem_filter.mpr ⟨?_, List.all_eq_true.mp hg x hx⟩
    cases hi : ([98, 100] : List Nat)[k]? with
    | none => rw [hi] at h1; cases h1
    | some i => rw [hi] at h1; exact List.mem_of_getElem? (Option.some.inj h1), nmX7, tyX7, tyX7_ok⟩
theorem gF8 : gF 8 RX8 TX8 5 := ⟨rfl, fun x hx => by
    have h : ([385, 387, 389, 391, 393] : List Nat).map (fun i => (k2_sels lw_privs ++ tables_1)[i]?) = (u_ws RX8 TX8 5).map some := by decide +kernel
    have hg : (u_ws RX8 TX8 5).all goodWord = true := by decide +kernel
    obtain ⟨k, hk⟩ := List.getElem?_of_mem hx
    have h1 : (([385, 387, 389, 391, 393] : List Nat).map (fun i => (k2_sels lw_privs ++ tables_1)[i]?))[k]? = some (some x) := by rw [h, List.getElem?_map, hk]; rfl
    rw [List.getElem?_map] at h1
    refine List.mem_filter.mpr ⟨?_, List.all_eq_true.mp hg x hx⟩
    cases hi : ([385, 387, 389, 391, 393] : List Nat)[k]? with
    | none => rw [hi] at h1; cases h1
    | some i => rw [hi] at h1; exact List.mem_of_getElem? (Option.some.inj h1), nmX8, tyX8, tyX8_ok⟩
theorem gF9 : gF 9 RX9 TX9 83 := ⟨rfl, fun x hx => by
    have h : ([937, 939, 941, 943, 945, 947, 949, 951, 953, 955, 957, 959, 961, 963, 965, 967, 969, 971, 973, 975, 977, 979, 981, 983, 985, 987, 989, 991, 993, 995, 997, 999, 1001, 1003, 1005, 1007, 1009, 1011, 1013, 1015, 1017, 1019, 1021, 1023, 1025, 1027, 1029, 1031, 1033, 1035, 1037, 1039, 1041, 1043, 1045, 1047, 1049, 1051, 1053, 1055, 1057, 1059, 1061, 1063, 1065, 1067, 1069, 1071, 1073, 1075, 1077, 1079, 1081, 1083, 1085, 1087, 1089, 1091, 1093, 1095, 1097, 1099, 1101] : List Nat).map (fun i => (k2_sels lw_privs ++ tables_1)[i]?) = (u_ws RX9 TX9 83).map some := by decide +kernel
    have hg : (u_ws RX9 TX9 83).all goodWord = true := by decide +kernel
    obtain ⟨k, hk⟩ := List.getElem?_of_mem hx
    have h1 : (([937, 939, 941, 943, 945, 947, 949, 951, 953, 955, 957, 959, 961, 963, 965, 967, 969, 971, 973, 975, 977, 979, 981, 983, 985, 987, 989, 991, 993, 995, 997, 999, 1001, 1003, 1005, 1007, 1009, 1011, 1013, 1015, 1017, 1019, 1021, 1023, 1025, 1027, 1029, 1031, 1033, 1035, 1037, 1039, 1041, 1043, 1045, 1047, 1049, 1051, 1053, 1055, 1057, 1059, 1061, 1063, 1065, 1067, 1069, 1071, 1073, 1075, 1077, 1079, 1081, 1083, 1085, 1087, 1089, 1091, 1093, 1095, 1097, 1099, 1101] : List Nat).map (fun i => (k2_sels lw_privs ++ tables_1)[i]?))[k]? = some (some x) := by rw [h, List.getElem?_map, hk]; rfl
    rw [List.getElem?_map] at h1
    refine List.mem_filter.mpr ⟨?_, List.all_eq_true.mp hg x hx⟩
    cases hi : ([937, 939, 941, 943, 945, 947, 949, 951, 953, 955, 957, 959, 961, 963, 965, 967, 969, 971, 973, 975, 977, 979, 981, 983, 985, 987, 989, 991, 993, 995, 997, 999, 1001, 1003, 1005, 1007, 1009, 1011, 1013, 1015, 1017, 1019, 1021, 1023, 1025, 1027, 1029, 1031, 1033, 1035, 1037, 1039, 1041, 1043, 1045, 1047, 1049, 1051, 1053, 1055, 1057, 1059, 1061, 1063, 1065, 1067, 1069, 1071, 1073, 1075, 1077, 1079, 1081, 1083, 1085, 1087, 1089, 1091, 1093, 1095, 1097, 1099, 1101] : List Nat)[k]? with
    | none => rw [hi] at h1; cases h1
    | some i => rw [hi] at h1; exact List.mem_of_getElem? (Option.some.inj h1), nmX9, tyX9, tyX9_ok⟩
theorem jC0 : gJ wC 0 8 5 fsB := ⟨by decide, rfl⟩
theorem jC1 : gJ wC 1 7 2 fsTape := ⟨by decide, rfl⟩
theorem jC3 : gJ wC 3 3 9 fsReader := ⟨by decide, rfl⟩
theorem jC5 : gJ wC 5 6 5 fsScanner := ⟨by decide, rfl⟩
theorem jC6 : gJ wC 6 1 9 fsHall := ⟨by decide, rfl⟩
theorem jC11 : gJ wC 11 0 4 fsFacts := ⟨by decide, rfl⟩
theorem jC15 : gJ wC 15 5 9 fsRun := ⟨by decide, rfl⟩
theorem aC2 : gA wC 2 1 0 2000 fI := ⟨by decide, rfl, by decide⟩
theorem aC4 : gA wC 4 1 0 32 fI := ⟨by decide, rfl, by decide⟩
theorem aC7 : gA wC 7 3 4 8 fsMs := ⟨by decide, rfl, by decide⟩
theorem aC8 : gA wC 8 1 0 6 fI := ⟨by decide, rfl, by decide⟩
theorem aC9 : gA wC 9 1 0 6 fI := ⟨by decide, rfl, by decide⟩
theorem aC10 : gA wC 10 1 0 4 fI := ⟨by decide, rfl, by decide⟩
theorem aC12 : gA wC 12 1 0 300 fI := ⟨by decide, rfl, by decide⟩
theorem aC13 : gA wC 13 2 3 600 fI := ⟨by decide, rfl, by decide⟩
theorem aC14 : gA wC 14 3 5 2 fsKs := ⟨by decide, rfl, by decide⟩
theorem aC16 : gA wC 16 2 3 2400 fI := ⟨by decide, rfl, by decide⟩
theorem aC17 : gA wC 17 1 0 300 fI := ⟨by decide, rfl, by decide⟩
theorem aC18 : gA wC 18 1 0 72 fI := ⟨by decide, rfl, by decide⟩
theorem aC19 : gA wC 19 1 0 72 fI := ⟨by decide, rfl, by decide⟩
theorem aC20 : gA wC 20 1 0 8 fI := ⟨by decide, rfl, by decide⟩
theorem aC21 : gA wC 21 1 0 7 fI := ⟨by decide, rfl, by decide⟩
theorem jCm {i : Nat} (h : i < 8) : gJ wC (32 + i) 2 16 fI := by
  rcases (show i = 0 ∨ i = 1 ∨ i = 2 ∨ i = 3 ∨ i = 4 ∨ i = 5 ∨ i = 6 ∨ i = 7 by omega) with rfl | rfl | rfl | rfl | rfl | rfl | rfl | rfl <;> exact ⟨by decide, rfl⟩
theorem jCr {j : Nat} (h : j < 3) : gJ wC (40 + j) 4 8 (fsRules j) := by
  rcases (show j = 0 ∨ j = 1 ∨ j = 2 by omega) with rfl | rfl | rfl <;> exact ⟨by decide, rfl⟩
theorem aC50r {j : Nat} (h : j < 3) : gA wC (50 + j) 1 1 20 fI := by
  rcases (show j = 0 ∨ j = 1 ∨ j = 2 by omega) with rfl | rfl | rfl <;> exact ⟨by decide, rfl, by decide⟩
theorem aC60r {j : Nat} (h : j < 3) : gA wC (60 + j) 1 0 20 fI := by
  rcases (show j = 0 ∨ j = 1 ∨ j = 2 by omega) with rfl | rfl | rfl <;> exact ⟨by decide, rfl, by decide⟩
theorem aC70r {j : Nat} (h : j < 3) : gA wC (70 + j) 1 0 20 fI := by
  rcases (show j = 0 ∨ j = 1 ∨ j = 2 by omega) with rfl | rfl | rfl <;> exact ⟨by decide, rfl, by decide⟩
theorem aC80r {j : Nat} (h : j < 3) : gA wC (80 + j) 1 0 20 fI := by
  rcases (show j = 0 ∨ j = 1 ∨ j = 2 by omega) with rfl | rfl | rfl <;> exact ⟨by decide, rfl, by decide⟩
theorem aC90r {j : Nat} (h : j < 3) : gA wC (90 + j) 1 0 400 fI := by
  rcases (show j = 0 ∨ j = 1 ∨ j = 2 by omega) with rfl | rfl | rfl <;> exact ⟨by decide, rfl, by decide⟩
theorem aC100r {j : Nat} (h : j < 3) : gA wC (100 + j) 1 0 32 fI := by
  rcases (show j = 0 ∨ j = 1 ∨ j = 2 by omega) with rfl | rfl | rfl <;> exact ⟨by decide, rfl, by decide⟩
theorem jM : gJ wM 100 9 83 fsMod := ⟨by decide, rfl⟩
theorem aM1 : gA wM 1 1 2 2000 fI := ⟨by decide, rfl, by decide⟩
theorem aM3 : gA wM 3 1 2 2000 fI := ⟨by decide, rfl, by decide⟩
theorem aM5 : gA wM 5 1 0 403 fI := ⟨by decide, rfl, by decide⟩
theorem aM6 : gA wM 6 1 0 403 fI := ⟨by decide, rfl, by decide⟩
theorem aM7 : gA wM 7 1 0 403 fI := ⟨by decide, rfl, by decide⟩
theorem aM8 : gA wM 8 2 3 403 fI := ⟨by decide, rfl, by decide⟩
theorem aM9 : gA wM 9 2 3 12 fI := ⟨by decide, rfl, by decide⟩
theorem aM18 : gA wM 18 1 0 2 fI := ⟨by decide, rfl, by decide⟩
theorem aM20 : gA wM 20 1 0 4 fI := ⟨by decide, rfl, by decide⟩
theorem aM21 : gA wM 21 1 0 80 fI := ⟨by decide, rfl, by decide⟩
theorem aM22 : gA wM 22 1 0 80 fI := ⟨by decide, rfl, by decide⟩
theorem aM23 : gA wM 23 1 0 80 fI := ⟨by decide, rfl, by decide⟩
theorem aM24 : gA wM 24 1 0 80 fI := ⟨by decide, rfl, by decide⟩
theorem aM25 : gA wM 25 1 0 4 fI := ⟨by decide, rfl, by decide⟩
theorem aM26 : gA wM 26 1 0 800 fI := ⟨by decide, rfl, by decide⟩
theorem aM27 : gA wM 27 1 0 800 fI := ⟨by decide, rfl, by decide⟩
theorem aM28 : gA wM 28 1 0 800 fI := ⟨by decide, rfl, by decide⟩
theorem aM29 : gA wM 29 1 0 800 fI := ⟨by decide, rfl, by decide⟩
theorem aM30 : gA wM 30 1 1 800 fI := ⟨by decide, rfl, by decide⟩
theorem aM32 : gA wM 32 1 0 2000 fI := ⟨by decide, rfl, by decide⟩
theorem aM33 : gA wM 33 1 0 2000 fI := ⟨by decide, rfl, by decide⟩
theorem aM34 : gA wM 34 1 0 48 fI := ⟨by decide, rfl, by decide⟩
theorem aM37 : gA wM 37 1 0 8 fI := ⟨by decide, rfl, by decide⟩
theorem aM38 : gA wM 38 1 0 8 fI := ⟨by decide, rfl, by decide⟩
theorem aM39 : gA wM 39 1 0 8 fI := ⟨by decide, rfl, by decide⟩
theorem aM40 : gA wM 40 1 0 4 fI := ⟨by decide, rfl, by decide⟩
theorem aM42 : gA wM 42 1 0 6 fI := ⟨by decide, rfl, by decide⟩
theorem aM43 : gA wM 43 1 0 6 fI := ⟨by decide, rfl, by decide⟩
theorem aM46 : gA wM 46 1 1 2400 fI := ⟨by decide, rfl, by decide⟩
theorem aM47 : gA wM 47 1 1 2400 fI := ⟨by decide, rfl, by decide⟩
theorem aM48 : gA wM 48 1 1 600 fI := ⟨by decide, rfl, by decide⟩
theorem aM49 : gA wM 49 1 1 21600 fI := ⟨by decide, rfl, by decide⟩
theorem aM50 : gA wM 50 1 0 7 fI := ⟨by decide, rfl, by decide⟩
theorem aM51 : gA wM 51 1 0 500 fI := ⟨by decide, rfl, by decide⟩
theorem aM54 : gA wM 54 1 0 2400 fI := ⟨by decide, rfl, by decide⟩
theorem aM55 : gA wM 55 1 0 2400 fI := ⟨by decide, rfl, by decide⟩
theorem aM56 : gA wM 56 1 0 2400 fI := ⟨by decide, rfl, by decide⟩
theorem aM57 : gA wM 57 1 0 2400 fI := ⟨by decide, rfl, by decide⟩
theorem aM58 : gA wM 58 1 0 2400 fI := ⟨by decide, rfl, by decide⟩
theorem aM59 : gA wM 59 1 0 2400 fI := ⟨by decide, rfl, by decide⟩
theorem aM60 : gA wM 60 1 0 2400 fI := ⟨by decide, rfl, by decide⟩
theorem aM61 : gA wM 61 1 0 2400 fI := ⟨by decide, rfl, by decide⟩
theorem aM62 : gA wM 62 1 0 2400 fI := ⟨by decide, rfl, by decide⟩
theorem aM63 : gA wM 63 1 0 2400 fI := ⟨by decide, rfl, by decide⟩
theorem aM64 : gA wM 64 1 0 300 fI := ⟨by decide, rfl, by decide⟩
theorem aM65 : gA wM 65 1 0 72 fI := ⟨by decide, rfl, by decide⟩
theorem aM67 : gA wM 67 1 0 8 fI := ⟨by decide, rfl, by decide⟩
theorem aM68 : gA wM 68 1 0 8 fI := ⟨by decide, rfl, by decide⟩
theorem aM69 : gA wM 69 1 0 8 fI := ⟨by decide, rfl, by decide⟩
theorem aM70 : gA wM 70 1 0 8 fI := ⟨by decide, rfl, by decide⟩
theorem aM71 : gA wM 71 1 0 8 fI := ⟨by decide, rfl, by decide⟩
theorem aM72 : gA wM 72 1 0 8 fI := ⟨by decide, rfl, by decide⟩
theorem aM73 : gA wM 73 1 0 8 fI := ⟨by decide, rfl, by decide⟩
theorem aM74 : gA wM 74 1 0 8 fI := ⟨by decide, rfl, by decide⟩
theorem aM75 : gA wM 75 1 0 8 fI := ⟨by decide, rfl, by decide⟩
theorem aM76 : gA wM 76 1 0 8 fI := ⟨by decide, rfl, by decide⟩
theorem aM77 : gA wM 77 1 0 8 fI := ⟨by decide, rfl, by decide⟩
theorem aM78 : gA wM 78 1 0 8 fI := ⟨by decide, rfl, by decide⟩
theorem aM79 : gA wM 79 1 0 8 fI := ⟨by decide, rfl, by decide⟩
theorem aM80 : gA wM 80 1 1 72 fI := ⟨by decide, rfl, by decide⟩
theorem aM81 : gA wM 81 1 1 8 fI := ⟨by decide, rfl, by decide⟩
theorem aM82 : gA wM 82 1 0 4 fI := ⟨by decide, rfl, by decide⟩
theorem lw_t0 {w : Cond} (h : w ∈ tables_1) (hg : goodWord w = true) : w ∈ lw_g := List.mem_filter.mpr ⟨List.mem_append_right _ h, hg⟩
theorem lw_t1 {w : Cond} (h : w ∈ tables_1_1) (hg : goodWord w = true) : w ∈ lw_g := lw_t0 (List.mem_append_left _ h) hg
theorem lw_t2 {w : Cond} (h : w ∈ tables_1_2) (hg : goodWord w = true) : w ∈ lw_g := lw_t0 (List.mem_append_right _ (List.mem_append_left _ h)) hg
theorem lw_t3 {w : Cond} (h : w ∈ tables_1_3) (hg : goodWord w = true) : w ∈ lw_g := lw_t0 (List.mem_append_right _ (List.mem_append_right _ (List.mem_append_left _ h))) hg
theorem lw_t4 {w : Cond} (h : w ∈ tables_1_4) (hg : goodWord w = true) : w ∈ lw_g := lw_t0 (List.mem_append_right _ (List.mem_append_right _ (List.mem_append_right _ (List.mem_append_left _ h)))) hg
theorem lw_t5 {w : Cond} (h : w ∈ tables_1_5) (hg : goodWord w = true) : w ∈ lw_g := lw_t0 (List.mem_append_right _ (List.mem_append_right _ (List.mem_append_right _ (List.mem_append_right _ (List.mem_append_left _ h))))) hg
theorem lw_t6 {w : Cond} (h : w ∈ tables_1_6) (hg : goodWord w = true) : w ∈ lw_g := lw_t0 (List.mem_append_right _ (List.mem_append_right _ (List.mem_append_right _ (List.mem_append_right _ (List.mem_append_right _ h))))) hg
theorem inRL : Cond.initialized RL ∈ lw_g := lw_t1 (List.mem_of_getElem? (i := 0) (by decide +kernel)) (by decide +kernel)
theorem inRX8 : Cond.initialized RX8 ∈ lw_g := lw_t1 (List.mem_of_getElem? (i := 1) (by decide +kernel)) (by decide +kernel)
theorem inRX7 : Cond.initialized RX7 ∈ lw_g := lw_t1 (List.mem_of_getElem? (i := 2) (by decide +kernel)) (by decide +kernel)
theorem inRX1 : Cond.initialized RX1 ∈ lw_g := lw_t1 (List.mem_of_getElem? (i := 3) (by decide +kernel)) (by decide +kernel)
theorem inRX0 : Cond.initialized RX0 ∈ lw_g := lw_t1 (List.mem_of_getElem? (i := 4) (by decide +kernel)) (by decide +kernel)
theorem inRX2 : Cond.initialized RX2 ∈ lw_g := lw_t1 (List.mem_of_getElem? (i := 5) (by decide +kernel)) (by decide +kernel)
theorem inRX4 : Cond.initialized RX4 ∈ lw_g := lw_t1 (List.mem_of_getElem? (i := 6) (by decide +kernel)) (by decide +kernel)
theorem inRX3 : Cond.initialized RX3 ∈ lw_g := lw_t1 (List.mem_of_getElem? (i := 7) (by decide +kernel)) (by decide +kernel)
theorem inRX6 : Cond.initialized RX6 ∈ lw_g := lw_t1 (List.mem_of_getElem? (i := 8) (by decide +kernel)) (by decide +kernel)
theorem inRX5 : Cond.initialized RX5 ∈ lw_g := lw_t1 (List.mem_of_getElem? (i := 9) (by decide +kernel)) (by decide +kernel)
theorem inRX9 : Cond.initialized RX9 ∈ lw_g := lw_t1 (List.mem_of_getElem? (i := 10) (by decide +kernel)) (by decide +kernel)
theorem inRJ9 : Cond.initialized RJ9 ∈ lw_g := lw_t1 (List.mem_of_getElem? (i := 11) (by decide +kernel)) (by decide +kernel)
theorem inRJ7 : Cond.initialized RJ7 ∈ lw_g := lw_t1 (List.mem_of_getElem? (i := 12) (by decide +kernel)) (by decide +kernel)
theorem inRJ6 : Cond.initialized RJ6 ∈ lw_g := lw_t1 (List.mem_of_getElem? (i := 13) (by decide +kernel)) (by decide +kernel)
theorem cdX0_init : Cond.code yX0_init cX0_init 1 none ∈ lw_g := lw_t1 (List.mem_of_getElem? (i := 51) rfl) rfl
theorem imX0_init : Cond.instanceMethod yX0_init ∈ lw_g := lw_t1 (List.mem_of_getElem? (i := 50) (by decide +kernel)) (by decide +kernel)
theorem cdX0_isFull : Cond.code yX0_isFull cX0_isFull 1 (some .boolean) ∈ lw_g := lw_t3 (List.mem_of_getElem? (i := 17) rfl) rfl
theorem imX0_isFull : Cond.instanceMethod yX0_isFull ∈ lw_g := lw_t3 (List.mem_of_getElem? (i := 15) (by decide +kernel)) (by decide +kernel)
theorem seX0_isFull : Cond.selects yX0_isFull.cls yX0_isFull yX0_isFull ∈ lw_g := lw_t3 (List.mem_of_getElem? (i := 16) (by decide +kernel)) (by decide +kernel)
theorem cdX0_addLost : Cond.code yX0_addLost cX0_addLost 3 (some .int) ∈ lw_g := lw_t3 (List.mem_of_getElem? (i := 21) rfl) rfl
theorem imX0_addLost : Cond.instanceMethod yX0_addLost ∈ lw_g := lw_t3 (List.mem_of_getElem? (i := 19) (by decide +kernel)) (by decide +kernel)
theorem seX0_addLost : Cond.selects yX0_addLost.cls yX0_addLost yX0_addLost ∈ lw_g := lw_t3 (List.mem_of_getElem? (i := 20) (by decide +kernel)) (by decide +kernel)
theorem cdX0_addCut : Cond.code yX0_addCut cX0_addCut 3 (some .int) ∈ lw_g := lw_t3 (List.mem_of_getElem? (i := 50) rfl) rfl
theorem imX0_addCut : Cond.instanceMethod yX0_addCut ∈ lw_g := lw_t3 (List.mem_of_getElem? (i := 48) (by decide +kernel)) (by decide +kernel)
theorem seX0_addCut : Cond.selects yX0_addCut.cls yX0_addCut yX0_addCut ∈ lw_g := lw_t3 (List.mem_of_getElem? (i := 49) (by decide +kernel)) (by decide +kernel)
theorem cdX0_addDown : Cond.code yX0_addDown cX0_addDown 5 (some .int) ∈ lw_g := lw_t3 (List.mem_of_getElem? (i := 42) rfl) rfl
theorem imX0_addDown : Cond.instanceMethod yX0_addDown ∈ lw_g := lw_t3 (List.mem_of_getElem? (i := 40) (by decide +kernel)) (by decide +kernel)
theorem seX0_addDown : Cond.selects yX0_addDown.cls yX0_addDown yX0_addDown ∈ lw_g := lw_t3 (List.mem_of_getElem? (i := 41) (by decide +kernel)) (by decide +kernel)
theorem cdX0_addWrong : Cond.code yX0_addWrong cX0_addWrong 3 (some .int) ∈ lw_g := lw_t3 (List.mem_of_getElem? (i := 34) rfl) rfl
theorem imX0_addWrong : Cond.instanceMethod yX0_addWrong ∈ lw_g := lw_t3 (List.mem_of_getElem? (i := 32) (by decide +kernel)) (by decide +kernel)
theorem seX0_addWrong : Cond.selects yX0_addWrong.cls yX0_addWrong yX0_addWrong ∈ lw_g := lw_t3 (List.mem_of_getElem? (i := 33) (by decide +kernel)) (by decide +kernel)
theorem cdX0_isLost : Cond.code yX0_isLost cX0_isLost 3 (some .boolean) ∈ lw_g := lw_t3 (List.mem_of_getElem? (i := 110) rfl) rfl
theorem imX0_isLost : Cond.instanceMethod yX0_isLost ∈ lw_g := lw_t3 (List.mem_of_getElem? (i := 108) (by decide +kernel)) (by decide +kernel)
theorem seX0_isLost : Cond.selects yX0_isLost.cls yX0_isLost yX0_isLost ∈ lw_g := lw_t3 (List.mem_of_getElem? (i := 109) (by decide +kernel)) (by decide +kernel)
theorem cdX0_isCut : Cond.code yX0_isCut cX0_isCut 3 (some .boolean) ∈ lw_g := lw_t3 (List.mem_of_getElem? (i := 90) rfl) rfl
theorem imX0_isCut : Cond.instanceMethod yX0_isCut ∈ lw_g := lw_t3 (List.mem_of_getElem? (i := 88) (by decide +kernel)) (by decide +kernel)
theorem seX0_isCut : Cond.selects yX0_isCut.cls yX0_isCut yX0_isCut ∈ lw_g := lw_t3 (List.mem_of_getElem? (i := 89) (by decide +kernel)) (by decide +kernel)
theorem cdX0_isDown : Cond.code yX0_isDown cX0_isDown 3 (some .boolean) ∈ lw_g := lw_t3 (List.mem_of_getElem? (i := 118) rfl) rfl
theorem imX0_isDown : Cond.instanceMethod yX0_isDown ∈ lw_g := lw_t3 (List.mem_of_getElem? (i := 116) (by decide +kernel)) (by decide +kernel)
theorem seX0_isDown : Cond.selects yX0_isDown.cls yX0_isDown yX0_isDown ∈ lw_g := lw_t3 (List.mem_of_getElem? (i := 117) (by decide +kernel)) (by decide +kernel)
theorem cdX0_isWrong : Cond.code yX0_isWrong cX0_isWrong 3 (some .boolean) ∈ lw_g := lw_t3 (List.mem_of_getElem? (i := 175) rfl) rfl
theorem imX0_isWrong : Cond.instanceMethod yX0_isWrong ∈ lw_g := lw_t3 (List.mem_of_getElem? (i := 173) (by decide +kernel)) (by decide +kernel)
theorem seX0_isWrong : Cond.selects yX0_isWrong.cls yX0_isWrong yX0_isWrong ∈ lw_g := lw_t3 (List.mem_of_getElem? (i := 174) (by decide +kernel)) (by decide +kernel)
theorem cdX1_init : Cond.code yX1_init cX1_init 2 none ∈ lw_g := lw_t1 (List.mem_of_getElem? (i := 43) rfl) rfl
theorem imX1_init : Cond.instanceMethod yX1_init ∈ lw_g := lw_t1 (List.mem_of_getElem? (i := 42) (by decide +kernel)) (by decide +kernel)
theorem cdX1_addMachine : Cond.code yX1_addMachine cX1_addMachine 5 (some .int) ∈ lw_g := lw_t2 (List.mem_of_getElem? (i := 233) rfl) rfl
theorem imX1_addMachine : Cond.instanceMethod yX1_addMachine ∈ lw_g := lw_t2 (List.mem_of_getElem? (i := 231) (by decide +kernel)) (by decide +kernel)
theorem seX1_addMachine : Cond.selects yX1_addMachine.cls yX1_addMachine yX1_addMachine ∈ lw_g := lw_t2 (List.mem_of_getElem? (i := 232) (by decide +kernel)) (by decide +kernel)
theorem cdX1_addFile : Cond.code yX1_addFile cX1_addFile 3 (some .int) ∈ lw_g := lw_t3 (List.mem_of_getElem? (i := 1) rfl) rfl
theorem imX1_addFile : Cond.instanceMethod yX1_addFile ∈ lw_g := lw_t2 (List.mem_of_getElem? (i := 239) (by decide +kernel)) (by decide +kernel)
theorem seX1_addFile : Cond.selects yX1_addFile.cls yX1_addFile yX1_addFile ∈ lw_g := lw_t3 (List.mem_of_getElem? (i := 0) (by decide +kernel)) (by decide +kernel)
theorem cdX1_hasBlock : Cond.code yX1_hasBlock cX1_hasBlock 3 (some .boolean) ∈ lw_g := lw_t3 (List.mem_of_getElem? (i := 29) rfl) rfl
theorem imX1_hasBlock : Cond.instanceMethod yX1_hasBlock ∈ lw_g := lw_t3 (List.mem_of_getElem? (i := 27) (by decide +kernel)) (by decide +kernel)
theorem seX1_hasBlock : Cond.selects yX1_hasBlock.cls yX1_hasBlock yX1_hasBlock ∈ lw_g := lw_t3 (List.mem_of_getElem? (i := 28) (by decide +kernel)) (by decide +kernel)
theorem cdX1_setWakes : Cond.code yX1_setWakes cX1_setWakes 5 (some .boolean) ∈ lw_g := lw_t4 (List.mem_of_getElem? (i := 32) rfl) rfl
theorem imX1_setWakes : Cond.instanceMethod yX1_setWakes ∈ lw_g := lw_t4 (List.mem_of_getElem? (i := 30) (by decide +kernel)) (by decide +kernel)
theorem seX1_setWakes : Cond.selects yX1_setWakes.cls yX1_setWakes yX1_setWakes ∈ lw_g := lw_t4 (List.mem_of_getElem? (i := 31) (by decide +kernel)) (by decide +kernel)
theorem cdX1_hasKind : Cond.code yX1_hasKind cX1_hasKind 3 (some .boolean) ∈ lw_g := lw_t4 (List.mem_of_getElem? (i := 36) rfl) rfl
theorem imX1_hasKind : Cond.instanceMethod yX1_hasKind ∈ lw_g := lw_t4 (List.mem_of_getElem? (i := 35) (by decide +kernel)) (by decide +kernel)
theorem seX1_hasKind : Cond.selects yX1_hasKind.cls yX1_hasKind yX1_hasKind ∈ lw_g := lw_m 31 (by decide +kernel) (by decide +kernel)
theorem cdX1_mustWait : Cond.code yX1_mustWait cX1_mustWait 5 (some .boolean) ∈ lw_g := lw_t3 (List.mem_of_getElem? (i := 148) rfl) rfl
theorem imX1_mustWait : Cond.instanceMethod yX1_mustWait ∈ lw_g := lw_t3 (List.mem_of_getElem? (i := 146) (by decide +kernel)) (by decide +kernel)
theorem seX1_mustWait : Cond.selects yX1_mustWait.cls yX1_mustWait yX1_mustWait ∈ lw_g := lw_t3 (List.mem_of_getElem? (i := 147) (by decide +kernel)) (by decide +kernel)
theorem cdX2_init : Cond.code yX2_init cX2_init 1 none ∈ lw_g := lw_t1 (List.mem_of_getElem? (i := 74) rfl) rfl
theorem imX2_init : Cond.instanceMethod yX2_init ∈ lw_g := lw_t1 (List.mem_of_getElem? (i := 73) (by decide +kernel)) (by decide +kernel)
theorem cdX2_reset : Cond.code yX2_reset cX2_reset 1 none ∈ lw_g := lw_t3 (List.mem_of_getElem? (i := 74) rfl) rfl
theorem imX2_reset : Cond.instanceMethod yX2_reset ∈ lw_g := lw_t3 (List.mem_of_getElem? (i := 72) (by decide +kernel)) (by decide +kernel)
theorem seX2_reset : Cond.selects yX2_reset.cls yX2_reset yX2_reset ∈ lw_g := lw_t3 (List.mem_of_getElem? (i := 73) (by decide +kernel)) (by decide +kernel)
theorem cdX2_losePower : Cond.code yX2_losePower cX2_losePower 2 none ∈ lw_g := lw_t3 (List.mem_of_getElem? (i := 94) rfl) rfl
theorem imX2_losePower : Cond.instanceMethod yX2_losePower ∈ lw_g := lw_t3 (List.mem_of_getElem? (i := 92) (by decide +kernel)) (by decide +kernel)
theorem seX2_losePower : Cond.selects yX2_losePower.cls yX2_losePower yX2_losePower ∈ lw_g := lw_t3 (List.mem_of_getElem? (i := 93) (by decide +kernel)) (by decide +kernel)
theorem cdX2_begin : Cond.code yX2_begin cX2_begin 2 none ∈ lw_g := lw_t3 (List.mem_of_getElem? (i := 98) rfl) rfl
theorem imX2_begin : Cond.instanceMethod yX2_begin ∈ lw_g := lw_t3 (List.mem_of_getElem? (i := 96) (by decide +kernel)) (by decide +kernel)
theorem seX2_begin : Cond.selects yX2_begin.cls yX2_begin yX2_begin ∈ lw_g := lw_t3 (List.mem_of_getElem? (i := 97) (by decide +kernel)) (by decide +kernel)
theorem cdX2_failToAsk : Cond.code yX2_failToAsk cX2_failToAsk 3 none ∈ lw_g := lw_t3 (List.mem_of_getElem? (i := 140) rfl) rfl
theorem imX2_failToAsk : Cond.instanceMethod yX2_failToAsk ∈ lw_g := lw_t3 (List.mem_of_getElem? (i := 138) (by decide +kernel)) (by decide +kernel)
theorem seX2_failToAsk : Cond.selects yX2_failToAsk.cls yX2_failToAsk yX2_failToAsk ∈ lw_g := lw_t3 (List.mem_of_getElem? (i := 139) (by decide +kernel)) (by decide +kernel)
theorem cdX2_fetch : Cond.code yX2_fetch cX2_fetch 4 none ∈ lw_g := lw_t3 (List.mem_of_getElem? (i := 152) rfl) rfl
theorem imX2_fetch : Cond.instanceMethod yX2_fetch ∈ lw_g := lw_t3 (List.mem_of_getElem? (i := 150) (by decide +kernel)) (by decide +kernel)
theorem seX2_fetch : Cond.selects yX2_fetch.cls yX2_fetch yX2_fetch ∈ lw_g := lw_t3 (List.mem_of_getElem? (i := 151) (by decide +kernel)) (by decide +kernel)
theorem cdX2_getNone : Cond.code yX2_getNone cX2_getNone 1 none ∈ lw_g := lw_t3 (List.mem_of_getElem? (i := 171) rfl) rfl
theorem imX2_getNone : Cond.instanceMethod yX2_getNone ∈ lw_g := lw_t3 (List.mem_of_getElem? (i := 169) (by decide +kernel)) (by decide +kernel)
theorem seX2_getNone : Cond.selects yX2_getNone.cls yX2_getNone yX2_getNone ∈ lw_g := lw_t3 (List.mem_of_getElem? (i := 170) (by decide +kernel)) (by decide +kernel)
theorem cdX2_getWrong : Cond.code yX2_getWrong cX2_getWrong 1 none ∈ lw_g := lw_t3 (List.mem_of_getElem? (i := 179) rfl) rfl
theorem imX2_getWrong : Cond.instanceMethod yX2_getWrong ∈ lw_g := lw_t3 (List.mem_of_getElem? (i := 177) (by decide +kernel)) (by decide +kernel)
theorem seX2_getWrong : Cond.selects yX2_getWrong.cls yX2_getWrong yX2_getWrong ∈ lw_g := lw_t3 (List.mem_of_getElem? (i := 178) (by decide +kernel)) (by decide +kernel)
theorem cdX2_install : Cond.code yX2_install cX2_install 2 none ∈ lw_g := lw_t3 (List.mem_of_getElem? (i := 187) rfl) rfl
theorem imX2_install : Cond.instanceMethod yX2_install ∈ lw_g := lw_t3 (List.mem_of_getElem? (i := 185) (by decide +kernel)) (by decide +kernel)
theorem seX2_install : Cond.selects yX2_install.cls yX2_install yX2_install ∈ lw_g := lw_t3 (List.mem_of_getElem? (i := 186) (by decide +kernel)) (by decide +kernel)
theorem cdX2_write : Cond.code yX2_write cX2_write 2 none ∈ lw_g := lw_t3 (List.mem_of_getElem? (i := 196) rfl) rfl
theorem imX2_write : Cond.instanceMethod yX2_write ∈ lw_g := lw_t3 (List.mem_of_getElem? (i := 194) (by decide +kernel)) (by decide +kernel)
theorem seX2_write : Cond.selects yX2_write.cls yX2_write yX2_write ∈ lw_g := lw_t3 (List.mem_of_getElem? (i := 195) (by decide +kernel)) (by decide +kernel)
theorem cdX2_enterRescue : Cond.code yX2_enterRescue cX2_enterRescue 2 none ∈ lw_g := lw_t3 (List.mem_of_getElem? (i := 144) rfl) rfl
theorem imX2_enterRescue : Cond.instanceMethod yX2_enterRescue ∈ lw_g := lw_t3 (List.mem_of_getElem? (i := 142) (by decide +kernel)) (by decide +kernel)
theorem seX2_enterRescue : Cond.selects yX2_enterRescue.cls yX2_enterRescue yX2_enterRescue ∈ lw_g := lw_t3 (List.mem_of_getElem? (i := 143) (by decide +kernel)) (by decide +kernel)
theorem cdX2_isSettled : Cond.code yX2_isSettled cX2_isSettled 1 (some .boolean) ∈ lw_g := lw_t3 (List.mem_of_getElem? (i := 204) rfl) rfl
theorem imX2_isSettled : Cond.instanceMethod yX2_isSettled ∈ lw_g := lw_t3 (List.mem_of_getElem? (i := 202) (by decide +kernel)) (by decide +kernel)
theorem seX2_isSettled : Cond.selects yX2_isSettled.cls yX2_isSettled yX2_isSettled ∈ lw_g := lw_t3 (List.mem_of_getElem? (i := 203) (by decide +kernel)) (by decide +kernel)
theorem cdX2_snapshot : Cond.code yX2_snapshot cX2_snapshot 5 (some .long) ∈ lw_g := lw_t3 (List.mem_of_getElem? (i := 212) rfl) rfl
theorem imX2_snapshot : Cond.instanceMethod yX2_snapshot ∈ lw_g := lw_t3 (List.mem_of_getElem? (i := 210) (by decide +kernel)) (by decide +kernel)
theorem seX2_snapshot : Cond.selects yX2_snapshot.cls yX2_snapshot yX2_snapshot ∈ lw_g := lw_t3 (List.mem_of_getElem? (i := 211) (by decide +kernel)) (by decide +kernel)
theorem cdX2_enter : Cond.code yX2_enter cX2_enter 2 none ∈ lw_g := lw_t3 (List.mem_of_getElem? (i := 78) rfl) rfl
theorem imX2_enter : Cond.instanceMethod yX2_enter ∈ lw_g := lw_t3 (List.mem_of_getElem? (i := 77) (by decide +kernel)) (by decide +kernel)
theorem seX2_enter : Cond.selects yX2_enter.cls yX2_enter yX2_enter ∈ lw_g := lw_m 17 (by decide +kernel) (by decide +kernel)
theorem cdX2_clearTallies : Cond.code yX2_clearTallies cX2_clearTallies 1 none ∈ lw_g := lw_t3 (List.mem_of_getElem? (i := 82) rfl) rfl
theorem imX2_clearTallies : Cond.instanceMethod yX2_clearTallies ∈ lw_g := lw_t3 (List.mem_of_getElem? (i := 81) (by decide +kernel)) (by decide +kernel)
theorem seX2_clearTallies : Cond.selects yX2_clearTallies.cls yX2_clearTallies yX2_clearTallies ∈ lw_g := lw_m 18 (by decide +kernel) (by decide +kernel)
theorem cdX3_init : Cond.code yX3_init cX3_init 2 none ∈ lw_g := lw_t1 (List.mem_of_getElem? (i := 220) rfl) rfl
theorem imX3_init : Cond.instanceMethod yX3_init ∈ lw_g := lw_t1 (List.mem_of_getElem? (i := 219) (by decide +kernel)) (by decide +kernel)
theorem cdX3_exchange : Cond.code yX3_exchange cX3_exchange 3 (some (.object "BootHall$Rules")) ∈ lw_g := lw_t2 (List.mem_of_getElem? (i := 221) rfl) rfl
theorem imX3_exchange : Cond.instanceMethod yX3_exchange ∈ lw_g := lw_t2 (List.mem_of_getElem? (i := 219) (by decide +kernel)) (by decide +kernel)
theorem seX3_exchange : Cond.selects yX3_exchange.cls yX3_exchange yX3_exchange ∈ lw_g := lw_t2 (List.mem_of_getElem? (i := 220) (by decide +kernel)) (by decide +kernel)
theorem cdX3_compile : Cond.code yX3_compile cX3_compile 3 (some .int) ∈ lw_g := lw_t2 (List.mem_of_getElem? (i := 113) rfl) rfl
theorem imX3_compile : Cond.instanceMethod yX3_compile ∈ lw_g := lw_t2 (List.mem_of_getElem? (i := 111) (by decide +kernel)) (by decide +kernel)
theorem seX3_compile : Cond.selects yX3_compile.cls yX3_compile yX3_compile ∈ lw_g := lw_t2 (List.mem_of_getElem? (i := 112) (by decide +kernel)) (by decide +kernel)
theorem cdX3_begin : Cond.code yX3_begin cX3_begin 1 none ∈ lw_g := lw_t2 (List.mem_of_getElem? (i := 117) rfl) rfl
theorem imX3_begin : Cond.instanceMethod yX3_begin ∈ lw_g := lw_t2 (List.mem_of_getElem? (i := 116) (by decide +kernel)) (by decide +kernel)
theorem seX3_begin : Cond.selects yX3_begin.cls yX3_begin yX3_begin ∈ lw_g := lw_m 0 (by decide +kernel) (by decide +kernel)
theorem cdX3_following : Cond.code yX3_following cX3_following 2 (some .int) ∈ lw_g := lw_t2 (List.mem_of_getElem? (i := 168) rfl) rfl
theorem imX3_following : Cond.instanceMethod yX3_following ∈ lw_g := lw_t2 (List.mem_of_getElem? (i := 167) (by decide +kernel)) (by decide +kernel)
theorem seX3_following : Cond.selects yX3_following.cls yX3_following yX3_following ∈ lw_g := lw_m 6 (by decide +kernel) (by decide +kernel)
theorem cdX3_followingUnit : Cond.code yX3_followingUnit cX3_followingUnit 2 (some .int) ∈ lw_g := lw_t2 (List.mem_of_getElem? (i := 172) rfl) rfl
theorem imX3_followingUnit : Cond.instanceMethod yX3_followingUnit ∈ lw_g := lw_t2 (List.mem_of_getElem? (i := 171) (by decide +kernel)) (by decide +kernel)
theorem seX3_followingUnit : Cond.selects yX3_followingUnit.cls yX3_followingUnit yX3_followingUnit ∈ lw_g := lw_m 7 (by decide +kernel) (by decide +kernel)
theorem cdX3_isOverfull : Cond.code yX3_isOverfull cX3_isOverfull 1 (some .boolean) ∈ lw_g := lw_t2 (List.mem_of_getElem? (i := 176) rfl) rfl
theorem imX3_isOverfull : Cond.instanceMethod yX3_isOverfull ∈ lw_g := lw_t2 (List.mem_of_getElem? (i := 175) (by decide +kernel)) (by decide +kernel)
theorem seX3_isOverfull : Cond.selects yX3_isOverfull.cls yX3_isOverfull yX3_isOverfull ∈ lw_g := lw_m 8 (by decide +kernel) (by decide +kernel)
theorem cdX3_take : Cond.code yX3_take cX3_take 1 none ∈ lw_g := lw_t2 (List.mem_of_getElem? (i := 180) rfl) rfl
theorem imX3_take : Cond.instanceMethod yX3_take ∈ lw_g := lw_t2 (List.mem_of_getElem? (i := 179) (by decide +kernel)) (by decide +kernel)
theorem seX3_take : Cond.selects yX3_take.cls yX3_take yX3_take ∈ lw_g := lw_m 9 (by decide +kernel) (by decide +kernel)
theorem cdX3_takeNumber : Cond.code yX3_takeNumber cX3_takeNumber 2 none ∈ lw_g := lw_t2 (List.mem_of_getElem? (i := 188) rfl) rfl
theorem imX3_takeNumber : Cond.instanceMethod yX3_takeNumber ∈ lw_g := lw_t2 (List.mem_of_getElem? (i := 187) (by decide +kernel)) (by decide +kernel)
theorem seX3_takeNumber : Cond.selects yX3_takeNumber.cls yX3_takeNumber yX3_takeNumber ∈ lw_g := lw_m 10 (by decide +kernel) (by decide +kernel)
theorem cdX3_takeUnit : Cond.code yX3_takeUnit cX3_takeUnit 1 none ∈ lw_g := lw_t2 (List.mem_of_getElem? (i := 196) rfl) rfl
theorem imX3_takeUnit : Cond.instanceMethod yX3_takeUnit ∈ lw_g := lw_t2 (List.mem_of_getElem? (i := 195) (by decide +kernel)) (by decide +kernel)
theorem seX3_takeUnit : Cond.selects yX3_takeUnit.cls yX3_takeUnit yX3_takeUnit ∈ lw_g := lw_m 11 (by decide +kernel) (by decide +kernel)
theorem cdX3_takeBehindUnit : Cond.code yX3_takeBehindUnit cX3_takeBehindUnit 1 none ∈ lw_g := lw_t2 (List.mem_of_getElem? (i := 208) rfl) rfl
theorem imX3_takeBehindUnit : Cond.instanceMethod yX3_takeBehindUnit ∈ lw_g := lw_t2 (List.mem_of_getElem? (i := 207) (by decide +kernel)) (by decide +kernel)
theorem seX3_takeBehindUnit : Cond.selects yX3_takeBehindUnit.cls yX3_takeBehindUnit yX3_takeBehindUnit ∈ lw_g := lw_m 13 (by decide +kernel) (by decide +kernel)
theorem cdX3_emitDownTo : Cond.code yX3_emitDownTo cX3_emitDownTo 2 none ∈ lw_g := lw_t2 (List.mem_of_getElem? (i := 212) rfl) rfl
theorem imX3_emitDownTo : Cond.instanceMethod yX3_emitDownTo ∈ lw_g := lw_t2 (List.mem_of_getElem? (i := 211) (by decide +kernel)) (by decide +kernel)
theorem seX3_emitDownTo : Cond.selects yX3_emitDownTo.cls yX3_emitDownTo yX3_emitDownTo ∈ lw_g := lw_m 14 (by decide +kernel) (by decide +kernel)
theorem cdX3_push : Cond.code yX3_push cX3_push 2 none ∈ lw_g := lw_t2 (List.mem_of_getElem? (i := 200) rfl) rfl
theorem imX3_push : Cond.instanceMethod yX3_push ∈ lw_g := lw_t2 (List.mem_of_getElem? (i := 199) (by decide +kernel)) (by decide +kernel)
theorem seX3_push : Cond.selects yX3_push.cls yX3_push yX3_push ∈ lw_g := lw_m 12 (by decide +kernel) (by decide +kernel)
theorem cdX4_init : Cond.code yX4_init cX4_init 1 none ∈ lw_g := lw_t1 (List.mem_of_getElem? (i := 143) rfl) rfl
theorem imX4_init : Cond.instanceMethod yX4_init ∈ lw_g := lw_t1 (List.mem_of_getElem? (i := 142) (by decide +kernel)) (by decide +kernel)
theorem cdX4_clear : Cond.code yX4_clear cX4_clear 1 none ∈ lw_g := lw_t2 (List.mem_of_getElem? (i := 125) rfl) rfl
theorem imX4_clear : Cond.instanceMethod yX4_clear ∈ lw_g := lw_t2 (List.mem_of_getElem? (i := 123) (by decide +kernel)) (by decide +kernel)
theorem seX4_clear : Cond.selects yX4_clear.cls yX4_clear yX4_clear ∈ lw_g := lw_t2 (List.mem_of_getElem? (i := 124) (by decide +kernel)) (by decide +kernel)
theorem cdX4_add : Cond.code yX4_add cX4_add 2 none ∈ lw_g := lw_t2 (List.mem_of_getElem? (i := 184) rfl) rfl
theorem imX4_add : Cond.instanceMethod yX4_add ∈ lw_g := lw_t2 (List.mem_of_getElem? (i := 182) (by decide +kernel)) (by decide +kernel)
theorem seX4_add : Cond.selects yX4_add.cls yX4_add yX4_add ∈ lw_g := lw_t2 (List.mem_of_getElem? (i := 183) (by decide +kernel)) (by decide +kernel)
theorem cdX4_setNumber : Cond.code yX4_setNumber cX4_setNumber 2 none ∈ lw_g := lw_t2 (List.mem_of_getElem? (i := 192) rfl) rfl
theorem imX4_setNumber : Cond.instanceMethod yX4_setNumber ∈ lw_g := lw_t2 (List.mem_of_getElem? (i := 190) (by decide +kernel)) (by decide +kernel)
theorem seX4_setNumber : Cond.selects yX4_setNumber.cls yX4_setNumber yX4_setNumber ∈ lw_g := lw_t2 (List.mem_of_getElem? (i := 191) (by decide +kernel)) (by decide +kernel)
theorem cdX4_emit : Cond.code yX4_emit cX4_emit 2 none ∈ lw_g := lw_t2 (List.mem_of_getElem? (i := 204) rfl) rfl
theorem imX4_emit : Cond.instanceMethod yX4_emit ∈ lw_g := lw_t2 (List.mem_of_getElem? (i := 202) (by decide +kernel)) (by decide +kernel)
theorem seX4_emit : Cond.selects yX4_emit.cls yX4_emit yX4_emit ∈ lw_g := lw_t2 (List.mem_of_getElem? (i := 203) (by decide +kernel)) (by decide +kernel)
theorem cdX4_choose : Cond.code yX4_choose cX4_choose 5 (some .int) ∈ lw_g := lw_t3 (List.mem_of_getElem? (i := 122) rfl) rfl
theorem imX4_choose : Cond.instanceMethod yX4_choose ∈ lw_g := lw_t3 (List.mem_of_getElem? (i := 120) (by decide +kernel)) (by decide +kernel)
theorem seX4_choose : Cond.selects yX4_choose.cls yX4_choose yX4_choose ∈ lw_g := lw_t3 (List.mem_of_getElem? (i := 121) (by decide +kernel)) (by decide +kernel)
theorem cdX4_kindsAhead : Cond.code yX4_kindsAhead cX4_kindsAhead 4 (some .int) ∈ lw_g := lw_t3 (List.mem_of_getElem? (i := 136) rfl) rfl
theorem imX4_kindsAhead : Cond.instanceMethod yX4_kindsAhead ∈ lw_g := lw_t3 (List.mem_of_getElem? (i := 134) (by decide +kernel)) (by decide +kernel)
theorem seX4_kindsAhead : Cond.selects yX4_kindsAhead.cls yX4_kindsAhead yX4_kindsAhead ∈ lw_g := lw_t3 (List.mem_of_getElem? (i := 135) (by decide +kernel)) (by decide +kernel)
theorem cdX4_holds : Cond.code yX4_holds cX4_holds 7 (some .boolean) ∈ lw_g := lw_t3 (List.mem_of_getElem? (i := 126) rfl) rfl
theorem imX4_holds : Cond.instanceMethod yX4_holds ∈ lw_g := lw_t3 (List.mem_of_getElem? (i := 125) (by decide +kernel)) (by decide +kernel)
theorem seX4_holds : Cond.selects yX4_holds.cls yX4_holds yX4_holds ∈ lw_g := lw_m 23 (by decide +kernel) (by decide +kernel)
theorem cdX4_valueOf : Cond.code yX4_valueOf cX4_valueOf 2 (some .int) ∈ lw_g := lw_t3 (List.mem_of_getElem? (i := 129) rfl) rfl
theorem stX4_valueOf : Cond.static yX4_valueOf ∈ lw_g := lw_t3 (List.mem_of_getElem? (i := 128) (by decide +kernel)) (by decide +kernel)
theorem cdX4_apply : Cond.code yX4_apply cX4_apply 3 (some .int) ∈ lw_g := lw_t3 (List.mem_of_getElem? (i := 132) rfl) rfl
theorem stX4_apply : Cond.static yX4_apply ∈ lw_g := lw_t3 (List.mem_of_getElem? (i := 131) (by decide +kernel)) (by decide +kernel)
theorem cdX5_init : Cond.code yX5_init cX5_init 2 none ∈ lw_g := lw_t2 (List.mem_of_getElem? (i := 42) rfl) rfl
theorem imX5_init : Cond.instanceMethod yX5_init ∈ lw_g := lw_t2 (List.mem_of_getElem? (i := 41) (by decide +kernel)) (by decide +kernel)
theorem cdX5_play : Cond.code yX5_play cX5_play 3 none ∈ lw_g := lw_t3 (List.mem_of_getElem? (i := 63) rfl) rfl
theorem imX5_play : Cond.instanceMethod yX5_play ∈ lw_g := lw_t3 (List.mem_of_getElem? (i := 61) (by decide +kernel)) (by decide +kernel)
theorem seX5_play : Cond.selects yX5_play.cls yX5_play yX5_play ∈ lw_g := lw_t3 (List.mem_of_getElem? (i := 62) (by decide +kernel)) (by decide +kernel)
theorem cdX5_reset : Cond.code yX5_reset cX5_reset 2 none ∈ lw_g := lw_t3 (List.mem_of_getElem? (i := 67) rfl) rfl
theorem imX5_reset : Cond.instanceMethod yX5_reset ∈ lw_g := lw_t3 (List.mem_of_getElem? (i := 66) (by decide +kernel)) (by decide +kernel)
theorem seX5_reset : Cond.selects yX5_reset.cls yX5_reset yX5_reset ∈ lw_g := lw_m 16 (by decide +kernel) (by decide +kernel)
theorem cdX5_power : Cond.code yX5_power cX5_power 4 none ∈ lw_g := lw_t3 (List.mem_of_getElem? (i := 86) rfl) rfl
theorem imX5_power : Cond.instanceMethod yX5_power ∈ lw_g := lw_t3 (List.mem_of_getElem? (i := 85) (by decide +kernel)) (by decide +kernel)
theorem seX5_power : Cond.selects yX5_power.cls yX5_power yX5_power ∈ lw_g := lw_m 19 (by decide +kernel) (by decide +kernel)
theorem cdX5_ask : Cond.code yX5_ask cX5_ask 4 none ∈ lw_g := lw_t3 (List.mem_of_getElem? (i := 102) rfl) rfl
theorem imX5_ask : Cond.instanceMethod yX5_ask ∈ lw_g := lw_t3 (List.mem_of_getElem? (i := 101) (by decide +kernel)) (by decide +kernel)
theorem seX5_ask : Cond.selects yX5_ask.cls yX5_ask yX5_ask ∈ lw_g := lw_m 20 (by decide +kernel) (by decide +kernel)
theorem cdX5_question : Cond.code yX5_question cX5_question 7 none ∈ lw_g := lw_t3 (List.mem_of_getElem? (i := 106) rfl) rfl
theorem imX5_question : Cond.instanceMethod yX5_question ∈ lw_g := lw_t3 (List.mem_of_getElem? (i := 105) (by decide +kernel)) (by decide +kernel)
theorem seX5_question : Cond.selects yX5_question.cls yX5_question yX5_question ∈ lw_g := lw_m 21 (by decide +kernel) (by decide +kernel)
theorem cdX5_setVars : Cond.code yX5_setVars cX5_setVars 6 none ∈ lw_g := lw_t3 (List.mem_of_getElem? (i := 114) rfl) rfl
theorem imX5_setVars : Cond.instanceMethod yX5_setVars ∈ lw_g := lw_t3 (List.mem_of_getElem? (i := 113) (by decide +kernel)) (by decide +kernel)
theorem seX5_setVars : Cond.selects yX5_setVars.cls yX5_setVars yX5_setVars ∈ lw_g := lw_m 22 (by decide +kernel) (by decide +kernel)
theorem cdX5_send : Cond.code yX5_send cX5_send 6 none ∈ lw_g := lw_t3 (List.mem_of_getElem? (i := 156) rfl) rfl
theorem imX5_send : Cond.instanceMethod yX5_send ∈ lw_g := lw_t3 (List.mem_of_getElem? (i := 155) (by decide +kernel)) (by decide +kernel)
theorem seX5_send : Cond.selects yX5_send.cls yX5_send yX5_send ∈ lw_g := lw_m 24 (by decide +kernel) (by decide +kernel)
theorem cdX5_lineUp : Cond.code yX5_lineUp cX5_lineUp 6 (some .int) ∈ lw_g := lw_t3 (List.mem_of_getElem? (i := 160) rfl) rfl
theorem imX5_lineUp : Cond.instanceMethod yX5_lineUp ∈ lw_g := lw_t3 (List.mem_of_getElem? (i := 159) (by decide +kernel)) (by decide +kernel)
theorem seX5_lineUp : Cond.selects yX5_lineUp.cls yX5_lineUp yX5_lineUp ∈ lw_g := lw_m 25 (by decide +kernel) (by decide +kernel)
theorem cdX5_wantedBlock : Cond.code yX5_wantedBlock cX5_wantedBlock 1 (some .int) ∈ lw_g := lw_t3 (List.mem_of_getElem? (i := 163) rfl) rfl
theorem stX5_wantedBlock : Cond.static yX5_wantedBlock ∈ lw_g := lw_t3 (List.mem_of_getElem? (i := 162) (by decide +kernel)) (by decide +kernel)
theorem cdX5_receive : Cond.code yX5_receive cX5_receive 5 none ∈ lw_g := lw_t3 (List.mem_of_getElem? (i := 167) rfl) rfl
theorem imX5_receive : Cond.instanceMethod yX5_receive ∈ lw_g := lw_t3 (List.mem_of_getElem? (i := 166) (by decide +kernel)) (by decide +kernel)
theorem seX5_receive : Cond.selects yX5_receive.cls yX5_receive yX5_receive ∈ lw_g := lw_m 26 (by decide +kernel) (by decide +kernel)
theorem cdX5_goOn : Cond.code yX5_goOn cX5_goOn 5 none ∈ lw_g := lw_t3 (List.mem_of_getElem? (i := 183) rfl) rfl
theorem imX5_goOn : Cond.instanceMethod yX5_goOn ∈ lw_g := lw_t3 (List.mem_of_getElem? (i := 182) (by decide +kernel)) (by decide +kernel)
theorem seX5_goOn : Cond.selects yX5_goOn.cls yX5_goOn yX5_goOn ∈ lw_g := lw_m 27 (by decide +kernel) (by decide +kernel)
theorem cdX5_install : Cond.code yX5_install cX5_install 4 none ∈ lw_g := lw_t3 (List.mem_of_getElem? (i := 192) rfl) rfl
theorem imX5_install : Cond.instanceMethod yX5_install ∈ lw_g := lw_t3 (List.mem_of_getElem? (i := 191) (by decide +kernel)) (by decide +kernel)
theorem seX5_install : Cond.selects yX5_install.cls yX5_install yX5_install ∈ lw_g := lw_m 28 (by decide +kernel) (by decide +kernel)
theorem cdX5_isSettled : Cond.code yX5_isSettled cX5_isSettled 2 (some .boolean) ∈ lw_g := lw_t3 (List.mem_of_getElem? (i := 200) rfl) rfl
theorem imX5_isSettled : Cond.instanceMethod yX5_isSettled ∈ lw_g := lw_t3 (List.mem_of_getElem? (i := 199) (by decide +kernel)) (by decide +kernel)
theorem seX5_isSettled : Cond.selects yX5_isSettled.cls yX5_isSettled yX5_isSettled ∈ lw_g := lw_m 29 (by decide +kernel) (by decide +kernel)
theorem cdX5_keep : Cond.code yX5_keep cX5_keep 3 none ∈ lw_g := lw_t3 (List.mem_of_getElem? (i := 208) rfl) rfl
theorem imX5_keep : Cond.instanceMethod yX5_keep ∈ lw_g := lw_t3 (List.mem_of_getElem? (i := 207) (by decide +kernel)) (by decide +kernel)
theorem seX5_keep : Cond.selects yX5_keep.cls yX5_keep yX5_keep ∈ lw_g := lw_m 30 (by decide +kernel) (by decide +kernel)
theorem cdX5_recorded : Cond.code yX5_recorded cX5_recorded 6 (some .int) ∈ lw_g := lw_t3 (List.mem_of_getElem? (i := 220) rfl) rfl
theorem imX5_recorded : Cond.instanceMethod yX5_recorded ∈ lw_g := lw_t3 (List.mem_of_getElem? (i := 218) (by decide +kernel)) (by decide +kernel)
theorem seX5_recorded : Cond.selects yX5_recorded.cls yX5_recorded yX5_recorded ∈ lw_g := lw_t3 (List.mem_of_getElem? (i := 219) (by decide +kernel)) (by decide +kernel)
theorem cdX5_answerAtEnd : Cond.code yX5_answerAtEnd cX5_answerAtEnd 4 (some .int) ∈ lw_g := lw_t3 (List.mem_of_getElem? (i := 216) rfl) rfl
theorem imX5_answerAtEnd : Cond.instanceMethod yX5_answerAtEnd ∈ lw_g := lw_t3 (List.mem_of_getElem? (i := 214) (by decide +kernel)) (by decide +kernel)
theorem seX5_answerAtEnd : Cond.selects yX5_answerAtEnd.cls yX5_answerAtEnd yX5_answerAtEnd ∈ lw_g := lw_t3 (List.mem_of_getElem? (i := 215) (by decide +kernel)) (by decide +kernel)
theorem cdX5_change : Cond.code yX5_change cX5_change 7 (some .int) ∈ lw_g := lw_t4 (List.mem_of_getElem? (i := 23) rfl) rfl
theorem imX5_change : Cond.instanceMethod yX5_change ∈ lw_g := lw_t4 (List.mem_of_getElem? (i := 21) (by decide +kernel)) (by decide +kernel)
theorem seX5_change : Cond.selects yX5_change.cls yX5_change yX5_change ∈ lw_g := lw_t4 (List.mem_of_getElem? (i := 22) (by decide +kernel)) (by decide +kernel)
theorem cdX5_settledFrom : Cond.code yX5_settledFrom cX5_settledFrom 1 (some .int) ∈ lw_g := lw_t4 (List.mem_of_getElem? (i := 4) rfl) rfl
theorem imX5_settledFrom : Cond.instanceMethod yX5_settledFrom ∈ lw_g := lw_t4 (List.mem_of_getElem? (i := 2) (by decide +kernel)) (by decide +kernel)
theorem seX5_settledFrom : Cond.selects yX5_settledFrom.cls yX5_settledFrom yX5_settledFrom ∈ lw_g := lw_t4 (List.mem_of_getElem? (i := 3) (by decide +kernel)) (by decide +kernel)
theorem cdX5_upBits : Cond.code yX5_upBits cX5_upBits 3 (some .int) ∈ lw_g := lw_t4 (List.mem_of_getElem? (i := 15) rfl) rfl
theorem imX5_upBits : Cond.instanceMethod yX5_upBits ∈ lw_g := lw_t4 (List.mem_of_getElem? (i := 13) (by decide +kernel)) (by decide +kernel)
theorem seX5_upBits : Cond.selects yX5_upBits.cls yX5_upBits yX5_upBits ∈ lw_g := lw_t4 (List.mem_of_getElem? (i := 14) (by decide +kernel)) (by decide +kernel)
theorem cdX5_cost : Cond.code yX5_cost cX5_cost 2 (some .int) ∈ lw_g := lw_t4 (List.mem_of_getElem? (i := 40) rfl) rfl
theorem imX5_cost : Cond.instanceMethod yX5_cost ∈ lw_g := lw_t4 (List.mem_of_getElem? (i := 38) (by decide +kernel)) (by decide +kernel)
theorem seX5_cost : Cond.selects yX5_cost.cls yX5_cost yX5_cost ∈ lw_g := lw_t4 (List.mem_of_getElem? (i := 39) (by decide +kernel)) (by decide +kernel)
theorem cdX6_init : Cond.code yX6_init cX6_init 2 none ∈ lw_g := lw_t1 (List.mem_of_getElem? (i := 228) rfl) rfl
theorem imX6_init : Cond.instanceMethod yX6_init ∈ lw_g := lw_t1 (List.mem_of_getElem? (i := 227) (by decide +kernel)) (by decide +kernel)
theorem cdX6_restart : Cond.code yX6_restart cX6_restart 1 none ∈ lw_g := lw_t2 (List.mem_of_getElem? (i := 121) rfl) rfl
theorem imX6_restart : Cond.instanceMethod yX6_restart ∈ lw_g := lw_t2 (List.mem_of_getElem? (i := 119) (by decide +kernel)) (by decide +kernel)
theorem seX6_restart : Cond.selects yX6_restart.cls yX6_restart yX6_restart ∈ lw_g := lw_t2 (List.mem_of_getElem? (i := 120) (by decide +kernel)) (by decide +kernel)
theorem cdX6_advance : Cond.code yX6_advance cX6_advance 1 none ∈ lw_g := lw_t2 (List.mem_of_getElem? (i := 129) rfl) rfl
theorem imX6_advance : Cond.instanceMethod yX6_advance ∈ lw_g := lw_t2 (List.mem_of_getElem? (i := 127) (by decide +kernel)) (by decide +kernel)
theorem seX6_advance : Cond.selects yX6_advance.cls yX6_advance yX6_advance ∈ lw_g := lw_t2 (List.mem_of_getElem? (i := 128) (by decide +kernel)) (by decide +kernel)
theorem cdX6_scanWord : Cond.code yX6_scanWord cX6_scanWord 4 none ∈ lw_g := lw_t2 (List.mem_of_getElem? (i := 139) rfl) rfl
theorem imX6_scanWord : Cond.instanceMethod yX6_scanWord ∈ lw_g := lw_t2 (List.mem_of_getElem? (i := 138) (by decide +kernel)) (by decide +kernel)
theorem seX6_scanWord : Cond.selects yX6_scanWord.cls yX6_scanWord yX6_scanWord ∈ lw_g := lw_m 1 (by decide +kernel) (by decide +kernel)
theorem cdX6_scanInt : Cond.code yX6_scanInt cX6_scanInt 1 none ∈ lw_g := lw_t2 (List.mem_of_getElem? (i := 152) rfl) rfl
theorem imX6_scanInt : Cond.instanceMethod yX6_scanInt ∈ lw_g := lw_t2 (List.mem_of_getElem? (i := 151) (by decide +kernel)) (by decide +kernel)
theorem seX6_scanInt : Cond.selects yX6_scanInt.cls yX6_scanInt yX6_scanInt ∈ lw_g := lw_m 2 (by decide +kernel) (by decide +kernel)
theorem cdX6_scanSign : Cond.code yX6_scanSign cX6_scanSign 2 none ∈ lw_g := lw_t2 (List.mem_of_getElem? (i := 156) rfl) rfl
theorem imX6_scanSign : Cond.instanceMethod yX6_scanSign ∈ lw_g := lw_t2 (List.mem_of_getElem? (i := 155) (by decide +kernel)) (by decide +kernel)
theorem seX6_scanSign : Cond.selects yX6_scanSign.cls yX6_scanSign yX6_scanSign ∈ lw_g := lw_m 3 (by decide +kernel) (by decide +kernel)
theorem cdX6_scanRelation : Cond.code yX6_scanRelation cX6_scanRelation 3 none ∈ lw_g := lw_t2 (List.mem_of_getElem? (i := 164) rfl) rfl
theorem imX6_scanRelation : Cond.instanceMethod yX6_scanRelation ∈ lw_g := lw_t2 (List.mem_of_getElem? (i := 163) (by decide +kernel)) (by decide +kernel)
theorem seX6_scanRelation : Cond.selects yX6_scanRelation.cls yX6_scanRelation yX6_scanRelation ∈ lw_g := lw_m 5 (by decide +kernel) (by decide +kernel)
theorem cdX6_set : Cond.code yX6_set cX6_set 3 none ∈ lw_g := lw_t2 (List.mem_of_getElem? (i := 160) rfl) rfl
theorem imX6_set : Cond.instanceMethod yX6_set ∈ lw_g := lw_t2 (List.mem_of_getElem? (i := 159) (by decide +kernel)) (by decide +kernel)
theorem seX6_set : Cond.selects yX6_set.cls yX6_set yX6_set ∈ lw_g := lw_m 4 (by decide +kernel) (by decide +kernel)
theorem cdX6_isBlank : Cond.code yX6_isBlank cX6_isBlank 1 (some .boolean) ∈ lw_g := lw_t2 (List.mem_of_getElem? (i := 132) rfl) rfl
theorem stX6_isBlank : Cond.static yX6_isBlank ∈ lw_g := lw_t2 (List.mem_of_getElem? (i := 131) (by decide +kernel)) (by decide +kernel)
theorem cdX6_isLetter : Cond.code yX6_isLetter cX6_isLetter 1 (some .boolean) ∈ lw_g := lw_t2 (List.mem_of_getElem? (i := 135) rfl) rfl
theorem stX6_isLetter : Cond.static yX6_isLetter ∈ lw_g := lw_t2 (List.mem_of_getElem? (i := 134) (by decide +kernel)) (by decide +kernel)
theorem cdX6_isDigit : Cond.code yX6_isDigit cX6_isDigit 1 (some .boolean) ∈ lw_g := lw_t2 (List.mem_of_getElem? (i := 148) rfl) rfl
theorem stX6_isDigit : Cond.static yX6_isDigit ∈ lw_g := lw_t2 (List.mem_of_getElem? (i := 147) (by decide +kernel)) (by decide +kernel)
theorem cdX7_init : Cond.code yX7_init cX7_init 1 none ∈ lw_g := lw_t1 (List.mem_of_getElem? (i := 26) rfl) rfl
theorem imX7_init : Cond.instanceMethod yX7_init ∈ lw_g := lw_t1 (List.mem_of_getElem? (i := 25) (by decide +kernel)) (by decide +kernel)
theorem cdX7_append : Cond.code yX7_append cX7_append 3 none ∈ lw_g := lw_t2 (List.mem_of_getElem? (i := 98) rfl) rfl
theorem imX7_append : Cond.instanceMethod yX7_append ∈ lw_g := lw_t2 (List.mem_of_getElem? (i := 96) (by decide +kernel)) (by decide +kernel)
theorem seX7_append : Cond.selects yX7_append.cls yX7_append yX7_append ∈ lw_g := lw_t2 (List.mem_of_getElem? (i := 97) (by decide +kernel)) (by decide +kernel)
theorem cdX8_init : Cond.code yX8_init cX8_init 3 none ∈ lw_g := lw_t1 (List.mem_of_getElem? (i := 18) rfl) rfl
theorem imX8_init : Cond.instanceMethod yX8_init ∈ lw_g := lw_t1 (List.mem_of_getElem? (i := 17) (by decide +kernel)) (by decide +kernel)
theorem cdX8_feed : Cond.code yX8_feed cX8_feed 6 (some .int) ∈ lw_g := lw_t2 (List.mem_of_getElem? (i := 94) rfl) rfl
theorem imX8_feed : Cond.instanceMethod yX8_feed ∈ lw_g := lw_t2 (List.mem_of_getElem? (i := 92) (by decide +kernel)) (by decide +kernel)
theorem seX8_feed : Cond.selects yX8_feed.cls yX8_feed yX8_feed ∈ lw_g := lw_t2 (List.mem_of_getElem? (i := 93) (by decide +kernel)) (by decide +kernel)
theorem cdX8_back : Cond.code yX8_back cX8_back 2 (some .int) ∈ lw_g := lw_t2 (List.mem_of_getElem? (i := 102) rfl) rfl
theorem imX8_back : Cond.instanceMethod yX8_back ∈ lw_g := lw_t2 (List.mem_of_getElem? (i := 100) (by decide +kernel)) (by decide +kernel)
theorem seX8_back : Cond.selects yX8_back.cls yX8_back yX8_back ∈ lw_g := lw_t2 (List.mem_of_getElem? (i := 101) (by decide +kernel)) (by decide +kernel)
theorem cdX8_read : Cond.code yX8_read cX8_read 3 (some .int) ∈ lw_g := lw_t2 (List.mem_of_getElem? (i := 106) rfl) rfl
theorem imX8_read : Cond.instanceMethod yX8_read ∈ lw_g := lw_t2 (List.mem_of_getElem? (i := 104) (by decide +kernel)) (by decide +kernel)
theorem seX8_read : Cond.selects yX8_read.cls yX8_read yX8_read ∈ lw_g := lw_t2 (List.mem_of_getElem? (i := 105) (by decide +kernel)) (by decide +kernel)
theorem cdX8_place : Cond.code yX8_place cX8_place 1 (some .int) ∈ lw_g := lw_t2 (List.mem_of_getElem? (i := 225) rfl) rfl
theorem imX8_place : Cond.instanceMethod yX8_place ∈ lw_g := lw_t2 (List.mem_of_getElem? (i := 223) (by decide +kernel)) (by decide +kernel)
theorem seX8_place : Cond.selects yX8_place.cls yX8_place yX8_place ∈ lw_g := lw_t2 (List.mem_of_getElem? (i := 224) (by decide +kernel)) (by decide +kernel)
theorem cdX8_machine : Cond.code yX8_machine cX8_machine 4 (some .int) ∈ lw_g := lw_t2 (List.mem_of_getElem? (i := 229) rfl) rfl
theorem imX8_machine : Cond.instanceMethod yX8_machine ∈ lw_g := lw_t2 (List.mem_of_getElem? (i := 227) (by decide +kernel)) (by decide +kernel)
theorem seX8_machine : Cond.selects yX8_machine.cls yX8_machine yX8_machine ∈ lw_g := lw_t2 (List.mem_of_getElem? (i := 228) (by decide +kernel)) (by decide +kernel)
theorem cdX8_file : Cond.code yX8_file cX8_file 3 (some .int) ∈ lw_g := lw_t2 (List.mem_of_getElem? (i := 237) rfl) rfl
theorem imX8_file : Cond.instanceMethod yX8_file ∈ lw_g := lw_t2 (List.mem_of_getElem? (i := 235) (by decide +kernel)) (by decide +kernel)
theorem seX8_file : Cond.selects yX8_file.cls yX8_file yX8_file ∈ lw_g := lw_t2 (List.mem_of_getElem? (i := 236) (by decide +kernel)) (by decide +kernel)
theorem cdX8_width : Cond.code yX8_width cX8_width 2 (some .boolean) ∈ lw_g := lw_t3 (List.mem_of_getElem? (i := 5) rfl) rfl
theorem imX8_width : Cond.instanceMethod yX8_width ∈ lw_g := lw_t3 (List.mem_of_getElem? (i := 3) (by decide +kernel)) (by decide +kernel)
theorem seX8_width : Cond.selects yX8_width.cls yX8_width yX8_width ∈ lw_g := lw_t3 (List.mem_of_getElem? (i := 4) (by decide +kernel)) (by decide +kernel)
theorem cdX8_wake : Cond.code yX8_wake cX8_wake 3 (some .boolean) ∈ lw_g := lw_t3 (List.mem_of_getElem? (i := 9) rfl) rfl
theorem imX8_wake : Cond.instanceMethod yX8_wake ∈ lw_g := lw_t3 (List.mem_of_getElem? (i := 7) (by decide +kernel)) (by decide +kernel)
theorem seX8_wake : Cond.selects yX8_wake.cls yX8_wake yX8_wake ∈ lw_g := lw_t3 (List.mem_of_getElem? (i := 8) (by decide +kernel)) (by decide +kernel)
theorem cdX8_lose : Cond.code yX8_lose cX8_lose 3 (some .int) ∈ lw_g := lw_t3 (List.mem_of_getElem? (i := 13) rfl) rfl
theorem imX8_lose : Cond.instanceMethod yX8_lose ∈ lw_g := lw_t3 (List.mem_of_getElem? (i := 11) (by decide +kernel)) (by decide +kernel)
theorem seX8_lose : Cond.selects yX8_lose.cls yX8_lose yX8_lose ∈ lw_g := lw_t3 (List.mem_of_getElem? (i := 12) (by decide +kernel)) (by decide +kernel)
theorem cdX8_spoil : Cond.code yX8_spoil cX8_spoil 4 (some .int) ∈ lw_g := lw_t3 (List.mem_of_getElem? (i := 25) rfl) rfl
theorem imX8_spoil : Cond.instanceMethod yX8_spoil ∈ lw_g := lw_t3 (List.mem_of_getElem? (i := 23) (by decide +kernel)) (by decide +kernel)
theorem seX8_spoil : Cond.selects yX8_spoil.cls yX8_spoil yX8_spoil ∈ lw_g := lw_t3 (List.mem_of_getElem? (i := 24) (by decide +kernel)) (by decide +kernel)
theorem cdX8_down : Cond.code yX8_down cX8_down 4 (some .int) ∈ lw_g := lw_t3 (List.mem_of_getElem? (i := 38) rfl) rfl
theorem imX8_down : Cond.instanceMethod yX8_down ∈ lw_g := lw_t3 (List.mem_of_getElem? (i := 36) (by decide +kernel)) (by decide +kernel)
theorem seX8_down : Cond.selects yX8_down.cls yX8_down yX8_down ∈ lw_g := lw_t3 (List.mem_of_getElem? (i := 37) (by decide +kernel)) (by decide +kernel)
theorem cdX8_cut : Cond.code yX8_cut cX8_cut 3 (some .int) ∈ lw_g := lw_t3 (List.mem_of_getElem? (i := 46) rfl) rfl
theorem imX8_cut : Cond.instanceMethod yX8_cut ∈ lw_g := lw_t3 (List.mem_of_getElem? (i := 44) (by decide +kernel)) (by decide +kernel)
theorem seX8_cut : Cond.selects yX8_cut.cls yX8_cut yX8_cut ∈ lw_g := lw_t3 (List.mem_of_getElem? (i := 45) (by decide +kernel)) (by decide +kernel)
theorem cdX8_answer : Cond.code yX8_answer cX8_answer 4 (some .int) ∈ lw_g := lw_t3 (List.mem_of_getElem? (i := 55) rfl) rfl
theorem imX8_answer : Cond.instanceMethod yX8_answer ∈ lw_g := lw_t3 (List.mem_of_getElem? (i := 53) (by decide +kernel)) (by decide +kernel)
theorem seX8_answer : Cond.selects yX8_answer.cls yX8_answer yX8_answer ∈ lw_g := lw_t3 (List.mem_of_getElem? (i := 54) (by decide +kernel)) (by decide +kernel)
theorem cdX8_state : Cond.code yX8_state cX8_state 4 (some .int) ∈ lw_g := lw_t3 (List.mem_of_getElem? (i := 226) rfl) rfl
theorem imX8_state : Cond.instanceMethod yX8_state ∈ lw_g := lw_t3 (List.mem_of_getElem? (i := 224) (by decide +kernel)) (by decide +kernel)
theorem seX8_state : Cond.selects yX8_state.cls yX8_state yX8_state ∈ lw_g := lw_t3 (List.mem_of_getElem? (i := 225) (by decide +kernel)) (by decide +kernel)
theorem cdX8_sends : Cond.code yX8_sends cX8_sends 2 (some .int) ∈ lw_g := lw_t3 (List.mem_of_getElem? (i := 232) rfl) rfl
theorem imX8_sends : Cond.instanceMethod yX8_sends ∈ lw_g := lw_t3 (List.mem_of_getElem? (i := 230) (by decide +kernel)) (by decide +kernel)
theorem seX8_sends : Cond.selects yX8_sends.cls yX8_sends yX8_sends ∈ lw_g := lw_t3 (List.mem_of_getElem? (i := 231) (by decide +kernel)) (by decide +kernel)
theorem cdX8_sent : Cond.code yX8_sent cX8_sent 3 (some .int) ∈ lw_g := lw_t3 (List.mem_of_getElem? (i := 236) rfl) rfl
theorem imX8_sent : Cond.instanceMethod yX8_sent ∈ lw_g := lw_t3 (List.mem_of_getElem? (i := 234) (by decide +kernel)) (by decide +kernel)
theorem seX8_sent : Cond.selects yX8_sent.cls yX8_sent yX8_sent ∈ lw_g := lw_t3 (List.mem_of_getElem? (i := 235) (by decide +kernel)) (by decide +kernel)
theorem cdX8_ends : Cond.code yX8_ends cX8_ends 1 (some .int) ∈ lw_g := lw_t4 (List.mem_of_getElem? (i := 0) rfl) rfl
theorem imX8_ends : Cond.instanceMethod yX8_ends ∈ lw_g := lw_t3 (List.mem_of_getElem? (i := 238) (by decide +kernel)) (by decide +kernel)
theorem seX8_ends : Cond.selects yX8_ends.cls yX8_ends yX8_ends ∈ lw_g := lw_t3 (List.mem_of_getElem? (i := 239) (by decide +kernel)) (by decide +kernel)
theorem cdX8_up : Cond.code yX8_up cX8_up 1 (some .int) ∈ lw_g := lw_t4 (List.mem_of_getElem? (i := 11) rfl) rfl
theorem imX8_up : Cond.instanceMethod yX8_up ∈ lw_g := lw_t4 (List.mem_of_getElem? (i := 9) (by decide +kernel)) (by decide +kernel)
theorem seX8_up : Cond.selects yX8_up.cls yX8_up yX8_up ∈ lw_g := lw_t4 (List.mem_of_getElem? (i := 10) (by decide +kernel)) (by decide +kernel)
theorem cdX8_log : Cond.code yX8_log cX8_log 3 (some .int) ∈ lw_g := lw_t4 (List.mem_of_getElem? (i := 19) rfl) rfl
theorem imX8_log : Cond.instanceMethod yX8_log ∈ lw_g := lw_t4 (List.mem_of_getElem? (i := 17) (by decide +kernel)) (by decide +kernel)
theorem seX8_log : Cond.selects yX8_log.cls yX8_log yX8_log ∈ lw_g := lw_t4 (List.mem_of_getElem? (i := 18) (by decide +kernel)) (by decide +kernel)
theorem cdX8_plan : Cond.code yX8_plan cX8_plan 8 (some .int) ∈ lw_g := lw_t4 (List.mem_of_getElem? (i := 27) rfl) rfl
theorem imX8_plan : Cond.instanceMethod yX8_plan ∈ lw_g := lw_t4 (List.mem_of_getElem? (i := 25) (by decide +kernel)) (by decide +kernel)
theorem seX8_plan : Cond.selects yX8_plan.cls yX8_plan yX8_plan ∈ lw_g := lw_t4 (List.mem_of_getElem? (i := 26) (by decide +kernel)) (by decide +kernel)
theorem cdX8_wakes : Cond.code yX8_wakes cX8_wakes 2 (some .int) ∈ lw_g := lw_t4 (List.mem_of_getElem? (i := 52) rfl) rfl
theorem imX8_wakes : Cond.instanceMethod yX8_wakes ∈ lw_g := lw_t4 (List.mem_of_getElem? (i := 50) (by decide +kernel)) (by decide +kernel)
theorem seX8_wakes : Cond.selects yX8_wakes.cls yX8_wakes yX8_wakes ∈ lw_g := lw_t4 (List.mem_of_getElem? (i := 51) (by decide +kernel)) (by decide +kernel)
theorem cdX8_count : Cond.code yX8_count cX8_count 2 (some .int) ∈ lw_g := lw_t4 (List.mem_of_getElem? (i := 56) rfl) rfl
theorem imX8_count : Cond.instanceMethod yX8_count ∈ lw_g := lw_t4 (List.mem_of_getElem? (i := 54) (by decide +kernel)) (by decide +kernel)
theorem seX8_count : Cond.selects yX8_count.cls yX8_count yX8_count ∈ lw_g := lw_t4 (List.mem_of_getElem? (i := 55) (by decide +kernel)) (by decide +kernel)
theorem cdX8_freshen : Cond.code yX8_freshen cX8_freshen 1 none ∈ lw_g := lw_t3 (List.mem_of_getElem? (i := 59) rfl) rfl
theorem imX8_freshen : Cond.instanceMethod yX8_freshen ∈ lw_g := lw_t3 (List.mem_of_getElem? (i := 58) (by decide +kernel)) (by decide +kernel)
theorem seX8_freshen : Cond.selects yX8_freshen.cls yX8_freshen yX8_freshen ∈ lw_g := lw_m 15 (by decide +kernel) (by decide +kernel)
theorem cdX8_endOrNone : Cond.code yX8_endOrNone cX8_endOrNone 1 (some .int) ∈ lw_g := lw_t4 (List.mem_of_getElem? (i := 7) rfl) rfl
theorem stX8_endOrNone : Cond.static yX8_endOrNone ∈ lw_g := lw_t4 (List.mem_of_getElem? (i := 6) (by decide +kernel)) (by decide +kernel)
theorem cdX8_isBelow : Cond.code yX8_isBelow cX8_isBelow 2 (some .boolean) ∈ lw_g := lw_t2 (List.mem_of_getElem? (i := 109) rfl) rfl
theorem stX8_isBelow : Cond.static yX8_isBelow ∈ lw_g := lw_t2 (List.mem_of_getElem? (i := 108) (by decide +kernel)) (by decide +kernel)
theorem cdX9_init : Cond.code yX9_init cX9_init 1 none ∈ lw_g := lw_t4 (List.mem_of_getElem? (i := 61) rfl) rfl
theorem imX9_init : Cond.instanceMethod yX9_init ∈ lw_g := lw_t4 (List.mem_of_getElem? (i := 60) (by decide +kernel)) (by decide +kernel)
theorem cdX9_feed : Cond.code yX9_feed cX9_feed 6 (some .int) ∈ lw_g := lw_t5 (List.mem_of_getElem? (i := 83) rfl) rfl
theorem imX9_feed : Cond.instanceMethod yX9_feed ∈ lw_g := lw_t5 (List.mem_of_getElem? (i := 81) (by decide +kernel)) (by decide +kernel)
theorem seX9_feed : Cond.selects yX9_feed.cls yX9_feed yX9_feed ∈ lw_g := lw_t5 (List.mem_of_getElem? (i := 82) (by decide +kernel)) (by decide +kernel)
theorem cdX9_put : Cond.code yX9_put cX9_put 3 none ∈ lw_g := lw_t5 (List.mem_of_getElem? (i := 87) rfl) rfl
theorem imX9_put : Cond.instanceMethod yX9_put ∈ lw_g := lw_t5 (List.mem_of_getElem? (i := 86) (by decide +kernel)) (by decide +kernel)
theorem seX9_put : Cond.selects yX9_put.cls yX9_put yX9_put ∈ lw_g := lw_m 32 (by decide +kernel) (by decide +kernel)
theorem cdX9_back : Cond.code yX9_back cX9_back 2 (some .int) ∈ lw_g := lw_t5 (List.mem_of_getElem? (i := 91) rfl) rfl
theorem imX9_back : Cond.instanceMethod yX9_back ∈ lw_g := lw_t5 (List.mem_of_getElem? (i := 89) (by decide +kernel)) (by decide +kernel)
theorem seX9_back : Cond.selects yX9_back.cls yX9_back yX9_back ∈ lw_g := lw_t5 (List.mem_of_getElem? (i := 90) (by decide +kernel)) (by decide +kernel)
theorem cdX9_at : Cond.code yX9_at cX9_at 2 (some .int) ∈ lw_g := lw_t5 (List.mem_of_getElem? (i := 103) rfl) rfl
theorem imX9_at : Cond.instanceMethod yX9_at ∈ lw_g := lw_t5 (List.mem_of_getElem? (i := 102) (by decide +kernel)) (by decide +kernel)
theorem seX9_at : Cond.selects yX9_at.cls yX9_at yX9_at ∈ lw_g := lw_m 34 (by decide +kernel) (by decide +kernel)
theorem cdX9_isDigit : Cond.code yX9_isDigit cX9_isDigit 1 (some .boolean) ∈ lw_g := lw_t5 (List.mem_of_getElem? (i := 113) rfl) rfl
theorem stX9_isDigit : Cond.static yX9_isDigit ∈ lw_g := lw_t5 (List.mem_of_getElem? (i := 112) (by decide +kernel)) (by decide +kernel)
theorem cdX9_isLetter : Cond.code yX9_isLetter cX9_isLetter 1 (some .boolean) ∈ lw_g := lw_t5 (List.mem_of_getElem? (i := 110) rfl) rfl
theorem stX9_isLetter : Cond.static yX9_isLetter ∈ lw_g := lw_t5 (List.mem_of_getElem? (i := 109) (by decide +kernel)) (by decide +kernel)
theorem cdX9_more : Cond.code yX9_more cX9_more 3 (some .long) ∈ lw_g := lw_t4 (List.mem_of_getElem? (i := 68) rfl) rfl
theorem stX9_more : Cond.static yX9_more ∈ lw_g := lw_t4 (List.mem_of_getElem? (i := 67) (by decide +kernel)) (by decide +kernel)
theorem cdX9_word : Cond.code yX9_word cX9_word 7 (some .long) ∈ lw_g := lw_t4 (List.mem_of_getElem? (i := 65) rfl) rfl
theorem stX9_word : Cond.static yX9_word ∈ lw_g := lw_t4 (List.mem_of_getElem? (i := 64) (by decide +kernel)) (by decide +kernel)
theorem cdX9_token : Cond.code yX9_token cX9_token 6 none ∈ lw_g := lw_t5 (List.mem_of_getElem? (i := 107) rfl) rfl
theorem imX9_token : Cond.instanceMethod yX9_token ∈ lw_g := lw_t5 (List.mem_of_getElem? (i := 106) (by decide +kernel)) (by decide +kernel)
theorem seX9_token : Cond.selects yX9_token.cls yX9_token yX9_token ∈ lw_g := lw_m 35 (by decide +kernel) (by decide +kernel)
theorem cdX9_cut : Cond.code yX9_cut cX9_cut 8 none ∈ lw_g := lw_t5 (List.mem_of_getElem? (i := 99) rfl) rfl
theorem imX9_cut : Cond.instanceMethod yX9_cut ∈ lw_g := lw_t5 (List.mem_of_getElem? (i := 98) (by decide +kernel)) (by decide +kernel)
theorem seX9_cut : Cond.selects yX9_cut.cls yX9_cut yX9_cut ∈ lw_g := lw_m 33 (by decide +kernel) (by decide +kernel)
theorem cdX9_sign : Cond.code yX9_sign cX9_sign 6 (some .int) ∈ lw_g := lw_t5 (List.mem_of_getElem? (i := 117) rfl) rfl
theorem imX9_sign : Cond.instanceMethod yX9_sign ∈ lw_g := lw_t5 (List.mem_of_getElem? (i := 116) (by decide +kernel)) (by decide +kernel)
theorem seX9_sign : Cond.selects yX9_sign.cls yX9_sign yX9_sign ∈ lw_g := lw_m 36 (by decide +kernel) (by decide +kernel)
theorem cdX9_is : Cond.code yX9_is cX9_is 2 (some .boolean) ∈ lw_g := lw_t5 (List.mem_of_getElem? (i := 121) rfl) rfl
theorem imX9_is : Cond.instanceMethod yX9_is ∈ lw_g := lw_t5 (List.mem_of_getElem? (i := 120) (by decide +kernel)) (by decide +kernel)
theorem seX9_is : Cond.selects yX9_is.cls yX9_is yX9_is ∈ lw_g := lw_m 37 (by decide +kernel) (by decide +kernel)
theorem cdX9_fail : Cond.code yX9_fail cX9_fail 2 none ∈ lw_g := lw_t5 (List.mem_of_getElem? (i := 129) rfl) rfl
theorem imX9_fail : Cond.instanceMethod yX9_fail ∈ lw_g := lw_t5 (List.mem_of_getElem? (i := 128) (by decide +kernel)) (by decide +kernel)
theorem seX9_fail : Cond.selects yX9_fail.cls yX9_fail yX9_fail ∈ lw_g := lw_m 39 (by decide +kernel) (by decide +kernel)
theorem cdX9_wrong : Cond.code yX9_wrong cX9_wrong 4 none ∈ lw_g := lw_t5 (List.mem_of_getElem? (i := 141) rfl) rfl
theorem imX9_wrong : Cond.instanceMethod yX9_wrong ∈ lw_g := lw_t5 (List.mem_of_getElem? (i := 140) (by decide +kernel)) (by decide +kernel)
theorem seX9_wrong : Cond.selects yX9_wrong.cls yX9_wrong yX9_wrong ∈ lw_g := lw_m 42 (by decide +kernel) (by decide +kernel)
theorem cdX9_next : Cond.code yX9_next cX9_next 1 none ∈ lw_g := lw_t5 (List.mem_of_getElem? (i := 133) rfl) rfl
theorem imX9_next : Cond.instanceMethod yX9_next ∈ lw_g := lw_t5 (List.mem_of_getElem? (i := 132) (by decide +kernel)) (by decide +kernel)
theorem seX9_next : Cond.selects yX9_next.cls yX9_next yX9_next ∈ lw_g := lw_m 40 (by decide +kernel) (by decide +kernel)
theorem cdX9_must : Cond.code yX9_must cX9_must 2 none ∈ lw_g := lw_t5 (List.mem_of_getElem? (i := 137) rfl) rfl
theorem imX9_must : Cond.instanceMethod yX9_must ∈ lw_g := lw_t5 (List.mem_of_getElem? (i := 136) (by decide +kernel)) (by decide +kernel)
theorem seX9_must : Cond.selects yX9_must.cls yX9_must yX9_must ∈ lw_g := lw_m 41 (by decide +kernel) (by decide +kernel)
theorem cdX9_read : Cond.code yX9_read cX9_read 3 (some .int) ∈ lw_g := lw_t5 (List.mem_of_getElem? (i := 95) rfl) rfl
theorem imX9_read : Cond.instanceMethod yX9_read ∈ lw_g := lw_t5 (List.mem_of_getElem? (i := 93) (by decide +kernel)) (by decide +kernel)
theorem seX9_read : Cond.selects yX9_read.cls yX9_read yX9_read ∈ lw_g := lw_t5 (List.mem_of_getElem? (i := 94) (by decide +kernel)) (by decide +kernel)
theorem cdX9_place : Cond.code yX9_place cX9_place 1 (some .int) ∈ lw_g := lw_t5 (List.mem_of_getElem? (i := 161) rfl) rfl
theorem imX9_place : Cond.instanceMethod yX9_place ∈ lw_g := lw_t5 (List.mem_of_getElem? (i := 159) (by decide +kernel)) (by decide +kernel)
theorem seX9_place : Cond.selects yX9_place.cls yX9_place yX9_place ∈ lw_g := lw_t5 (List.mem_of_getElem? (i := 160) (by decide +kernel)) (by decide +kernel)
theorem cdX9_tellRule : Cond.code yX9_tellRule cX9_tellRule 5 none ∈ lw_g := lw_t5 (List.mem_of_getElem? (i := 125) rfl) rfl
theorem imX9_tellRule : Cond.instanceMethod yX9_tellRule ∈ lw_g := lw_t5 (List.mem_of_getElem? (i := 124) (by decide +kernel)) (by decide +kernel)
theorem seX9_tellRule : Cond.selects yX9_tellRule.cls yX9_tellRule yX9_tellRule ∈ lw_g := lw_m 38 (by decide +kernel) (by decide +kernel)
theorem cdX9_relation : Cond.code yX9_relation cX9_relation 6 none ∈ lw_g := lw_t5 (List.mem_of_getElem? (i := 145) rfl) rfl
theorem imX9_relation : Cond.instanceMethod yX9_relation ∈ lw_g := lw_t5 (List.mem_of_getElem? (i := 144) (by decide +kernel)) (by decide +kernel)
theorem seX9_relation : Cond.selects yX9_relation.cls yX9_relation yX9_relation ∈ lw_g := lw_m 43 (by decide +kernel) (by decide +kernel)
theorem cdX9_emit : Cond.code yX9_emit cX9_emit 3 none ∈ lw_g := lw_t5 (List.mem_of_getElem? (i := 153) rfl) rfl
theorem imX9_emit : Cond.instanceMethod yX9_emit ∈ lw_g := lw_t5 (List.mem_of_getElem? (i := 152) (by decide +kernel)) (by decide +kernel)
theorem seX9_emit : Cond.selects yX9_emit.cls yX9_emit yX9_emit ∈ lw_g := lw_m 45 (by decide +kernel) (by decide +kernel)
theorem cdX9_comesOut : Cond.code yX9_comesOut cX9_comesOut 3 none ∈ lw_g := lw_t5 (List.mem_of_getElem? (i := 157) rfl) rfl
theorem imX9_comesOut : Cond.instanceMethod yX9_comesOut ∈ lw_g := lw_t5 (List.mem_of_getElem? (i := 156) (by decide +kernel)) (by decide +kernel)
theorem seX9_comesOut : Cond.selects yX9_comesOut.cls yX9_comesOut yX9_comesOut ∈ lw_g := lw_m 46 (by decide +kernel) (by decide +kernel)
theorem cdX9_expression : Cond.code yX9_expression cX9_expression 5 none ∈ lw_g := lw_t5 (List.mem_of_getElem? (i := 149) rfl) rfl
theorem imX9_expression : Cond.instanceMethod yX9_expression ∈ lw_g := lw_t5 (List.mem_of_getElem? (i := 148) (by decide +kernel)) (by decide +kernel)
theorem seX9_expression : Cond.selects yX9_expression.cls yX9_expression yX9_expression ∈ lw_g := lw_m 44 (by decide +kernel) (by decide +kernel)
theorem cdX9_isTick : Cond.code yX9_isTick cX9_isTick 1 (some .boolean) ∈ lw_g := lw_t5 (List.mem_of_getElem? (i := 180) rfl) rfl
theorem stX9_isTick : Cond.static yX9_isTick ∈ lw_g := lw_t5 (List.mem_of_getElem? (i := 179) (by decide +kernel)) (by decide +kernel)
theorem cdX9_isMachine : Cond.code yX9_isMachine cX9_isMachine 2 (some .boolean) ∈ lw_g := lw_t5 (List.mem_of_getElem? (i := 188) rfl) rfl
theorem imX9_isMachine : Cond.instanceMethod yX9_isMachine ∈ lw_g := lw_t5 (List.mem_of_getElem? (i := 187) (by decide +kernel)) (by decide +kernel)
theorem seX9_isMachine : Cond.selects yX9_isMachine.cls yX9_isMachine yX9_isMachine ∈ lw_g := lw_m 47 (by decide +kernel) (by decide +kernel)
theorem cdX9_isFile : Cond.code yX9_isFile cX9_isFile 2 (some .boolean) ∈ lw_g := lw_t5 (List.mem_of_getElem? (i := 200) rfl) rfl
theorem imX9_isFile : Cond.instanceMethod yX9_isFile ∈ lw_g := lw_t5 (List.mem_of_getElem? (i := 199) (by decide +kernel)) (by decide +kernel)
theorem seX9_isFile : Cond.selects yX9_isFile.cls yX9_isFile yX9_isFile ∈ lw_g := lw_m 49 (by decide +kernel) (by decide +kernel)
theorem cdX9_machine : Cond.code yX9_machine cX9_machine 4 (some .int) ∈ lw_g := lw_t5 (List.mem_of_getElem? (i := 165) rfl) rfl
theorem imX9_machine : Cond.instanceMethod yX9_machine ∈ lw_g := lw_t5 (List.mem_of_getElem? (i := 163) (by decide +kernel)) (by decide +kernel)
theorem seX9_machine : Cond.selects yX9_machine.cls yX9_machine yX9_machine ∈ lw_g := lw_t5 (List.mem_of_getElem? (i := 164) (by decide +kernel)) (by decide +kernel)
theorem cdX9_file : Cond.code yX9_file cX9_file 3 (some .int) ∈ lw_g := lw_t5 (List.mem_of_getElem? (i := 169) rfl) rfl
theorem imX9_file : Cond.instanceMethod yX9_file ∈ lw_g := lw_t5 (List.mem_of_getElem? (i := 167) (by decide +kernel)) (by decide +kernel)
theorem seX9_file : Cond.selects yX9_file.cls yX9_file yX9_file ∈ lw_g := lw_t5 (List.mem_of_getElem? (i := 168) (by decide +kernel)) (by decide +kernel)
theorem cdX9_width : Cond.code yX9_width cX9_width 2 (some .boolean) ∈ lw_g := lw_t5 (List.mem_of_getElem? (i := 173) rfl) rfl
theorem imX9_width : Cond.instanceMethod yX9_width ∈ lw_g := lw_t5 (List.mem_of_getElem? (i := 171) (by decide +kernel)) (by decide +kernel)
theorem seX9_width : Cond.selects yX9_width.cls yX9_width yX9_width ∈ lw_g := lw_t5 (List.mem_of_getElem? (i := 172) (by decide +kernel)) (by decide +kernel)
theorem cdX9_wake : Cond.code yX9_wake cX9_wake 3 (some .boolean) ∈ lw_g := lw_t5 (List.mem_of_getElem? (i := 177) rfl) rfl
theorem imX9_wake : Cond.instanceMethod yX9_wake ∈ lw_g := lw_t5 (List.mem_of_getElem? (i := 175) (by decide +kernel)) (by decide +kernel)
theorem seX9_wake : Cond.selects yX9_wake.cls yX9_wake yX9_wake ∈ lw_g := lw_t5 (List.mem_of_getElem? (i := 176) (by decide +kernel)) (by decide +kernel)
theorem cdX9_fact : Cond.code yX9_fact cX9_fact 1 (some .int) ∈ lw_g := lw_t5 (List.mem_of_getElem? (i := 192) rfl) rfl
theorem imX9_fact : Cond.instanceMethod yX9_fact ∈ lw_g := lw_t5 (List.mem_of_getElem? (i := 191) (by decide +kernel)) (by decide +kernel)
theorem seX9_fact : Cond.selects yX9_fact.cls yX9_fact yX9_fact ∈ lw_g := lw_m 48 (by decide +kernel) (by decide +kernel)
theorem cdX9_lose : Cond.code yX9_lose cX9_lose 3 (some .int) ∈ lw_g := lw_t5 (List.mem_of_getElem? (i := 184) rfl) rfl
theorem imX9_lose : Cond.instanceMethod yX9_lose ∈ lw_g := lw_t5 (List.mem_of_getElem? (i := 182) (by decide +kernel)) (by decide +kernel)
theorem seX9_lose : Cond.selects yX9_lose.cls yX9_lose yX9_lose ∈ lw_g := lw_t5 (List.mem_of_getElem? (i := 183) (by decide +kernel)) (by decide +kernel)
theorem cdX9_spoil : Cond.code yX9_spoil cX9_spoil 4 (some .int) ∈ lw_g := lw_t5 (List.mem_of_getElem? (i := 196) rfl) rfl
theorem imX9_spoil : Cond.instanceMethod yX9_spoil ∈ lw_g := lw_t5 (List.mem_of_getElem? (i := 194) (by decide +kernel)) (by decide +kernel)
theorem seX9_spoil : Cond.selects yX9_spoil.cls yX9_spoil yX9_spoil ∈ lw_g := lw_t5 (List.mem_of_getElem? (i := 195) (by decide +kernel)) (by decide +kernel)
theorem cdX9_down : Cond.code yX9_down cX9_down 5 (some .int) ∈ lw_g := lw_t5 (List.mem_of_getElem? (i := 204) rfl) rfl
theorem imX9_down : Cond.instanceMethod yX9_down ∈ lw_g := lw_t5 (List.mem_of_getElem? (i := 202) (by decide +kernel)) (by decide +kernel)
theorem seX9_down : Cond.selects yX9_down.cls yX9_down yX9_down ∈ lw_g := lw_t5 (List.mem_of_getElem? (i := 203) (by decide +kernel)) (by decide +kernel)
theorem cdX9_cut_ : Cond.code yX9_cut_ cX9_cut_ 3 (some .int) ∈ lw_g := lw_t5 (List.mem_of_getElem? (i := 208) rfl) rfl
theorem imX9_cut_ : Cond.instanceMethod yX9_cut_ ∈ lw_g := lw_t5 (List.mem_of_getElem? (i := 206) (by decide +kernel)) (by decide +kernel)
theorem seX9_cut_ : Cond.selects yX9_cut_.cls yX9_cut_ yX9_cut_ ∈ lw_g := lw_t5 (List.mem_of_getElem? (i := 207) (by decide +kernel)) (by decide +kernel)
theorem cdX9_asks : Cond.code yX9_asks cX9_asks 6 none ∈ lw_g := lw_t5 (List.mem_of_getElem? (i := 232) rfl) rfl
theorem imX9_asks : Cond.instanceMethod yX9_asks ∈ lw_g := lw_t5 (List.mem_of_getElem? (i := 231) (by decide +kernel)) (by decide +kernel)
theorem seX9_asks : Cond.selects yX9_asks.cls yX9_asks yX9_asks ∈ lw_g := lw_m 54 (by decide +kernel) (by decide +kernel)
theorem cdX9_value : Cond.code yX9_value cX9_value 7 (some .int) ∈ lw_g := lw_t6 (List.mem_of_getElem? (i := 4) rfl) rfl
theorem imX9_value : Cond.instanceMethod yX9_value ∈ lw_g := lw_t6 (List.mem_of_getElem? (i := 3) (by decide +kernel)) (by decide +kernel)
theorem seX9_value : Cond.selects yX9_value.cls yX9_value yX9_value ∈ lw_g := lw_m 57 (by decide +kernel) (by decide +kernel)
theorem cdX9_holds : Cond.code yX9_holds cX9_holds 8 (some .boolean) ∈ lw_g := lw_t6 (List.mem_of_getElem? (i := 0) rfl) rfl
theorem imX9_holds : Cond.instanceMethod yX9_holds ∈ lw_g := lw_t5 (List.mem_of_getElem? (i := 239) (by decide +kernel)) (by decide +kernel)
theorem seX9_holds : Cond.selects yX9_holds.cls yX9_holds yX9_holds ∈ lw_g := lw_m 56 (by decide +kernel) (by decide +kernel)
theorem cdX9_answers : Cond.code yX9_answers cX9_answers 6 (some .int) ∈ lw_g := lw_t5 (List.mem_of_getElem? (i := 236) rfl) rfl
theorem imX9_answers : Cond.instanceMethod yX9_answers ∈ lw_g := lw_t5 (List.mem_of_getElem? (i := 235) (by decide +kernel)) (by decide +kernel)
theorem seX9_answers : Cond.selects yX9_answers.cls yX9_answers yX9_answers ∈ lw_g := lw_m 55 (by decide +kernel) (by decide +kernel)
theorem cdX9_goes : Cond.code yX9_goes cX9_goes 3 none ∈ lw_g := lw_t5 (List.mem_of_getElem? (i := 216) rfl) rfl
theorem imX9_goes : Cond.instanceMethod yX9_goes ∈ lw_g := lw_t5 (List.mem_of_getElem? (i := 215) (by decide +kernel)) (by decide +kernel)
theorem seX9_goes : Cond.selects yX9_goes.cls yX9_goes yX9_goes ∈ lw_g := lw_m 50 (by decide +kernel) (by decide +kernel)
theorem cdX9_clears : Cond.code yX9_clears cX9_clears 2 none ∈ lw_g := lw_t5 (List.mem_of_getElem? (i := 220) rfl) rfl
theorem imX9_clears : Cond.instanceMethod yX9_clears ∈ lw_g := lw_t5 (List.mem_of_getElem? (i := 219) (by decide +kernel)) (by decide +kernel)
theorem seX9_clears : Cond.selects yX9_clears.cls yX9_clears yX9_clears ∈ lw_g := lw_m 51 (by decide +kernel) (by decide +kernel)
theorem cdX9_powers : Cond.code yX9_powers cX9_powers 3 none ∈ lw_g := lw_t5 (List.mem_of_getElem? (i := 224) rfl) rfl
theorem imX9_powers : Cond.instanceMethod yX9_powers ∈ lw_g := lw_t5 (List.mem_of_getElem? (i := 223) (by decide +kernel)) (by decide +kernel)
theorem seX9_powers : Cond.selects yX9_powers.cls yX9_powers yX9_powers ∈ lw_g := lw_m 52 (by decide +kernel) (by decide +kernel)
theorem cdX9_rescue : Cond.code yX9_rescue cX9_rescue 3 none ∈ lw_g := lw_t6 (List.mem_of_getElem? (i := 8) rfl) rfl
theorem imX9_rescue : Cond.instanceMethod yX9_rescue ∈ lw_g := lw_t6 (List.mem_of_getElem? (i := 7) (by decide +kernel)) (by decide +kernel)
theorem seX9_rescue : Cond.selects yX9_rescue.cls yX9_rescue yX9_rescue ∈ lw_g := lw_m 58 (by decide +kernel) (by decide +kernel)
theorem cdX9_question : Cond.code yX9_question cX9_question 5 none ∈ lw_g := lw_t5 (List.mem_of_getElem? (i := 228) rfl) rfl
theorem imX9_question : Cond.instanceMethod yX9_question ∈ lw_g := lw_t5 (List.mem_of_getElem? (i := 227) (by decide +kernel)) (by decide +kernel)
theorem seX9_question : Cond.selects yX9_question.cls yX9_question yX9_question ∈ lw_g := lw_m 53 (by decide +kernel) (by decide +kernel)
theorem cdX9_wants : Cond.code yX9_wants cX9_wants 3 (some .boolean) ∈ lw_g := lw_t6 (List.mem_of_getElem? (i := 16) rfl) rfl
theorem imX9_wants : Cond.instanceMethod yX9_wants ∈ lw_g := lw_t6 (List.mem_of_getElem? (i := 15) (by decide +kernel)) (by decide +kernel)
theorem seX9_wants : Cond.selects yX9_wants.cls yX9_wants yX9_wants ∈ lw_g := lw_m 60 (by decide +kernel) (by decide +kernel)
theorem cdX9_gives : Cond.code yX9_gives cX9_gives 6 none ∈ lw_g := lw_t6 (List.mem_of_getElem? (i := 12) rfl) rfl
theorem imX9_gives : Cond.instanceMethod yX9_gives ∈ lw_g := lw_t6 (List.mem_of_getElem? (i := 11) (by decide +kernel)) (by decide +kernel)
theorem seX9_gives : Cond.selects yX9_gives.cls yX9_gives yX9_gives ∈ lw_g := lw_m 59 (by decide +kernel) (by decide +kernel)
theorem cdX9_gets : Cond.code yX9_gets cX9_gets 5 none ∈ lw_g := lw_t6 (List.mem_of_getElem? (i := 20) rfl) rfl
theorem imX9_gets : Cond.instanceMethod yX9_gets ∈ lw_g := lw_t6 (List.mem_of_getElem? (i := 19) (by decide +kernel)) (by decide +kernel)
theorem seX9_gets : Cond.selects yX9_gets.cls yX9_gets yX9_gets ∈ lw_g := lw_m 61 (by decide +kernel) (by decide +kernel)
theorem cdX9_writes : Cond.code yX9_writes cX9_writes 2 none ∈ lw_g := lw_t6 (List.mem_of_getElem? (i := 24) rfl) rfl
theorem imX9_writes : Cond.instanceMethod yX9_writes ∈ lw_g := lw_t6 (List.mem_of_getElem? (i := 23) (by decide +kernel)) (by decide +kernel)
theorem seX9_writes : Cond.selects yX9_writes.cls yX9_writes yX9_writes ∈ lw_g := lw_m 62 (by decide +kernel) (by decide +kernel)
theorem cdX9_keeps : Cond.code yX9_keeps cX9_keeps 4 none ∈ lw_g := lw_t6 (List.mem_of_getElem? (i := 28) rfl) rfl
theorem imX9_keeps : Cond.instanceMethod yX9_keeps ∈ lw_g := lw_t6 (List.mem_of_getElem? (i := 27) (by decide +kernel)) (by decide +kernel)
theorem seX9_keeps : Cond.selects yX9_keeps.cls yX9_keeps yX9_keeps ∈ lw_g := lw_m 63 (by decide +kernel) (by decide +kernel)
theorem cdX9_answer : Cond.code yX9_answer cX9_answer 5 (some .int) ∈ lw_g := lw_t5 (List.mem_of_getElem? (i := 212) rfl) rfl
theorem imX9_answer : Cond.instanceMethod yX9_answer ∈ lw_g := lw_t5 (List.mem_of_getElem? (i := 210) (by decide +kernel)) (by decide +kernel)
theorem seX9_answer : Cond.selects yX9_answer.cls yX9_answer yX9_answer ∈ lw_g := lw_t5 (List.mem_of_getElem? (i := 211) (by decide +kernel)) (by decide +kernel)
theorem cdX9_state : Cond.code yX9_state cX9_state 5 (some .int) ∈ lw_g := lw_t6 (List.mem_of_getElem? (i := 32) rfl) rfl
theorem imX9_state : Cond.instanceMethod yX9_state ∈ lw_g := lw_t6 (List.mem_of_getElem? (i := 30) (by decide +kernel)) (by decide +kernel)
theorem seX9_state : Cond.selects yX9_state.cls yX9_state yX9_state ∈ lw_g := lw_t6 (List.mem_of_getElem? (i := 31) (by decide +kernel)) (by decide +kernel)
theorem cdX9_sends : Cond.code yX9_sends cX9_sends 2 (some .int) ∈ lw_g := lw_t6 (List.mem_of_getElem? (i := 37) rfl) rfl
theorem imX9_sends : Cond.instanceMethod yX9_sends ∈ lw_g := lw_t6 (List.mem_of_getElem? (i := 35) (by decide +kernel)) (by decide +kernel)
theorem seX9_sends : Cond.selects yX9_sends.cls yX9_sends yX9_sends ∈ lw_g := lw_t6 (List.mem_of_getElem? (i := 36) (by decide +kernel)) (by decide +kernel)
theorem cdX9_sent : Cond.code yX9_sent cX9_sent 3 (some .int) ∈ lw_g := lw_t6 (List.mem_of_getElem? (i := 41) rfl) rfl
theorem imX9_sent : Cond.instanceMethod yX9_sent ∈ lw_g := lw_t6 (List.mem_of_getElem? (i := 39) (by decide +kernel)) (by decide +kernel)
theorem seX9_sent : Cond.selects yX9_sent.cls yX9_sent yX9_sent ∈ lw_g := lw_t6 (List.mem_of_getElem? (i := 40) (by decide +kernel)) (by decide +kernel)
theorem cdX9_isDone : Cond.code yX9_isDone cX9_isDone 3 (some .boolean) ∈ lw_g := lw_t6 (List.mem_of_getElem? (i := 49) rfl) rfl
theorem imX9_isDone : Cond.instanceMethod yX9_isDone ∈ lw_g := lw_t6 (List.mem_of_getElem? (i := 48) (by decide +kernel)) (by decide +kernel)
theorem seX9_isDone : Cond.selects yX9_isDone.cls yX9_isDone yX9_isDone ∈ lw_g := lw_m 64 (by decide +kernel) (by decide +kernel)
theorem cdX9_ends : Cond.code yX9_ends cX9_ends 2 (some .int) ∈ lw_g := lw_t6 (List.mem_of_getElem? (i := 45) rfl) rfl
theorem imX9_ends : Cond.instanceMethod yX9_ends ∈ lw_g := lw_t6 (List.mem_of_getElem? (i := 43) (by decide +kernel)) (by decide +kernel)
theorem seX9_ends : Cond.selects yX9_ends.cls yX9_ends yX9_ends ∈ lw_g := lw_t6 (List.mem_of_getElem? (i := 44) (by decide +kernel)) (by decide +kernel)
theorem cdX9_up : Cond.code yX9_up cX9_up 3 (some .int) ∈ lw_g := lw_t6 (List.mem_of_getElem? (i := 53) rfl) rfl
theorem imX9_up : Cond.instanceMethod yX9_up ∈ lw_g := lw_t6 (List.mem_of_getElem? (i := 51) (by decide +kernel)) (by decide +kernel)
theorem seX9_up : Cond.selects yX9_up.cls yX9_up yX9_up ∈ lw_g := lw_t6 (List.mem_of_getElem? (i := 52) (by decide +kernel)) (by decide +kernel)
theorem cdX9_log : Cond.code yX9_log cX9_log 7 (some .int) ∈ lw_g := lw_t6 (List.mem_of_getElem? (i := 57) rfl) rfl
theorem imX9_log : Cond.instanceMethod yX9_log ∈ lw_g := lw_t6 (List.mem_of_getElem? (i := 55) (by decide +kernel)) (by decide +kernel)
theorem seX9_log : Cond.selects yX9_log.cls yX9_log yX9_log ∈ lw_g := lw_t6 (List.mem_of_getElem? (i := 56) (by decide +kernel)) (by decide +kernel)
theorem cdX9_bits : Cond.code yX9_bits cX9_bits 3 (some .int) ∈ lw_g := lw_t6 (List.mem_of_getElem? (i := 65) rfl) rfl
theorem stX9_bits : Cond.static yX9_bits ∈ lw_g := lw_t6 (List.mem_of_getElem? (i := 64) (by decide +kernel)) (by decide +kernel)
theorem cdX9_plan : Cond.code yX9_plan cX9_plan 11 (some .int) ∈ lw_g := lw_t6 (List.mem_of_getElem? (i := 61) rfl) rfl
theorem imX9_plan : Cond.instanceMethod yX9_plan ∈ lw_g := lw_t6 (List.mem_of_getElem? (i := 59) (by decide +kernel)) (by decide +kernel)
theorem seX9_plan : Cond.selects yX9_plan.cls yX9_plan yX9_plan ∈ lw_g := lw_t6 (List.mem_of_getElem? (i := 60) (by decide +kernel)) (by decide +kernel)
theorem cdX9_wakes : Cond.code yX9_wakes cX9_wakes 2 (some .int) ∈ lw_g := lw_t6 (List.mem_of_getElem? (i := 70) rfl) rfl
theorem imX9_wakes : Cond.instanceMethod yX9_wakes ∈ lw_g := lw_t6 (List.mem_of_getElem? (i := 68) (by decide +kernel)) (by decide +kernel)
theorem seX9_wakes : Cond.selects yX9_wakes.cls yX9_wakes yX9_wakes ∈ lw_g := lw_t6 (List.mem_of_getElem? (i := 69) (by decide +kernel)) (by decide +kernel)
theorem cdX9_count : Cond.code yX9_count cX9_count 2 (some .int) ∈ lw_g := lw_t6 (List.mem_of_getElem? (i := 74) rfl) rfl
theorem imX9_count : Cond.instanceMethod yX9_count ∈ lw_g := lw_t6 (List.mem_of_getElem? (i := 72) (by decide +kernel)) (by decide +kernel)
theorem seX9_count : Cond.selects yX9_count.cls yX9_count yX9_count ∈ lw_g := lw_t6 (List.mem_of_getElem? (i := 73) (by decide +kernel)) (by decide +kernel)
theorem cdJ6_bitCount_0f7a4 : Cond.code yJ6_bitCount_0f7a4 cJ6_bitCount_0f7a4 1 (some .int) ∈ lw_g := lw_t4 (List.mem_of_getElem? (i := 44) rfl) rfl
theorem stJ6_bitCount_0f7a4 : Cond.static yJ6_bitCount_0f7a4 ∈ lw_g := lw_t4 (List.mem_of_getElem? (i := 43) (by decide +kernel)) (by decide +kernel)
theorem cdJ9_max_7cf53 : Cond.code yJ9_max_7cf53 cJ9_max_7cf53 2 (some .int) ∈ lw_g := lw_t2 (List.mem_of_getElem? (i := 217) rfl) rfl
theorem stJ9_max_7cf53 : Cond.static yJ9_max_7cf53 ∈ lw_g := lw_t2 (List.mem_of_getElem? (i := 216) (by decide +kernel)) (by decide +kernel)
theorem cdJ7_fill_53178 : Cond.code yJ7_fill_53178 cJ7_fill_53178 4 none ∈ lw_g := lw_t3 (List.mem_of_getElem? (i := 70) rfl) rfl
theorem stJ7_fill_53178 : Cond.static yJ7_fill_53178 ∈ lw_g := lw_t3 (List.mem_of_getElem? (i := 69) (by decide +kernel)) (by decide +kernel)
theorem kL_13 : gKV RL 13 yX8_feed cX8_feed 6 (some .int) 5 := ⟨⟨cdX8_feed, lw_t2 (List.mem_of_getElem? (i := 91) (by decide +kernel)) (by decide +kernel), inRX8, by decide +kernel⟩, imX8_feed, seX8_feed⟩
theorem kX8_49 : gKV RX8 49 yX7_append cX7_append 3 none 1 := ⟨⟨cdX7_append, lw_t2 (List.mem_of_getElem? (i := 95) (by decide +kernel)) (by decide +kernel), inRX7, by decide +kernel⟩, imX7_append, seX7_append⟩
theorem kL_18 : gKV RL 18 yX8_back cX8_back 2 (some .int) 1 := ⟨⟨cdX8_back, lw_t2 (List.mem_of_getElem? (i := 99) (by decide +kernel)) (by decide +kernel), inRX8, by decide +kernel⟩, imX8_back, seX8_back⟩
theorem kL_23 : gKV RL 23 yX8_read cX8_read 3 (some .int) 1 := ⟨⟨cdX8_read, lw_t2 (List.mem_of_getElem? (i := 103) (by decide +kernel)) (by decide +kernel), inRX8, by decide +kernel⟩, imX8_read, seX8_read⟩
theorem kX8_53 : gKS RX8 53 yX8_isBelow cX8_isBelow 2 (some .boolean) 2 := ⟨⟨cdX8_isBelow, lw_t2 (List.mem_of_getElem? (i := 107) (by decide +kernel)) (by decide +kernel), inRX8, by decide +kernel⟩, stX8_isBelow⟩
theorem kX8_57 : gKV RX8 57 yX3_compile cX3_compile 3 (some .int) 0 := ⟨⟨cdX3_compile, lw_t2 (List.mem_of_getElem? (i := 110) (by decide +kernel)) (by decide +kernel), inRX3, by decide +kernel⟩, imX3_compile, seX3_compile⟩
theorem kX3_35 : gKV RX3 35 yX3_begin cX3_begin 1 none 0 := ⟨⟨cdX3_begin, lw_t2 (List.mem_of_getElem? (i := 114) (by decide +kernel)) (by decide +kernel), inRX3, by decide +kernel⟩, imX3_begin, seX3_begin⟩
theorem kX3_64 : gKV RX3 64 yX6_restart cX6_restart 1 none 0 := ⟨⟨cdX6_restart, lw_t2 (List.mem_of_getElem? (i := 118) (by decide +kernel)) (by decide +kernel), inRX6, by decide +kernel⟩, imX6_restart, seX6_restart⟩
theorem kX3_67 : gKV RX3 67 yX4_clear cX4_clear 1 none 0 := ⟨⟨cdX4_clear, lw_t2 (List.mem_of_getElem? (i := 122) (by decide +kernel)) (by decide +kernel), inRX4, by decide +kernel⟩, imX4_clear, seX4_clear⟩
theorem kX3_38 : gKV RX3 38 yX6_advance cX6_advance 1 none 0 := ⟨⟨cdX6_advance, lw_t2 (List.mem_of_getElem? (i := 126) (by decide +kernel)) (by decide +kernel), inRX6, by decide +kernel⟩, imX6_advance, seX6_advance⟩
theorem kX6_28 : gKS RX6 28 yX6_isBlank cX6_isBlank 1 (some .boolean) 1 := ⟨⟨cdX6_isBlank, lw_t2 (List.mem_of_getElem? (i := 130) (by decide +kernel)) (by decide +kernel), inRX6, by decide +kernel⟩, stX6_isBlank⟩
theorem kX6_41 : gKS RX6 41 yX6_isLetter cX6_isLetter 1 (some .boolean) 1 := ⟨⟨cdX6_isLetter, lw_t2 (List.mem_of_getElem? (i := 133) (by decide +kernel)) (by decide +kernel), inRX6, by decide +kernel⟩, stX6_isLetter⟩
theorem kX6_44 : gKV RX6 44 yX6_scanWord cX6_scanWord 4 none 0 := ⟨⟨cdX6_scanWord, lw_t2 (List.mem_of_getElem? (i := 136) (by decide +kernel)) (by decide +kernel), inRX6, by decide +kernel⟩, imX6_scanWord, seX6_scanWord⟩
theorem kX6_47 : gKS RX6 47 yX6_isDigit cX6_isDigit 1 (some .boolean) 1 := ⟨⟨cdX6_isDigit, lw_t2 (List.mem_of_getElem? (i := 146) (by decide +kernel)) (by decide +kernel), inRX6, by decide +kernel⟩, stX6_isDigit⟩
theorem kX6_50 : gKV RX6 50 yX6_scanInt cX6_scanInt 1 none 0 := ⟨⟨cdX6_scanInt, lw_t2 (List.mem_of_getElem? (i := 149) (by decide +kernel)) (by decide +kernel), inRX6, by decide +kernel⟩, imX6_scanInt, seX6_scanInt⟩
theorem kX6_53 : gKV RX6 53 yX6_scanSign cX6_scanSign 2 none 0 := ⟨⟨cdX6_scanSign, lw_t2 (List.mem_of_getElem? (i := 153) (by decide +kernel)) (by decide +kernel), inRX6, by decide +kernel⟩, imX6_scanSign, seX6_scanSign⟩
theorem kX6_66 : gKV RX6 66 yX6_set cX6_set 3 none 2 := ⟨⟨cdX6_set, lw_t2 (List.mem_of_getElem? (i := 157) (by decide +kernel)) (by decide +kernel), inRX6, by decide +kernel⟩, imX6_set, seX6_set⟩
theorem kX6_70 : gKV RX6 70 yX6_scanRelation cX6_scanRelation 3 none 1 := ⟨⟨cdX6_scanRelation, lw_t2 (List.mem_of_getElem? (i := 161) (by decide +kernel)) (by decide +kernel), inRX6, by decide +kernel⟩, imX6_scanRelation, seX6_scanRelation⟩
theorem kX3_44 : gKV RX3 44 yX3_following cX3_following 2 (some .int) 1 := ⟨⟨cdX3_following, lw_t2 (List.mem_of_getElem? (i := 165) (by decide +kernel)) (by decide +kernel), inRX3, by decide +kernel⟩, imX3_following, seX3_following⟩
theorem kX3_80 : gKV RX3 80 yX3_followingUnit cX3_followingUnit 2 (some .int) 1 := ⟨⟨cdX3_followingUnit, lw_t2 (List.mem_of_getElem? (i := 169) (by decide +kernel)) (by decide +kernel), inRX3, by decide +kernel⟩, imX3_followingUnit, seX3_followingUnit⟩
theorem kX3_54 : gKV RX3 54 yX3_isOverfull cX3_isOverfull 1 (some .boolean) 0 := ⟨⟨cdX3_isOverfull, lw_t2 (List.mem_of_getElem? (i := 173) (by decide +kernel)) (by decide +kernel), inRX3, by decide +kernel⟩, imX3_isOverfull, seX3_isOverfull⟩
theorem kX3_58 : gKV RX3 58 yX3_take cX3_take 1 none 0 := ⟨⟨cdX3_take, lw_t2 (List.mem_of_getElem? (i := 177) (by decide +kernel)) (by decide +kernel), inRX3, by decide +kernel⟩, imX3_take, seX3_take⟩
theorem kX3_86 : gKV RX3 86 yX4_add cX4_add 2 none 1 := ⟨⟨cdX4_add, lw_t2 (List.mem_of_getElem? (i := 181) (by decide +kernel)) (by decide +kernel), inRX4, by decide +kernel⟩, imX4_add, seX4_add⟩
theorem kX3_90 : gKV RX3 90 yX3_takeNumber cX3_takeNumber 2 none 1 := ⟨⟨cdX3_takeNumber, lw_t2 (List.mem_of_getElem? (i := 185) (by decide +kernel)) (by decide +kernel), inRX3, by decide +kernel⟩, imX3_takeNumber, seX3_takeNumber⟩
theorem kX3_103 : gKV RX3 103 yX4_setNumber cX4_setNumber 2 none 1 := ⟨⟨cdX4_setNumber, lw_t2 (List.mem_of_getElem? (i := 189) (by decide +kernel)) (by decide +kernel), inRX4, by decide +kernel⟩, imX4_setNumber, seX4_setNumber⟩
theorem kX3_94 : gKV RX3 94 yX3_takeUnit cX3_takeUnit 1 none 0 := ⟨⟨cdX3_takeUnit, lw_t2 (List.mem_of_getElem? (i := 193) (by decide +kernel)) (by decide +kernel), inRX3, by decide +kernel⟩, imX3_takeUnit, seX3_takeUnit⟩
theorem kX3_106 : gKV RX3 106 yX3_push cX3_push 2 none 1 := ⟨⟨cdX3_push, lw_t2 (List.mem_of_getElem? (i := 197) (by decide +kernel)) (by decide +kernel), inRX3, by decide +kernel⟩, imX3_push, seX3_push⟩
theorem kX3_109 : gKV RX3 109 yX4_emit cX4_emit 2 none 1 := ⟨⟨cdX4_emit, lw_t2 (List.mem_of_getElem? (i := 201) (by decide +kernel)) (by decide +kernel), inRX4, by decide +kernel⟩, imX4_emit, seX4_emit⟩
theorem kX3_97 : gKV RX3 97 yX3_takeBehindUnit cX3_takeBehindUnit 1 none 0 := ⟨⟨cdX3_takeBehindUnit, lw_t2 (List.mem_of_getElem? (i := 205) (by decide +kernel)) (by decide +kernel), inRX3, by decide +kernel⟩, imX3_takeBehindUnit, seX3_takeBehindUnit⟩
theorem kX3_112 : gKV RX3 112 yX3_emitDownTo cX3_emitDownTo 2 none 1 := ⟨⟨cdX3_emitDownTo, lw_t2 (List.mem_of_getElem? (i := 209) (by decide +kernel)) (by decide +kernel), inRX3, by decide +kernel⟩, imX3_emitDownTo, seX3_emitDownTo⟩
theorem kX3_115 : gKS RX3 115 yJ9_max_7cf53 cJ9_max_7cf53 2 (some .int) 2 := ⟨⟨cdJ9_max_7cf53, lw_t2 (List.mem_of_getElem? (i := 215) (by decide +kernel)) (by decide +kernel), inRJ9, by decide +kernel⟩, stJ9_max_7cf53⟩
theorem kX8_65 : gKV RX8 65 yX3_exchange cX3_exchange 3 (some (.object "BootHall$Rules")) 1 := ⟨⟨cdX3_exchange, lw_t2 (List.mem_of_getElem? (i := 218) (by decide +kernel)) (by decide +kernel), inRX3, by decide +kernel⟩, imX3_exchange, seX3_exchange⟩
theorem kL_27 : gKV RL 27 yX8_place cX8_place 1 (some .int) 0 := ⟨⟨cdX8_place, lw_t2 (List.mem_of_getElem? (i := 222) (by decide +kernel)) (by decide +kernel), inRX8, by decide +kernel⟩, imX8_place, seX8_place⟩
theorem kL_32 : gKV RL 32 yX8_machine cX8_machine 4 (some .int) 3 := ⟨⟨cdX8_machine, lw_t2 (List.mem_of_getElem? (i := 226) (by decide +kernel)) (by decide +kernel), inRX8, by decide +kernel⟩, imX8_machine, seX8_machine⟩
theorem kX8_75 : gKV RX8 75 yX1_addMachine cX1_addMachine 5 (some .int) 3 := ⟨⟨cdX1_addMachine, lw_t2 (List.mem_of_getElem? (i := 230) (by decide +kernel)) (by decide +kernel), inRX1, by decide +kernel⟩, imX1_addMachine, seX1_addMachine⟩
theorem kL_37 : gKV RL 37 yX8_file cX8_file 3 (some .int) 2 := ⟨⟨cdX8_file, lw_t2 (List.mem_of_getElem? (i := 234) (by decide +kernel)) (by decide +kernel), inRX8, by decide +kernel⟩, imX8_file, seX8_file⟩
theorem kX8_82 : gKV RX8 82 yX1_addFile cX1_addFile 3 (some .int) 2 := ⟨⟨cdX1_addFile, lw_t2 (List.mem_of_getElem? (i := 238) (by decide +kernel)) (by decide +kernel), inRX1, by decide +kernel⟩, imX1_addFile, seX1_addFile⟩
theorem kL_42 : gKV RL 42 yX8_width cX8_width 2 (some .boolean) 1 := ⟨⟨cdX8_width, lw_t3 (List.mem_of_getElem? (i := 2) (by decide +kernel)) (by decide +kernel), inRX8, by decide +kernel⟩, imX8_width, seX8_width⟩
theorem kL_47 : gKV RL 47 yX8_wake cX8_wake 3 (some .boolean) 2 := ⟨⟨cdX8_wake, lw_t3 (List.mem_of_getElem? (i := 6) (by decide +kernel)) (by decide +kernel), inRX8, by decide +kernel⟩, imX8_wake, seX8_wake⟩
theorem kL_52 : gKV RL 52 yX8_lose cX8_lose 3 (some .int) 2 := ⟨⟨cdX8_lose, lw_t3 (List.mem_of_getElem? (i := 10) (by decide +kernel)) (by decide +kernel), inRX8, by decide +kernel⟩, imX8_lose, seX8_lose⟩
theorem kX8_97 : gKV RX8 97 yX0_isFull cX0_isFull 1 (some .boolean) 0 := ⟨⟨cdX0_isFull, lw_t3 (List.mem_of_getElem? (i := 14) (by decide +kernel)) (by decide +kernel), inRX0, by decide +kernel⟩, imX0_isFull, seX0_isFull⟩
theorem kX8_103 : gKV RX8 103 yX0_addLost cX0_addLost 3 (some .int) 2 := ⟨⟨cdX0_addLost, lw_t3 (List.mem_of_getElem? (i := 18) (by decide +kernel)) (by decide +kernel), inRX0, by decide +kernel⟩, imX0_addLost, seX0_addLost⟩
theorem kL_56 : gKV RL 56 yX8_spoil cX8_spoil 4 (some .int) 3 := ⟨⟨cdX8_spoil, lw_t3 (List.mem_of_getElem? (i := 22) (by decide +kernel)) (by decide +kernel), inRX8, by decide +kernel⟩, imX8_spoil, seX8_spoil⟩
theorem kX8_106 : gKV RX8 106 yX1_hasBlock cX1_hasBlock 3 (some .boolean) 2 := ⟨⟨cdX1_hasBlock, lw_t3 (List.mem_of_getElem? (i := 26) (by decide +kernel)) (by decide +kernel), inRX1, by decide +kernel⟩, imX1_hasBlock, seX1_hasBlock⟩
theorem kX8_109 : gKV RX8 109 yX0_addWrong cX0_addWrong 3 (some .int) 2 := ⟨⟨cdX0_addWrong, lw_t3 (List.mem_of_getElem? (i := 31) (by decide +kernel)) (by decide +kernel), inRX0, by decide +kernel⟩, imX0_addWrong, seX0_addWrong⟩
theorem kL_60 : gKV RL 60 yX8_down cX8_down 4 (some .int) 3 := ⟨⟨cdX8_down, lw_t3 (List.mem_of_getElem? (i := 35) (by decide +kernel)) (by decide +kernel), inRX8, by decide +kernel⟩, imX8_down, seX8_down⟩
theorem kX8_112 : gKV RX8 112 yX0_addDown cX0_addDown 5 (some .int) 3 := ⟨⟨cdX0_addDown, lw_t3 (List.mem_of_getElem? (i := 39) (by decide +kernel)) (by decide +kernel), inRX0, by decide +kernel⟩, imX0_addDown, seX0_addDown⟩
theorem kL_64 : gKV RL 64 yX8_cut cX8_cut 3 (some .int) 2 := ⟨⟨cdX8_cut, lw_t3 (List.mem_of_getElem? (i := 43) (by decide +kernel)) (by decide +kernel), inRX8, by decide +kernel⟩, imX8_cut, seX8_cut⟩
theorem kX8_115 : gKV RX8 115 yX0_addCut cX0_addCut 3 (some .int) 2 := ⟨⟨cdX0_addCut, lw_t3 (List.mem_of_getElem? (i := 47) (by decide +kernel)) (by decide +kernel), inRX0, by decide +kernel⟩, imX0_addCut, seX0_addCut⟩
theorem kX0_26 : gKS RX0 26 yJ9_max_7cf53 cJ9_max_7cf53 2 (some .int) 2 := ⟨⟨cdJ9_max_7cf53, lw_t3 (List.mem_of_getElem? (i := 51) (by decide +kernel)) (by decide +kernel), inRJ9, by decide +kernel⟩, stJ9_max_7cf53⟩
theorem kL_68 : gKV RL 68 yX8_answer cX8_answer 4 (some .int) 3 := ⟨⟨cdX8_answer, lw_t3 (List.mem_of_getElem? (i := 52) (by decide +kernel)) (by decide +kernel), inRX8, by decide +kernel⟩, imX8_answer, seX8_answer⟩
theorem kX8_118 : gKV RX8 118 yX8_freshen cX8_freshen 1 none 0 := ⟨⟨cdX8_freshen, lw_t3 (List.mem_of_getElem? (i := 56) (by decide +kernel)) (by decide +kernel), inRX8, by decide +kernel⟩, imX8_freshen, seX8_freshen⟩
theorem kX8_151 : gKV RX8 151 yX5_play cX5_play 3 none 1 := ⟨⟨cdX5_play, lw_t3 (List.mem_of_getElem? (i := 60) (by decide +kernel)) (by decide +kernel), inRX5, by decide +kernel⟩, imX5_play, seX5_play⟩
theorem kX5_35 : gKV RX5 35 yX5_reset cX5_reset 2 none 0 := ⟨⟨cdX5_reset, lw_t3 (List.mem_of_getElem? (i := 64) (by decide +kernel)) (by decide +kernel), inRX5, by decide +kernel⟩, imX5_reset, seX5_reset⟩
theorem kX5_73 : gKS RX5 73 yJ7_fill_53178 cJ7_fill_53178 4 none 2 := ⟨⟨cdJ7_fill_53178, lw_t3 (List.mem_of_getElem? (i := 68) (by decide +kernel)) (by decide +kernel), inRJ7, by decide +kernel⟩, stJ7_fill_53178⟩
theorem kX5_89 : gKV RX5 89 yX2_reset cX2_reset 1 none 0 := ⟨⟨cdX2_reset, lw_t3 (List.mem_of_getElem? (i := 71) (by decide +kernel)) (by decide +kernel), inRX2, by decide +kernel⟩, imX2_reset, seX2_reset⟩
theorem kX2_21 : gKV RX2 21 yX2_enter cX2_enter 2 none 1 := ⟨⟨cdX2_enter, lw_t3 (List.mem_of_getElem? (i := 75) (by decide +kernel)) (by decide +kernel), inRX2, by decide +kernel⟩, imX2_enter, seX2_enter⟩
theorem kX2_25 : gKV RX2 25 yX2_clearTallies cX2_clearTallies 1 none 0 := ⟨⟨cdX2_clearTallies, lw_t3 (List.mem_of_getElem? (i := 79) (by decide +kernel)) (by decide +kernel), inRX2, by decide +kernel⟩, imX2_clearTallies, seX2_clearTallies⟩
theorem kX5_38 : gKV RX5 38 yX5_power cX5_power 4 none 1 := ⟨⟨cdX5_power, lw_t3 (List.mem_of_getElem? (i := 83) (by decide +kernel)) (by decide +kernel), inRX5, by decide +kernel⟩, imX5_power, seX5_power⟩
theorem kX5_92 : gKV RX5 92 yX0_isCut cX0_isCut 3 (some .boolean) 2 := ⟨⟨cdX0_isCut, lw_t3 (List.mem_of_getElem? (i := 87) (by decide +kernel)) (by decide +kernel), inRX0, by decide +kernel⟩, imX0_isCut, seX0_isCut⟩
theorem kX5_96 : gKV RX5 96 yX2_losePower cX2_losePower 2 none 1 := ⟨⟨cdX2_losePower, lw_t3 (List.mem_of_getElem? (i := 91) (by decide +kernel)) (by decide +kernel), inRX2, by decide +kernel⟩, imX2_losePower, seX2_losePower⟩
theorem kX5_111 : gKV RX5 111 yX2_begin cX2_begin 2 none 1 := ⟨⟨cdX2_begin, lw_t3 (List.mem_of_getElem? (i := 95) (by decide +kernel)) (by decide +kernel), inRX2, by decide +kernel⟩, imX2_begin, seX2_begin⟩
theorem kX5_42 : gKV RX5 42 yX5_ask cX5_ask 4 none 1 := ⟨⟨cdX5_ask, lw_t3 (List.mem_of_getElem? (i := 99) (by decide +kernel)) (by decide +kernel), inRX5, by decide +kernel⟩, imX5_ask, seX5_ask⟩
theorem kX5_117 : gKV RX5 117 yX5_question cX5_question 7 none 3 := ⟨⟨cdX5_question, lw_t3 (List.mem_of_getElem? (i := 103) (by decide +kernel)) (by decide +kernel), inRX5, by decide +kernel⟩, imX5_question, seX5_question⟩
theorem kX5_121 : gKV RX5 121 yX0_isLost cX0_isLost 3 (some .boolean) 2 := ⟨⟨cdX0_isLost, lw_t3 (List.mem_of_getElem? (i := 107) (by decide +kernel)) (by decide +kernel), inRX0, by decide +kernel⟩, imX0_isLost, seX0_isLost⟩
theorem kX5_133 : gKV RX5 133 yX5_setVars cX5_setVars 6 none 5 := ⟨⟨cdX5_setVars, lw_t3 (List.mem_of_getElem? (i := 111) (by decide +kernel)) (by decide +kernel), inRX5, by decide +kernel⟩, imX5_setVars, seX5_setVars⟩
theorem kX5_137 : gKV RX5 137 yX0_isDown cX0_isDown 3 (some .boolean) 2 := ⟨⟨cdX0_isDown, lw_t3 (List.mem_of_getElem? (i := 115) (by decide +kernel)) (by decide +kernel), inRX0, by decide +kernel⟩, imX0_isDown, seX0_isDown⟩
theorem kX5_147 : gKV RX5 147 yX4_choose cX4_choose 5 (some .int) 2 := ⟨⟨cdX4_choose, lw_t3 (List.mem_of_getElem? (i := 119) (by decide +kernel)) (by decide +kernel), inRX4, by decide +kernel⟩, imX4_choose, seX4_choose⟩
theorem kX4_38 : gKV RX4 38 yX4_holds cX4_holds 7 (some .boolean) 2 := ⟨⟨cdX4_holds, lw_t3 (List.mem_of_getElem? (i := 123) (by decide +kernel)) (by decide +kernel), inRX4, by decide +kernel⟩, imX4_holds, seX4_holds⟩
theorem kX4_42 : gKS RX4 42 yX4_valueOf cX4_valueOf 2 (some .int) 2 := ⟨⟨cdX4_valueOf, lw_t3 (List.mem_of_getElem? (i := 127) (by decide +kernel)) (by decide +kernel), inRX4, by decide +kernel⟩, stX4_valueOf⟩
theorem kX4_46 : gKS RX4 46 yX4_apply cX4_apply 3 (some .int) 3 := ⟨⟨cdX4_apply, lw_t3 (List.mem_of_getElem? (i := 130) (by decide +kernel)) (by decide +kernel), inRX4, by decide +kernel⟩, stX4_apply⟩
theorem kX5_153 : gKV RX5 153 yX4_kindsAhead cX4_kindsAhead 4 (some .int) 1 := ⟨⟨cdX4_kindsAhead, lw_t3 (List.mem_of_getElem? (i := 133) (by decide +kernel)) (by decide +kernel), inRX4, by decide +kernel⟩, imX4_kindsAhead, seX4_kindsAhead⟩
theorem kX5_157 : gKV RX5 157 yX2_failToAsk cX2_failToAsk 3 none 2 := ⟨⟨cdX2_failToAsk, lw_t3 (List.mem_of_getElem? (i := 137) (by decide +kernel)) (by decide +kernel), inRX2, by decide +kernel⟩, imX2_failToAsk, seX2_failToAsk⟩
theorem kX2_34 : gKV RX2 34 yX2_enterRescue cX2_enterRescue 2 none 1 := ⟨⟨cdX2_enterRescue, lw_t3 (List.mem_of_getElem? (i := 141) (by decide +kernel)) (by decide +kernel), inRX2, by decide +kernel⟩, imX2_enterRescue, seX2_enterRescue⟩
theorem kX5_161 : gKV RX5 161 yX1_mustWait cX1_mustWait 5 (some .boolean) 2 := ⟨⟨cdX1_mustWait, lw_t3 (List.mem_of_getElem? (i := 145) (by decide +kernel)) (by decide +kernel), inRX1, by decide +kernel⟩, imX1_mustWait, seX1_mustWait⟩
theorem kX5_164 : gKV RX5 164 yX2_fetch cX2_fetch 4 none 3 := ⟨⟨cdX2_fetch, lw_t3 (List.mem_of_getElem? (i := 149) (by decide +kernel)) (by decide +kernel), inRX2, by decide +kernel⟩, imX2_fetch, seX2_fetch⟩
theorem kX5_45 : gKV RX5 45 yX5_send cX5_send 6 none 1 := ⟨⟨cdX5_send, lw_t3 (List.mem_of_getElem? (i := 153) (by decide +kernel)) (by decide +kernel), inRX5, by decide +kernel⟩, imX5_send, seX5_send⟩
theorem kX5_174 : gKV RX5 174 yX5_lineUp cX5_lineUp 6 (some .int) 1 := ⟨⟨cdX5_lineUp, lw_t3 (List.mem_of_getElem? (i := 157) (by decide +kernel)) (by decide +kernel), inRX5, by decide +kernel⟩, imX5_lineUp, seX5_lineUp⟩
theorem kX5_181 : gKS RX5 181 yX5_wantedBlock cX5_wantedBlock 1 (some .int) 1 := ⟨⟨cdX5_wantedBlock, lw_t3 (List.mem_of_getElem? (i := 161) (by decide +kernel)) (by decide +kernel), inRX5, by decide +kernel⟩, stX5_wantedBlock⟩
theorem kX5_185 : gKV RX5 185 yX5_receive cX5_receive 5 none 2 := ⟨⟨cdX5_receive, lw_t3 (List.mem_of_getElem? (i := 164) (by decide +kernel)) (by decide +kernel), inRX5, by decide +kernel⟩, imX5_receive, seX5_receive⟩
theorem kX5_197 : gKV RX5 197 yX2_getNone cX2_getNone 1 none 0 := ⟨⟨cdX2_getNone, lw_t3 (List.mem_of_getElem? (i := 168) (by decide +kernel)) (by decide +kernel), inRX2, by decide +kernel⟩, imX2_getNone, seX2_getNone⟩
theorem kX5_200 : gKV RX5 200 yX0_isWrong cX0_isWrong 3 (some .boolean) 2 := ⟨⟨cdX0_isWrong, lw_t3 (List.mem_of_getElem? (i := 172) (by decide +kernel)) (by decide +kernel), inRX0, by decide +kernel⟩, imX0_isWrong, seX0_isWrong⟩
theorem kX5_203 : gKV RX5 203 yX2_getWrong cX2_getWrong 1 none 0 := ⟨⟨cdX2_getWrong, lw_t3 (List.mem_of_getElem? (i := 176) (by decide +kernel)) (by decide +kernel), inRX2, by decide +kernel⟩, imX2_getWrong, seX2_getWrong⟩
theorem kX5_212 : gKV RX5 212 yX5_goOn cX5_goOn 5 none 2 := ⟨⟨cdX5_goOn, lw_t3 (List.mem_of_getElem? (i := 180) (by decide +kernel)) (by decide +kernel), inRX5, by decide +kernel⟩, imX5_goOn, seX5_goOn⟩
theorem kX5_222 : gKV RX5 222 yX2_install cX2_install 2 none 1 := ⟨⟨cdX2_install, lw_t3 (List.mem_of_getElem? (i := 184) (by decide +kernel)) (by decide +kernel), inRX2, by decide +kernel⟩, imX2_install, seX2_install⟩
theorem kX5_223 : gKV RX5 223 yX2_enterRescue cX2_enterRescue 2 none 1 := ⟨⟨cdX2_enterRescue, lw_t3 (List.mem_of_getElem? (i := 188) (by decide +kernel)) (by decide +kernel), inRX2, by decide +kernel⟩, imX2_enterRescue, seX2_enterRescue⟩
theorem kX5_48 : gKV RX5 48 yX5_install cX5_install 4 none 1 := ⟨⟨cdX5_install, lw_t3 (List.mem_of_getElem? (i := 189) (by decide +kernel)) (by decide +kernel), inRX5, by decide +kernel⟩, imX5_install, seX5_install⟩
theorem kX5_226 : gKV RX5 226 yX2_write cX2_write 2 none 1 := ⟨⟨cdX2_write, lw_t3 (List.mem_of_getElem? (i := 193) (by decide +kernel)) (by decide +kernel), inRX2, by decide +kernel⟩, imX2_write, seX2_write⟩
theorem kX5_51 : gKV RX5 51 yX5_isSettled cX5_isSettled 2 (some .boolean) 0 := ⟨⟨cdX5_isSettled, lw_t3 (List.mem_of_getElem? (i := 197) (by decide +kernel)) (by decide +kernel), inRX5, by decide +kernel⟩, imX5_isSettled, seX5_isSettled⟩
theorem kX5_229 : gKV RX5 229 yX2_isSettled cX2_isSettled 1 (some .boolean) 0 := ⟨⟨cdX2_isSettled, lw_t3 (List.mem_of_getElem? (i := 201) (by decide +kernel)) (by decide +kernel), inRX2, by decide +kernel⟩, imX2_isSettled, seX2_isSettled⟩
theorem kX5_70 : gKV RX5 70 yX5_keep cX5_keep 3 none 1 := ⟨⟨cdX5_keep, lw_t3 (List.mem_of_getElem? (i := 205) (by decide +kernel)) (by decide +kernel), inRX5, by decide +kernel⟩, imX5_keep, seX5_keep⟩
theorem kX5_230 : gKV RX5 230 yX2_snapshot cX2_snapshot 5 (some .long) 0 := ⟨⟨cdX2_snapshot, lw_t3 (List.mem_of_getElem? (i := 209) (by decide +kernel)) (by decide +kernel), inRX2, by decide +kernel⟩, imX2_snapshot, seX2_snapshot⟩
theorem kX8_121 : gKV RX8 121 yX5_answerAtEnd cX5_answerAtEnd 4 (some .int) 3 := ⟨⟨cdX5_answerAtEnd, lw_t3 (List.mem_of_getElem? (i := 213) (by decide +kernel)) (by decide +kernel), inRX5, by decide +kernel⟩, imX5_answerAtEnd, seX5_answerAtEnd⟩
theorem kX5_237 : gKV RX5 237 yX5_recorded cX5_recorded 6 (some .int) 3 := ⟨⟨cdX5_recorded, lw_t3 (List.mem_of_getElem? (i := 217) (by decide +kernel)) (by decide +kernel), inRX5, by decide +kernel⟩, imX5_recorded, seX5_recorded⟩
theorem kL_72 : gKV RL 72 yX8_state cX8_state 4 (some .int) 3 := ⟨⟨cdX8_state, lw_t3 (List.mem_of_getElem? (i := 223) (by decide +kernel)) (by decide +kernel), inRX8, by decide +kernel⟩, imX8_state, seX8_state⟩
theorem ctX8_124 : Cond.constant RX8 124 (-1000000) ∈ lw_g := lw_t3 (List.mem_of_getElem? (i := 227) (by decide +kernel)) (by decide +kernel)
theorem kX8_125 : gKV RX8 125 yX5_recorded cX5_recorded 6 (some .int) 3 := ⟨⟨cdX5_recorded, lw_t3 (List.mem_of_getElem? (i := 228) (by decide +kernel)) (by decide +kernel), inRX5, by decide +kernel⟩, imX5_recorded, seX5_recorded⟩
theorem kL_76 : gKV RL 76 yX8_sends cX8_sends 2 (some .int) 1 := ⟨⟨cdX8_sends, lw_t3 (List.mem_of_getElem? (i := 229) (by decide +kernel)) (by decide +kernel), inRX8, by decide +kernel⟩, imX8_sends, seX8_sends⟩
theorem kL_80 : gKV RL 80 yX8_sent cX8_sent 3 (some .int) 2 := ⟨⟨cdX8_sent, lw_t3 (List.mem_of_getElem? (i := 233) (by decide +kernel)) (by decide +kernel), inRX8, by decide +kernel⟩, imX8_sent, seX8_sent⟩
theorem kL_84 : gKV RL 84 yX8_ends cX8_ends 1 (some .int) 0 := ⟨⟨cdX8_ends, lw_t3 (List.mem_of_getElem? (i := 237) (by decide +kernel)) (by decide +kernel), inRX8, by decide +kernel⟩, imX8_ends, seX8_ends⟩
theorem kX8_134 : gKV RX8 134 yX5_settledFrom cX5_settledFrom 1 (some .int) 0 := ⟨⟨cdX5_settledFrom, lw_t4 (List.mem_of_getElem? (i := 1) (by decide +kernel)) (by decide +kernel), inRX5, by decide +kernel⟩, imX5_settledFrom, seX5_settledFrom⟩
theorem kX8_137 : gKS RX8 137 yX8_endOrNone cX8_endOrNone 1 (some .int) 1 := ⟨⟨cdX8_endOrNone, lw_t4 (List.mem_of_getElem? (i := 5) (by decide +kernel)) (by decide +kernel), inRX8, by decide +kernel⟩, stX8_endOrNone⟩
theorem kL_88 : gKV RL 88 yX8_up cX8_up 1 (some .int) 0 := ⟨⟨cdX8_up, lw_t4 (List.mem_of_getElem? (i := 8) (by decide +kernel)) (by decide +kernel), inRX8, by decide +kernel⟩, imX8_up, seX8_up⟩
theorem kX8_141 : gKV RX8 141 yX5_upBits cX5_upBits 3 (some .int) 0 := ⟨⟨cdX5_upBits, lw_t4 (List.mem_of_getElem? (i := 12) (by decide +kernel)) (by decide +kernel), inRX5, by decide +kernel⟩, imX5_upBits, seX5_upBits⟩
theorem kL_92 : gKV RL 92 yX8_log cX8_log 3 (some .int) 2 := ⟨⟨cdX8_log, lw_t4 (List.mem_of_getElem? (i := 16) (by decide +kernel)) (by decide +kernel), inRX8, by decide +kernel⟩, imX8_log, seX8_log⟩
theorem kX8_144 : gKV RX8 144 yX5_change cX5_change 7 (some .int) 2 := ⟨⟨cdX5_change, lw_t4 (List.mem_of_getElem? (i := 20) (by decide +kernel)) (by decide +kernel), inRX5, by decide +kernel⟩, imX5_change, seX5_change⟩
theorem kL_96 : gKV RL 96 yX8_plan cX8_plan 8 (some .int) 1 := ⟨⟨cdX8_plan, lw_t4 (List.mem_of_getElem? (i := 24) (by decide +kernel)) (by decide +kernel), inRX8, by decide +kernel⟩, imX8_plan, seX8_plan⟩
theorem ctX8_147 : Cond.constant RX8 147 (1000000000) ∈ lw_g := lw_t4 (List.mem_of_getElem? (i := 28) (by decide +kernel)) (by decide +kernel)
theorem kX8_148 : gKV RX8 148 yX1_setWakes cX1_setWakes 5 (some .boolean) 2 := ⟨⟨cdX1_setWakes, lw_t4 (List.mem_of_getElem? (i := 29) (by decide +kernel)) (by decide +kernel), inRX1, by decide +kernel⟩, imX1_setWakes, seX1_setWakes⟩
theorem kX1_65 : gKV RX1 65 yX1_hasKind cX1_hasKind 3 (some .boolean) 1 := ⟨⟨cdX1_hasKind, lw_t4 (List.mem_of_getElem? (i := 33) (by decide +kernel)) (by decide +kernel), inRX1, by decide +kernel⟩, imX1_hasKind, seX1_hasKind⟩
theorem kX8_155 : gKV RX8 155 yX5_cost cX5_cost 2 (some .int) 0 := ⟨⟨cdX5_cost, lw_t4 (List.mem_of_getElem? (i := 37) (by decide +kernel)) (by decide +kernel), inRX5, by decide +kernel⟩, imX5_cost, seX5_cost⟩
theorem kX5_241 : gKV RX5 241 yX5_upBits cX5_upBits 3 (some .int) 0 := ⟨⟨cdX5_upBits, lw_t4 (List.mem_of_getElem? (i := 41) (by decide +kernel)) (by decide +kernel), inRX5, by decide +kernel⟩, imX5_upBits, seX5_upBits⟩
theorem kX5_245 : gKS RX5 245 yJ6_bitCount_0f7a4 cJ6_bitCount_0f7a4 1 (some .int) 1 := ⟨⟨cdJ6_bitCount_0f7a4, lw_t4 (List.mem_of_getElem? (i := 42) (by decide +kernel)) (by decide +kernel), inRJ6, by decide +kernel⟩, stJ6_bitCount_0f7a4⟩
theorem ctJ6_265 : Cond.constant RJ6 265 (1431655765) ∈ lw_g := lw_t4 (List.mem_of_getElem? (i := 45) (by decide +kernel)) (by decide +kernel)
theorem ctJ6_266 : Cond.constant RJ6 266 (858993459) ∈ lw_g := lw_t4 (List.mem_of_getElem? (i := 46) (by decide +kernel)) (by decide +kernel)
theorem ctJ6_267 : Cond.constant RJ6 267 (252645135) ∈ lw_g := lw_t4 (List.mem_of_getElem? (i := 47) (by decide +kernel)) (by decide +kernel)
theorem kX5_250 : gKV RX5 250 yX5_settledFrom cX5_settledFrom 1 (some .int) 0 := ⟨⟨cdX5_settledFrom, lw_t4 (List.mem_of_getElem? (i := 48) (by decide +kernel)) (by decide +kernel), inRX5, by decide +kernel⟩, imX5_settledFrom, seX5_settledFrom⟩
theorem kL_100 : gKV RL 100 yX8_wakes cX8_wakes 2 (some .int) 1 := ⟨⟨cdX8_wakes, lw_t4 (List.mem_of_getElem? (i := 49) (by decide +kernel)) (by decide +kernel), inRX8, by decide +kernel⟩, imX8_wakes, seX8_wakes⟩
theorem kL_104 : gKV RL 104 yX8_count cX8_count 2 (some .int) 1 := ⟨⟨cdX8_count, lw_t4 (List.mem_of_getElem? (i := 53) (by decide +kernel)) (by decide +kernel), inRX8, by decide +kernel⟩, imX8_count, seX8_count⟩
theorem kX9_206 : gKS RX9 206 yX9_word cX9_word 7 (some .long) 7 := ⟨⟨cdX9_word, lw_t4 (List.mem_of_getElem? (i := 63) (by decide +kernel)) (by decide +kernel), inRX9, by decide +kernel⟩, stX9_word⟩
theorem kX9_225 : gKS RX9 225 yX9_more cX9_more 3 (some .long) 2 := ⟨⟨cdX9_more, lw_t4 (List.mem_of_getElem? (i := 66) (by decide +kernel)) (by decide +kernel), inRX9, by decide +kernel⟩, stX9_more⟩
theorem ctX9_223 : Cond.constantLong RX9 223 (27) ∈ lw_g := lw_t4 (List.mem_of_getElem? (i := 69) (by decide +kernel)) (by decide +kernel)
theorem kL_17 : gKV RL 17 yX9_feed cX9_feed 6 (some .int) 5 := ⟨⟨cdX9_feed, lw_t5 (List.mem_of_getElem? (i := 80) (by decide +kernel)) (by decide +kernel), inRX9, by decide +kernel⟩, imX9_feed, seX9_feed⟩
theorem kX9_216 : gKV RX9 216 yX9_put cX9_put 3 none 1 := ⟨⟨cdX9_put, lw_t5 (List.mem_of_getElem? (i := 84) (by decide +kernel)) (by decide +kernel), inRX9, by decide +kernel⟩, imX9_put, seX9_put⟩
theorem kL_22 : gKV RL 22 yX9_back cX9_back 2 (some .int) 1 := ⟨⟨cdX9_back, lw_t5 (List.mem_of_getElem? (i := 88) (by decide +kernel)) (by decide +kernel), inRX9, by decide +kernel⟩, imX9_back, seX9_back⟩
theorem kL_26 : gKV RL 26 yX9_read cX9_read 3 (some .int) 1 := ⟨⟨cdX9_read, lw_t5 (List.mem_of_getElem? (i := 92) (by decide +kernel)) (by decide +kernel), inRX9, by decide +kernel⟩, imX9_read, seX9_read⟩
theorem kX9_275 : gKV RX9 275 yX9_cut cX9_cut 8 none 0 := ⟨⟨cdX9_cut, lw_t5 (List.mem_of_getElem? (i := 96) (by decide +kernel)) (by decide +kernel), inRX9, by decide +kernel⟩, imX9_cut, seX9_cut⟩
theorem kX9_232 : gKV RX9 232 yX9_at cX9_at 2 (some .int) 1 := ⟨⟨cdX9_at, lw_t5 (List.mem_of_getElem? (i := 100) (by decide +kernel)) (by decide +kernel), inRX9, by decide +kernel⟩, imX9_at, seX9_at⟩
theorem kX9_236 : gKV RX9 236 yX9_token cX9_token 6 none 4 := ⟨⟨cdX9_token, lw_t5 (List.mem_of_getElem? (i := 104) (by decide +kernel)) (by decide +kernel), inRX9, by decide +kernel⟩, imX9_token, seX9_token⟩
theorem kX9_240 : gKS RX9 240 yX9_isLetter cX9_isLetter 1 (some .boolean) 1 := ⟨⟨cdX9_isLetter, lw_t5 (List.mem_of_getElem? (i := 108) (by decide +kernel)) (by decide +kernel), inRX9, by decide +kernel⟩, stX9_isLetter⟩
theorem kX9_244 : gKS RX9 244 yX9_isDigit cX9_isDigit 1 (some .boolean) 1 := ⟨⟨cdX9_isDigit, lw_t5 (List.mem_of_getElem? (i := 111) (by decide +kernel)) (by decide +kernel), inRX9, by decide +kernel⟩, stX9_isDigit⟩
theorem kX9_247 : gKV RX9 247 yX9_sign cX9_sign 6 (some .int) 3 := ⟨⟨cdX9_sign, lw_t5 (List.mem_of_getElem? (i := 114) (by decide +kernel)) (by decide +kernel), inRX9, by decide +kernel⟩, imX9_sign, seX9_sign⟩
theorem kX9_269 : gKV RX9 269 yX9_is cX9_is 2 (some .boolean) 1 := ⟨⟨cdX9_is, lw_t5 (List.mem_of_getElem? (i := 118) (by decide +kernel)) (by decide +kernel), inRX9, by decide +kernel⟩, imX9_is, seX9_is⟩
theorem kX9_287 : gKV RX9 287 yX9_tellRule cX9_tellRule 5 none 0 := ⟨⟨cdX9_tellRule, lw_t5 (List.mem_of_getElem? (i := 122) (by decide +kernel)) (by decide +kernel), inRX9, by decide +kernel⟩, imX9_tellRule, seX9_tellRule⟩
theorem kX9_266 : gKV RX9 266 yX9_fail cX9_fail 2 none 1 := ⟨⟨cdX9_fail, lw_t5 (List.mem_of_getElem? (i := 126) (by decide +kernel)) (by decide +kernel), inRX9, by decide +kernel⟩, imX9_fail, seX9_fail⟩
theorem kX9_272 : gKV RX9 272 yX9_next cX9_next 1 none 0 := ⟨⟨cdX9_next, lw_t5 (List.mem_of_getElem? (i := 130) (by decide +kernel)) (by decide +kernel), inRX9, by decide +kernel⟩, imX9_next, seX9_next⟩
theorem kX9_294 : gKV RX9 294 yX9_must cX9_must 2 none 1 := ⟨⟨cdX9_must, lw_t5 (List.mem_of_getElem? (i := 134) (by decide +kernel)) (by decide +kernel), inRX9, by decide +kernel⟩, imX9_must, seX9_must⟩
theorem kX9_297 : gKV RX9 297 yX9_wrong cX9_wrong 4 none 2 := ⟨⟨cdX9_wrong, lw_t5 (List.mem_of_getElem? (i := 138) (by decide +kernel)) (by decide +kernel), inRX9, by decide +kernel⟩, imX9_wrong, seX9_wrong⟩
theorem kX9_301 : gKV RX9 301 yX9_relation cX9_relation 6 none 1 := ⟨⟨cdX9_relation, lw_t5 (List.mem_of_getElem? (i := 142) (by decide +kernel)) (by decide +kernel), inRX9, by decide +kernel⟩, imX9_relation, seX9_relation⟩
theorem kX9_305 : gKV RX9 305 yX9_expression cX9_expression 5 none 0 := ⟨⟨cdX9_expression, lw_t5 (List.mem_of_getElem? (i := 146) (by decide +kernel)) (by decide +kernel), inRX9, by decide +kernel⟩, imX9_expression, seX9_expression⟩
theorem kX9_311 : gKV RX9 311 yX9_emit cX9_emit 3 none 2 := ⟨⟨cdX9_emit, lw_t5 (List.mem_of_getElem? (i := 150) (by decide +kernel)) (by decide +kernel), inRX9, by decide +kernel⟩, imX9_emit, seX9_emit⟩
theorem kX9_314 : gKV RX9 314 yX9_comesOut cX9_comesOut 3 none 1 := ⟨⟨cdX9_comesOut, lw_t5 (List.mem_of_getElem? (i := 154) (by decide +kernel)) (by decide +kernel), inRX9, by decide +kernel⟩, imX9_comesOut, seX9_comesOut⟩
theorem kL_31 : gKV RL 31 yX9_place cX9_place 1 (some .int) 0 := ⟨⟨cdX9_place, lw_t5 (List.mem_of_getElem? (i := 158) (by decide +kernel)) (by decide +kernel), inRX9, by decide +kernel⟩, imX9_place, seX9_place⟩
theorem kL_36 : gKV RL 36 yX9_machine cX9_machine 4 (some .int) 3 := ⟨⟨cdX9_machine, lw_t5 (List.mem_of_getElem? (i := 162) (by decide +kernel)) (by decide +kernel), inRX9, by decide +kernel⟩, imX9_machine, seX9_machine⟩
theorem kL_41 : gKV RL 41 yX9_file cX9_file 3 (some .int) 2 := ⟨⟨cdX9_file, lw_t5 (List.mem_of_getElem? (i := 166) (by decide +kernel)) (by decide +kernel), inRX9, by decide +kernel⟩, imX9_file, seX9_file⟩
theorem kL_46 : gKV RL 46 yX9_width cX9_width 2 (some .boolean) 1 := ⟨⟨cdX9_width, lw_t5 (List.mem_of_getElem? (i := 170) (by decide +kernel)) (by decide +kernel), inRX9, by decide +kernel⟩, imX9_width, seX9_width⟩
theorem kL_51 : gKV RL 51 yX9_wake cX9_wake 3 (some .boolean) 2 := ⟨⟨cdX9_wake, lw_t5 (List.mem_of_getElem? (i := 174) (by decide +kernel)) (by decide +kernel), inRX9, by decide +kernel⟩, imX9_wake, seX9_wake⟩
theorem kX9_323 : gKS RX9 323 yX9_isTick cX9_isTick 1 (some .boolean) 1 := ⟨⟨cdX9_isTick, lw_t5 (List.mem_of_getElem? (i := 178) (by decide +kernel)) (by decide +kernel), inRX9, by decide +kernel⟩, stX9_isTick⟩
theorem kL_55 : gKV RL 55 yX9_lose cX9_lose 3 (some .int) 2 := ⟨⟨cdX9_lose, lw_t5 (List.mem_of_getElem? (i := 181) (by decide +kernel)) (by decide +kernel), inRX9, by decide +kernel⟩, imX9_lose, seX9_lose⟩
theorem kX9_329 : gKV RX9 329 yX9_isMachine cX9_isMachine 2 (some .boolean) 1 := ⟨⟨cdX9_isMachine, lw_t5 (List.mem_of_getElem? (i := 185) (by decide +kernel)) (by decide +kernel), inRX9, by decide +kernel⟩, imX9_isMachine, seX9_isMachine⟩
theorem kX9_332 : gKV RX9 332 yX9_fact cX9_fact 1 (some .int) 0 := ⟨⟨cdX9_fact, lw_t5 (List.mem_of_getElem? (i := 189) (by decide +kernel)) (by decide +kernel), inRX9, by decide +kernel⟩, imX9_fact, seX9_fact⟩
theorem kL_59 : gKV RL 59 yX9_spoil cX9_spoil 4 (some .int) 3 := ⟨⟨cdX9_spoil, lw_t5 (List.mem_of_getElem? (i := 193) (by decide +kernel)) (by decide +kernel), inRX9, by decide +kernel⟩, imX9_spoil, seX9_spoil⟩
theorem kX9_336 : gKV RX9 336 yX9_isFile cX9_isFile 2 (some .boolean) 1 := ⟨⟨cdX9_isFile, lw_t5 (List.mem_of_getElem? (i := 197) (by decide +kernel)) (by decide +kernel), inRX9, by decide +kernel⟩, imX9_isFile, seX9_isFile⟩
theorem kL_63 : gKV RL 63 yX9_down cX9_down 5 (some .int) 3 := ⟨⟨cdX9_down, lw_t5 (List.mem_of_getElem? (i := 201) (by decide +kernel)) (by decide +kernel), inRX9, by decide +kernel⟩, imX9_down, seX9_down⟩
theorem kL_67 : gKV RL 67 yX9_cut_ cX9_cut_ 3 (some .int) 2 := ⟨⟨cdX9_cut_, lw_t5 (List.mem_of_getElem? (i := 205) (by decide +kernel)) (by decide +kernel), inRX9, by decide +kernel⟩, imX9_cut_, seX9_cut_⟩
theorem kL_71 : gKV RL 71 yX9_answer cX9_answer 5 (some .int) 3 := ⟨⟨cdX9_answer, lw_t5 (List.mem_of_getElem? (i := 209) (by decide +kernel)) (by decide +kernel), inRX9, by decide +kernel⟩, imX9_answer, seX9_answer⟩
theorem kX9_387 : gKV RX9 387 yX9_goes cX9_goes 3 none 0 := ⟨⟨cdX9_goes, lw_t5 (List.mem_of_getElem? (i := 213) (by decide +kernel)) (by decide +kernel), inRX9, by decide +kernel⟩, imX9_goes, seX9_goes⟩
theorem kX9_353 : gKV RX9 353 yX9_clears cX9_clears 2 none 1 := ⟨⟨cdX9_clears, lw_t5 (List.mem_of_getElem? (i := 217) (by decide +kernel)) (by decide +kernel), inRX9, by decide +kernel⟩, imX9_clears, seX9_clears⟩
theorem kX9_356 : gKV RX9 356 yX9_powers cX9_powers 3 none 2 := ⟨⟨cdX9_powers, lw_t5 (List.mem_of_getElem? (i := 221) (by decide +kernel)) (by decide +kernel), inRX9, by decide +kernel⟩, imX9_powers, seX9_powers⟩
theorem kX9_359 : gKV RX9 359 yX9_question cX9_question 5 none 2 := ⟨⟨cdX9_question, lw_t5 (List.mem_of_getElem? (i := 225) (by decide +kernel)) (by decide +kernel), inRX9, by decide +kernel⟩, imX9_question, seX9_question⟩
theorem kX9_371 : gKV RX9 371 yX9_asks cX9_asks 6 none 5 := ⟨⟨cdX9_asks, lw_t5 (List.mem_of_getElem? (i := 229) (by decide +kernel)) (by decide +kernel), inRX9, by decide +kernel⟩, imX9_asks, seX9_asks⟩
theorem kX9_375 : gKV RX9 375 yX9_answers cX9_answers 6 (some .int) 1 := ⟨⟨cdX9_answers, lw_t5 (List.mem_of_getElem? (i := 233) (by decide +kernel)) (by decide +kernel), inRX9, by decide +kernel⟩, imX9_answers, seX9_answers⟩
theorem kX9_346 : gKV RX9 346 yX9_holds cX9_holds 8 (some .boolean) 2 := ⟨⟨cdX9_holds, lw_t5 (List.mem_of_getElem? (i := 237) (by decide +kernel)) (by decide +kernel), inRX9, by decide +kernel⟩, imX9_holds, seX9_holds⟩
theorem kX9_339 : gKV RX9 339 yX9_value cX9_value 7 (some .int) 2 := ⟨⟨cdX9_value, lw_t6 (List.mem_of_getElem? (i := 1) (by decide +kernel)) (by decide +kernel), inRX9, by decide +kernel⟩, imX9_value, seX9_value⟩
theorem kX9_378 : gKV RX9 378 yX9_rescue cX9_rescue 3 none 2 := ⟨⟨cdX9_rescue, lw_t6 (List.mem_of_getElem? (i := 5) (by decide +kernel)) (by decide +kernel), inRX9, by decide +kernel⟩, imX9_rescue, seX9_rescue⟩
theorem kX9_362 : gKV RX9 362 yX9_gives cX9_gives 6 none 1 := ⟨⟨cdX9_gives, lw_t6 (List.mem_of_getElem? (i := 9) (by decide +kernel)) (by decide +kernel), inRX9, by decide +kernel⟩, imX9_gives, seX9_gives⟩
theorem kX9_381 : gKV RX9 381 yX9_wants cX9_wants 3 (some .boolean) 2 := ⟨⟨cdX9_wants, lw_t6 (List.mem_of_getElem? (i := 13) (by decide +kernel)) (by decide +kernel), inRX9, by decide +kernel⟩, imX9_wants, seX9_wants⟩
theorem kX9_384 : gKV RX9 384 yX9_gets cX9_gets 5 none 2 := ⟨⟨cdX9_gets, lw_t6 (List.mem_of_getElem? (i := 17) (by decide +kernel)) (by decide +kernel), inRX9, by decide +kernel⟩, imX9_gets, seX9_gets⟩
theorem kX9_365 : gKV RX9 365 yX9_writes cX9_writes 2 none 1 := ⟨⟨cdX9_writes, lw_t6 (List.mem_of_getElem? (i := 21) (by decide +kernel)) (by decide +kernel), inRX9, by decide +kernel⟩, imX9_writes, seX9_writes⟩
theorem kX9_368 : gKV RX9 368 yX9_keeps cX9_keeps 4 none 2 := ⟨⟨cdX9_keeps, lw_t6 (List.mem_of_getElem? (i := 25) (by decide +kernel)) (by decide +kernel), inRX9, by decide +kernel⟩, imX9_keeps, seX9_keeps⟩
theorem kL_75 : gKV RL 75 yX9_state cX9_state 5 (some .int) 3 := ⟨⟨cdX9_state, lw_t6 (List.mem_of_getElem? (i := 29) (by decide +kernel)) (by decide +kernel), inRX9, by decide +kernel⟩, imX9_state, seX9_state⟩
theorem ctX9_390 : Cond.constant RX9 390 (-1000000) ∈ lw_g := lw_t6 (List.mem_of_getElem? (i := 33) (by decide +kernel)) (by decide +kernel)
theorem kL_79 : gKV RL 79 yX9_sends cX9_sends 2 (some .int) 1 := ⟨⟨cdX9_sends, lw_t6 (List.mem_of_getElem? (i := 34) (by decide +kernel)) (by decide +kernel), inRX9, by decide +kernel⟩, imX9_sends, seX9_sends⟩
theorem kL_83 : gKV RL 83 yX9_sent cX9_sent 3 (some .int) 2 := ⟨⟨cdX9_sent, lw_t6 (List.mem_of_getElem? (i := 38) (by decide +kernel)) (by decide +kernel), inRX9, by decide +kernel⟩, imX9_sent, seX9_sent⟩
theorem kL_87 : gKV RL 87 yX9_ends cX9_ends 2 (some .int) 0 := ⟨⟨cdX9_ends, lw_t6 (List.mem_of_getElem? (i := 42) (by decide +kernel)) (by decide +kernel), inRX9, by decide +kernel⟩, imX9_ends, seX9_ends⟩
theorem kX9_391 : gKV RX9 391 yX9_isDone cX9_isDone 3 (some .boolean) 1 := ⟨⟨cdX9_isDone, lw_t6 (List.mem_of_getElem? (i := 46) (by decide +kernel)) (by decide +kernel), inRX9, by decide +kernel⟩, imX9_isDone, seX9_isDone⟩
theorem kL_91 : gKV RL 91 yX9_up cX9_up 3 (some .int) 0 := ⟨⟨cdX9_up, lw_t6 (List.mem_of_getElem? (i := 50) (by decide +kernel)) (by decide +kernel), inRX9, by decide +kernel⟩, imX9_up, seX9_up⟩
theorem kL_95 : gKV RL 95 yX9_log cX9_log 7 (some .int) 2 := ⟨⟨cdX9_log, lw_t6 (List.mem_of_getElem? (i := 54) (by decide +kernel)) (by decide +kernel), inRX9, by decide +kernel⟩, imX9_log, seX9_log⟩
theorem kL_99 : gKV RL 99 yX9_plan cX9_plan 11 (some .int) 1 := ⟨⟨cdX9_plan, lw_t6 (List.mem_of_getElem? (i := 58) (by decide +kernel)) (by decide +kernel), inRX9, by decide +kernel⟩, imX9_plan, seX9_plan⟩
theorem kX9_394 : gKV RX9 394 yX9_up cX9_up 3 (some .int) 0 := ⟨⟨cdX9_up, lw_t6 (List.mem_of_getElem? (i := 62) (by decide +kernel)) (by decide +kernel), inRX9, by decide +kernel⟩, imX9_up, seX9_up⟩
theorem kX9_397 : gKS RX9 397 yX9_bits cX9_bits 3 (some .int) 1 := ⟨⟨cdX9_bits, lw_t6 (List.mem_of_getElem? (i := 63) (by decide +kernel)) (by decide +kernel), inRX9, by decide +kernel⟩, stX9_bits⟩
theorem kX9_400 : gKV RX9 400 yX9_ends cX9_ends 2 (some .int) 0 := ⟨⟨cdX9_ends, lw_t6 (List.mem_of_getElem? (i := 66) (by decide +kernel)) (by decide +kernel), inRX9, by decide +kernel⟩, imX9_ends, seX9_ends⟩
theorem kL_103 : gKV RL 103 yX9_wakes cX9_wakes 2 (some .int) 1 := ⟨⟨cdX9_wakes, lw_t6 (List.mem_of_getElem? (i := 67) (by decide +kernel)) (by decide +kernel), inRX9, by decide +kernel⟩, imX9_wakes, seX9_wakes⟩
theorem kL_107 : gKV RL 107 yX9_count cX9_count 2 (some .int) 1 := ⟨⟨cdX9_count, lw_t6 (List.mem_of_getElem? (i := 71) (by decide +kernel)) (by decide +kernel), inRX9, by decide +kernel⟩, imX9_count, seX9_count⟩
