/-! THE TABLES, held against the words of the Statement -/
def zt_Ts : List (List FieldType) := [zt_T0, zt_T1, zt_T2, zt_T3, zt_T4, zt_T5, zt_T6, zt_T7, zt_T8, zt_T9, zt_T10, zt_T11, zt_T12, zt_T13, zt_T14]
/-- of each class: the places of its fields' words; of instantiable; of initialized -/
def zt_lay : List (List Nat × Nat × Nat) := [([219, 221, 223, 225, 227, 229, 231, 233], 94, 62), ([124, 126, 128, 130], 102, 64), ([799, 801, 803, 805], 638, 65), ([147, 149], 139, 67), ([170, 172, 174, 176, 178, 180, 182, 184], 153, 68), ([201, 203, 205, 207], 187, 69), ([844, 846, 848, 850], 628, 77), ([940, 942, 944], 932, 85), ([984, 986], 975, 87), ([1021, 1023, 1025, 1027, 1029, 1031, 1033, 1035], 991, 83), ([1144, 1146, 1148, 1150, 1152, 1154, 1156], 1118, 90), ([1373, 1375, 1377, 1379, 1381, 1383, 1385, 1387, 1389, 1391, 1393, 1395, 1397, 1399, 1401, 1403, 1405, 1407, 1409, 1411, 1413, 1415, 1417, 1419, 1421, 1423, 1425, 1427, 1429, 1431, 1433, 1435, 1437, 1439, 1441, 1443, 1445, 1447, 1449, 1451, 1453, 1455, 1457, 1459, 1461, 1463, 1465, 1467, 1469, 1471, 1473, 1475, 1477, 1479, 1481, 1483, 1485, 1487, 1489, 1491, 1493], 1307, 70), ([], 1079, 89), ([], 663, 81), ([], 1196, 91)]
def zt_cchk (c : Nat) : Bool := match zt_cl[c]?, zt_lay[c]?, zt_Ts[c]? with
  | some (C, T, N), some (ps, pi, pn), some ts => (List.range N).all (fun k => decide (parseFieldDescriptor (T k).2.2.1 = some (ts.getD k .int)) && decide (z_wl[ps.getD k 0]? = some (u_lay C T k)) && (List.range N).all (fun j => decide (j = k) || decide ((T j).2.1 ≠ (T k).2.1))) && decide (z_wl[pn]? = some (.initialized C))
  | _, _, _ => false
theorem zt_c0 : zt_cchk 0 = true := by decide +kernel
theorem zt_c1 : zt_cchk 1 = true := by decide +kernel
theorem zt_c2 : zt_cchk 2 = true := by decide +kernel
theorem zt_c3 : zt_cchk 3 = true := by decide +kernel
theorem zt_c4 : zt_cchk 4 = true := by decide +kernel
theorem zt_c5 : zt_cchk 5 = true := by decide +kernel
theorem zt_c6 : zt_cchk 6 = true := by decide +kernel
theorem zt_c7 : zt_cchk 7 = true := by decide +kernel
theorem zt_c8 : zt_cchk 8 = true := by decide +kernel
theorem zt_c9 : zt_cchk 9 = true := by decide +kernel
theorem zt_c10 : zt_cchk 10 = true := by decide +kernel
theorem zt_c11 : zt_cchk 11 = true := by decide +kernel
theorem zt_c12 : zt_cchk 12 = true := by decide +kernel
theorem zt_c13 : zt_cchk 13 = true := by decide +kernel
theorem zt_c14 : zt_cchk 14 = true := by decide +kernel
theorem zt_cok : ∀ c, c < 15 → zt_cchk c = true := by
  intro c hc
  match c, hc with
  | 0, _ => exact zt_c0
  | 1, _ => exact zt_c1
  | 2, _ => exact zt_c2
  | 3, _ => exact zt_c3
  | 4, _ => exact zt_c4
  | 5, _ => exact zt_c5
  | 6, _ => exact zt_c6
  | 7, _ => exact zt_c7
  | 8, _ => exact zt_c8
  | 9, _ => exact zt_c9
  | 10, _ => exact zt_c10
  | 11, _ => exact zt_c11
  | 12, _ => exact zt_c12
  | 13, _ => exact zt_c13
  | 14, _ => exact zt_c14
def zt_fchk (q : (Nat × Nat) × (Nat × Nat × FieldType) × Nat × Nat) : Bool := match zt_cl[q.2.1.1]? with
  | some (_, T, N) => decide (q.2.1.2.1 < N) && decide (z_wl[q.2.2.1]? = some (.fieldLink (zt_cn q.1.1) q.1.2 (T q.2.1.2.1).1 (T q.2.1.2.1).2.1 (T q.2.1.2.1).2.2.1)) && decide (parseFieldDescriptor (T q.2.1.2.1).2.2.1 = some q.2.1.2.2)
  | none => false
theorem zt_fok : zt_fldL.all zt_fchk = true := by decide +kernel
/-- the handlers of the methods, as the class files have them -/
def zt_ehL : List (Nat × List (Nat × Nat × Nat × Nat)) := [(157, [(0, 11, 14, 15), (0, 11, 18, 13)]), (176, [(0, 11, 14, 15), (0, 11, 18, 13)]), (212, [(0, 10, 13, 25)]), (213, [(0, 7, 10, 13)]), (215, [(0, 8, 11, 15)]), (217, [(0, 8, 11, 13), (0, 8, 14, 15)])]
def zt_eh (i : Nat) : List (Nat × Nat × Nat × Nat) := ((zt_ehL.find? (fun q => q.1 == i)).map (fun q => q.2)).getD []
def zt_nchk (q : (Nat × Nat) × (Nat × Nat × List Value) × Nat) : Bool := match zt_cl[q.2.1.2.1]?, zt_lay[q.2.1.2.1]?, zt_Ts[q.2.1.2.1]? with
  | some (C, _, N), some (_, pi, _), some ts => decide (z_wl[q.2.2]? = some (.classLink (zt_cn q.1.1) q.1.2 C)) && decide (z_wl[pi]? = some (.instantiable C q.2.1.1)) && decide (q.2.1.2.2 = (List.range N).map (fun j => defaultValue (ts.getD j .int)))
  | _, _, _ => false
theorem zt_nok : zt_newL.all zt_nchk = true := by decide +kernel
def zt_arC (t : Nat) : Option (String × Nat) := match t with
  | 6 => some ("ZoneDesk$RuleSet", 135)
  | 7 => some ("ZoneDesk$Era", 137)
  | 8 => some ("ZoneDesk$Rule", 193)
  | _ => none
def zt_achk (q : (Nat × Nat) × Nat × Nat) : Bool := match zt_arC q.2.1 with
  | some (C, po) => decide (z_wl[q.2.2]? = some (.classLink (zt_cn q.1.1) q.1.2 C)) && decide (z_wl[po]? = some (.arrayOver (.object C)))
  | none => false
theorem zt_aok : zt_anwL.all zt_achk = true := by decide +kernel
def zt_lchk (q : (Nat × Nat) × Value × Nat) : Bool := match q.2.1 with
  | .int v => decide (z_wl[q.2.2]? = some (.constant (zt_cn q.1.1) q.1.2 v))
  | .retAddr k => decide (k % 2 = 0) && (match zt_strs[k / 2]? with
    | some x => decide (x.1 = zt_cn q.1.1) && decide (x.2.1 = q.1.2)
    | none => false)
  | _ => false
theorem zt_lok : zt_ldcL.all zt_lchk = true := by decide +kernel
def zt_gchk (q : (Nat × Nat) × Int64 × Nat) : Bool := decide (z_wl[q.2.2]? = some (.constantLong (zt_cn q.1.1) q.1.2 q.2.1))
theorem zt_gok : zt_lngL.all zt_gchk = true := by decide +kernel
def zt_schk (q : (Nat × Nat) × Value × Nat) : Bool := (decide (q.2.1 = .int 1) && decide (z_wl[q.2.2]? = some (.fieldLink (zt_cn q.1.1) q.1.2 "java/lang/String" "COMPACT_STRINGS" "Z"))) || (decide (q.2.1 = .retAddr 150) && decide (z_wl[q.2.2]? = some (.fieldLink (zt_cn q.1.1) q.1.2 "jdk/internal/util/Preconditions" "SIOOBE_FORMATTER" "Ljava/util/function/BiFunction;")))
theorem zt_sok : zt_stcL.all zt_schk = true := by decide +kernel
def zt_tchk (q : (Nat × Nat) × Bool × Nat) : Bool := decide (z_wl[q.2.2]? = some (.classLink (zt_cn q.1.1) q.1.2 (if q.2.1 then "java/lang/String" else "[B")))
theorem zt_tok : zt_cstL.all zt_tchk = true := by decide +kernel
theorem zt_ar_byte : z_wl[133]? = some (.arrayClass .byte) := by decide +kernel
theorem zt_ar_long : z_wl[210]? = some (.arrayClass .long) := by decide +kernel
theorem zt_ar_int : z_wl[853]? = some (.arrayClass .int) := by decide +kernel
theorem zt_ar_char : z_wl[1496]? = some (.arrayClass .char) := by decide +kernel
theorem zt_ar_boolean : z_wl[1497]? = some (.arrayClass .boolean) := by decide +kernel
theorem zt_w_oi1 : z_wl[99]? = some (.instanceMethod objectInit) := by decide +kernel
theorem zt_w_ac1 : z_wl[287]? = some (.static arraycopyName) := by decide +kernel
theorem zt_w_ac2 : z_wl[288]? = some (.native arraycopyName) := by decide +kernel
theorem zt_w_ac3 : z_wl[74]? = some (.initialized "java/lang/System") := by decide +kernel
theorem zt_w_cl1 : z_wl[277]? = some (.sameMethod "[B" "java/lang/Object" "clone" "()Ljava/lang/Object;") := by decide +kernel
theorem zt_w_cl2 : z_wl[278]? = some (.native ⟨"java/lang/Object", "clone", "()Ljava/lang/Object;"⟩) := by decide +kernel
theorem zt_w_cl3 : z_wl[279]? = some (.instanceMethod ⟨"java/lang/Object", "clone", "()Ljava/lang/Object;"⟩) := by decide +kernel
theorem zt_w_cl5 : z_wl[281]? = some (.castable "[B" "java/lang/Cloneable") := by decide +kernel
theorem zt_w_cl4 : z_wl[280]? = some (.selects "[B" ⟨"[B", "clone", "()Ljava/lang/Object;"⟩ ⟨"java/lang/Object", "clone", "()Ljava/lang/Object;"⟩) := by decide +kernel
theorem zt_w_oi2 : z_wl[100]? = some (.code objectInit ⟨#[0xb1]⟩ 1 none) := by decide +kernel
def zt_mchk (q : (Nat × Nat) × (Nat × Nat × Nat) × Nat) : Bool := match q.2.1.1 with
  | 3 => decide (z_wl[q.2.2]? = some (.methodLink (zt_cn q.1.1) q.1.2 objectInit))
  | 4 => decide (z_wl[q.2.2]? = some (.methodLink (zt_cn q.1.1) q.1.2 arraycopyName))
  | 6 => decide (z_wl[q.2.2]? = some (.methodLink (zt_cn q.1.1) q.1.2 ⟨"[B", "clone", "()Ljava/lang/Object;"⟩))
  | _ => true
theorem zt_mok : zt_mthL.all zt_mchk = true := by decide +kernel
