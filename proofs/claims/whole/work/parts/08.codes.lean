/-! THE CODES of the methods, held against the words -/
/-- the word of a method's code -/
def z_cw (j : Nat) : Cond := if zt_eh j = [] then .code (zt_name j) (zt_code j) (zt_ml j) (zt_ret j) else .codeWith (zt_name j) (zt_code j) (zt_ml j) (zt_ret j) (zt_eh j)
theorem zt_k0 : lw_tbl[1178]? = some (z_cw 0) := by decide +kernel
theorem zt_k1 : lw_tbl[556]? = some (z_cw 1) := by decide +kernel
theorem zt_k2 : lw_tbl[349]? = some (z_cw 2) := by decide +kernel
theorem zt_k3 : lw_tbl[560]? = some (z_cw 3) := by decide +kernel
theorem zt_k4 : lw_tbl[552]? = some (z_cw 4) := by decide +kernel
theorem zt_k5 : lw_tbl[345]? = some (z_cw 5) := by decide +kernel
theorem zt_k6 : lw_tbl[1065]? = some (z_cw 6) := by decide +kernel
theorem zt_k7 : lw_tbl[978]? = some (z_cw 7) := by decide +kernel
theorem zt_k8 : lw_tbl[960]? = some (z_cw 8) := by decide +kernel
theorem zt_k9 : lw_tbl[378]? = some (z_cw 9) := by decide +kernel
theorem zt_k10 : lw_tbl[1290]? = some (z_cw 10) := by decide +kernel
theorem zt_k11 : lw_tbl[1303]? = some (z_cw 11) := by decide +kernel
theorem zt_k12 : lw_tbl[935]? = some (z_cw 12) := by decide +kernel
theorem zt_k13 : lw_tbl[402]? = some (z_cw 13) := by decide +kernel
theorem zt_k14 : lw_tbl[142]? = some (z_cw 14) := by decide +kernel
theorem zt_k15 : lw_tbl[505]? = some (z_cw 15) := by decide +kernel
theorem zt_k16 : lw_tbl[529]? = some (z_cw 16) := by decide +kernel
theorem zt_k17 : lw_tbl[156]? = some (z_cw 17) := by decide +kernel
theorem zt_k18 : lw_tbl[1220]? = some (z_cw 18) := by decide +kernel
theorem zt_k19 : lw_tbl[1249]? = some (z_cw 19) := by decide +kernel
theorem zt_k20 : lw_tbl[1268]? = some (z_cw 20) := by decide +kernel
theorem zt_k21 : lw_tbl[1238]? = some (z_cw 21) := by decide +kernel
theorem zt_k22 : lw_tbl[410]? = some (z_cw 22) := by decide +kernel
theorem zt_k23 : lw_tbl[190]? = some (z_cw 23) := by decide +kernel
theorem zt_k24 : lw_tbl[369]? = some (z_cw 24) := by decide +kernel
theorem zt_k25 : lw_tbl[617]? = some (z_cw 25) := by decide +kernel
theorem zt_k26 : lw_tbl[373]? = some (z_cw 26) := by decide +kernel
theorem zt_k27 : lw_tbl[1310]? = some (z_cw 27) := by decide +kernel
theorem zt_k28 : lw_tbl[1696]? = some (z_cw 28) := by decide +kernel
theorem zt_k29 : lw_tbl[1705]? = some (z_cw 29) := by decide +kernel
theorem zt_k30 : lw_tbl[1677]? = some (z_cw 30) := by decide +kernel
theorem zt_k31 : lw_tbl[1607]? = some (z_cw 31) := by decide +kernel
theorem zt_k32 : lw_tbl[1729]? = some (z_cw 32) := by decide +kernel
theorem zt_k33 : lw_tbl[1603]? = some (z_cw 33) := by decide +kernel
theorem zt_k34 : lw_tbl[1532]? = some (z_cw 34) := by decide +kernel
theorem zt_k35 : lw_tbl[1587]? = some (z_cw 35) := by decide +kernel
theorem zt_k36 : lw_tbl[1575]? = some (z_cw 36) := by decide +kernel
theorem zt_k37 : lw_tbl[1709]? = some (z_cw 37) := by decide +kernel
theorem zt_k38 : lw_tbl[1528]? = some (z_cw 38) := by decide +kernel
theorem zt_k39 : lw_tbl[1595]? = some (z_cw 39) := by decide +kernel
theorem zt_k40 : lw_tbl[1517]? = some (z_cw 40) := by decide +kernel
theorem zt_k41 : lw_tbl[1688]? = some (z_cw 41) := by decide +kernel
theorem zt_k42 : lw_tbl[1623]? = some (z_cw 42) := by decide +kernel
theorem zt_k43 : lw_tbl[1540]? = some (z_cw 43) := by decide +kernel
theorem zt_k44 : lw_tbl[1635]? = some (z_cw 44) := by decide +kernel
theorem zt_k45 : lw_tbl[1599]? = some (z_cw 45) := by decide +kernel
theorem zt_k46 : lw_tbl[1536]? = some (z_cw 46) := by decide +kernel
theorem zt_k47 : lw_tbl[1513]? = some (z_cw 47) := by decide +kernel
theorem zt_k48 : lw_tbl[1501]? = some (z_cw 48) := by decide +kernel
theorem zt_k49 : lw_tbl[1552]? = some (z_cw 49) := by decide +kernel
theorem zt_k50 : lw_tbl[1581]? = some (z_cw 50) := by decide +kernel
theorem zt_k51 : lw_tbl[1505]? = some (z_cw 51) := by decide +kernel
theorem zt_k52 : lw_tbl[108]? = some (z_cw 52) := by decide +kernel
theorem zt_k53 : lw_tbl[650]? = some (z_cw 53) := by decide +kernel
theorem zt_k54 : lw_tbl[293]? = some (z_cw 54) := by decide +kernel
theorem zt_k55 : lw_tbl[246]? = some (z_cw 55) := by decide +kernel
theorem zt_k56 : lw_tbl[521]? = some (z_cw 56) := by decide +kernel
theorem zt_k57 : lw_tbl[1071]? = some (z_cw 57) := by decide +kernel
theorem zt_k58 : lw_tbl[580]? = some (z_cw 58) := by decide +kernel
theorem zt_k59 : lw_tbl[1075]? = some (z_cw 59) := by decide +kernel
theorem zt_k60 : lw_tbl[609]? = some (z_cw 60) := by decide +kernel
theorem zt_k61 : lw_tbl[267]? = some (z_cw 61) := by decide +kernel
theorem zt_k62 : lw_tbl[285]? = some (z_cw 62) := by decide +kernel
theorem zt_k63 : lw_tbl[879]? = some (z_cw 63) := by decide +kernel
theorem zt_k64 : lw_tbl[423]? = some (z_cw 64) := by decide +kernel
theorem zt_k65 : lw_tbl[968]? = some (z_cw 65) := by decide +kernel
theorem zt_k66 : lw_tbl[436]? = some (z_cw 66) := by decide +kernel
theorem zt_k67 : lw_tbl[296]? = some (z_cw 67) := by decide +kernel
theorem zt_k68 : lw_tbl[443]? = some (z_cw 68) := by decide +kernel
theorem zt_k69 : lw_tbl[514]? = some (z_cw 69) := by decide +kernel
theorem zt_k70 : lw_tbl[448]? = some (z_cw 70) := by decide +kernel
theorem zt_k71 : lw_tbl[661]? = some (z_cw 71) := by decide +kernel
theorem zt_k72 : lw_tbl[320]? = some (z_cw 72) := by decide +kernel
theorem zt_k73 : lw_tbl[466]? = some (z_cw 73) := by decide +kernel
theorem zt_k74 : lw_tbl[341]? = some (z_cw 74) := by decide +kernel
theorem zt_k75 : lw_tbl[613]? = some (z_cw 75) := by decide +kernel
theorem zt_k76 : lw_tbl[583]? = some (z_cw 76) := by decide +kernel
theorem zt_k77 : lw_tbl[1068]? = some (z_cw 77) := by decide +kernel
theorem zt_k78 : lw_tbl[604]? = some (z_cw 78) := by decide +kernel
theorem zt_k79 : lw_tbl[929]? = some (z_cw 79) := by decide +kernel
theorem zt_k80 : lw_tbl[406]? = some (z_cw 80) := by decide +kernel
theorem zt_k81 : lw_tbl[525]? = some (z_cw 81) := by decide +kernel
theorem zt_k82 : lw_tbl[1264]? = some (z_cw 82) := by decide +kernel
theorem zt_k83 : lw_tbl[1234]? = some (z_cw 83) := by decide +kernel
theorem zt_k84 : lw_tbl[1253]? = some (z_cw 84) := by decide +kernel
theorem zt_k85 : lw_tbl[391]? = some (z_cw 85) := by decide +kernel
theorem zt_k86 : lw_tbl[365]? = some (z_cw 86) := by decide +kernel
theorem zt_k87 : lw_tbl[1700]? = some (z_cw 87) := by decide +kernel
theorem zt_k88 : lw_tbl[1570]? = some (z_cw 88) := by decide +kernel
theorem zt_k89 : lw_tbl[1619]? = some (z_cw 89) := by decide +kernel
theorem zt_k90 : lw_tbl[1627]? = some (z_cw 90) := by decide +kernel
theorem zt_k91 : lw_tbl[1713]? = some (z_cw 91) := by decide +kernel
theorem zt_k92 : lw_tbl[1548]? = some (z_cw 92) := by decide +kernel
theorem zt_k93 : lw_tbl[1564]? = some (z_cw 93) := by decide +kernel
theorem zt_k94 : lw_tbl[1639]? = some (z_cw 94) := by decide +kernel
theorem zt_k95 : lw_tbl[1647]? = some (z_cw 95) := by decide +kernel
theorem zt_k96 : lw_tbl[1684]? = some (z_cw 96) := by decide +kernel
theorem zt_k97 : lw_tbl[1743]? = some (z_cw 97) := by decide +kernel
theorem zt_k98 : lw_tbl[1525]? = some (z_cw 98) := by decide +kernel
theorem zt_k99 : lw_tbl[463]? = some (z_cw 99) := by decide +kernel
theorem zt_k100 : lw_tbl[315]? = some (z_cw 100) := by decide +kernel
theorem zt_k101 : lw_tbl[338]? = some (z_cw 101) := by decide +kernel
theorem zt_k102 : lw_tbl[510]? = some (z_cw 102) := by decide +kernel
theorem zt_k103 : lw_tbl[419]? = some (z_cw 103) := by decide +kernel
theorem zt_k104 : lw_tbl[105]? = some (z_cw 104) := by decide +kernel
theorem zt_k105 : lw_tbl[243]? = some (z_cw 105) := by decide +kernel
theorem zt_k106 : lw_tbl[440]? = some (z_cw 106) := by decide +kernel
theorem zt_k107 : lw_tbl[275]? = some (z_cw 107) := by decide +kernel
theorem zt_k108 : lw_tbl[658]? = some (z_cw 108) := by decide +kernel
theorem zt_k109 : lw_tbl[264]? = some (z_cw 109) := by decide +kernel
theorem zt_k110 : lw_tbl[97]? = some (z_cw 110) := by decide +kernel
theorem zt_k111 : lw_tbl[361]? = some (z_cw 111) := by decide +kernel
theorem zt_k112 : lw_tbl[599]? = some (z_cw 112) := by decide +kernel
theorem zt_k113 : lw_tbl[1298]? = some (z_cw 113) := by decide +kernel
theorem zt_k114 : lw_tbl[576]? = some (z_cw 114) := by decide +kernel
theorem zt_k115 : lw_tbl[1062]? = some (z_cw 115) := by decide +kernel
theorem zt_k116 : lw_tbl[518]? = some (z_cw 116) := by decide +kernel
theorem zt_k117 : lw_tbl[1245]? = some (z_cw 117) := by decide +kernel
theorem zt_k118 : lw_tbl[1230]? = some (z_cw 118) := by decide +kernel
theorem zt_k119 : lw_tbl[1272]? = some (z_cw 119) := by decide +kernel
theorem zt_k120 : lw_tbl[1276]? = some (z_cw 120) := by decide +kernel
theorem zt_k121 : lw_tbl[1041]? = some (z_cw 121) := by decide +kernel
theorem zt_k122 : lw_tbl[386]? = some (z_cw 122) := by decide +kernel
theorem zt_k123 : lw_tbl[1725]? = some (z_cw 123) := by decide +kernel
theorem zt_k124 : lw_tbl[1544]? = some (z_cw 124) := by decide +kernel
theorem zt_k125 : lw_tbl[1692]? = some (z_cw 125) := by decide +kernel
theorem zt_k126 : lw_tbl[1567]? = some (z_cw 126) := by decide +kernel
theorem zt_k127 : lw_tbl[1643]? = some (z_cw 127) := by decide +kernel
theorem zt_k128 : lw_tbl[1560]? = some (z_cw 128) := by decide +kernel
theorem zt_k129 : lw_tbl[1737]? = some (z_cw 129) := by decide +kernel
theorem zt_k130 : lw_tbl[261]? = some (z_cw 130) := by decide +kernel
theorem zt_k131 : lw_tbl[432]? = some (z_cw 131) := by decide +kernel
theorem zt_k132 : lw_tbl[497]? = some (z_cw 132) := by decide +kernel
theorem zt_k133 : lw_tbl[655]? = some (z_cw 133) := by decide +kernel
theorem zt_k134 : lw_tbl[357]? = some (z_cw 134) := by decide +kernel
theorem zt_k135 : lw_tbl[1260]? = some (z_cw 135) := by decide +kernel
theorem zt_k136 : lw_tbl[382]? = some (z_cw 136) := by decide +kernel
theorem zt_k137 : lw_tbl[1293]? = some (z_cw 137) := by decide +kernel
theorem zt_k138 : lw_tbl[1058]? = some (z_cw 138) := by decide +kernel
theorem zt_k139 : lw_tbl[1631]? = some (z_cw 139) := by decide +kernel
theorem zt_k140 : lw_tbl[1556]? = some (z_cw 140) := by decide +kernel
theorem zt_k141 : lw_tbl[1733]? = some (z_cw 141) := by decide +kernel
theorem zt_k142 : lw_tbl[257]? = some (z_cw 142) := by decide +kernel
theorem zt_k143 : lw_tbl[644]? = some (z_cw 143) := by decide +kernel
theorem zt_k144 : lw_tbl[494]? = some (z_cw 144) := by decide +kernel
theorem zt_k145 : lw_tbl[428]? = some (z_cw 145) := by decide +kernel
theorem zt_k146 : lw_tbl[873]? = some (z_cw 146) := by decide +kernel
theorem zt_k147 : lw_tbl[1185]? = some (z_cw 147) := by decide +kernel
theorem zt_k148 : lw_tbl[548]? = some (z_cw 148) := by decide +kernel
theorem zt_k149 : lw_tbl[567]? = some (z_cw 149) := by decide +kernel
theorem zt_k150 : lw_tbl[1286]? = some (z_cw 150) := by decide +kernel
theorem zt_k151 : lw_tbl[1165]? = some (z_cw 151) := by decide +kernel
theorem zt_k152 : lw_tbl[490]? = some (z_cw 152) := by decide +kernel
theorem zt_k153 : lw_tbl[833]? = some (z_cw 153) := by decide +kernel
theorem zt_k154 : lw_tbl[1054]? = some (z_cw 154) := by decide +kernel
theorem zt_k155 : lw_tbl[926]? = some (z_cw 155) := by decide +kernel
theorem zt_k156 : lw_tbl[897]? = some (z_cw 156) := by decide +kernel
theorem zt_k157 : lw_tbl[1256]? = some (z_cw 157) := by decide +kernel
theorem zt_k158 : lw_tbl[1591]? = some (z_cw 158) := by decide +kernel
theorem zt_k159 : lw_tbl[1521]? = some (z_cw 159) := by decide +kernel
theorem zt_k160 : lw_tbl[1615]? = some (z_cw 160) := by decide +kernel
theorem zt_k161 : lw_tbl[253]? = some (z_cw 161) := by decide +kernel
theorem zt_k162 : lw_tbl[814]? = some (z_cw 162) := by decide +kernel
theorem zt_k163 : lw_tbl[641]? = some (z_cw 163) := by decide +kernel
theorem zt_k164 : lw_tbl[869]? = some (z_cw 164) := by decide +kernel
theorem zt_k165 : lw_tbl[564]? = some (z_cw 165) := by decide +kernel
theorem zt_k166 : lw_tbl[544]? = some (z_cw 166) := by decide +kernel
theorem zt_k167 : lw_tbl[1162]? = some (z_cw 167) := by decide +kernel
theorem zt_k168 : lw_tbl[415]? = some (z_cw 168) := by decide +kernel
theorem zt_k169 : lw_tbl[865]? = some (z_cw 169) := by decide +kernel
theorem zt_k170 : lw_tbl[1050]? = some (z_cw 170) := by decide +kernel
theorem zt_k171 : lw_tbl[950]? = some (z_cw 171) := by decide +kernel
theorem zt_k172 : lw_tbl[923]? = some (z_cw 172) := by decide +kernel
theorem zt_k173 : lw_tbl[998]? = some (z_cw 173) := by decide +kernel
theorem zt_k174 : lw_tbl[973]? = some (z_cw 174) := by decide +kernel
theorem zt_k175 : lw_tbl[893]? = some (z_cw 175) := by decide +kernel
theorem zt_k176 : lw_tbl[1181]? = some (z_cw 176) := by decide +kernel
theorem zt_k177 : lw_tbl[1673]? = some (z_cw 177) := by decide +kernel
theorem zt_k178 : lw_tbl[1717]? = some (z_cw 178) := by decide +kernel
theorem zt_k179 : lw_tbl[1611]? = some (z_cw 179) := by decide +kernel
theorem zt_k180 : lw_tbl[1651]? = some (z_cw 180) := by decide +kernel
theorem zt_k181 : lw_tbl[1509]? = some (z_cw 181) := by decide +kernel
theorem zt_k182 : lw_tbl[1665]? = some (z_cw 182) := by decide +kernel
theorem zt_k183 : lw_tbl[915]? = some (z_cw 183) := by decide +kernel
theorem zt_k184 : lw_tbl[250]? = some (z_cw 184) := by decide +kernel
theorem zt_k185 : lw_tbl[811]? = some (z_cw 185) := by decide +kernel
theorem zt_k186 : lw_tbl[636]? = some (z_cw 186) := by decide +kernel
theorem zt_k187 : lw_tbl[537]? = some (z_cw 187) := by decide +kernel
theorem zt_k188 : lw_tbl[632]? = some (z_cw 188) := by decide +kernel
theorem zt_k189 : lw_tbl[239]? = some (z_cw 189) := by decide +kernel
theorem zt_k190 : lw_tbl[398]? = some (z_cw 190) := by decide +kernel
theorem zt_k191 : lw_tbl[860]? = some (z_cw 191) := by decide +kernel
theorem zt_k192 : lw_tbl[902]? = some (z_cw 192) := by decide +kernel
theorem zt_k193 : lw_tbl[1046]? = some (z_cw 193) := by decide +kernel
theorem zt_k194 : lw_tbl[919]? = some (z_cw 194) := by decide +kernel
theorem zt_k195 : lw_tbl[1001]? = some (z_cw 195) := by decide +kernel
theorem zt_k196 : lw_tbl[964]? = some (z_cw 196) := by decide +kernel
theorem zt_k197 : lw_tbl[1659]? = some (z_cw 197) := by decide +kernel
theorem zt_k198 : lw_tbl[1226]? = some (z_cw 198) := by decide +kernel
theorem zt_k199 : lw_tbl[1194]? = some (z_cw 199) := by decide +kernel
theorem zt_k200 : lw_tbl[353]? = some (z_cw 200) := by decide +kernel
theorem zt_k201 : lw_tbl[1283]? = some (z_cw 201) := by decide +kernel
theorem zt_k202 : lw_tbl[533]? = some (z_cw 202) := by decide +kernel
theorem zt_k203 : lw_tbl[954]? = some (z_cw 203) := by decide +kernel
theorem zt_k204 : lw_tbl[907]? = some (z_cw 204) := by decide +kernel
theorem zt_k205 : lw_tbl[1128]? = some (z_cw 205) := by decide +kernel
theorem zt_k206 : lw_tbl[994]? = some (z_cw 206) := by decide +kernel
theorem zt_k207 : lw_tbl[1669]? = some (z_cw 207) := by decide +kernel
theorem zt_k208 : lw_tbl[1655]? = some (z_cw 208) := by decide +kernel
theorem zt_k209 : lw_tbl[1216]? = some (z_cw 209) := by decide +kernel
theorem zt_k210 : lw_tbl[1121]? = some (z_cw 210) := by decide +kernel
theorem zt_k211 : lw_tbl[856]? = some (z_cw 211) := by decide +kernel
theorem zt_k212 : lw_tbl[1189]? = some (z_cw 212) := by decide +kernel
theorem zt_k213 : lw_tbl[1279]? = some (z_cw 213) := by decide +kernel
theorem zt_k214 : lw_tbl[1101]? = some (z_cw 214) := by decide +kernel
theorem zt_k215 : lw_tbl[1212]? = some (z_cw 215) := by decide +kernel
theorem zt_k216 : lw_tbl[626]? = some (z_cw 216) := by decide +kernel
theorem zt_k217 : lw_tbl[620]? = some (z_cw 217) := by decide +kernel
theorem zt_kok : ∀ j, j < 218 → z_cw j ∈ lw_tbl := by
  intro j hj
  match j, hj with
  | 0, _ => exact List.mem_of_getElem? zt_k0
  | 1, _ => exact List.mem_of_getElem? zt_k1
  | 2, _ => exact List.mem_of_getElem? zt_k2
  | 3, _ => exact List.mem_of_getElem? zt_k3
  | 4, _ => exact List.mem_of_getElem? zt_k4
  | 5, _ => exact List.mem_of_getElem? zt_k5
  | 6, _ => exact List.mem_of_getElem? zt_k6
  | 7, _ => exact List.mem_of_getElem? zt_k7
  | 8, _ => exact List.mem_of_getElem? zt_k8
  | 9, _ => exact List.mem_of_getElem? zt_k9
  | 10, _ => exact List.mem_of_getElem? zt_k10
  | 11, _ => exact List.mem_of_getElem? zt_k11
  | 12, _ => exact List.mem_of_getElem? zt_k12
  | 13, _ => exact List.mem_of_getElem? zt_k13
  | 14, _ => exact List.mem_of_getElem? zt_k14
  | 15, _ => exact List.mem_of_getElem? zt_k15
  | 16, _ => exact List.mem_of_getElem? zt_k16
  | 17, _ => exact List.mem_of_getElem? zt_k17
  | 18, _ => exact List.mem_of_getElem? zt_k18
  | 19, _ => exact List.mem_of_getElem? zt_k19
  | 20, _ => exact List.mem_of_getElem? zt_k20
  | 21, _ => exact List.mem_of_getElem? zt_k21
  | 22, _ => exact List.mem_of_getElem? zt_k22
  | 23, _ => exact List.mem_of_getElem? zt_k23
  | 24, _ => exact List.mem_of_getElem? zt_k24
  | 25, _ => exact List.mem_of_getElem? zt_k25
  | 26, _ => exact List.mem_of_getElem? zt_k26
  | 27, _ => exact List.mem_of_getElem? zt_k27
  | 28, _ => exact List.mem_of_getElem? zt_k28
  | 29, _ => exact List.mem_of_getElem? zt_k29
  | 30, _ => exact List.mem_of_getElem? zt_k30
  | 31, _ => exact List.mem_of_getElem? zt_k31
  | 32, _ => exact List.mem_of_getElem? zt_k32
  | 33, _ => exact List.mem_of_getElem? zt_k33
  | 34, _ => exact List.mem_of_getElem? zt_k34
  | 35, _ => exact List.mem_of_getElem? zt_k35
  | 36, _ => exact List.mem_of_getElem? zt_k36
  | 37, _ => exact List.mem_of_getElem? zt_k37
  | 38, _ => exact List.mem_of_getElem? zt_k38
  | 39, _ => exact List.mem_of_getElem? zt_k39
  | 40, _ => exact List.mem_of_getElem? zt_k40
  | 41, _ => exact List.mem_of_getElem? zt_k41
  | 42, _ => exact List.mem_of_getElem? zt_k42
  | 43, _ => exact List.mem_of_getElem? zt_k43
  | 44, _ => exact List.mem_of_getElem? zt_k44
  | 45, _ => exact List.mem_of_getElem? zt_k45
  | 46, _ => exact List.mem_of_getElem? zt_k46
  | 47, _ => exact List.mem_of_getElem? zt_k47
  | 48, _ => exact List.mem_of_getElem? zt_k48
  | 49, _ => exact List.mem_of_getElem? zt_k49
  | 50, _ => exact List.mem_of_getElem? zt_k50
  | 51, _ => exact List.mem_of_getElem? zt_k51
  | 52, _ => exact List.mem_of_getElem? zt_k52
  | 53, _ => exact List.mem_of_getElem? zt_k53
  | 54, _ => exact List.mem_of_getElem? zt_k54
  | 55, _ => exact List.mem_of_getElem? zt_k55
  | 56, _ => exact List.mem_of_getElem? zt_k56
  | 57, _ => exact List.mem_of_getElem? zt_k57
  | 58, _ => exact List.mem_of_getElem? zt_k58
  | 59, _ => exact List.mem_of_getElem? zt_k59
  | 60, _ => exact List.mem_of_getElem? zt_k60
  | 61, _ => exact List.mem_of_getElem? zt_k61
  | 62, _ => exact List.mem_of_getElem? zt_k62
  | 63, _ => exact List.mem_of_getElem? zt_k63
  | 64, _ => exact List.mem_of_getElem? zt_k64
  | 65, _ => exact List.mem_of_getElem? zt_k65
  | 66, _ => exact List.mem_of_getElem? zt_k66
  | 67, _ => exact List.mem_of_getElem? zt_k67
  | 68, _ => exact List.mem_of_getElem? zt_k68
  | 69, _ => exact List.mem_of_getElem? zt_k69
  | 70, _ => exact List.mem_of_getElem? zt_k70
  | 71, _ => exact List.mem_of_getElem? zt_k71
  | 72, _ => exact List.mem_of_getElem? zt_k72
  | 73, _ => exact List.mem_of_getElem? zt_k73
  | 74, _ => exact List.mem_of_getElem? zt_k74
  | 75, _ => exact List.mem_of_getElem? zt_k75
  | 76, _ => exact List.mem_of_getElem? zt_k76
  | 77, _ => exact List.mem_of_getElem? zt_k77
  | 78, _ => exact List.mem_of_getElem? zt_k78
  | 79, _ => exact List.mem_of_getElem? zt_k79
  | 80, _ => exact List.mem_of_getElem? zt_k80
  | 81, _ => exact List.mem_of_getElem? zt_k81
  | 82, _ => exact List.mem_of_getElem? zt_k82
  | 83, _ => exact List.mem_of_getElem? zt_k83
  | 84, _ => exact List.mem_of_getElem? zt_k84
  | 85, _ => exact List.mem_of_getElem? zt_k85
  | 86, _ => exact List.mem_of_getElem? zt_k86
  | 87, _ => exact List.mem_of_getElem? zt_k87
  | 88, _ => exact List.mem_of_getElem? zt_k88
  | 89, _ => exact List.mem_of_getElem? zt_k89
  | 90, _ => exact List.mem_of_getElem? zt_k90
  | 91, _ => exact List.mem_of_getElem? zt_k91
  | 92, _ => exact List.mem_of_getElem? zt_k92
  | 93, _ => exact List.mem_of_getElem? zt_k93
  | 94, _ => exact List.mem_of_getElem? zt_k94
  | 95, _ => exact List.mem_of_getElem? zt_k95
  | 96, _ => exact List.mem_of_getElem? zt_k96
  | 97, _ => exact List.mem_of_getElem? zt_k97
  | 98, _ => exact List.mem_of_getElem? zt_k98
  | 99, _ => exact List.mem_of_getElem? zt_k99
  | 100, _ => exact List.mem_of_getElem? zt_k100
  | 101, _ => exact List.mem_of_getElem? zt_k101
  | 102, _ => exact List.mem_of_getElem? zt_k102
  | 103, _ => exact List.mem_of_getElem? zt_k103
  | 104, _ => exact List.mem_of_getElem? zt_k104
  | 105, _ => exact List.mem_of_getElem? zt_k105
  | 106, _ => exact List.mem_of_getElem? zt_k106
  | 107, _ => exact List.mem_of_getElem? zt_k107
  | 108, _ => exact List.mem_of_getElem? zt_k108
  | 109, _ => exact List.mem_of_getElem? zt_k109
  | 110, _ => exact List.mem_of_getElem? zt_k110
  | 111, _ => exact List.mem_of_getElem? zt_k111
  | 112, _ => exact List.mem_of_getElem? zt_k112
  | 113, _ => exact List.mem_of_getElem? zt_k113
  | 114, _ => exact List.mem_of_getElem? zt_k114
  | 115, _ => exact List.mem_of_getElem? zt_k115
  | 116, _ => exact List.mem_of_getElem? zt_k116
  | 117, _ => exact List.mem_of_getElem? zt_k117
  | 118, _ => exact List.mem_of_getElem? zt_k118
  | 119, _ => exact List.mem_of_getElem? zt_k119
  | 120, _ => exact List.mem_of_getElem? zt_k120
  | 121, _ => exact List.mem_of_getElem? zt_k121
  | 122, _ => exact List.mem_of_getElem? zt_k122
  | 123, _ => exact List.mem_of_getElem? zt_k123
  | 124, _ => exact List.mem_of_getElem? zt_k124
  | 125, _ => exact List.mem_of_getElem? zt_k125
  | 126, _ => exact List.mem_of_getElem? zt_k126
  | 127, _ => exact List.mem_of_getElem? zt_k127
  | 128, _ => exact List.mem_of_getElem? zt_k128
  | 129, _ => exact List.mem_of_getElem? zt_k129
  | 130, _ => exact List.mem_of_getElem? zt_k130
  | 131, _ => exact List.mem_of_getElem? zt_k131
  | 132, _ => exact List.mem_of_getElem? zt_k132
  | 133, _ => exact List.mem_of_getElem? zt_k133
  | 134, _ => exact List.mem_of_getElem? zt_k134
  | 135, _ => exact List.mem_of_getElem? zt_k135
  | 136, _ => exact List.mem_of_getElem? zt_k136
  | 137, _ => exact List.mem_of_getElem? zt_k137
  | 138, _ => exact List.mem_of_getElem? zt_k138
  | 139, _ => exact List.mem_of_getElem? zt_k139
  | 140, _ => exact List.mem_of_getElem? zt_k140
  | 141, _ => exact List.mem_of_getElem? zt_k141
  | 142, _ => exact List.mem_of_getElem? zt_k142
  | 143, _ => exact List.mem_of_getElem? zt_k143
  | 144, _ => exact List.mem_of_getElem? zt_k144
  | 145, _ => exact List.mem_of_getElem? zt_k145
  | 146, _ => exact List.mem_of_getElem? zt_k146
  | 147, _ => exact List.mem_of_getElem? zt_k147
  | 148, _ => exact List.mem_of_getElem? zt_k148
  | 149, _ => exact List.mem_of_getElem? zt_k149
  | 150, _ => exact List.mem_of_getElem? zt_k150
  | 151, _ => exact List.mem_of_getElem? zt_k151
  | 152, _ => exact List.mem_of_getElem? zt_k152
  | 153, _ => exact List.mem_of_getElem? zt_k153
  | 154, _ => exact List.mem_of_getElem? zt_k154
  | 155, _ => exact List.mem_of_getElem? zt_k155
  | 156, _ => exact List.mem_of_getElem? zt_k156
  | 157, _ => exact List.mem_of_getElem? zt_k157
  | 158, _ => exact List.mem_of_getElem? zt_k158
  | 159, _ => exact List.mem_of_getElem? zt_k159
  | 160, _ => exact List.mem_of_getElem? zt_k160
  | 161, _ => exact List.mem_of_getElem? zt_k161
  | 162, _ => exact List.mem_of_getElem? zt_k162
  | 163, _ => exact List.mem_of_getElem? zt_k163
  | 164, _ => exact List.mem_of_getElem? zt_k164
  | 165, _ => exact List.mem_of_getElem? zt_k165
  | 166, _ => exact List.mem_of_getElem? zt_k166
  | 167, _ => exact List.mem_of_getElem? zt_k167
  | 168, _ => exact List.mem_of_getElem? zt_k168
  | 169, _ => exact List.mem_of_getElem? zt_k169
  | 170, _ => exact List.mem_of_getElem? zt_k170
  | 171, _ => exact List.mem_of_getElem? zt_k171
  | 172, _ => exact List.mem_of_getElem? zt_k172
  | 173, _ => exact List.mem_of_getElem? zt_k173
  | 174, _ => exact List.mem_of_getElem? zt_k174
  | 175, _ => exact List.mem_of_getElem? zt_k175
  | 176, _ => exact List.mem_of_getElem? zt_k176
  | 177, _ => exact List.mem_of_getElem? zt_k177
  | 178, _ => exact List.mem_of_getElem? zt_k178
  | 179, _ => exact List.mem_of_getElem? zt_k179
  | 180, _ => exact List.mem_of_getElem? zt_k180
  | 181, _ => exact List.mem_of_getElem? zt_k181
  | 182, _ => exact List.mem_of_getElem? zt_k182
  | 183, _ => exact List.mem_of_getElem? zt_k183
  | 184, _ => exact List.mem_of_getElem? zt_k184
  | 185, _ => exact List.mem_of_getElem? zt_k185
  | 186, _ => exact List.mem_of_getElem? zt_k186
  | 187, _ => exact List.mem_of_getElem? zt_k187
  | 188, _ => exact List.mem_of_getElem? zt_k188
  | 189, _ => exact List.mem_of_getElem? zt_k189
  | 190, _ => exact List.mem_of_getElem? zt_k190
  | 191, _ => exact List.mem_of_getElem? zt_k191
  | 192, _ => exact List.mem_of_getElem? zt_k192
  | 193, _ => exact List.mem_of_getElem? zt_k193
  | 194, _ => exact List.mem_of_getElem? zt_k194
  | 195, _ => exact List.mem_of_getElem? zt_k195
  | 196, _ => exact List.mem_of_getElem? zt_k196
  | 197, _ => exact List.mem_of_getElem? zt_k197
  | 198, _ => exact List.mem_of_getElem? zt_k198
  | 199, _ => exact List.mem_of_getElem? zt_k199
  | 200, _ => exact List.mem_of_getElem? zt_k200
  | 201, _ => exact List.mem_of_getElem? zt_k201
  | 202, _ => exact List.mem_of_getElem? zt_k202
  | 203, _ => exact List.mem_of_getElem? zt_k203
  | 204, _ => exact List.mem_of_getElem? zt_k204
  | 205, _ => exact List.mem_of_getElem? zt_k205
  | 206, _ => exact List.mem_of_getElem? zt_k206
  | 207, _ => exact List.mem_of_getElem? zt_k207
  | 208, _ => exact List.mem_of_getElem? zt_k208
  | 209, _ => exact List.mem_of_getElem? zt_k209
  | 210, _ => exact List.mem_of_getElem? zt_k210
  | 211, _ => exact List.mem_of_getElem? zt_k211
  | 212, _ => exact List.mem_of_getElem? zt_k212
  | 213, _ => exact List.mem_of_getElem? zt_k213
  | 214, _ => exact List.mem_of_getElem? zt_k214
  | 215, _ => exact List.mem_of_getElem? zt_k215
  | 216, _ => exact List.mem_of_getElem? zt_k216
  | 217, _ => exact List.mem_of_getElem? zt_k217
