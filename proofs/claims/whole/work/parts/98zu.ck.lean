def am_okL : Nat → List (List (Nat × am_Row)) → Prop
  | _, [] => True
  | n, rs :: t => rs.all (am_chk n) = true ∧ am_okL (n + 1) t
theorem am_okL_get : ∀ (t : List (List (Nat × am_Row))) (n k : Nat) (rs : List (Nat × am_Row)), am_okL n t → t[k]? = some rs → rs.all (am_chk (n + k)) = true
  | [], _, _, _, _, h => by simp at h
  | r :: t, n, 0, rs, h, e => by
    simp only [List.getElem?_cons_zero, Option.some.injEq] at e
    subst e
    exact h.1
  | r :: t, n, k + 1, rs, h, e => by
    rw [List.getElem?_cons_succ] at e
    have h1 := am_okL_get t (n + 1) k rs h.2 e
    rw [show n + (k + 1) = n + 1 + k by omega]
    exact h1
noncomputable def am_tb0 : List (List (Nat × am_Row)) := [am_r0, am_r1, am_r2, am_r3, am_r4, am_r5, am_r6, am_r7, am_r8, am_r9, am_r10, am_r11, am_r12, am_r13, am_r14, am_r15, am_r16, am_r17, am_r18, am_r19, am_r20, am_r21, am_r22, am_r23, am_r24, am_r25, am_r26, am_r27, am_r28, am_r29, am_r30, am_r31, am_r32, am_r33, am_r34, am_r35, am_r36, am_r37, am_r38, am_r39]
theorem am_okb0 : am_okL 0 am_tb0 := ⟨am_ck0, am_ck1, am_ck2, am_ck3, am_ck4, am_ck5, am_ck6, am_ck7, am_ck8, am_ck9, am_ck10, am_ck11, am_ck12, am_ck13, am_ck14, am_ck15, am_ck16, am_ck17, am_ck18, am_ck19, am_ck20, am_ck21, am_ck22, am_ck23, am_ck24, am_ck25, am_ck26, am_ck27, am_ck28, am_ck29, am_ck30, am_ck31, am_ck32, am_ck33, am_ck34, am_ck35, am_ck36, am_ck37, am_ck38, am_ck39, trivial⟩
noncomputable def am_tb1 : List (List (Nat × am_Row)) := [am_r40, am_r41, am_r42, am_r43, am_r44, am_r45, am_r46, am_r47, am_r48, am_r49, am_r50, am_r51, am_r52, am_r53, am_r54, am_r55, am_r56, am_r57, am_r58, am_r59, am_r60, am_r61, am_r62, am_r63, am_r64, am_r65, am_r66, am_r67, am_r68, am_r69, am_r70, am_r71, am_r72, am_r73, am_r74, am_r75, am_r76, am_r77, am_r78, am_r79]
theorem am_okb1 : am_okL 40 am_tb1 := ⟨am_ck40, am_ck41, am_ck42, am_ck43, am_ck44, am_ck45, am_ck46, am_ck47, am_ck48, am_ck49, am_ck50, am_ck51, am_ck52, am_ck53, am_ck54, am_ck55, am_ck56, am_ck57, am_ck58, am_ck59, am_ck60, am_ck61, am_ck62, am_ck63, am_ck64, am_ck65, am_ck66, am_ck67, am_ck68, am_ck69, am_ck70, am_ck71, am_ck72, am_ck73, am_ck74, am_ck75, am_ck76, am_ck77, am_ck78, am_ck79, trivial⟩
noncomputable def am_tb2 : List (List (Nat × am_Row)) := [am_r80, am_r81, am_r82, am_r83, am_r84, am_r85, am_r86, am_r87, am_r88, am_r89, am_r90, am_r91, am_r92, am_r93, am_r94, am_r95, am_r96, am_r97, am_r98, am_r99, am_r100, am_r101, am_r102, am_r103, am_r104, am_r105, am_r106, am_r107, am_r108, am_r109, am_r110, am_r111, am_r112, am_r113, am_r114, am_r115, am_r116, am_r117, am_r118, am_r119]
theorem am_okb2 : am_okL 80 am_tb2 := ⟨am_ck80, am_ck81, am_ck82, am_ck83, am_ck84, am_ck85, am_ck86, am_ck87, am_ck88, am_ck89, am_ck90, am_ck91, am_ck92, am_ck93, am_ck94, am_ck95, am_ck96, am_ck97, am_ck98, am_ck99, am_ck100, am_ck101, am_ck102, am_ck103, am_ck104, am_ck105, am_ck106, am_ck107, am_ck108, am_ck109, am_ck110, am_ck111, am_ck112, am_ck113, am_ck114, am_ck115, am_ck116, am_ck117, am_ck118, am_ck119, trivial⟩
noncomputable def am_tb3 : List (List (Nat × am_Row)) := [am_r120, am_r121, am_r122, am_r123, am_r124, am_r125, am_r126, am_r127, am_r128, am_r129, am_r130, am_r131, am_r132, am_r133, am_r134, am_r135, am_r136, am_r137, am_r138, am_r139, am_r140, am_r141, am_r142, am_r143, am_r144, am_r145, am_r146, am_r147, am_r148, am_r149, am_r150, am_r151, am_r152, am_r153, am_r154, am_r155, am_r156, am_r157, am_r158, am_r159]
theorem am_okb3 : am_okL 120 am_tb3 := ⟨am_ck120, am_ck121, am_ck122, am_ck123, am_ck124, am_ck125, am_ck126, am_ck127, am_ck128, am_ck129, am_ck130, am_ck131, am_ck132, am_ck133, am_ck134, am_ck135, am_ck136, am_ck137, am_ck138, am_ck139, am_ck140, am_ck141, am_ck142, am_ck143, am_ck144, am_ck145, am_ck146, am_ck147, am_ck148, am_ck149, am_ck150, am_ck151, am_ck152, am_ck153, am_ck154, am_ck155, am_ck156, am_ck157, am_ck158, am_ck159, trivial⟩
noncomputable def am_tb4 : List (List (Nat × am_Row)) := [am_r160, am_r161, am_r162, am_r163, am_r164, am_r165, am_r166, am_r167, am_r168, am_r169, am_r170, am_r171, am_r172, am_r173, am_r174, am_r175, am_r176, am_r177, am_r178, am_r179, am_r180, am_r181, am_r182, am_r183, am_r184, am_r185, am_r186, am_r187, am_r188, am_r189, am_r190, am_r191, am_r192, am_r193, am_r194, am_r195, am_r196, am_r197, am_r198, am_r199]
theorem am_okb4 : am_okL 160 am_tb4 := ⟨am_ck160, am_ck161, am_ck162, am_ck163, am_ck164, am_ck165, am_ck166, am_ck167, am_ck168, am_ck169, am_ck170, am_ck171, am_ck172, am_ck173, am_ck174, am_ck175, am_ck176, am_ck177, am_ck178, am_ck179, am_ck180, am_ck181, am_ck182, am_ck183, am_ck184, am_ck185, am_ck186, am_ck187, am_ck188, am_ck189, am_ck190, am_ck191, am_ck192, am_ck193, am_ck194, am_ck195, am_ck196, am_ck197, am_ck198, am_ck199, trivial⟩
noncomputable def am_tb5 : List (List (Nat × am_Row)) := [am_r200, am_r201, am_r202, am_r203, am_r204, am_r205, am_r206, am_r207, am_r208, am_r209, am_r210, am_r211, am_r212, am_r213, am_r214, am_r215, am_r216, am_r217, am_r218, am_r219, am_r220, am_r221, am_r222, am_r223, am_r224, am_r225, am_r226, am_r227, am_r228, am_r229, am_r230, am_r231, am_r232, am_r233, am_r234, am_r235, am_r236, am_r237, am_r238, am_r239]
theorem am_okb5 : am_okL 200 am_tb5 := ⟨am_ck200, am_ck201, am_ck202, am_ck203, am_ck204, am_ck205, am_ck206, am_ck207, am_ck208, am_ck209, am_ck210, am_ck211, am_ck212, am_ck213, am_ck214, am_ck215, am_ck216, am_ck217, am_ck218, am_ck219, am_ck220, am_ck221, am_ck222, am_ck223, am_ck224, am_ck225, am_ck226, am_ck227, am_ck228, am_ck229, am_ck230, am_ck231, am_ck232, am_ck233, am_ck234, am_ck235, am_ck236, am_ck237, am_ck238, am_ck239, trivial⟩
noncomputable def am_tb6 : List (List (Nat × am_Row)) := [am_r240, am_r241, am_r242, am_r243, am_r244, am_r245, am_r246, am_r247, am_r248, am_r249, am_r250, am_r251, am_r252, am_r253, am_r254, am_r255, am_r256, am_r257, am_r258, am_r259, am_r260, am_r261, am_r262, am_r263, am_r264, am_r265, am_r266, am_r267, am_r268, am_r269, am_r270, am_r271, am_r272, am_r273, am_r274, am_r275, am_r276, am_r277, am_r278, am_r279]
theorem am_okb6 : am_okL 240 am_tb6 := ⟨am_ck240, am_ck241, am_ck242, am_ck243, am_ck244, am_ck245, am_ck246, am_ck247, am_ck248, am_ck249, am_ck250, am_ck251, am_ck252, am_ck253, am_ck254, am_ck255, am_ck256, am_ck257, am_ck258, am_ck259, am_ck260, am_ck261, am_ck262, am_ck263, am_ck264, am_ck265, am_ck266, am_ck267, am_ck268, am_ck269, am_ck270, am_ck271, am_ck272, am_ck273, am_ck274, am_ck275, am_ck276, am_ck277, am_ck278, am_ck279, trivial⟩
noncomputable def am_tb7 : List (List (Nat × am_Row)) := [am_r280, am_r281, am_r282, am_r283, am_r284, am_r285, am_r286, am_r287, am_r288, am_r289, am_r290, am_r291]
theorem am_okb7 : am_okL 280 am_tb7 := ⟨am_ck280, am_ck281, am_ck282, am_ck283, am_ck284, am_ck285, am_ck286, am_ck287, am_ck288, am_ck289, am_ck290, am_ck291, trivial⟩
theorem am_okL_app : ∀ (a b : List (List (Nat × am_Row))) (n m : Nat), m = n + a.length → am_okL n a → am_okL m b → am_okL n (a ++ b)
  | [], b, n, m, e, _, h => by
    have e1 : m = n := e
    rw [← e1]
    exact h
  | r :: a, b, n, m, e, h, h1 => ⟨h.1, am_okL_app a b (n + 1) m (by rw [e, List.length_cons]; omega) h.2 h1⟩
set_option maxRecDepth 20000 in
theorem am_tab_eq : am_tab = (am_tb0 ++ (am_tb1 ++ (am_tb2 ++ (am_tb3 ++ (am_tb4 ++ (am_tb5 ++ (am_tb6 ++ am_tb7))))))) := rfl
theorem am_tab_ok : am_okL 0 am_tab := by
  rw [am_tab_eq]
  exact (am_okL_app am_tb0 _ 0 40 rfl am_okb0 (am_okL_app am_tb1 _ 40 80 rfl am_okb1 (am_okL_app am_tb2 _ 80 120 rfl am_okb2 (am_okL_app am_tb3 _ 120 160 rfl am_okb3 (am_okL_app am_tb4 _ 160 200 rfl am_okb4 (am_okL_app am_tb5 _ 200 240 rfl am_okb5 (am_okL_app am_tb6 _ 240 280 rfl am_okb6 am_okb7)))))))
theorem am_lookup_mem : ∀ (l : List (Nat × am_Row)) (k : Nat) (r : am_Row), l.lookup k = some r → (k, r) ∈ l
  | [], _, _, h => by cases h
  | (a, b) :: t, k, r, h => by
    rw [List.lookup_cons] at h
    split at h
    · next e =>
      have e1 : k = a := by simpa using e
      cases h
      rw [e1]
      exact List.mem_cons_self
    · exact List.mem_cons_of_mem _ (am_lookup_mem t k r h)
theorem am_row_ok {mu pc : Nat} {r : am_Row} (h : am_prog mu pc = some r) : am_chk mu (pc, r) = true := by
  unfold am_prog at h
  cases ht : am_tab[mu]? with
  | none => rw [ht] at h; cases h
  | some rs =>
    rw [ht] at h
    have h1 := am_okL_get am_tab 0 mu rs am_tab_ok ht
    rw [Nat.zero_add] at h1
    exact List.all_eq_true.mp h1 _ (am_lookup_mem rs pc r h)
noncomputable def am_mps : List (List Nat) := [[144, 100], [529, 100], [500, 100], [533, 100], [523, 100], [551, 100], [557, 100], [1316, 100], [1424, 100], [1502, 100], [1031, 124], [627, 124], [654, 124], [616, 124], [519, 124], [397, 111], [1320, 111], [1327, 111], [1387, 111], [1391, 111], [1396, 111], [1403, 111], [1407, 111], [1412, 111], [1343, 111], [1357, 111], [1348, 111], [1363, 111], [1368, 111], [1380, 111], [170, 102], [1260, 102], [1248, 102], [1267, 102], [479, 102], [475, 102], [1272, 102], [798, 102], [371, 110], [436, 110], [489, 110], [596, 110], [547, 110], [515, 110], [575, 110], [571, 110], [584, 110], [588, 110], [580, 110], [592, 110], [510, 110], [538, 110], [543, 110], [563, 110], [567, 110], [215, 106], [641, 106], [734, 106], [720, 106], [773, 106], [1206, 125], [485, 125], [794, 125], [802, 125], [407, 112], [600, 112], [604, 112], [610, 112], [623, 112], [635, 112], [716, 112], [726, 112], [730, 112], [738, 112], [742, 112], [777, 112], [782, 112], [807, 112], [815, 112], [819, 112], [830, 112], [839, 112], [844, 112], [663, 122], [1337, 122], [1331, 122], [835, 122], [138, 99], [786, 99], [471, 99], [1182, 99], [811, 99], [1477, 99], [1019, 99], [1027, 99], [1373, 99], [756, 99], [1457, 99], [823, 99], [1497, 99], [650, 99], [752, 99], [646, 99], [980, 99], [659, 99], [1023, 99], [760, 99], [466, 99], [440, 99], [130, 98], [855, 98], [960, 98], [970, 98], [991, 98], [1140, 98], [1153, 98], [1160, 98], [1168, 98], [1178, 98], [1191, 98], [1198, 98], [1256, 98], [1280, 98], [1293, 98], [1301, 98], [1309, 98], [1420, 98], [1431, 98], [1439, 98], [432, 98], [1446, 98], [1453, 98], [1465, 98], [1473, 98], [1485, 98], [1493, 98], [1512, 98], [974, 98], [1144, 98], [995, 98], [1284, 98], [1201, 98], [858, 98], [862, 98], [935, 98], [789, 98], [619, 98], [503, 98], [506, 98], [492, 98], [1312, 98], [1517, 113], [1684, 113], [1702, 113], [1694, 113], [1709, 113], [1719, 113], [1691, 113], [1764, 113], [1752, 113], [1749, 113], [1734, 113], [1854, 113], [1873, 113], [1783, 113], [1972, 113], [1742, 113], [1698, 113], [1727, 113], [1731, 113], [1756, 113], [1811, 113], [1839, 113], [1688, 113], [1712, 113], [1706, 113], [1723, 113], [1716, 113], [1924, 113], [1928, 113], [1932, 113], [1888, 113], [1957, 113], [1949, 113], [1953, 113], [1920, 113], [1940, 113], [1936, 113], [1945, 113], [1916, 113], [1912, 113], [1746, 113], [1738, 113], [1760, 113], [1768, 113], [1776, 113], [1772, 113], [1780, 113], [1791, 113], [1815, 113], [1787, 113], [1795, 113], [1799, 113], [1807, 113], [1803, 113], [1823, 113], [1827, 113], [1819, 113], [1831, 113], [1835, 113], [1858, 113], [1851, 113], [1862, 113], [1847, 113], [1885, 113], [1881, 113], [1870, 113], [1866, 113], [1877, 113], [1843, 113], [1896, 113], [1892, 113], [1900, 113], [1904, 113], [1969, 113], [1961, 113], [1965, 113], [1976, 113], [1988, 113], [1984, 113], [1980, 113], [1992, 113], [2000, 113], [1996, 113], [2008, 113], [2004, 113], [1908, 113], [2012, 113], [2016, 113], [2020, 113], [2024, 113], [2028, 113], [2036, 113], [2032, 113], [2040, 113], [745, 121], [182, 103], [179, 104], [176, 105], [278, 105], [274, 105], [444, 105], [458, 105], [448, 105], [270, 105], [266, 105], [764, 105], [768, 105], [148, 101], [291, 101], [314, 101], [451, 118], [281, 107], [288, 107], [454, 119], [849, 97], [956, 97], [966, 97], [986, 97], [1136, 97], [1149, 97], [1156, 97], [1164, 97], [1174, 97], [1187, 97], [1194, 97], [1252, 97], [1276, 97], [1289, 97], [1297, 97], [1305, 97], [1416, 97], [1427, 97], [1435, 97], [1442, 97], [1449, 97], [1461, 97], [1469, 97], [1481, 97], [1489, 97], [1508, 97], []]
set_option maxRecDepth 20000 in
theorem am_cw0 : (.code yX0_init cX0_init 1 none : Cond) ∈ lw_tbl := List.mem_of_getElem? (i := 144) rfl
set_option maxRecDepth 20000 in
theorem am_iw0 : (.initialized yX0_init.cls : Cond) ∈ lw_tbl := List.mem_of_getElem? (i := 100) rfl
set_option maxRecDepth 20000 in
theorem am_cw1 : (.code yX0_landOf cX0_landOf 2 (some FieldType.int) : Cond) ∈ lw_tbl := List.mem_of_getElem? (i := 529) rfl
set_option maxRecDepth 20000 in
theorem am_iw1 : (.initialized yX0_landOf.cls : Cond) ∈ lw_tbl := List.mem_of_getElem? (i := 100) rfl
set_option maxRecDepth 20000 in
theorem am_cw2 : (.code yX0_holderOf cX0_holderOf 2 (some FieldType.int) : Cond) ∈ lw_tbl := List.mem_of_getElem? (i := 500) rfl
set_option maxRecDepth 20000 in
theorem am_iw2 : (.initialized yX0_holderOf.cls : Cond) ∈ lw_tbl := List.mem_of_getElem? (i := 100) rfl
set_option maxRecDepth 20000 in
theorem am_cw3 : (.code yX0_hasMade cX0_hasMade 3 (some FieldType.boolean) : Cond) ∈ lw_tbl := List.mem_of_getElem? (i := 533) rfl
set_option maxRecDepth 20000 in
theorem am_iw3 : (.initialized yX0_hasMade.cls : Cond) ∈ lw_tbl := List.mem_of_getElem? (i := 100) rfl
set_option maxRecDepth 20000 in
theorem am_cw4 : (.code yX0_foodOf cX0_foodOf 2 (some FieldType.int) : Cond) ∈ lw_tbl := List.mem_of_getElem? (i := 523) rfl
set_option maxRecDepth 20000 in
theorem am_iw4 : (.initialized yX0_foodOf.cls : Cond) ∈ lw_tbl := List.mem_of_getElem? (i := 100) rfl
set_option maxRecDepth 20000 in
theorem am_cw5 : (.code yX0_workOf cX0_workOf 2 (some FieldType.int) : Cond) ∈ lw_tbl := List.mem_of_getElem? (i := 551) rfl
set_option maxRecDepth 20000 in
theorem am_iw5 : (.initialized yX0_workOf.cls : Cond) ∈ lw_tbl := List.mem_of_getElem? (i := 100) rfl
set_option maxRecDepth 20000 in
theorem am_cw6 : (.code yX0_tradeOf cX0_tradeOf 2 (some FieldType.int) : Cond) ∈ lw_tbl := List.mem_of_getElem? (i := 557) rfl
set_option maxRecDepth 20000 in
theorem am_iw6 : (.initialized yX0_tradeOf.cls : Cond) ∈ lw_tbl := List.mem_of_getElem? (i := 100) rfl
set_option maxRecDepth 20000 in
theorem am_cw7 : (.code yX0_stepCost cX0_stepCost 4 (some FieldType.int) : Cond) ∈ lw_tbl := List.mem_of_getElem? (i := 1316) rfl
set_option maxRecDepth 20000 in
theorem am_iw7 : (.initialized yX0_stepCost.cls : Cond) ∈ lw_tbl := List.mem_of_getElem? (i := 100) rfl
set_option maxRecDepth 20000 in
theorem am_cw8 : (.code yX0_canBeMade cX0_canBeMade 4 (some FieldType.boolean) : Cond) ∈ lw_tbl := List.mem_of_getElem? (i := 1424) rfl
set_option maxRecDepth 20000 in
theorem am_iw8 : (.initialized yX0_canBeMade.cls : Cond) ∈ lw_tbl := List.mem_of_getElem? (i := 100) rfl
set_option maxRecDepth 20000 in
theorem am_cw9 : (.code yX0_countHeld cX0_countHeld 4 (some FieldType.int) : Cond) ∈ lw_tbl := List.mem_of_getElem? (i := 1502) rfl
set_option maxRecDepth 20000 in
theorem am_iw9 : (.initialized yX0_countHeld.cls : Cond) ∈ lw_tbl := List.mem_of_getElem? (i := 100) rfl
set_option maxRecDepth 20000 in
theorem am_cw10 : (.code yX1_init cX1_init 4 none : Cond) ∈ lw_tbl := List.mem_of_getElem? (i := 1031) rfl
set_option maxRecDepth 20000 in
theorem am_iw10 : (.initialized yX1_init.cls : Cond) ∈ lw_tbl := List.mem_of_getElem? (i := 124) rfl
set_option maxRecDepth 20000 in
theorem am_cw11 : (.code yX1_firstWork cX1_firstWork 1 (some FieldType.int) : Cond) ∈ lw_tbl := List.mem_of_getElem? (i := 627) rfl
set_option maxRecDepth 20000 in
theorem am_iw11 : (.initialized yX1_firstWork.cls : Cond) ∈ lw_tbl := List.mem_of_getElem? (i := 124) rfl
set_option maxRecDepth 20000 in
theorem am_cw12 : (.code yX1_takeWork cX1_takeWork 4 (some FieldType.int) : Cond) ∈ lw_tbl := List.mem_of_getElem? (i := 654) rfl
set_option maxRecDepth 20000 in
theorem am_iw12 : (.initialized yX1_takeWork.cls : Cond) ∈ lw_tbl := List.mem_of_getElem? (i := 124) rfl
set_option maxRecDepth 20000 in
theorem am_cw13 : (.code yX1_has cX1_has 2 (some FieldType.boolean) : Cond) ∈ lw_tbl := List.mem_of_getElem? (i := 616) rfl
set_option maxRecDepth 20000 in
theorem am_iw13 : (.initialized yX1_has.cls : Cond) ∈ lw_tbl := List.mem_of_getElem? (i := 124) rfl
set_option maxRecDepth 20000 in
theorem am_cw14 : (.code yX1_foodNeeded cX1_foodNeeded 1 (some FieldType.int) : Cond) ∈ lw_tbl := List.mem_of_getElem? (i := 519) rfl
set_option maxRecDepth 20000 in
theorem am_iw14 : (.initialized yX1_foodNeeded.cls : Cond) ∈ lw_tbl := List.mem_of_getElem? (i := 124) rfl
set_option maxRecDepth 20000 in
theorem am_cw15 : (.code yX2_init cX2_init 2 none : Cond) ∈ lw_tbl := List.mem_of_getElem? (i := 397) rfl
set_option maxRecDepth 20000 in
theorem am_iw15 : (.initialized yX2_init.cls : Cond) ∈ lw_tbl := List.mem_of_getElem? (i := 111) rfl
set_option maxRecDepth 20000 in
theorem am_cw16 : (.code yX2_strongestFoe cX2_strongestFoe 6 (some (FieldType.object "EmpireTurns$Unit")) : Cond) ∈ lw_tbl := List.mem_of_getElem? (i := 1320) rfl
set_option maxRecDepth 20000 in
theorem am_iw16 : (.initialized yX2_strongestFoe.cls : Cond) ∈ lw_tbl := List.mem_of_getElem? (i := 111) rfl
set_option maxRecDepth 20000 in
theorem am_cw17 : (.code yX2_toughness cX2_toughness 1 (some FieldType.int) : Cond) ∈ lw_tbl := List.mem_of_getElem? (i := 1327) rfl
set_option maxRecDepth 20000 in
theorem am_iw17 : (.initialized yX2_toughness.cls : Cond) ∈ lw_tbl := List.mem_of_getElem? (i := 111) rfl
set_option maxRecDepth 20000 in
theorem am_cw18 : (.code yX2_isHostileCity cX2_isHostileCity 4 (some FieldType.boolean) : Cond) ∈ lw_tbl := List.mem_of_getElem? (i := 1387) rfl
set_option maxRecDepth 20000 in
theorem am_iw18 : (.initialized yX2_isHostileCity.cls : Cond) ∈ lw_tbl := List.mem_of_getElem? (i := 111) rfl
set_option maxRecDepth 20000 in
theorem am_cw19 : (.code yX2_mayEnter cX2_mayEnter 3 (some FieldType.boolean) : Cond) ∈ lw_tbl := List.mem_of_getElem? (i := 1391) rfl
set_option maxRecDepth 20000 in
theorem am_iw19 : (.initialized yX2_mayEnter.cls : Cond) ∈ lw_tbl := List.mem_of_getElem? (i := 111) rfl
set_option maxRecDepth 20000 in
theorem am_cw20 : (.code yX2_isBarredByBorders cX2_isBarredByBorders 4 (some FieldType.boolean) : Cond) ∈ lw_tbl := List.mem_of_getElem? (i := 1396) rfl
set_option maxRecDepth 20000 in
theorem am_iw20 : (.initialized yX2_isBarredByBorders.cls : Cond) ∈ lw_tbl := List.mem_of_getElem? (i := 111) rfl
set_option maxRecDepth 20000 in
theorem am_cw21 : (.code yX2_isBarredByZones cX2_isBarredByZones 3 (some FieldType.boolean) : Cond) ∈ lw_tbl := List.mem_of_getElem? (i := 1403) rfl
set_option maxRecDepth 20000 in
theorem am_iw21 : (.initialized yX2_isBarredByZones.cls : Cond) ∈ lw_tbl := List.mem_of_getElem? (i := 111) rfl
set_option maxRecDepth 20000 in
theorem am_cw22 : (.code yX2_isInZone cX2_isInZone 5 (some FieldType.boolean) : Cond) ∈ lw_tbl := List.mem_of_getElem? (i := 1407) rfl
set_option maxRecDepth 20000 in
theorem am_iw22 : (.initialized yX2_isInZone.cls : Cond) ∈ lw_tbl := List.mem_of_getElem? (i := 111) rfl
set_option maxRecDepth 20000 in
theorem am_cw23 : (.code yX2_hasOwnOn cX2_hasOwnOn 6 (some FieldType.boolean) : Cond) ∈ lw_tbl := List.mem_of_getElem? (i := 1412) rfl
set_option maxRecDepth 20000 in
theorem am_iw23 : (.initialized yX2_hasOwnOn.cls : Cond) ∈ lw_tbl := List.mem_of_getElem? (i := 111) rfl
set_option maxRecDepth 20000 in
theorem am_cw24 : (.code yX2_fight cX2_fight 6 (some FieldType.boolean) : Cond) ∈ lw_tbl := List.mem_of_getElem? (i := 1343) rfl
set_option maxRecDepth 20000 in
theorem am_iw24 : (.initialized yX2_fight.cls : Cond) ∈ lw_tbl := List.mem_of_getElem? (i := 111) rfl
set_option maxRecDepth 20000 in
theorem am_cw25 : (.code yX2_loss cX2_loss 3 (some FieldType.int) : Cond) ∈ lw_tbl := List.mem_of_getElem? (i := 1357) rfl
set_option maxRecDepth 20000 in
theorem am_iw25 : (.initialized yX2_loss.cls : Cond) ∈ lw_tbl := List.mem_of_getElem? (i := 111) rfl
set_option maxRecDepth 20000 in
theorem am_cw26 : (.code yX2_shelterOn cX2_shelterOn 4 (some FieldType.int) : Cond) ∈ lw_tbl := List.mem_of_getElem? (i := 1348) rfl
set_option maxRecDepth 20000 in
theorem am_iw26 : (.initialized yX2_shelterOn.cls : Cond) ∈ lw_tbl := List.mem_of_getElem? (i := 111) rfl
set_option maxRecDepth 20000 in
theorem am_cw27 : (.code yX2_goTo cX2_goTo 4 none : Cond) ∈ lw_tbl := List.mem_of_getElem? (i := 1363) rfl
set_option maxRecDepth 20000 in
theorem am_iw27 : (.initialized yX2_goTo.cls : Cond) ∈ lw_tbl := List.mem_of_getElem? (i := 111) rfl
set_option maxRecDepth 20000 in
theorem am_cw28 : (.code yX2_takeCity cX2_takeCity 6 none : Cond) ∈ lw_tbl := List.mem_of_getElem? (i := 1368) rfl
set_option maxRecDepth 20000 in
theorem am_iw28 : (.initialized yX2_takeCity.cls : Cond) ∈ lw_tbl := List.mem_of_getElem? (i := 111) rfl
set_option maxRecDepth 20000 in
theorem am_cw29 : (.code yX2_captureCraft cX2_captureCraft 4 none : Cond) ∈ lw_tbl := List.mem_of_getElem? (i := 1380) rfl
set_option maxRecDepth 20000 in
theorem am_iw29 : (.initialized yX2_captureCraft.cls : Cond) ∈ lw_tbl := List.mem_of_getElem? (i := 111) rfl
set_option maxRecDepth 20000 in
theorem am_cw30 : (.code yX3_init cX3_init 1 none : Cond) ∈ lw_tbl := List.mem_of_getElem? (i := 170) rfl
set_option maxRecDepth 20000 in
theorem am_iw30 : (.initialized yX3_init.cls : Cond) ∈ lw_tbl := List.mem_of_getElem? (i := 102) rfl
set_option maxRecDepth 20000 in
theorem am_cw31 : (.code yX3_offerOf cX3_offerOf 4 (some (FieldType.object "EmpireTurns$Treaty")) : Cond) ∈ lw_tbl := List.mem_of_getElem? (i := 1260) rfl
set_option maxRecDepth 20000 in
theorem am_iw31 : (.initialized yX3_offerOf.cls : Cond) ∈ lw_tbl := List.mem_of_getElem? (i := 102) rfl
set_option maxRecDepth 20000 in
theorem am_cw32 : (.code yX3_putOffer cX3_putOffer 5 none : Cond) ∈ lw_tbl := List.mem_of_getElem? (i := 1248) rfl
set_option maxRecDepth 20000 in
theorem am_iw32 : (.initialized yX3_putOffer.cls : Cond) ∈ lw_tbl := List.mem_of_getElem? (i := 102) rfl
set_option maxRecDepth 20000 in
theorem am_cw33 : (.code yX3_dropOffer cX3_dropOffer 3 none : Cond) ∈ lw_tbl := List.mem_of_getElem? (i := 1267) rfl
set_option maxRecDepth 20000 in
theorem am_iw33 : (.initialized yX3_dropOffer.cls : Cond) ∈ lw_tbl := List.mem_of_getElem? (i := 102) rfl
set_option maxRecDepth 20000 in
theorem am_cw34 : (.code yX3_stands cX3_stands 6 (some FieldType.boolean) : Cond) ∈ lw_tbl := List.mem_of_getElem? (i := 479) rfl
set_option maxRecDepth 20000 in
theorem am_iw34 : (.initialized yX3_stands.cls : Cond) ∈ lw_tbl := List.mem_of_getElem? (i := 102) rfl
set_option maxRecDepth 20000 in
theorem am_cw35 : (.code yX3_areAtWar cX3_areAtWar 3 (some FieldType.boolean) : Cond) ∈ lw_tbl := List.mem_of_getElem? (i := 475) rfl
set_option maxRecDepth 20000 in
theorem am_iw35 : (.initialized yX3_areAtWar.cls : Cond) ∈ lw_tbl := List.mem_of_getElem? (i := 102) rfl
set_option maxRecDepth 20000 in
theorem am_cw36 : (.code yX3_canStand cX3_canStand 3 (some FieldType.boolean) : Cond) ∈ lw_tbl := List.mem_of_getElem? (i := 1272) rfl
set_option maxRecDepth 20000 in
theorem am_iw36 : (.initialized yX3_canStand.cls : Cond) ∈ lw_tbl := List.mem_of_getElem? (i := 102) rfl
set_option maxRecDepth 20000 in
theorem am_cw37 : (.code yX3_loseTurns cX3_loseTurns 2 none : Cond) ∈ lw_tbl := List.mem_of_getElem? (i := 798) rfl
set_option maxRecDepth 20000 in
theorem am_iw37 : (.initialized yX3_loseTurns.cls : Cond) ∈ lw_tbl := List.mem_of_getElem? (i := 102) rfl
set_option maxRecDepth 20000 in
theorem am_cw38 : (.code yX4_init cX4_init 2 none : Cond) ∈ lw_tbl := List.mem_of_getElem? (i := 371) rfl
set_option maxRecDepth 20000 in
theorem am_iw38 : (.initialized yX4_init.cls : Cond) ∈ lw_tbl := List.mem_of_getElem? (i := 110) rfl
set_option maxRecDepth 20000 in
theorem am_cw39 : (.code yX4_planUpTo cX4_planUpTo 7 none : Cond) ∈ lw_tbl := List.mem_of_getElem? (i := 436) rfl
set_option maxRecDepth 20000 in
theorem am_iw39 : (.initialized yX4_planUpTo.cls : Cond) ∈ lw_tbl := List.mem_of_getElem? (i := 110) rfl
set_option maxRecDepth 20000 in
theorem am_cw40 : (.code yX4_openTiles cX4_openTiles 7 none : Cond) ∈ lw_tbl := List.mem_of_getElem? (i := 489) rfl
set_option maxRecDepth 20000 in
theorem am_iw40 : (.initialized yX4_openTiles.cls : Cond) ∈ lw_tbl := List.mem_of_getElem? (i := 110) rfl
set_option maxRecDepth 20000 in
theorem am_cw41 : (.code yX4_gather cX4_gather 4 none : Cond) ∈ lw_tbl := List.mem_of_getElem? (i := 596) rfl
set_option maxRecDepth 20000 in
theorem am_iw41 : (.initialized yX4_gather.cls : Cond) ∈ lw_tbl := List.mem_of_getElem? (i := 110) rfl
set_option maxRecDepth 20000 in
theorem am_cw42 : (.code yX4_worthOf cX4_worthOf 4 (some FieldType.int) : Cond) ∈ lw_tbl := List.mem_of_getElem? (i := 547) rfl
set_option maxRecDepth 20000 in
theorem am_iw42 : (.initialized yX4_worthOf.cls : Cond) ∈ lw_tbl := List.mem_of_getElem? (i := 110) rfl
set_option maxRecDepth 20000 in
theorem am_cw43 : (.code yX4_foodLacking cX4_foodLacking 2 (some FieldType.int) : Cond) ∈ lw_tbl := List.mem_of_getElem? (i := 515) rfl
set_option maxRecDepth 20000 in
theorem am_iw43 : (.initialized yX4_foodLacking.cls : Cond) ∈ lw_tbl := List.mem_of_getElem? (i := 110) rfl
set_option maxRecDepth 20000 in
theorem am_cw44 : (.code yX4_mostFood cX4_mostFood 6 (some FieldType.int) : Cond) ∈ lw_tbl := List.mem_of_getElem? (i := 575) rfl
set_option maxRecDepth 20000 in
theorem am_iw44 : (.initialized yX4_mostFood.cls : Cond) ∈ lw_tbl := List.mem_of_getElem? (i := 110) rfl
set_option maxRecDepth 20000 in
theorem am_cw45 : (.code yX4_bestPlan cX4_bestPlan 8 (some FieldType.long) : Cond) ∈ lw_tbl := List.mem_of_getElem? (i := 571) rfl
set_option maxRecDepth 20000 in
theorem am_iw45 : (.initialized yX4_bestPlan.cls : Cond) ∈ lw_tbl := List.mem_of_getElem? (i := 110) rfl
set_option maxRecDepth 20000 in
theorem am_cw46 : (.code yX4_addTile cX4_addTile 10 none : Cond) ∈ lw_tbl := List.mem_of_getElem? (i := 584) rfl
set_option maxRecDepth 20000 in
theorem am_iw46 : (.initialized yX4_addTile.cls : Cond) ∈ lw_tbl := List.mem_of_getElem? (i := 110) rfl
set_option maxRecDepth 20000 in
theorem am_cw47 : (.code yX4_bestAt cX4_bestAt 2 (some FieldType.long) : Cond) ∈ lw_tbl := List.mem_of_getElem? (i := 588) rfl
set_option maxRecDepth 20000 in
theorem am_iw47 : (.initialized yX4_bestAt.cls : Cond) ∈ lw_tbl := List.mem_of_getElem? (i := 110) rfl
set_option maxRecDepth 20000 in
theorem am_cw48 : (.code yX4_putBest cX4_putBest 4 none : Cond) ∈ lw_tbl := List.mem_of_getElem? (i := 580) rfl
set_option maxRecDepth 20000 in
theorem am_iw48 : (.initialized yX4_putBest.cls : Cond) ∈ lw_tbl := List.mem_of_getElem? (i := 110) rfl
set_option maxRecDepth 20000 in
theorem am_cw49 : (.code yX4_tilesOf cX4_tilesOf 6 (some FieldType.long) : Cond) ∈ lw_tbl := List.mem_of_getElem? (i := 592) rfl
set_option maxRecDepth 20000 in
theorem am_iw49 : (.initialized yX4_tilesOf.cls : Cond) ∈ lw_tbl := List.mem_of_getElem? (i := 110) rfl
set_option maxRecDepth 20000 in
theorem am_cw50 : (.code yX4_bestOfAll cX4_bestOfAll 12 (some FieldType.long) : Cond) ∈ lw_tbl := List.mem_of_getElem? (i := 510) rfl
set_option maxRecDepth 20000 in
theorem am_iw50 : (.initialized yX4_bestOfAll.cls : Cond) ∈ lw_tbl := List.mem_of_getElem? (i := 110) rfl
set_option maxRecDepth 20000 in
theorem am_cw51 : (.code yX4_pickedFood cX4_pickedFood 4 (some FieldType.int) : Cond) ∈ lw_tbl := List.mem_of_getElem? (i := 538) rfl
set_option maxRecDepth 20000 in
theorem am_iw51 : (.initialized yX4_pickedFood.cls : Cond) ∈ lw_tbl := List.mem_of_getElem? (i := 110) rfl
set_option maxRecDepth 20000 in
theorem am_cw52 : (.code yX4_pickedWorth cX4_pickedWorth 5 (some FieldType.int) : Cond) ∈ lw_tbl := List.mem_of_getElem? (i := 543) rfl
set_option maxRecDepth 20000 in
theorem am_iw52 : (.initialized yX4_pickedWorth.cls : Cond) ∈ lw_tbl := List.mem_of_getElem? (i := 110) rfl
set_option maxRecDepth 20000 in
theorem am_cw53 : (.code yX4_pickedTiles cX4_pickedTiles 5 (some FieldType.long) : Cond) ∈ lw_tbl := List.mem_of_getElem? (i := 563) rfl
set_option maxRecDepth 20000 in
theorem am_iw53 : (.initialized yX4_pickedTiles.cls : Cond) ∈ lw_tbl := List.mem_of_getElem? (i := 110) rfl
set_option maxRecDepth 20000 in
theorem am_cw54 : (.code yX4_pickNext cX4_pickNext 5 (some FieldType.boolean) : Cond) ∈ lw_tbl := List.mem_of_getElem? (i := 567) rfl
set_option maxRecDepth 20000 in
theorem am_iw54 : (.initialized yX4_pickNext.cls : Cond) ∈ lw_tbl := List.mem_of_getElem? (i := 110) rfl
set_option maxRecDepth 20000 in
theorem am_cw55 : (.code yX5_init cX5_init 2 none : Cond) ∈ lw_tbl := List.mem_of_getElem? (i := 215) rfl
set_option maxRecDepth 20000 in
theorem am_iw55 : (.initialized yX5_init.cls : Cond) ∈ lw_tbl := List.mem_of_getElem? (i := 106) rfl
set_option maxRecDepth 20000 in
theorem am_cw56 : (.code yX5_knows cX5_knows 2 (some FieldType.boolean) : Cond) ∈ lw_tbl := List.mem_of_getElem? (i := 641) rfl
set_option maxRecDepth 20000 in
theorem am_iw56 : (.initialized yX5_knows.cls : Cond) ∈ lw_tbl := List.mem_of_getElem? (i := 106) rfl
set_option maxRecDepth 20000 in
theorem am_cw57 : (.code yX5_getCraft cX5_getCraft 2 none : Cond) ∈ lw_tbl := List.mem_of_getElem? (i := 734) rfl
set_option maxRecDepth 20000 in
theorem am_iw57 : (.initialized yX5_getCraft.cls : Cond) ∈ lw_tbl := List.mem_of_getElem? (i := 106) rfl
set_option maxRecDepth 20000 in
theorem am_cw58 : (.code yX5_gain cX5_gain 3 none : Cond) ∈ lw_tbl := List.mem_of_getElem? (i := 720) rfl
set_option maxRecDepth 20000 in
theorem am_iw58 : (.initialized yX5_gain.cls : Cond) ∈ lw_tbl := List.mem_of_getElem? (i := 106) rfl
set_option maxRecDepth 20000 in
theorem am_cw59 : (.code yX5_give cX5_give 3 none : Cond) ∈ lw_tbl := List.mem_of_getElem? (i := 773) rfl
set_option maxRecDepth 20000 in
theorem am_iw59 : (.initialized yX5_give.cls : Cond) ∈ lw_tbl := List.mem_of_getElem? (i := 106) rfl
set_option maxRecDepth 20000 in
theorem am_cw60 : (.code yX6_init cX6_init 6 none : Cond) ∈ lw_tbl := List.mem_of_getElem? (i := 1206) rfl
set_option maxRecDepth 20000 in
theorem am_iw60 : (.initialized yX6_init.cls : Cond) ∈ lw_tbl := List.mem_of_getElem? (i := 125) rfl
set_option maxRecDepth 20000 in
theorem am_cw61 : (.code yX6_standsBetween cX6_standsBetween 4 (some FieldType.boolean) : Cond) ∈ lw_tbl := List.mem_of_getElem? (i := 485) rfl
set_option maxRecDepth 20000 in
theorem am_iw61 : (.initialized yX6_standsBetween.cls : Cond) ∈ lw_tbl := List.mem_of_getElem? (i := 125) rfl
set_option maxRecDepth 20000 in
theorem am_cw62 : (.code yX6_end cX6_end 3 none : Cond) ∈ lw_tbl := List.mem_of_getElem? (i := 794) rfl
set_option maxRecDepth 20000 in
theorem am_iw62 : (.initialized yX6_end.cls : Cond) ∈ lw_tbl := List.mem_of_getElem? (i := 125) rfl
set_option maxRecDepth 20000 in
theorem am_cw63 : (.code yX6_loseTurn cX6_loseTurn 1 none : Cond) ∈ lw_tbl := List.mem_of_getElem? (i := 802) rfl
set_option maxRecDepth 20000 in
theorem am_iw63 : (.initialized yX6_loseTurn.cls : Cond) ∈ lw_tbl := List.mem_of_getElem? (i := 125) rfl
set_option maxRecDepth 20000 in
theorem am_cw64 : (.code yX7_init cX7_init 2 none : Cond) ∈ lw_tbl := List.mem_of_getElem? (i := 407) rfl
set_option maxRecDepth 20000 in
theorem am_iw64 : (.initialized yX7_init.cls : Cond) ∈ lw_tbl := List.mem_of_getElem? (i := 112) rfl
set_option maxRecDepth 20000 in
theorem am_cw65 : (.code yX7_run cX7_run 1 none : Cond) ∈ lw_tbl := List.mem_of_getElem? (i := 600) rfl
set_option maxRecDepth 20000 in
theorem am_iw65 : (.initialized yX7_run.cls : Cond) ∈ lw_tbl := List.mem_of_getElem? (i := 112) rfl
set_option maxRecDepth 20000 in
theorem am_cw66 : (.code yX7_endCities cX7_endCities 3 none : Cond) ∈ lw_tbl := List.mem_of_getElem? (i := 604) rfl
set_option maxRecDepth 20000 in
theorem am_iw66 : (.initialized yX7_endCities.cls : Cond) ∈ lw_tbl := List.mem_of_getElem? (i := 112) rfl
set_option maxRecDepth 20000 in
theorem am_cw67 : (.code yX7_feed cX7_feed 2 none : Cond) ∈ lw_tbl := List.mem_of_getElem? (i := 610) rfl
set_option maxRecDepth 20000 in
theorem am_iw67 : (.initialized yX7_feed.cls : Cond) ∈ lw_tbl := List.mem_of_getElem? (i := 112) rfl
set_option maxRecDepth 20000 in
theorem am_cw68 : (.code yX7_build cX7_build 3 none : Cond) ∈ lw_tbl := List.mem_of_getElem? (i := 623) rfl
set_option maxRecDepth 20000 in
theorem am_iw68 : (.initialized yX7_build.cls : Cond) ∈ lw_tbl := List.mem_of_getElem? (i := 112) rfl
set_option maxRecDepth 20000 in
theorem am_cw69 : (.code yX7_canMake cX7_canMake 4 (some FieldType.boolean) : Cond) ∈ lw_tbl := List.mem_of_getElem? (i := 635) rfl
set_option maxRecDepth 20000 in
theorem am_iw69 : (.initialized yX7_canMake.cls : Cond) ∈ lw_tbl := List.mem_of_getElem? (i := 112) rfl
set_option maxRecDepth 20000 in
theorem am_cw70 : (.code yX7_share cX7_share 3 none : Cond) ∈ lw_tbl := List.mem_of_getElem? (i := 716) rfl
set_option maxRecDepth 20000 in
theorem am_iw70 : (.initialized yX7_share.cls : Cond) ∈ lw_tbl := List.mem_of_getElem? (i := 112) rfl
set_option maxRecDepth 20000 in
theorem am_cw71 : (.code yX7_endPlayers cX7_endPlayers 3 none : Cond) ∈ lw_tbl := List.mem_of_getElem? (i := 726) rfl
set_option maxRecDepth 20000 in
theorem am_iw71 : (.initialized yX7_endPlayers.cls : Cond) ∈ lw_tbl := List.mem_of_getElem? (i := 112) rfl
set_option maxRecDepth 20000 in
theorem am_cw72 : (.code yX7_reachGoal cX7_reachGoal 2 none : Cond) ∈ lw_tbl := List.mem_of_getElem? (i := 730) rfl
set_option maxRecDepth 20000 in
theorem am_iw72 : (.initialized yX7_reachGoal.cls : Cond) ∈ lw_tbl := List.mem_of_getElem? (i := 112) rfl
set_option maxRecDepth 20000 in
theorem am_cw73 : (.code yX7_payUpkeep cX7_payUpkeep 5 none : Cond) ∈ lw_tbl := List.mem_of_getElem? (i := 738) rfl
set_option maxRecDepth 20000 in
theorem am_iw73 : (.initialized yX7_payUpkeep.cls : Cond) ∈ lw_tbl := List.mem_of_getElem? (i := 112) rfl
set_option maxRecDepth 20000 in
theorem am_cw74 : (.code yX7_upkeepOf cX7_upkeepOf 5 (some FieldType.int) : Cond) ∈ lw_tbl := List.mem_of_getElem? (i := 742) rfl
set_option maxRecDepth 20000 in
theorem am_iw74 : (.initialized yX7_upkeepOf.cls : Cond) ∈ lw_tbl := List.mem_of_getElem? (i := 112) rfl
set_option maxRecDepth 20000 in
theorem am_cw75 : (.code yX7_payTributes cX7_payTributes 3 none : Cond) ∈ lw_tbl := List.mem_of_getElem? (i := 777) rfl
set_option maxRecDepth 20000 in
theorem am_iw75 : (.initialized yX7_payTributes.cls : Cond) ∈ lw_tbl := List.mem_of_getElem? (i := 112) rfl
set_option maxRecDepth 20000 in
theorem am_cw76 : (.code yX7_payTribute cX7_payTribute 5 none : Cond) ∈ lw_tbl := List.mem_of_getElem? (i := 782) rfl
set_option maxRecDepth 20000 in
theorem am_iw76 : (.initialized yX7_payTribute.cls : Cond) ∈ lw_tbl := List.mem_of_getElem? (i := 112) rfl
set_option maxRecDepth 20000 in
theorem am_cw77 : (.code yX7_spreadBorders cX7_spreadBorders 3 none : Cond) ∈ lw_tbl := List.mem_of_getElem? (i := 807) rfl
set_option maxRecDepth 20000 in
theorem am_iw77 : (.initialized yX7_spreadBorders.cls : Cond) ∈ lw_tbl := List.mem_of_getElem? (i := 112) rfl
set_option maxRecDepth 20000 in
theorem am_cw78 : (.code yX7_strongestOn cX7_strongestOn 6 (some FieldType.int) : Cond) ∈ lw_tbl := List.mem_of_getElem? (i := 815) rfl
set_option maxRecDepth 20000 in
theorem am_iw78 : (.initialized yX7_strongestOn.cls : Cond) ∈ lw_tbl := List.mem_of_getElem? (i := 112) rfl
set_option maxRecDepth 20000 in
theorem am_cw79 : (.code yX7_mostPull cX7_mostPull 4 (some FieldType.int) : Cond) ∈ lw_tbl := List.mem_of_getElem? (i := 819) rfl
set_option maxRecDepth 20000 in
theorem am_iw79 : (.initialized yX7_mostPull.cls : Cond) ∈ lw_tbl := List.mem_of_getElem? (i := 112) rfl
set_option maxRecDepth 20000 in
theorem am_cw80 : (.code yX7_doJobs cX7_doJobs 3 none : Cond) ∈ lw_tbl := List.mem_of_getElem? (i := 830) rfl
set_option maxRecDepth 20000 in
theorem am_iw80 : (.initialized yX7_doJobs.cls : Cond) ∈ lw_tbl := List.mem_of_getElem? (i := 112) rfl
set_option maxRecDepth 20000 in
theorem am_cw81 : (.code yX7_restUnits cX7_restUnits 3 none : Cond) ∈ lw_tbl := List.mem_of_getElem? (i := 839) rfl
set_option maxRecDepth 20000 in
theorem am_iw81 : (.initialized yX7_restUnits.cls : Cond) ∈ lw_tbl := List.mem_of_getElem? (i := 112) rfl
set_option maxRecDepth 20000 in
theorem am_cw82 : (.code yX7_isSupplied cX7_isSupplied 3 (some FieldType.boolean) : Cond) ∈ lw_tbl := List.mem_of_getElem? (i := 844) rfl
set_option maxRecDepth 20000 in
theorem am_iw82 : (.initialized yX7_isSupplied.cls : Cond) ∈ lw_tbl := List.mem_of_getElem? (i := 112) rfl
set_option maxRecDepth 20000 in
theorem am_cw83 : (.code yX8_init cX8_init 5 none : Cond) ∈ lw_tbl := List.mem_of_getElem? (i := 663) rfl
set_option maxRecDepth 20000 in
theorem am_iw83 : (.initialized yX8_init.cls : Cond) ∈ lw_tbl := List.mem_of_getElem? (i := 122) rfl
set_option maxRecDepth 20000 in
theorem am_cw84 : (.code yX8_attack cX8_attack 1 (some FieldType.int) : Cond) ∈ lw_tbl := List.mem_of_getElem? (i := 1337) rfl
set_option maxRecDepth 20000 in
theorem am_iw84 : (.initialized yX8_attack.cls : Cond) ∈ lw_tbl := List.mem_of_getElem? (i := 122) rfl
set_option maxRecDepth 20000 in
theorem am_cw85 : (.code yX8_defence cX8_defence 1 (some FieldType.int) : Cond) ∈ lw_tbl := List.mem_of_getElem? (i := 1331) rfl
set_option maxRecDepth 20000 in
theorem am_iw85 : (.initialized yX8_defence.cls : Cond) ∈ lw_tbl := List.mem_of_getElem? (i := 122) rfl
set_option maxRecDepth 20000 in
theorem am_cw86 : (.code yX8_dropJob cX8_dropJob 1 none : Cond) ∈ lw_tbl := List.mem_of_getElem? (i := 835) rfl
set_option maxRecDepth 20000 in
theorem am_iw86 : (.initialized yX8_dropJob.cls : Cond) ∈ lw_tbl := List.mem_of_getElem? (i := 122) rfl
set_option maxRecDepth 20000 in
theorem am_cw87 : (.code yX9_init cX9_init 2 none : Cond) ∈ lw_tbl := List.mem_of_getElem? (i := 138) rfl
set_option maxRecDepth 20000 in
theorem am_iw87 : (.initialized yX9_init.cls : Cond) ∈ lw_tbl := List.mem_of_getElem? (i := 99) rfl
set_option maxRecDepth 20000 in
theorem am_cw88 : (.code yX9_playerAt cX9_playerAt 2 (some (FieldType.object "EmpireTurns$Player")) : Cond) ∈ lw_tbl := List.mem_of_getElem? (i := 786) rfl
set_option maxRecDepth 20000 in
theorem am_iw88 : (.initialized yX9_playerAt.cls : Cond) ∈ lw_tbl := List.mem_of_getElem? (i := 99) rfl
set_option maxRecDepth 20000 in
theorem am_cw89 : (.code yX9_areAtWar cX9_areAtWar 3 (some FieldType.boolean) : Cond) ∈ lw_tbl := List.mem_of_getElem? (i := 471) rfl
set_option maxRecDepth 20000 in
theorem am_iw89 : (.initialized yX9_areAtWar.cls : Cond) ∈ lw_tbl := List.mem_of_getElem? (i := 99) rfl
set_option maxRecDepth 20000 in
theorem am_cw90 : (.code yX9_canLearn cX9_canLearn 4 (some FieldType.boolean) : Cond) ∈ lw_tbl := List.mem_of_getElem? (i := 1182) rfl
set_option maxRecDepth 20000 in
theorem am_iw90 : (.initialized yX9_canLearn.cls : Cond) ∈ lw_tbl := List.mem_of_getElem? (i := 99) rfl
set_option maxRecDepth 20000 in
theorem am_cw91 : (.code yX9_cityOn cX9_cityOn 4 (some (FieldType.object "EmpireTurns$City")) : Cond) ∈ lw_tbl := List.mem_of_getElem? (i := 811) rfl
set_option maxRecDepth 20000 in
theorem am_iw91 : (.initialized yX9_cityOn.cls : Cond) ∈ lw_tbl := List.mem_of_getElem? (i := 99) rfl
set_option maxRecDepth 20000 in
theorem am_cw92 : (.code yX9_cityNumberOn cX9_cityNumberOn 3 (some FieldType.int) : Cond) ∈ lw_tbl := List.mem_of_getElem? (i := 1477) rfl
set_option maxRecDepth 20000 in
theorem am_iw92 : (.initialized yX9_cityNumberOn.cls : Cond) ∈ lw_tbl := List.mem_of_getElem? (i := 99) rfl
set_option maxRecDepth 20000 in
theorem am_cw93 : (.code yX9_hasCityNear cX9_hasCityNear 3 (some FieldType.boolean) : Cond) ∈ lw_tbl := List.mem_of_getElem? (i := 1019) rfl
set_option maxRecDepth 20000 in
theorem am_iw93 : (.initialized yX9_hasCityNear.cls : Cond) ∈ lw_tbl := List.mem_of_getElem? (i := 99) rfl
set_option maxRecDepth 20000 in
theorem am_cw94 : (.code yX9_addCity cX9_addCity 4 (some FieldType.int) : Cond) ∈ lw_tbl := List.mem_of_getElem? (i := 1027) rfl
set_option maxRecDepth 20000 in
theorem am_iw94 : (.initialized yX9_addCity.cls : Cond) ∈ lw_tbl := List.mem_of_getElem? (i := 99) rfl
set_option maxRecDepth 20000 in
theorem am_cw95 : (.code yX9_removeCity cX9_removeCity 3 none : Cond) ∈ lw_tbl := List.mem_of_getElem? (i := 1373) rfl
set_option maxRecDepth 20000 in
theorem am_iw95 : (.initialized yX9_removeCity.cls : Cond) ∈ lw_tbl := List.mem_of_getElem? (i := 99) rfl
set_option maxRecDepth 20000 in
theorem am_cw96 : (.code yX9_countCities cX9_countCities 4 (some FieldType.int) : Cond) ∈ lw_tbl := List.mem_of_getElem? (i := 756) rfl
set_option maxRecDepth 20000 in
theorem am_iw96 : (.initialized yX9_countCities.cls : Cond) ∈ lw_tbl := List.mem_of_getElem? (i := 99) rfl
set_option maxRecDepth 20000 in
theorem am_cw97 : (.code yX9_greatestSizeUpTo cX9_greatestSizeUpTo 5 (some FieldType.int) : Cond) ∈ lw_tbl := List.mem_of_getElem? (i := 1457) rfl
set_option maxRecDepth 20000 in
theorem am_iw97 : (.initialized yX9_greatestSizeUpTo.cls : Cond) ∈ lw_tbl := List.mem_of_getElem? (i := 99) rfl
set_option maxRecDepth 20000 in
theorem am_cw98 : (.code yX9_pullOf cX9_pullOf 7 (some FieldType.int) : Cond) ∈ lw_tbl := List.mem_of_getElem? (i := 823) rfl
set_option maxRecDepth 20000 in
theorem am_iw98 : (.initialized yX9_pullOf.cls : Cond) ∈ lw_tbl := List.mem_of_getElem? (i := 99) rfl
set_option maxRecDepth 20000 in
theorem am_cw99 : (.code yX9_scoreOf cX9_scoreOf 5 (some FieldType.int) : Cond) ∈ lw_tbl := List.mem_of_getElem? (i := 1497) rfl
set_option maxRecDepth 20000 in
theorem am_iw99 : (.initialized yX9_scoreOf.cls : Cond) ∈ lw_tbl := List.mem_of_getElem? (i := 99) rfl
set_option maxRecDepth 20000 in
theorem am_cw100 : (.code yX9_countOn cX9_countOn 4 (some FieldType.int) : Cond) ∈ lw_tbl := List.mem_of_getElem? (i := 650) rfl
set_option maxRecDepth 20000 in
theorem am_iw100 : (.initialized yX9_countOn.cls : Cond) ∈ lw_tbl := List.mem_of_getElem? (i := 99) rfl
set_option maxRecDepth 20000 in
theorem am_cw101 : (.code yX9_countUnits cX9_countUnits 4 (some FieldType.int) : Cond) ∈ lw_tbl := List.mem_of_getElem? (i := 752) rfl
set_option maxRecDepth 20000 in
theorem am_iw101 : (.initialized yX9_countUnits.cls : Cond) ∈ lw_tbl := List.mem_of_getElem? (i := 99) rfl
set_option maxRecDepth 20000 in
theorem am_cw102 : (.code yX9_hasRoomFor cX9_hasRoomFor 2 (some FieldType.boolean) : Cond) ∈ lw_tbl := List.mem_of_getElem? (i := 646) rfl
set_option maxRecDepth 20000 in
theorem am_iw102 : (.initialized yX9_hasRoomFor.cls : Cond) ∈ lw_tbl := List.mem_of_getElem? (i := 99) rfl
set_option maxRecDepth 20000 in
theorem am_cw103 : (.code yX9_hasOthersOn cX9_hasOthersOn 6 (some FieldType.boolean) : Cond) ∈ lw_tbl := List.mem_of_getElem? (i := 980) rfl
set_option maxRecDepth 20000 in
theorem am_iw103 : (.initialized yX9_hasOthersOn.cls : Cond) ∈ lw_tbl := List.mem_of_getElem? (i := 99) rfl
set_option maxRecDepth 20000 in
theorem am_cw104 : (.code yX9_addUnit cX9_addUnit 5 (some FieldType.int) : Cond) ∈ lw_tbl := List.mem_of_getElem? (i := 659) rfl
set_option maxRecDepth 20000 in
theorem am_iw104 : (.initialized yX9_addUnit.cls : Cond) ∈ lw_tbl := List.mem_of_getElem? (i := 99) rfl
set_option maxRecDepth 20000 in
theorem am_cw105 : (.code yX9_removeUnit cX9_removeUnit 3 none : Cond) ∈ lw_tbl := List.mem_of_getElem? (i := 1023) rfl
set_option maxRecDepth 20000 in
theorem am_iw105 : (.initialized yX9_removeUnit.cls : Cond) ∈ lw_tbl := List.mem_of_getElem? (i := 99) rfl
set_option maxRecDepth 20000 in
theorem am_cw106 : (.code yX9_removeLastUnit cX9_removeLastUnit 3 (some FieldType.boolean) : Cond) ∈ lw_tbl := List.mem_of_getElem? (i := 760) rfl
set_option maxRecDepth 20000 in
theorem am_iw106 : (.initialized yX9_removeLastUnit.cls : Cond) ∈ lw_tbl := List.mem_of_getElem? (i := 99) rfl
set_option maxRecDepth 20000 in
theorem am_cw107 : (.code yX9_tilesOfFoes cX9_tilesOfFoes 6 (some FieldType.long) : Cond) ∈ lw_tbl := List.mem_of_getElem? (i := 466) rfl
set_option maxRecDepth 20000 in
theorem am_iw107 : (.initialized yX9_tilesOfFoes.cls : Cond) ∈ lw_tbl := List.mem_of_getElem? (i := 99) rfl
set_option maxRecDepth 20000 in
theorem am_cw108 : (.code yX9_tilesOfCities cX9_tilesOfCities 4 (some FieldType.long) : Cond) ∈ lw_tbl := List.mem_of_getElem? (i := 440) rfl
set_option maxRecDepth 20000 in
theorem am_iw108 : (.initialized yX9_tilesOfCities.cls : Cond) ∈ lw_tbl := List.mem_of_getElem? (i := 99) rfl
set_option maxRecDepth 20000 in
theorem am_cw109 : (.code yX10_init cX10_init 1 none : Cond) ∈ lw_tbl := List.mem_of_getElem? (i := 130) rfl
set_option maxRecDepth 20000 in
theorem am_iw109 : (.initialized yX10_init.cls : Cond) ∈ lw_tbl := List.mem_of_getElem? (i := 98) rfl
set_option maxRecDepth 20000 in
theorem am_cw110 : (.code yX10_lay cX10_lay 4 (some FieldType.int) : Cond) ∈ lw_tbl := List.mem_of_getElem? (i := 855) rfl
set_option maxRecDepth 20000 in
theorem am_iw110 : (.initialized yX10_lay.cls : Cond) ∈ lw_tbl := List.mem_of_getElem? (i := 98) rfl
set_option maxRecDepth 20000 in
theorem am_cw111 : (.code yX10_need cX10_need 5 (some FieldType.int) : Cond) ∈ lw_tbl := List.mem_of_getElem? (i := 960) rfl
set_option maxRecDepth 20000 in
theorem am_iw111 : (.initialized yX10_need.cls : Cond) ∈ lw_tbl := List.mem_of_getElem? (i := 98) rfl
set_option maxRecDepth 20000 in
theorem am_cw112 : (.code yX10_place cX10_place 5 (some FieldType.int) : Cond) ∈ lw_tbl := List.mem_of_getElem? (i := 970) rfl
set_option maxRecDepth 20000 in
theorem am_iw112 : (.initialized yX10_place.cls : Cond) ∈ lw_tbl := List.mem_of_getElem? (i := 98) rfl
set_option maxRecDepth 20000 in
theorem am_cw113 : (.code yX10_found cX10_found 4 (some FieldType.int) : Cond) ∈ lw_tbl := List.mem_of_getElem? (i := 991) rfl
set_option maxRecDepth 20000 in
theorem am_iw113 : (.initialized yX10_found.cls : Cond) ∈ lw_tbl := List.mem_of_getElem? (i := 98) rfl
set_option maxRecDepth 20000 in
theorem am_cw114 : (.code yX10_order cX10_order 6 none : Cond) ∈ lw_tbl := List.mem_of_getElem? (i := 1140) rfl
set_option maxRecDepth 20000 in
theorem am_iw114 : (.initialized yX10_order.cls : Cond) ∈ lw_tbl := List.mem_of_getElem? (i := 98) rfl
set_option maxRecDepth 20000 in
theorem am_cw115 : (.code yX10_queue cX10_queue 4 (some FieldType.int) : Cond) ∈ lw_tbl := List.mem_of_getElem? (i := 1153) rfl
set_option maxRecDepth 20000 in
theorem am_iw115 : (.initialized yX10_queue.cls : Cond) ∈ lw_tbl := List.mem_of_getElem? (i := 98) rfl
set_option maxRecDepth 20000 in
theorem am_cw116 : (.code yX10_unqueue cX10_unqueue 4 (some FieldType.int) : Cond) ∈ lw_tbl := List.mem_of_getElem? (i := 1160) rfl
set_option maxRecDepth 20000 in
theorem am_iw116 : (.initialized yX10_unqueue.cls : Cond) ∈ lw_tbl := List.mem_of_getElem? (i := 98) rfl
set_option maxRecDepth 20000 in
theorem am_cw117 : (.code yX10_hurry cX10_hurry 5 (some FieldType.int) : Cond) ∈ lw_tbl := List.mem_of_getElem? (i := 1168) rfl
set_option maxRecDepth 20000 in
theorem am_iw117 : (.initialized yX10_hurry.cls : Cond) ∈ lw_tbl := List.mem_of_getElem? (i := 98) rfl
set_option maxRecDepth 20000 in
theorem am_cw118 : (.code yX10_learn cX10_learn 4 none : Cond) ∈ lw_tbl := List.mem_of_getElem? (i := 1178) rfl
set_option maxRecDepth 20000 in
theorem am_iw118 : (.initialized yX10_learn.cls : Cond) ∈ lw_tbl := List.mem_of_getElem? (i := 98) rfl
set_option maxRecDepth 20000 in
theorem am_cw119 : (.code yX10_setParts cX10_setParts 5 (some FieldType.int) : Cond) ∈ lw_tbl := List.mem_of_getElem? (i := 1191) rfl
set_option maxRecDepth 20000 in
theorem am_iw119 : (.initialized yX10_setParts.cls : Cond) ∈ lw_tbl := List.mem_of_getElem? (i := 98) rfl
set_option maxRecDepth 20000 in
theorem am_cw120 : (.code yX10_offer cX10_offer 6 none : Cond) ∈ lw_tbl := List.mem_of_getElem? (i := 1198) rfl
set_option maxRecDepth 20000 in
theorem am_iw120 : (.initialized yX10_offer.cls : Cond) ∈ lw_tbl := List.mem_of_getElem? (i := 98) rfl
set_option maxRecDepth 20000 in
theorem am_cw121 : (.code yX10_agree cX10_agree 6 (some FieldType.int) : Cond) ∈ lw_tbl := List.mem_of_getElem? (i := 1256) rfl
set_option maxRecDepth 20000 in
theorem am_iw121 : (.initialized yX10_agree.cls : Cond) ∈ lw_tbl := List.mem_of_getElem? (i := 98) rfl
set_option maxRecDepth 20000 in
theorem am_cw122 : (.code yX10_cancel cX10_cancel 5 (some FieldType.int) : Cond) ∈ lw_tbl := List.mem_of_getElem? (i := 1280) rfl
set_option maxRecDepth 20000 in
theorem am_iw122 : (.initialized yX10_cancel.cls : Cond) ∈ lw_tbl := List.mem_of_getElem? (i := 98) rfl
set_option maxRecDepth 20000 in
theorem am_cw123 : (.code yX10_treaty cX10_treaty 4 (some FieldType.int) : Cond) ∈ lw_tbl := List.mem_of_getElem? (i := 1293) rfl
set_option maxRecDepth 20000 in
theorem am_iw123 : (.initialized yX10_treaty.cls : Cond) ∈ lw_tbl := List.mem_of_getElem? (i := 98) rfl
set_option maxRecDepth 20000 in
theorem am_cw124 : (.code yX10_atWar cX10_atWar 3 (some FieldType.boolean) : Cond) ∈ lw_tbl := List.mem_of_getElem? (i := 1301) rfl
set_option maxRecDepth 20000 in
theorem am_iw124 : (.initialized yX10_atWar.cls : Cond) ∈ lw_tbl := List.mem_of_getElem? (i := 98) rfl
set_option maxRecDepth 20000 in
theorem am_cw125 : (.code yX10_step cX10_step 7 (some FieldType.boolean) : Cond) ∈ lw_tbl := List.mem_of_getElem? (i := 1309) rfl
set_option maxRecDepth 20000 in
theorem am_iw125 : (.initialized yX10_step.cls : Cond) ∈ lw_tbl := List.mem_of_getElem? (i := 98) rfl
set_option maxRecDepth 20000 in
theorem am_cw126 : (.code yX10_work cX10_work 4 none : Cond) ∈ lw_tbl := List.mem_of_getElem? (i := 1420) rfl
set_option maxRecDepth 20000 in
theorem am_iw126 : (.initialized yX10_work.cls : Cond) ∈ lw_tbl := List.mem_of_getElem? (i := 98) rfl
set_option maxRecDepth 20000 in
theorem am_cw127 : (.code yX10_unit cX10_unit 4 (some FieldType.int) : Cond) ∈ lw_tbl := List.mem_of_getElem? (i := 1431) rfl
set_option maxRecDepth 20000 in
theorem am_iw127 : (.initialized yX10_unit.cls : Cond) ∈ lw_tbl := List.mem_of_getElem? (i := 98) rfl
set_option maxRecDepth 20000 in
theorem am_cw128 : (.code yX10_unitsOn cX10_unitsOn 2 (some FieldType.int) : Cond) ∈ lw_tbl := List.mem_of_getElem? (i := 1439) rfl
set_option maxRecDepth 20000 in
theorem am_iw128 : (.initialized yX10_unitsOn.cls : Cond) ∈ lw_tbl := List.mem_of_getElem? (i := 98) rfl
set_option maxRecDepth 20000 in
theorem am_cw129 : (.code yX10_endTurn cX10_endTurn 1 (some FieldType.int) : Cond) ∈ lw_tbl := List.mem_of_getElem? (i := 432) rfl
set_option maxRecDepth 20000 in
theorem am_iw129 : (.initialized yX10_endTurn.cls : Cond) ∈ lw_tbl := List.mem_of_getElem? (i := 98) rfl
set_option maxRecDepth 20000 in
theorem am_cw130 : (.code yX10_plan cX10_plan 3 (some FieldType.long) : Cond) ∈ lw_tbl := List.mem_of_getElem? (i := 1446) rfl
set_option maxRecDepth 20000 in
theorem am_iw130 : (.initialized yX10_plan.cls : Cond) ∈ lw_tbl := List.mem_of_getElem? (i := 98) rfl
set_option maxRecDepth 20000 in
theorem am_cw131 : (.code yX10_planByAll cX10_planByAll 3 (some FieldType.long) : Cond) ∈ lw_tbl := List.mem_of_getElem? (i := 1453) rfl
set_option maxRecDepth 20000 in
theorem am_iw131 : (.initialized yX10_planByAll.cls : Cond) ∈ lw_tbl := List.mem_of_getElem? (i := 98) rfl
set_option maxRecDepth 20000 in
theorem am_cw132 : (.code yX10_city cX10_city 4 (some FieldType.int) : Cond) ∈ lw_tbl := List.mem_of_getElem? (i := 1465) rfl
set_option maxRecDepth 20000 in
theorem am_iw132 : (.initialized yX10_city.cls : Cond) ∈ lw_tbl := List.mem_of_getElem? (i := 98) rfl
set_option maxRecDepth 20000 in
theorem am_cw133 : (.code yX10_tile cX10_tile 3 (some FieldType.int) : Cond) ∈ lw_tbl := List.mem_of_getElem? (i := 1473) rfl
set_option maxRecDepth 20000 in
theorem am_iw133 : (.initialized yX10_tile.cls : Cond) ∈ lw_tbl := List.mem_of_getElem? (i := 98) rfl
set_option maxRecDepth 20000 in
theorem am_cw134 : (.code yX10_pull cX10_pull 4 (some FieldType.int) : Cond) ∈ lw_tbl := List.mem_of_getElem? (i := 1485) rfl
set_option maxRecDepth 20000 in
theorem am_iw134 : (.initialized yX10_pull.cls : Cond) ∈ lw_tbl := List.mem_of_getElem? (i := 98) rfl
set_option maxRecDepth 20000 in
theorem am_cw135 : (.code yX10_player cX10_player 4 (some FieldType.int) : Cond) ∈ lw_tbl := List.mem_of_getElem? (i := 1493) rfl
set_option maxRecDepth 20000 in
theorem am_iw135 : (.initialized yX10_player.cls : Cond) ∈ lw_tbl := List.mem_of_getElem? (i := 98) rfl
set_option maxRecDepth 20000 in
theorem am_cw136 : (.code yX10_ledger cX10_ledger 4 (some FieldType.int) : Cond) ∈ lw_tbl := List.mem_of_getElem? (i := 1512) rfl
set_option maxRecDepth 20000 in
theorem am_iw136 : (.initialized yX10_ledger.cls : Cond) ∈ lw_tbl := List.mem_of_getElem? (i := 98) rfl
set_option maxRecDepth 20000 in
theorem am_cw137 : (.code yX10_findPlayer cX10_findPlayer 3 (some (FieldType.object "EmpireTurns$Player")) : Cond) ∈ lw_tbl := List.mem_of_getElem? (i := 974) rfl
set_option maxRecDepth 20000 in
theorem am_iw137 : (.initialized yX10_findPlayer.cls : Cond) ∈ lw_tbl := List.mem_of_getElem? (i := 98) rfl
set_option maxRecDepth 20000 in
theorem am_cw138 : (.code yX10_findCity cX10_findCity 4 (some (FieldType.object "EmpireTurns$City")) : Cond) ∈ lw_tbl := List.mem_of_getElem? (i := 1144) rfl
set_option maxRecDepth 20000 in
theorem am_iw138 : (.initialized yX10_findCity.cls : Cond) ∈ lw_tbl := List.mem_of_getElem? (i := 98) rfl
set_option maxRecDepth 20000 in
theorem am_cw139 : (.code yX10_findUnit cX10_findUnit 4 (some (FieldType.object "EmpireTurns$Unit")) : Cond) ∈ lw_tbl := List.mem_of_getElem? (i := 995) rfl
set_option maxRecDepth 20000 in
theorem am_iw139 : (.initialized yX10_findUnit.cls : Cond) ∈ lw_tbl := List.mem_of_getElem? (i := 98) rfl
set_option maxRecDepth 20000 in
theorem am_cw140 : (.code yX10_findTreaty cX10_findTreaty 2 (some (FieldType.object "EmpireTurns$Treaty")) : Cond) ∈ lw_tbl := List.mem_of_getElem? (i := 1284) rfl
set_option maxRecDepth 20000 in
theorem am_iw140 : (.initialized yX10_findTreaty.cls : Cond) ∈ lw_tbl := List.mem_of_getElem? (i := 98) rfl
set_option maxRecDepth 20000 in
theorem am_cw141 : (.code yX10_isOffered cX10_isOffered 2 (some FieldType.boolean) : Cond) ∈ lw_tbl := List.mem_of_getElem? (i := 1201) rfl
set_option maxRecDepth 20000 in
theorem am_iw141 : (.initialized yX10_isOffered.cls : Cond) ∈ lw_tbl := List.mem_of_getElem? (i := 98) rfl
set_option maxRecDepth 20000 in
theorem am_cw142 : (.code yX10_requireTile cX10_requireTile 1 none : Cond) ∈ lw_tbl := List.mem_of_getElem? (i := 858) rfl
set_option maxRecDepth 20000 in
theorem am_iw142 : (.initialized yX10_requireTile.cls : Cond) ∈ lw_tbl := List.mem_of_getElem? (i := 98) rfl
set_option maxRecDepth 20000 in
theorem am_cw143 : (.code yX10_requireArgument cX10_requireArgument 1 none : Cond) ∈ lw_tbl := List.mem_of_getElem? (i := 862) rfl
set_option maxRecDepth 20000 in
theorem am_iw143 : (.initialized yX10_requireArgument.cls : Cond) ∈ lw_tbl := List.mem_of_getElem? (i := 98) rfl
set_option maxRecDepth 20000 in
theorem am_cw144 : (.code yX10_requireState cX10_requireState 1 none : Cond) ∈ lw_tbl := List.mem_of_getElem? (i := 935) rfl
set_option maxRecDepth 20000 in
theorem am_iw144 : (.initialized yX10_requireState.cls : Cond) ∈ lw_tbl := List.mem_of_getElem? (i := 98) rfl
set_option maxRecDepth 20000 in
theorem am_cw145 : (.code yX10_isBetween cX10_isBetween 3 (some FieldType.boolean) : Cond) ∈ lw_tbl := List.mem_of_getElem? (i := 789) rfl
set_option maxRecDepth 20000 in
theorem am_iw145 : (.initialized yX10_isBetween.cls : Cond) ∈ lw_tbl := List.mem_of_getElem? (i := 98) rfl
set_option maxRecDepth 20000 in
theorem am_cw146 : (.code yX10_hasBit cX10_hasBit 2 (some FieldType.boolean) : Cond) ∈ lw_tbl := List.mem_of_getElem? (i := 619) rfl
set_option maxRecDepth 20000 in
theorem am_iw146 : (.initialized yX10_hasBit.cls : Cond) ∈ lw_tbl := List.mem_of_getElem? (i := 98) rfl
set_option maxRecDepth 20000 in
theorem am_cw147 : (.code yX10_at cX10_at 2 (some FieldType.int) : Cond) ∈ lw_tbl := List.mem_of_getElem? (i := 503) rfl
set_option maxRecDepth 20000 in
theorem am_iw147 : (.initialized yX10_at.cls : Cond) ∈ lw_tbl := List.mem_of_getElem? (i := 98) rfl
set_option maxRecDepth 20000 in
theorem am_cw148 : (.code yX10_put cX10_put 3 none : Cond) ∈ lw_tbl := List.mem_of_getElem? (i := 506) rfl
set_option maxRecDepth 20000 in
theorem am_iw148 : (.initialized yX10_put.cls : Cond) ∈ lw_tbl := List.mem_of_getElem? (i := 98) rfl
set_option maxRecDepth 20000 in
theorem am_cw149 : (.code yX10_distance cX10_distance 4 (some FieldType.int) : Cond) ∈ lw_tbl := List.mem_of_getElem? (i := 492) rfl
set_option maxRecDepth 20000 in
theorem am_iw149 : (.initialized yX10_distance.cls : Cond) ∈ lw_tbl := List.mem_of_getElem? (i := 98) rfl
set_option maxRecDepth 20000 in
theorem am_cw150 : (.code yX10_tileBeside cX10_tileBeside 5 (some FieldType.int) : Cond) ∈ lw_tbl := List.mem_of_getElem? (i := 1312) rfl
set_option maxRecDepth 20000 in
theorem am_iw150 : (.initialized yX10_tileBeside.cls : Cond) ∈ lw_tbl := List.mem_of_getElem? (i := 98) rfl
set_option maxRecDepth 20000 in
theorem am_cw151 : (.code yX11_init cX11_init 2 none : Cond) ∈ lw_tbl := List.mem_of_getElem? (i := 1517) rfl
set_option maxRecDepth 20000 in
theorem am_iw151 : (.initialized yX11_init.cls : Cond) ∈ lw_tbl := List.mem_of_getElem? (i := 113) rfl
set_option maxRecDepth 20000 in
theorem am_cw152 : (.code yX11_thrown cX11_thrown 1 (some FieldType.int) : Cond) ∈ lw_tbl := List.mem_of_getElem? (i := 1684) rfl
set_option maxRecDepth 20000 in
theorem am_iw152 : (.initialized yX11_thrown.cls : Cond) ∈ lw_tbl := List.mem_of_getElem? (i := 113) rfl
set_option maxRecDepth 20000 in
theorem am_cw153 : (.code yX11_holds cX11_holds 2 (some FieldType.boolean) : Cond) ∈ lw_tbl := List.mem_of_getElem? (i := 1702) rfl
set_option maxRecDepth 20000 in
theorem am_iw153 : (.initialized yX11_holds.cls : Cond) ∈ lw_tbl := List.mem_of_getElem? (i := 113) rfl
set_option maxRecDepth 20000 in
theorem am_cw154 : (.code yX11_in cX11_in 3 (some FieldType.boolean) : Cond) ∈ lw_tbl := List.mem_of_getElem? (i := 1694) rfl
set_option maxRecDepth 20000 in
theorem am_iw154 : (.initialized yX11_in.cls : Cond) ∈ lw_tbl := List.mem_of_getElem? (i := 113) rfl
set_option maxRecDepth 20000 in
theorem am_cw155 : (.code yX11_has cX11_has 2 (some FieldType.boolean) : Cond) ∈ lw_tbl := List.mem_of_getElem? (i := 1709) rfl
set_option maxRecDepth 20000 in
theorem am_iw155 : (.initialized yX11_has.cls : Cond) ∈ lw_tbl := List.mem_of_getElem? (i := 113) rfl
set_option maxRecDepth 20000 in
theorem am_cw156 : (.code yX11_isPlayer cX11_isPlayer 1 (some FieldType.boolean) : Cond) ∈ lw_tbl := List.mem_of_getElem? (i := 1719) rfl
set_option maxRecDepth 20000 in
theorem am_iw156 : (.initialized yX11_isPlayer.cls : Cond) ∈ lw_tbl := List.mem_of_getElem? (i := 113) rfl
set_option maxRecDepth 20000 in
theorem am_cw157 : (.code yX11_isTile cX11_isTile 1 (some FieldType.boolean) : Cond) ∈ lw_tbl := List.mem_of_getElem? (i := 1691) rfl
set_option maxRecDepth 20000 in
theorem am_iw157 : (.initialized yX11_isTile.cls : Cond) ∈ lw_tbl := List.mem_of_getElem? (i := 113) rfl
set_option maxRecDepth 20000 in
theorem am_cw158 : (.code yX11_isCity cX11_isCity 2 (some FieldType.boolean) : Cond) ∈ lw_tbl := List.mem_of_getElem? (i := 1764) rfl
set_option maxRecDepth 20000 in
theorem am_iw158 : (.initialized yX11_isCity.cls : Cond) ∈ lw_tbl := List.mem_of_getElem? (i := 113) rfl
set_option maxRecDepth 20000 in
theorem am_cw159 : (.code yX11_size cX11_size 1 (some FieldType.int) : Cond) ∈ lw_tbl := List.mem_of_getElem? (i := 1752) rfl
set_option maxRecDepth 20000 in
theorem am_iw159 : (.initialized yX11_size.cls : Cond) ∈ lw_tbl := List.mem_of_getElem? (i := 113) rfl
set_option maxRecDepth 20000 in
theorem am_cw160 : (.code yX11_distance cX11_distance 4 (some FieldType.int) : Cond) ∈ lw_tbl := List.mem_of_getElem? (i := 1749) rfl
set_option maxRecDepth 20000 in
theorem am_iw160 : (.initialized yX11_distance.cls : Cond) ∈ lw_tbl := List.mem_of_getElem? (i := 113) rfl
set_option maxRecDepth 20000 in
theorem am_cw161 : (.code yX11_movesOf cX11_movesOf 1 (some FieldType.int) : Cond) ∈ lw_tbl := List.mem_of_getElem? (i := 1734) rfl
set_option maxRecDepth 20000 in
theorem am_iw161 : (.initialized yX11_movesOf.cls : Cond) ∈ lw_tbl := List.mem_of_getElem? (i := 113) rfl
set_option maxRecDepth 20000 in
theorem am_cw162 : (.code yX11_attackOf cX11_attackOf 1 (some FieldType.int) : Cond) ∈ lw_tbl := List.mem_of_getElem? (i := 1854) rfl
set_option maxRecDepth 20000 in
theorem am_iw162 : (.initialized yX11_attackOf.cls : Cond) ∈ lw_tbl := List.mem_of_getElem? (i := 113) rfl
set_option maxRecDepth 20000 in
theorem am_cw163 : (.code yX11_defenceOf cX11_defenceOf 1 (some FieldType.int) : Cond) ∈ lw_tbl := List.mem_of_getElem? (i := 1873) rfl
set_option maxRecDepth 20000 in
theorem am_iw163 : (.initialized yX11_defenceOf.cls : Cond) ∈ lw_tbl := List.mem_of_getElem? (i := 113) rfl
set_option maxRecDepth 20000 in
theorem am_cw164 : (.code yX11_costOf cX11_costOf 1 (some FieldType.int) : Cond) ∈ lw_tbl := List.mem_of_getElem? (i := 1783) rfl
set_option maxRecDepth 20000 in
theorem am_iw164 : (.initialized yX11_costOf.cls : Cond) ∈ lw_tbl := List.mem_of_getElem? (i := 113) rfl
set_option maxRecDepth 20000 in
theorem am_cw165 : (.code yX11_craftOf cX11_craftOf 1 (some FieldType.int) : Cond) ∈ lw_tbl := List.mem_of_getElem? (i := 1972) rfl
set_option maxRecDepth 20000 in
theorem am_iw165 : (.initialized yX11_craftOf.cls : Cond) ∈ lw_tbl := List.mem_of_getElem? (i := 113) rfl
set_option maxRecDepth 20000 in
theorem am_cw166 : (.code yX11_indexOf cX11_indexOf 3 (some FieldType.int) : Cond) ∈ lw_tbl := List.mem_of_getElem? (i := 1742) rfl
set_option maxRecDepth 20000 in
theorem am_iw166 : (.initialized yX11_indexOf.cls : Cond) ∈ lw_tbl := List.mem_of_getElem? (i := 113) rfl
set_option maxRecDepth 20000 in
theorem am_cw167 : (.code yX11_countOn cX11_countOn 4 (some FieldType.int) : Cond) ∈ lw_tbl := List.mem_of_getElem? (i := 1698) rfl
set_option maxRecDepth 20000 in
theorem am_iw167 : (.initialized yX11_countOn.cls : Cond) ∈ lw_tbl := List.mem_of_getElem? (i := 113) rfl
set_option maxRecDepth 20000 in
theorem am_cw168 : (.code yX11_ownerOn cX11_ownerOn 3 (some FieldType.int) : Cond) ∈ lw_tbl := List.mem_of_getElem? (i := 1727) rfl
set_option maxRecDepth 20000 in
theorem am_iw168 : (.initialized yX11_ownerOn.cls : Cond) ∈ lw_tbl := List.mem_of_getElem? (i := 113) rfl
set_option maxRecDepth 20000 in
theorem am_cw169 : (.code yX11_makesUnit cX11_makesUnit 4 (some FieldType.int) : Cond) ∈ lw_tbl := List.mem_of_getElem? (i := 1731) rfl
set_option maxRecDepth 20000 in
theorem am_iw169 : (.initialized yX11_makesUnit.cls : Cond) ∈ lw_tbl := List.mem_of_getElem? (i := 113) rfl
set_option maxRecDepth 20000 in
theorem am_cw170 : (.code yX11_drops cX11_drops 3 none : Cond) ∈ lw_tbl := List.mem_of_getElem? (i := 1756) rfl
set_option maxRecDepth 20000 in
theorem am_iw170 : (.initialized yX11_drops.cls : Cond) ∈ lw_tbl := List.mem_of_getElem? (i := 113) rfl
set_option maxRecDepth 20000 in
theorem am_cw171 : (.code yX11_stands cX11_stands 7 (some FieldType.boolean) : Cond) ∈ lw_tbl := List.mem_of_getElem? (i := 1811) rfl
set_option maxRecDepth 20000 in
theorem am_iw171 : (.initialized yX11_stands.cls : Cond) ∈ lw_tbl := List.mem_of_getElem? (i := 113) rfl
set_option maxRecDepth 20000 in
theorem am_cw172 : (.code yX11_areAtWar cX11_areAtWar 3 (some FieldType.boolean) : Cond) ∈ lw_tbl := List.mem_of_getElem? (i := 1839) rfl
set_option maxRecDepth 20000 in
theorem am_iw172 : (.initialized yX11_areAtWar.cls : Cond) ∈ lw_tbl := List.mem_of_getElem? (i := 113) rfl
set_option maxRecDepth 20000 in
theorem am_cw173 : (.code yX11_lay cX11_lay 5 (some FieldType.int) : Cond) ∈ lw_tbl := List.mem_of_getElem? (i := 1688) rfl
set_option maxRecDepth 20000 in
theorem am_iw173 : (.initialized yX11_lay.cls : Cond) ∈ lw_tbl := List.mem_of_getElem? (i := 113) rfl
set_option maxRecDepth 20000 in
theorem am_cw174 : (.code yX11_many cX11_many 3 (some FieldType.int) : Cond) ∈ lw_tbl := List.mem_of_getElem? (i := 1712) rfl
set_option maxRecDepth 20000 in
theorem am_iw174 : (.initialized yX11_many.cls : Cond) ∈ lw_tbl := List.mem_of_getElem? (i := 113) rfl
set_option maxRecDepth 20000 in
theorem am_cw175 : (.code yX11_need cX11_need 4 (some FieldType.int) : Cond) ∈ lw_tbl := List.mem_of_getElem? (i := 1706) rfl
set_option maxRecDepth 20000 in
theorem am_iw175 : (.initialized yX11_need.cls : Cond) ∈ lw_tbl := List.mem_of_getElem? (i := 113) rfl
set_option maxRecDepth 20000 in
theorem am_cw176 : (.code yX11_isForeign cX11_isForeign 4 (some FieldType.boolean) : Cond) ∈ lw_tbl := List.mem_of_getElem? (i := 1723) rfl
set_option maxRecDepth 20000 in
theorem am_iw176 : (.initialized yX11_isForeign.cls : Cond) ∈ lw_tbl := List.mem_of_getElem? (i := 113) rfl
set_option maxRecDepth 20000 in
theorem am_cw177 : (.code yX11_place cX11_place 6 (some FieldType.int) : Cond) ∈ lw_tbl := List.mem_of_getElem? (i := 1716) rfl
set_option maxRecDepth 20000 in
theorem am_iw177 : (.initialized yX11_place.cls : Cond) ∈ lw_tbl := List.mem_of_getElem? (i := 113) rfl
set_option maxRecDepth 20000 in
theorem am_cw178 : (.code yX11_foodOf cX11_foodOf 4 (some FieldType.int) : Cond) ∈ lw_tbl := List.mem_of_getElem? (i := 1924) rfl
set_option maxRecDepth 20000 in
theorem am_iw178 : (.initialized yX11_foodOf.cls : Cond) ∈ lw_tbl := List.mem_of_getElem? (i := 113) rfl
set_option maxRecDepth 20000 in
theorem am_cw179 : (.code yX11_workOf cX11_workOf 4 (some FieldType.int) : Cond) ∈ lw_tbl := List.mem_of_getElem? (i := 1928) rfl
set_option maxRecDepth 20000 in
theorem am_iw179 : (.initialized yX11_workOf.cls : Cond) ∈ lw_tbl := List.mem_of_getElem? (i := 113) rfl
set_option maxRecDepth 20000 in
theorem am_cw180 : (.code yX11_tradeOf cX11_tradeOf 3 (some FieldType.int) : Cond) ∈ lw_tbl := List.mem_of_getElem? (i := 1932) rfl
set_option maxRecDepth 20000 in
theorem am_iw180 : (.initialized yX11_tradeOf.cls : Cond) ∈ lw_tbl := List.mem_of_getElem? (i := 113) rfl
set_option maxRecDepth 20000 in
theorem am_cw181 : (.code yX11_most cX11_most 2 (some FieldType.int) : Cond) ∈ lw_tbl := List.mem_of_getElem? (i := 1888) rfl
set_option maxRecDepth 20000 in
theorem am_iw181 : (.initialized yX11_most.cls : Cond) ∈ lw_tbl := List.mem_of_getElem? (i := 113) rfl
set_option maxRecDepth 20000 in
theorem am_cw182 : (.code yX11_foodOfAll cX11_foodOfAll 4 (some FieldType.int) : Cond) ∈ lw_tbl := List.mem_of_getElem? (i := 1957) rfl
set_option maxRecDepth 20000 in
theorem am_iw182 : (.initialized yX11_foodOfAll.cls : Cond) ∈ lw_tbl := List.mem_of_getElem? (i := 113) rfl
set_option maxRecDepth 20000 in
theorem am_cw183 : (.code yX11_workOfAll cX11_workOfAll 4 (some FieldType.int) : Cond) ∈ lw_tbl := List.mem_of_getElem? (i := 1949) rfl
set_option maxRecDepth 20000 in
theorem am_iw183 : (.initialized yX11_workOfAll.cls : Cond) ∈ lw_tbl := List.mem_of_getElem? (i := 113) rfl
set_option maxRecDepth 20000 in
theorem am_cw184 : (.code yX11_tradeOfAll cX11_tradeOfAll 4 (some FieldType.int) : Cond) ∈ lw_tbl := List.mem_of_getElem? (i := 1953) rfl
set_option maxRecDepth 20000 in
theorem am_iw184 : (.initialized yX11_tradeOfAll.cls : Cond) ∈ lw_tbl := List.mem_of_getElem? (i := 113) rfl
set_option maxRecDepth 20000 in
theorem am_cw185 : (.code yX11_canWork cX11_canWork 8 (some FieldType.boolean) : Cond) ∈ lw_tbl := List.mem_of_getElem? (i := 1920) rfl
set_option maxRecDepth 20000 in
theorem am_iw185 : (.initialized yX11_canWork.cls : Cond) ∈ lw_tbl := List.mem_of_getElem? (i := 113) rfl
set_option maxRecDepth 20000 in
theorem am_cw186 : (.code yX11_at cX11_at 4 (some FieldType.int) : Cond) ∈ lw_tbl := List.mem_of_getElem? (i := 1940) rfl
set_option maxRecDepth 20000 in
theorem am_iw186 : (.initialized yX11_at.cls : Cond) ∈ lw_tbl := List.mem_of_getElem? (i := 113) rfl
set_option maxRecDepth 20000 in
theorem am_cw187 : (.code yX11_finds cX11_finds 8 none : Cond) ∈ lw_tbl := List.mem_of_getElem? (i := 1936) rfl
set_option maxRecDepth 20000 in
theorem am_iw187 : (.initialized yX11_finds.cls : Cond) ∈ lw_tbl := List.mem_of_getElem? (i := 113) rfl
set_option maxRecDepth 20000 in
theorem am_cw188 : (.code yX11_chooses cX11_chooses 10 (some FieldType.long) : Cond) ∈ lw_tbl := List.mem_of_getElem? (i := 1945) rfl
set_option maxRecDepth 20000 in
theorem am_iw188 : (.initialized yX11_chooses.cls : Cond) ∈ lw_tbl := List.mem_of_getElem? (i := 113) rfl
set_option maxRecDepth 20000 in
theorem am_cw189 : (.code yX11_planOf cX11_planOf 7 (some FieldType.long) : Cond) ∈ lw_tbl := List.mem_of_getElem? (i := 1916) rfl
set_option maxRecDepth 20000 in
theorem am_iw189 : (.initialized yX11_planOf.cls : Cond) ∈ lw_tbl := List.mem_of_getElem? (i := 113) rfl
set_option maxRecDepth 20000 in
theorem am_cw190 : (.code yX11_plansAll cX11_plansAll 4 none : Cond) ∈ lw_tbl := List.mem_of_getElem? (i := 1912) rfl
set_option maxRecDepth 20000 in
theorem am_iw190 : (.initialized yX11_plansAll.cls : Cond) ∈ lw_tbl := List.mem_of_getElem? (i := 113) rfl
set_option maxRecDepth 20000 in
theorem am_cw191 : (.code yX11_mayFound cX11_mayFound 5 (some FieldType.boolean) : Cond) ∈ lw_tbl := List.mem_of_getElem? (i := 1746) rfl
set_option maxRecDepth 20000 in
theorem am_iw191 : (.initialized yX11_mayFound.cls : Cond) ∈ lw_tbl := List.mem_of_getElem? (i := 113) rfl
set_option maxRecDepth 20000 in
theorem am_cw192 : (.code yX11_found cX11_found 5 (some FieldType.int) : Cond) ∈ lw_tbl := List.mem_of_getElem? (i := 1738) rfl
set_option maxRecDepth 20000 in
theorem am_iw192 : (.initialized yX11_found.cls : Cond) ∈ lw_tbl := List.mem_of_getElem? (i := 113) rfl
set_option maxRecDepth 20000 in
theorem am_cw193 : (.code yX11_order cX11_order 5 none : Cond) ∈ lw_tbl := List.mem_of_getElem? (i := 1760) rfl
set_option maxRecDepth 20000 in
theorem am_iw193 : (.initialized yX11_order.cls : Cond) ∈ lw_tbl := List.mem_of_getElem? (i := 113) rfl
set_option maxRecDepth 20000 in
theorem am_cw194 : (.code yX11_queue cX11_queue 4 (some FieldType.int) : Cond) ∈ lw_tbl := List.mem_of_getElem? (i := 1768) rfl
set_option maxRecDepth 20000 in
theorem am_iw194 : (.initialized yX11_queue.cls : Cond) ∈ lw_tbl := List.mem_of_getElem? (i := 113) rfl
set_option maxRecDepth 20000 in
theorem am_cw195 : (.code yX11_takesOut cX11_takesOut 4 none : Cond) ∈ lw_tbl := List.mem_of_getElem? (i := 1776) rfl
set_option maxRecDepth 20000 in
theorem am_iw195 : (.initialized yX11_takesOut.cls : Cond) ∈ lw_tbl := List.mem_of_getElem? (i := 113) rfl
set_option maxRecDepth 20000 in
theorem am_cw196 : (.code yX11_unqueue cX11_unqueue 5 (some FieldType.int) : Cond) ∈ lw_tbl := List.mem_of_getElem? (i := 1772) rfl
set_option maxRecDepth 20000 in
theorem am_iw196 : (.initialized yX11_unqueue.cls : Cond) ∈ lw_tbl := List.mem_of_getElem? (i := 113) rfl
set_option maxRecDepth 20000 in
theorem am_cw197 : (.code yX11_hurry cX11_hurry 4 (some FieldType.int) : Cond) ∈ lw_tbl := List.mem_of_getElem? (i := 1780) rfl
set_option maxRecDepth 20000 in
theorem am_iw197 : (.initialized yX11_hurry.cls : Cond) ∈ lw_tbl := List.mem_of_getElem? (i := 113) rfl
set_option maxRecDepth 20000 in
theorem am_cw198 : (.code yX11_couldLearn cX11_couldLearn 3 (some FieldType.boolean) : Cond) ∈ lw_tbl := List.mem_of_getElem? (i := 1791) rfl
set_option maxRecDepth 20000 in
theorem am_iw198 : (.initialized yX11_couldLearn.cls : Cond) ∈ lw_tbl := List.mem_of_getElem? (i := 113) rfl
set_option maxRecDepth 20000 in
theorem am_cw199 : (.code yX11_knows cX11_knows 3 none : Cond) ∈ lw_tbl := List.mem_of_getElem? (i := 1815) rfl
set_option maxRecDepth 20000 in
theorem am_iw199 : (.initialized yX11_knows.cls : Cond) ∈ lw_tbl := List.mem_of_getElem? (i := 113) rfl
set_option maxRecDepth 20000 in
theorem am_cw200 : (.code yX11_learn cX11_learn 4 none : Cond) ∈ lw_tbl := List.mem_of_getElem? (i := 1787) rfl
set_option maxRecDepth 20000 in
theorem am_iw200 : (.initialized yX11_learn.cls : Cond) ∈ lw_tbl := List.mem_of_getElem? (i := 113) rfl
set_option maxRecDepth 20000 in
theorem am_cw201 : (.code yX11_setParts cX11_setParts 4 (some FieldType.int) : Cond) ∈ lw_tbl := List.mem_of_getElem? (i := 1795) rfl
set_option maxRecDepth 20000 in
theorem am_iw201 : (.initialized yX11_setParts.cls : Cond) ∈ lw_tbl := List.mem_of_getElem? (i := 113) rfl
set_option maxRecDepth 20000 in
theorem am_cw202 : (.code yX11_offer cX11_offer 7 none : Cond) ∈ lw_tbl := List.mem_of_getElem? (i := 1799) rfl
set_option maxRecDepth 20000 in
theorem am_iw202 : (.initialized yX11_offer.cls : Cond) ∈ lw_tbl := List.mem_of_getElem? (i := 113) rfl
set_option maxRecDepth 20000 in
theorem am_cw203 : (.code yX11_mayAgree cX11_mayAgree 5 (some FieldType.boolean) : Cond) ∈ lw_tbl := List.mem_of_getElem? (i := 1807) rfl
set_option maxRecDepth 20000 in
theorem am_iw203 : (.initialized yX11_mayAgree.cls : Cond) ∈ lw_tbl := List.mem_of_getElem? (i := 113) rfl
set_option maxRecDepth 20000 in
theorem am_cw204 : (.code yX11_agree cX11_agree 6 (some FieldType.int) : Cond) ∈ lw_tbl := List.mem_of_getElem? (i := 1803) rfl
set_option maxRecDepth 20000 in
theorem am_iw204 : (.initialized yX11_agree.cls : Cond) ∈ lw_tbl := List.mem_of_getElem? (i := 113) rfl
set_option maxRecDepth 20000 in
theorem am_cw205 : (.code yX11_isTreaty cX11_isTreaty 2 (some FieldType.boolean) : Cond) ∈ lw_tbl := List.mem_of_getElem? (i := 1823) rfl
set_option maxRecDepth 20000 in
theorem am_iw205 : (.initialized yX11_isTreaty.cls : Cond) ∈ lw_tbl := List.mem_of_getElem? (i := 113) rfl
set_option maxRecDepth 20000 in
theorem am_cw206 : (.code yX11_breaks cX11_breaks 4 none : Cond) ∈ lw_tbl := List.mem_of_getElem? (i := 1827) rfl
set_option maxRecDepth 20000 in
theorem am_iw206 : (.initialized yX11_breaks.cls : Cond) ∈ lw_tbl := List.mem_of_getElem? (i := 113) rfl
set_option maxRecDepth 20000 in
theorem am_cw207 : (.code yX11_cancel cX11_cancel 6 (some FieldType.int) : Cond) ∈ lw_tbl := List.mem_of_getElem? (i := 1819) rfl
set_option maxRecDepth 20000 in
theorem am_iw207 : (.initialized yX11_cancel.cls : Cond) ∈ lw_tbl := List.mem_of_getElem? (i := 113) rfl
set_option maxRecDepth 20000 in
theorem am_cw208 : (.code yX11_treaty cX11_treaty 3 (some FieldType.int) : Cond) ∈ lw_tbl := List.mem_of_getElem? (i := 1831) rfl
set_option maxRecDepth 20000 in
theorem am_iw208 : (.initialized yX11_treaty.cls : Cond) ∈ lw_tbl := List.mem_of_getElem? (i := 113) rfl
set_option maxRecDepth 20000 in
theorem am_cw209 : (.code yX11_atWar cX11_atWar 3 (some FieldType.boolean) : Cond) ∈ lw_tbl := List.mem_of_getElem? (i := 1835) rfl
set_option maxRecDepth 20000 in
theorem am_iw209 : (.initialized yX11_atWar.cls : Cond) ∈ lw_tbl := List.mem_of_getElem? (i := 113) rfl
set_option maxRecDepth 20000 in
theorem am_cw210 : (.code yX11_isZoned cX11_isZoned 5 (some FieldType.boolean) : Cond) ∈ lw_tbl := List.mem_of_getElem? (i := 1858) rfl
set_option maxRecDepth 20000 in
theorem am_iw210 : (.initialized yX11_isZoned.cls : Cond) ∈ lw_tbl := List.mem_of_getElem? (i := 113) rfl
set_option maxRecDepth 20000 in
theorem am_cw211 : (.code yX11_costTo cX11_costTo 3 (some FieldType.int) : Cond) ∈ lw_tbl := List.mem_of_getElem? (i := 1851) rfl
set_option maxRecDepth 20000 in
theorem am_iw211 : (.initialized yX11_costTo.cls : Cond) ∈ lw_tbl := List.mem_of_getElem? (i := 113) rfl
set_option maxRecDepth 20000 in
theorem am_cw212 : (.code yX11_isBarred cX11_isBarred 4 (some FieldType.boolean) : Cond) ∈ lw_tbl := List.mem_of_getElem? (i := 1862) rfl
set_option maxRecDepth 20000 in
theorem am_iw212 : (.initialized yX11_isBarred.cls : Cond) ∈ lw_tbl := List.mem_of_getElem? (i := 113) rfl
set_option maxRecDepth 20000 in
theorem am_cw213 : (.code yX11_wayTo cX11_wayTo 10 (some FieldType.int) : Cond) ∈ lw_tbl := List.mem_of_getElem? (i := 1847) rfl
set_option maxRecDepth 20000 in
theorem am_iw213 : (.initialized yX11_wayTo.cls : Cond) ∈ lw_tbl := List.mem_of_getElem? (i := 113) rfl
set_option maxRecDepth 20000 in
theorem am_cw214 : (.code yX11_citiesOf cX11_citiesOf 4 (some FieldType.int) : Cond) ∈ lw_tbl := List.mem_of_getElem? (i := 1885) rfl
set_option maxRecDepth 20000 in
theorem am_iw214 : (.initialized yX11_citiesOf.cls : Cond) ∈ lw_tbl := List.mem_of_getElem? (i := 113) rfl
set_option maxRecDepth 20000 in
theorem am_cw215 : (.code yX11_takes cX11_takes 6 none : Cond) ∈ lw_tbl := List.mem_of_getElem? (i := 1881) rfl
set_option maxRecDepth 20000 in
theorem am_iw215 : (.initialized yX11_takes.cls : Cond) ∈ lw_tbl := List.mem_of_getElem? (i := 113) rfl
set_option maxRecDepth 20000 in
theorem am_cw216 : (.code yX11_defender cX11_defender 5 (some FieldType.int) : Cond) ∈ lw_tbl := List.mem_of_getElem? (i := 1870) rfl
set_option maxRecDepth 20000 in
theorem am_iw216 : (.initialized yX11_defender.cls : Cond) ∈ lw_tbl := List.mem_of_getElem? (i := 113) rfl
set_option maxRecDepth 20000 in
theorem am_cw217 : (.code yX11_fights cX11_fights 12 (some FieldType.boolean) : Cond) ∈ lw_tbl := List.mem_of_getElem? (i := 1866) rfl
set_option maxRecDepth 20000 in
theorem am_iw217 : (.initialized yX11_fights.cls : Cond) ∈ lw_tbl := List.mem_of_getElem? (i := 113) rfl
set_option maxRecDepth 20000 in
theorem am_cw218 : (.code yX11_goes cX11_goes 5 none : Cond) ∈ lw_tbl := List.mem_of_getElem? (i := 1877) rfl
set_option maxRecDepth 20000 in
theorem am_iw218 : (.initialized yX11_goes.cls : Cond) ∈ lw_tbl := List.mem_of_getElem? (i := 113) rfl
set_option maxRecDepth 20000 in
theorem am_cw219 : (.code yX11_step cX11_step 10 (some FieldType.boolean) : Cond) ∈ lw_tbl := List.mem_of_getElem? (i := 1843) rfl
set_option maxRecDepth 20000 in
theorem am_iw219 : (.initialized yX11_step.cls : Cond) ∈ lw_tbl := List.mem_of_getElem? (i := 113) rfl
set_option maxRecDepth 20000 in
theorem am_cw220 : (.code yX11_canHave cX11_canHave 5 (some FieldType.boolean) : Cond) ∈ lw_tbl := List.mem_of_getElem? (i := 1896) rfl
set_option maxRecDepth 20000 in
theorem am_iw220 : (.initialized yX11_canHave.cls : Cond) ∈ lw_tbl := List.mem_of_getElem? (i := 113) rfl
set_option maxRecDepth 20000 in
theorem am_cw221 : (.code yX11_work cX11_work 6 none : Cond) ∈ lw_tbl := List.mem_of_getElem? (i := 1892) rfl
set_option maxRecDepth 20000 in
theorem am_iw221 : (.initialized yX11_work.cls : Cond) ∈ lw_tbl := List.mem_of_getElem? (i := 113) rfl
set_option maxRecDepth 20000 in
theorem am_cw222 : (.code yX11_unit cX11_unit 4 (some FieldType.int) : Cond) ∈ lw_tbl := List.mem_of_getElem? (i := 1900) rfl
set_option maxRecDepth 20000 in
theorem am_iw222 : (.initialized yX11_unit.cls : Cond) ∈ lw_tbl := List.mem_of_getElem? (i := 113) rfl
set_option maxRecDepth 20000 in
theorem am_cw223 : (.code yX11_unitsOn cX11_unitsOn 2 (some FieldType.int) : Cond) ∈ lw_tbl := List.mem_of_getElem? (i := 1904) rfl
set_option maxRecDepth 20000 in
theorem am_iw223 : (.initialized yX11_unitsOn.cls : Cond) ∈ lw_tbl := List.mem_of_getElem? (i := 113) rfl
set_option maxRecDepth 20000 in
theorem am_cw224 : (.code yX11_canMake cX11_canMake 4 (some FieldType.boolean) : Cond) ∈ lw_tbl := List.mem_of_getElem? (i := 1969) rfl
set_option maxRecDepth 20000 in
theorem am_iw224 : (.initialized yX11_canMake.cls : Cond) ∈ lw_tbl := List.mem_of_getElem? (i := 113) rfl
set_option maxRecDepth 20000 in
theorem am_cw225 : (.code yX11_eats cX11_eats 4 none : Cond) ∈ lw_tbl := List.mem_of_getElem? (i := 1961) rfl
set_option maxRecDepth 20000 in
theorem am_iw225 : (.initialized yX11_eats.cls : Cond) ∈ lw_tbl := List.mem_of_getElem? (i := 113) rfl
set_option maxRecDepth 20000 in
theorem am_cw226 : (.code yX11_makes cX11_makes 4 none : Cond) ∈ lw_tbl := List.mem_of_getElem? (i := 1965) rfl
set_option maxRecDepth 20000 in
theorem am_iw226 : (.initialized yX11_makes.cls : Cond) ∈ lw_tbl := List.mem_of_getElem? (i := 113) rfl
set_option maxRecDepth 20000 in
theorem am_cw227 : (.code yX11_trades cX11_trades 6 none : Cond) ∈ lw_tbl := List.mem_of_getElem? (i := 1976) rfl
set_option maxRecDepth 20000 in
theorem am_iw227 : (.initialized yX11_trades.cls : Cond) ∈ lw_tbl := List.mem_of_getElem? (i := 113) rfl
set_option maxRecDepth 20000 in
theorem am_cw228 : (.code yX11_lastOf cX11_lastOf 4 (some FieldType.int) : Cond) ∈ lw_tbl := List.mem_of_getElem? (i := 1988) rfl
set_option maxRecDepth 20000 in
theorem am_iw228 : (.initialized yX11_lastOf.cls : Cond) ∈ lw_tbl := List.mem_of_getElem? (i := 113) rfl
set_option maxRecDepth 20000 in
theorem am_cw229 : (.code yX11_keeps cX11_keeps 6 none : Cond) ∈ lw_tbl := List.mem_of_getElem? (i := 1984) rfl
set_option maxRecDepth 20000 in
theorem am_iw229 : (.initialized yX11_keeps.cls : Cond) ∈ lw_tbl := List.mem_of_getElem? (i := 113) rfl
set_option maxRecDepth 20000 in
theorem am_cw230 : (.code yX11_learns cX11_learns 3 none : Cond) ∈ lw_tbl := List.mem_of_getElem? (i := 1980) rfl
set_option maxRecDepth 20000 in
theorem am_iw230 : (.initialized yX11_learns.cls : Cond) ∈ lw_tbl := List.mem_of_getElem? (i := 113) rfl
set_option maxRecDepth 20000 in
theorem am_cw231 : (.code yX11_paysTributes cX11_paysTributes 3 none : Cond) ∈ lw_tbl := List.mem_of_getElem? (i := 1992) rfl
set_option maxRecDepth 20000 in
theorem am_iw231 : (.initialized yX11_paysTributes.cls : Cond) ∈ lw_tbl := List.mem_of_getElem? (i := 113) rfl
set_option maxRecDepth 20000 in
theorem am_cw232 : (.code yX11_pulls cX11_pulls 6 (some FieldType.int) : Cond) ∈ lw_tbl := List.mem_of_getElem? (i := 2000) rfl
set_option maxRecDepth 20000 in
theorem am_iw232 : (.initialized yX11_pulls.cls : Cond) ∈ lw_tbl := List.mem_of_getElem? (i := 113) rfl
set_option maxRecDepth 20000 in
theorem am_cw233 : (.code yX11_fallsTo cX11_fallsTo 7 (some FieldType.int) : Cond) ∈ lw_tbl := List.mem_of_getElem? (i := 1996) rfl
set_option maxRecDepth 20000 in
theorem am_iw233 : (.initialized yX11_fallsTo.cls : Cond) ∈ lw_tbl := List.mem_of_getElem? (i := 113) rfl
set_option maxRecDepth 20000 in
theorem am_cw234 : (.code yX11_isFar cX11_isFar 4 (some FieldType.boolean) : Cond) ∈ lw_tbl := List.mem_of_getElem? (i := 2008) rfl
set_option maxRecDepth 20000 in
theorem am_iw234 : (.initialized yX11_isFar.cls : Cond) ∈ lw_tbl := List.mem_of_getElem? (i := 113) rfl
set_option maxRecDepth 20000 in
theorem am_cw235 : (.code yX11_endsUnits cX11_endsUnits 2 none : Cond) ∈ lw_tbl := List.mem_of_getElem? (i := 2004) rfl
set_option maxRecDepth 20000 in
theorem am_iw235 : (.initialized yX11_endsUnits.cls : Cond) ∈ lw_tbl := List.mem_of_getElem? (i := 113) rfl
set_option maxRecDepth 20000 in
theorem am_cw236 : (.code yX11_endTurn cX11_endTurn 4 (some FieldType.int) : Cond) ∈ lw_tbl := List.mem_of_getElem? (i := 1908) rfl
set_option maxRecDepth 20000 in
theorem am_iw236 : (.initialized yX11_endTurn.cls : Cond) ∈ lw_tbl := List.mem_of_getElem? (i := 113) rfl
set_option maxRecDepth 20000 in
theorem am_cw237 : (.code yX11_plan cX11_plan 2 (some FieldType.long) : Cond) ∈ lw_tbl := List.mem_of_getElem? (i := 2012) rfl
set_option maxRecDepth 20000 in
theorem am_iw237 : (.initialized yX11_plan.cls : Cond) ∈ lw_tbl := List.mem_of_getElem? (i := 113) rfl
set_option maxRecDepth 20000 in
theorem am_cw238 : (.code yX11_planByAll cX11_planByAll 5 (some FieldType.long) : Cond) ∈ lw_tbl := List.mem_of_getElem? (i := 2016) rfl
set_option maxRecDepth 20000 in
theorem am_iw238 : (.initialized yX11_planByAll.cls : Cond) ∈ lw_tbl := List.mem_of_getElem? (i := 113) rfl
set_option maxRecDepth 20000 in
theorem am_cw239 : (.code yX11_city cX11_city 3 (some FieldType.int) : Cond) ∈ lw_tbl := List.mem_of_getElem? (i := 2020) rfl
set_option maxRecDepth 20000 in
theorem am_iw239 : (.initialized yX11_city.cls : Cond) ∈ lw_tbl := List.mem_of_getElem? (i := 113) rfl
set_option maxRecDepth 20000 in
theorem am_cw240 : (.code yX11_tile cX11_tile 3 (some FieldType.int) : Cond) ∈ lw_tbl := List.mem_of_getElem? (i := 2024) rfl
set_option maxRecDepth 20000 in
theorem am_iw240 : (.initialized yX11_tile.cls : Cond) ∈ lw_tbl := List.mem_of_getElem? (i := 113) rfl
set_option maxRecDepth 20000 in
theorem am_cw241 : (.code yX11_pull cX11_pull 3 (some FieldType.int) : Cond) ∈ lw_tbl := List.mem_of_getElem? (i := 2028) rfl
set_option maxRecDepth 20000 in
theorem am_iw241 : (.initialized yX11_pull.cls : Cond) ∈ lw_tbl := List.mem_of_getElem? (i := 113) rfl
set_option maxRecDepth 20000 in
theorem am_cw242 : (.code yX11_score cX11_score 4 (some FieldType.int) : Cond) ∈ lw_tbl := List.mem_of_getElem? (i := 2036) rfl
set_option maxRecDepth 20000 in
theorem am_iw242 : (.initialized yX11_score.cls : Cond) ∈ lw_tbl := List.mem_of_getElem? (i := 113) rfl
set_option maxRecDepth 20000 in
theorem am_cw243 : (.code yX11_player cX11_player 3 (some FieldType.int) : Cond) ∈ lw_tbl := List.mem_of_getElem? (i := 2032) rfl
set_option maxRecDepth 20000 in
theorem am_iw243 : (.initialized yX11_player.cls : Cond) ∈ lw_tbl := List.mem_of_getElem? (i := 113) rfl
set_option maxRecDepth 20000 in
theorem am_cw244 : (.code yX11_ledger cX11_ledger 3 (some FieldType.int) : Cond) ∈ lw_tbl := List.mem_of_getElem? (i := 2040) rfl
set_option maxRecDepth 20000 in
theorem am_iw244 : (.initialized yX11_ledger.cls : Cond) ∈ lw_tbl := List.mem_of_getElem? (i := 113) rfl
set_option maxRecDepth 20000 in
theorem am_cw245 : (.code yJ6_bitCount_0f7a4 cJ6_bitCount_0f7a4 1 (some FieldType.int) : Cond) ∈ lw_tbl := List.mem_of_getElem? (i := 745) rfl
set_option maxRecDepth 20000 in
theorem am_iw245 : (.initialized yJ6_bitCount_0f7a4.cls : Cond) ∈ lw_tbl := List.mem_of_getElem? (i := 121) rfl
set_option maxRecDepth 20000 in
theorem am_cw246 : (.code yJxa1e45_init_da8c8 cJxa1e45_init_da8c8 1 none : Cond) ∈ lw_tbl := List.mem_of_getElem? (i := 182) rfl
set_option maxRecDepth 20000 in
theorem am_iw246 : (.initialized yJxa1e45_init_da8c8.cls : Cond) ∈ lw_tbl := List.mem_of_getElem? (i := 103) rfl
set_option maxRecDepth 20000 in
theorem am_cw247 : (.code yJxc12de_init_da8c8 cJxc12de_init_da8c8 1 none : Cond) ∈ lw_tbl := List.mem_of_getElem? (i := 179) rfl
set_option maxRecDepth 20000 in
theorem am_iw247 : (.initialized yJxc12de_init_da8c8.cls : Cond) ∈ lw_tbl := List.mem_of_getElem? (i := 104) rfl
set_option maxRecDepth 20000 in
theorem am_cw248 : (.code yJx4a65c_init_da8c8 cJx4a65c_init_da8c8 1 none : Cond) ∈ lw_tbl := List.mem_of_getElem? (i := 176) rfl
set_option maxRecDepth 20000 in
theorem am_iw248 : (.initialized yJx4a65c_init_da8c8.cls : Cond) ∈ lw_tbl := List.mem_of_getElem? (i := 105) rfl
set_option maxRecDepth 20000 in
theorem am_cw249 : (.code yJx4a65c_grow_92f84 cJx4a65c_grow_92f84 4 (some (FieldType.array (FieldType.object "java/lang/Object"))) : Cond) ∈ lw_tbl := List.mem_of_getElem? (i := 278) rfl
set_option maxRecDepth 20000 in
theorem am_iw249 : (.initialized yJx4a65c_grow_92f84.cls : Cond) ∈ lw_tbl := List.mem_of_getElem? (i := 105) rfl
set_option maxRecDepth 20000 in
theorem am_cw250 : (.code yJx4a65c_grow_d5877 cJx4a65c_grow_d5877 1 (some (FieldType.array (FieldType.object "java/lang/Object"))) : Cond) ∈ lw_tbl := List.mem_of_getElem? (i := 274) rfl
set_option maxRecDepth 20000 in
theorem am_iw250 : (.initialized yJx4a65c_grow_d5877.cls : Cond) ∈ lw_tbl := List.mem_of_getElem? (i := 105) rfl
set_option maxRecDepth 20000 in
theorem am_cw251 : (.code yJx4a65c_size_8abf5 cJx4a65c_size_8abf5 1 (some FieldType.int) : Cond) ∈ lw_tbl := List.mem_of_getElem? (i := 444) rfl
set_option maxRecDepth 20000 in
theorem am_iw251 : (.initialized yJx4a65c_size_8abf5.cls : Cond) ∈ lw_tbl := List.mem_of_getElem? (i := 105) rfl
set_option maxRecDepth 20000 in
theorem am_cw252 : (.code yJx4a65c_elementData_915e3 cJx4a65c_elementData_915e3 2 (some (FieldType.object "java/lang/Object")) : Cond) ∈ lw_tbl := List.mem_of_getElem? (i := 458) rfl
set_option maxRecDepth 20000 in
theorem am_iw252 : (.initialized yJx4a65c_elementData_915e3.cls : Cond) ∈ lw_tbl := List.mem_of_getElem? (i := 105) rfl
set_option maxRecDepth 20000 in
theorem am_cw253 : (.code yJx4a65c_get_915e3 cJx4a65c_get_915e3 2 (some (FieldType.object "java/lang/Object")) : Cond) ∈ lw_tbl := List.mem_of_getElem? (i := 448) rfl
set_option maxRecDepth 20000 in
theorem am_iw253 : (.initialized yJx4a65c_get_915e3.cls : Cond) ∈ lw_tbl := List.mem_of_getElem? (i := 105) rfl
set_option maxRecDepth 20000 in
theorem am_cw254 : (.code yJx4a65c_add_72be8 cJx4a65c_add_72be8 4 none : Cond) ∈ lw_tbl := List.mem_of_getElem? (i := 270) rfl
set_option maxRecDepth 20000 in
theorem am_iw254 : (.initialized yJx4a65c_add_72be8.cls : Cond) ∈ lw_tbl := List.mem_of_getElem? (i := 105) rfl
set_option maxRecDepth 20000 in
theorem am_cw255 : (.code yJx4a65c_add_9ea2d cJx4a65c_add_9ea2d 2 (some FieldType.boolean) : Cond) ∈ lw_tbl := List.mem_of_getElem? (i := 266) rfl
set_option maxRecDepth 20000 in
theorem am_iw255 : (.initialized yJx4a65c_add_9ea2d.cls : Cond) ∈ lw_tbl := List.mem_of_getElem? (i := 105) rfl
set_option maxRecDepth 20000 in
theorem am_cw256 : (.code yJx4a65c_remove_915e3 cJx4a65c_remove_915e3 4 (some (FieldType.object "java/lang/Object")) : Cond) ∈ lw_tbl := List.mem_of_getElem? (i := 764) rfl
set_option maxRecDepth 20000 in
theorem am_iw256 : (.initialized yJx4a65c_remove_915e3.cls : Cond) ∈ lw_tbl := List.mem_of_getElem? (i := 105) rfl
set_option maxRecDepth 20000 in
theorem am_cw257 : (.code yJx4a65c_fastRemove_b59b0 cJx4a65c_fastRemove_b59b0 4 none : Cond) ∈ lw_tbl := List.mem_of_getElem? (i := 768) rfl
set_option maxRecDepth 20000 in
theorem am_iw257 : (.initialized yJx4a65c_fastRemove_b59b0.cls : Cond) ∈ lw_tbl := List.mem_of_getElem? (i := 105) rfl
set_option maxRecDepth 20000 in
theorem am_cw258 : (.code yJ7_fill_53178 cJ7_fill_53178 4 none : Cond) ∈ lw_tbl := List.mem_of_getElem? (i := 148) rfl
set_option maxRecDepth 20000 in
theorem am_iw258 : (.initialized yJ7_fill_53178.cls : Cond) ∈ lw_tbl := List.mem_of_getElem? (i := 101) rfl
set_option maxRecDepth 20000 in
theorem am_cw259 : (.code yJ7_copyOf_1904c cJ7_copyOf_1904c 2 (some (FieldType.array (FieldType.object "java/lang/Object"))) : Cond) ∈ lw_tbl := List.mem_of_getElem? (i := 291) rfl
set_option maxRecDepth 20000 in
theorem am_iw259 : (.initialized yJ7_copyOf_1904c.cls : Cond) ∈ lw_tbl := List.mem_of_getElem? (i := 101) rfl
set_option maxRecDepth 20000 in
theorem am_cw260 : (.code yJ7_copyOf_6403c cJ7_copyOf_6403c 4 (some (FieldType.array (FieldType.object "java/lang/Object"))) : Cond) ∈ lw_tbl := List.mem_of_getElem? (i := 314) rfl
set_option maxRecDepth 20000 in
theorem am_iw260 : (.initialized yJ7_copyOf_6403c.cls : Cond) ∈ lw_tbl := List.mem_of_getElem? (i := 101) rfl
set_option maxRecDepth 20000 in
theorem am_cw261 : (.code yJ15_checkIndex_7cf53 cJ15_checkIndex_7cf53 2 (some FieldType.int) : Cond) ∈ lw_tbl := List.mem_of_getElem? (i := 451) rfl
set_option maxRecDepth 20000 in
theorem am_iw261 : (.initialized yJ15_checkIndex_7cf53.cls : Cond) ∈ lw_tbl := List.mem_of_getElem? (i := 118) rfl
set_option maxRecDepth 20000 in
theorem am_cw262 : (.code yJ8_newLength_cabcc cJ8_newLength_cabcc 4 (some FieldType.int) : Cond) ∈ lw_tbl := List.mem_of_getElem? (i := 281) rfl
set_option maxRecDepth 20000 in
theorem am_iw262 : (.initialized yJ8_newLength_cabcc.cls : Cond) ∈ lw_tbl := List.mem_of_getElem? (i := 107) rfl
set_option maxRecDepth 20000 in
theorem am_cw263 : (.code yJ8_hugeLength_7cf53 cJ8_hugeLength_7cf53 3 (some FieldType.int) : Cond) ∈ lw_tbl := List.mem_of_getElem? (i := 288) rfl
set_option maxRecDepth 20000 in
theorem am_iw263 : (.initialized yJ8_hugeLength_7cf53.cls : Cond) ∈ lw_tbl := List.mem_of_getElem? (i := 107) rfl
set_option maxRecDepth 20000 in
theorem am_cw264 : (.code yJ3_checkIndex_8e157 cJ3_checkIndex_8e157 3 (some FieldType.int) : Cond) ∈ lw_tbl := List.mem_of_getElem? (i := 454) rfl
set_option maxRecDepth 20000 in
theorem am_iw264 : (.initialized yJ3_checkIndex_8e157.cls : Cond) ∈ lw_tbl := List.mem_of_getElem? (i := 119) rfl
set_option maxRecDepth 20000 in
theorem am_cw265 : (.codeWith yL_lay cL_lay 5 (some FieldType.int) [(0, 10, 13, 13), (0, 10, 17, 15)] : Cond) ∈ lw_tbl := List.mem_of_getElem? (i := 849) rfl
set_option maxRecDepth 20000 in
theorem am_iw265 : (.initialized yL_lay.cls : Cond) ∈ lw_tbl := List.mem_of_getElem? (i := 97) rfl
set_option maxRecDepth 20000 in
theorem am_cw266 : (.codeWith yL_need cL_need 5 (some FieldType.int) [(0, 10, 13, 13), (0, 10, 17, 15)] : Cond) ∈ lw_tbl := List.mem_of_getElem? (i := 956) rfl
set_option maxRecDepth 20000 in
theorem am_iw266 : (.initialized yL_need.cls : Cond) ∈ lw_tbl := List.mem_of_getElem? (i := 97) rfl
set_option maxRecDepth 20000 in
theorem am_cw267 : (.codeWith yL_place cL_place 6 (some FieldType.int) [(0, 12, 15, 13), (0, 12, 19, 15)] : Cond) ∈ lw_tbl := List.mem_of_getElem? (i := 966) rfl
set_option maxRecDepth 20000 in
theorem am_iw267 : (.initialized yL_place.cls : Cond) ∈ lw_tbl := List.mem_of_getElem? (i := 97) rfl
set_option maxRecDepth 20000 in
theorem am_cw268 : (.codeWith yL_found cL_found 4 (some FieldType.int) [(0, 9, 12, 28), (0, 9, 15, 15)] : Cond) ∈ lw_tbl := List.mem_of_getElem? (i := 986) rfl
set_option maxRecDepth 20000 in
theorem am_iw268 : (.initialized yL_found.cls : Cond) ∈ lw_tbl := List.mem_of_getElem? (i := 97) rfl
set_option maxRecDepth 20000 in
theorem am_cw269 : (.codeWith yL_order cL_order 6 (some FieldType.int) [(0, 9, 12, 28), (0, 9, 16, 13)] : Cond) ∈ lw_tbl := List.mem_of_getElem? (i := 1136) rfl
set_option maxRecDepth 20000 in
theorem am_iw269 : (.initialized yL_order.cls : Cond) ∈ lw_tbl := List.mem_of_getElem? (i := 97) rfl
set_option maxRecDepth 20000 in
theorem am_cw270 : (.codeWith yL_queue cL_queue 5 (some FieldType.int) [(0, 10, 13, 28), (0, 10, 17, 13), (0, 10, 21, 15)] : Cond) ∈ lw_tbl := List.mem_of_getElem? (i := 1149) rfl
set_option maxRecDepth 20000 in
theorem am_iw270 : (.initialized yL_queue.cls : Cond) ∈ lw_tbl := List.mem_of_getElem? (i := 97) rfl
set_option maxRecDepth 20000 in
theorem am_cw271 : (.codeWith yL_unqueue cL_unqueue 5 (some FieldType.int) [(0, 10, 13, 28), (0, 10, 17, 13)] : Cond) ∈ lw_tbl := List.mem_of_getElem? (i := 1156) rfl
set_option maxRecDepth 20000 in
theorem am_iw271 : (.initialized yL_unqueue.cls : Cond) ∈ lw_tbl := List.mem_of_getElem? (i := 97) rfl
set_option maxRecDepth 20000 in
theorem am_cw272 : (.codeWith yL_hurry cL_hurry 4 (some FieldType.int) [(0, 9, 12, 28), (0, 9, 15, 15)] : Cond) ∈ lw_tbl := List.mem_of_getElem? (i := 1164) rfl
set_option maxRecDepth 20000 in
theorem am_iw272 : (.initialized yL_hurry.cls : Cond) ∈ lw_tbl := List.mem_of_getElem? (i := 97) rfl
set_option maxRecDepth 20000 in
theorem am_cw273 : (.codeWith yL_learn cL_learn 4 (some FieldType.int) [(0, 6, 9, 13), (0, 6, 12, 15)] : Cond) ∈ lw_tbl := List.mem_of_getElem? (i := 1174) rfl
set_option maxRecDepth 20000 in
theorem am_iw273 : (.initialized yL_learn.cls : Cond) ∈ lw_tbl := List.mem_of_getElem? (i := 97) rfl
set_option maxRecDepth 20000 in
theorem am_cw274 : (.codeWith yL_setParts cL_setParts 5 (some FieldType.int) [(0, 10, 13, 13)] : Cond) ∈ lw_tbl := List.mem_of_getElem? (i := 1187) rfl
set_option maxRecDepth 20000 in
theorem am_iw274 : (.initialized yL_setParts.cls : Cond) ∈ lw_tbl := List.mem_of_getElem? (i := 97) rfl
set_option maxRecDepth 20000 in
theorem am_cw275 : (.codeWith yL_offer cL_offer 7 (some FieldType.int) [(0, 11, 14, 13)] : Cond) ∈ lw_tbl := List.mem_of_getElem? (i := 1194) rfl
set_option maxRecDepth 20000 in
theorem am_iw275 : (.initialized yL_offer.cls : Cond) ∈ lw_tbl := List.mem_of_getElem? (i := 97) rfl
set_option maxRecDepth 20000 in
theorem am_cw276 : (.codeWith yL_agree cL_agree 5 (some FieldType.int) [(0, 10, 13, 13), (0, 10, 17, 28), (0, 10, 21, 15)] : Cond) ∈ lw_tbl := List.mem_of_getElem? (i := 1252) rfl
set_option maxRecDepth 20000 in
theorem am_iw276 : (.initialized yL_agree.cls : Cond) ∈ lw_tbl := List.mem_of_getElem? (i := 97) rfl
set_option maxRecDepth 20000 in
theorem am_cw277 : (.codeWith yL_cancel cL_cancel 5 (some FieldType.int) [(0, 10, 13, 13), (0, 10, 17, 28), (0, 10, 21, 15)] : Cond) ∈ lw_tbl := List.mem_of_getElem? (i := 1276) rfl
set_option maxRecDepth 20000 in
theorem am_iw277 : (.initialized yL_cancel.cls : Cond) ∈ lw_tbl := List.mem_of_getElem? (i := 97) rfl
set_option maxRecDepth 20000 in
theorem am_cw278 : (.codeWith yL_treaty cL_treaty 5 (some FieldType.int) [(0, 10, 13, 28), (0, 10, 17, 13)] : Cond) ∈ lw_tbl := List.mem_of_getElem? (i := 1289) rfl
set_option maxRecDepth 20000 in
theorem am_iw278 : (.initialized yL_treaty.cls : Cond) ∈ lw_tbl := List.mem_of_getElem? (i := 97) rfl
set_option maxRecDepth 20000 in
theorem am_cw279 : (.codeWith yL_atWar cL_atWar 5 (some FieldType.int) [(0, 17, 20, 13)] : Cond) ∈ lw_tbl := List.mem_of_getElem? (i := 1297) rfl
set_option maxRecDepth 20000 in
theorem am_iw279 : (.initialized yL_atWar.cls : Cond) ∈ lw_tbl := List.mem_of_getElem? (i := 97) rfl
set_option maxRecDepth 20000 in
theorem am_cw280 : (.codeWith yL_step cL_step 6 (some FieldType.int) [(0, 19, 22, 28), (0, 19, 26, 13), (0, 19, 30, 15)] : Cond) ∈ lw_tbl := List.mem_of_getElem? (i := 1305) rfl
set_option maxRecDepth 20000 in
theorem am_iw280 : (.initialized yL_step.cls : Cond) ∈ lw_tbl := List.mem_of_getElem? (i := 97) rfl
set_option maxRecDepth 20000 in
theorem am_cw281 : (.codeWith yL_work cL_work 4 (some FieldType.int) [(0, 6, 9, 28), (0, 6, 12, 13), (0, 6, 15, 15)] : Cond) ∈ lw_tbl := List.mem_of_getElem? (i := 1416) rfl
set_option maxRecDepth 20000 in
theorem am_iw281 : (.initialized yL_work.cls : Cond) ∈ lw_tbl := List.mem_of_getElem? (i := 97) rfl
set_option maxRecDepth 20000 in
theorem am_cw282 : (.codeWith yL_unit cL_unit 5 (some FieldType.int) [(0, 10, 13, 28), (0, 10, 17, 13)] : Cond) ∈ lw_tbl := List.mem_of_getElem? (i := 1427) rfl
set_option maxRecDepth 20000 in
theorem am_iw282 : (.initialized yL_unit.cls : Cond) ∈ lw_tbl := List.mem_of_getElem? (i := 97) rfl
set_option maxRecDepth 20000 in
theorem am_cw283 : (.codeWith yL_unitsOn cL_unitsOn 4 (some FieldType.int) [(0, 9, 12, 13)] : Cond) ∈ lw_tbl := List.mem_of_getElem? (i := 1435) rfl
set_option maxRecDepth 20000 in
theorem am_iw283 : (.initialized yL_unitsOn.cls : Cond) ∈ lw_tbl := List.mem_of_getElem? (i := 97) rfl
set_option maxRecDepth 20000 in
theorem am_cw284 : (.codeWith yL_plan cL_plan 4 (some FieldType.int) [(0, 8, 11, 28)] : Cond) ∈ lw_tbl := List.mem_of_getElem? (i := 1442) rfl
set_option maxRecDepth 20000 in
theorem am_iw284 : (.initialized yL_plan.cls : Cond) ∈ lw_tbl := List.mem_of_getElem? (i := 97) rfl
set_option maxRecDepth 20000 in
theorem am_cw285 : (.codeWith yL_planByAll cL_planByAll 4 (some FieldType.int) [(0, 8, 11, 28), (0, 8, 14, 15)] : Cond) ∈ lw_tbl := List.mem_of_getElem? (i := 1449) rfl
set_option maxRecDepth 20000 in
theorem am_iw285 : (.initialized yL_planByAll.cls : Cond) ∈ lw_tbl := List.mem_of_getElem? (i := 97) rfl
set_option maxRecDepth 20000 in
theorem am_cw286 : (.codeWith yL_city cL_city 5 (some FieldType.int) [(0, 10, 13, 28), (0, 10, 17, 13)] : Cond) ∈ lw_tbl := List.mem_of_getElem? (i := 1461) rfl
set_option maxRecDepth 20000 in
theorem am_iw286 : (.initialized yL_city.cls : Cond) ∈ lw_tbl := List.mem_of_getElem? (i := 97) rfl
set_option maxRecDepth 20000 in
theorem am_cw287 : (.codeWith yL_tile cL_tile 5 (some FieldType.int) [(0, 10, 13, 13)] : Cond) ∈ lw_tbl := List.mem_of_getElem? (i := 1469) rfl
set_option maxRecDepth 20000 in
theorem am_iw287 : (.initialized yL_tile.cls : Cond) ∈ lw_tbl := List.mem_of_getElem? (i := 97) rfl
set_option maxRecDepth 20000 in
theorem am_cw288 : (.codeWith yL_pull cL_pull 5 (some FieldType.int) [(0, 10, 13, 13)] : Cond) ∈ lw_tbl := List.mem_of_getElem? (i := 1481) rfl
set_option maxRecDepth 20000 in
theorem am_iw288 : (.initialized yL_pull.cls : Cond) ∈ lw_tbl := List.mem_of_getElem? (i := 97) rfl
set_option maxRecDepth 20000 in
theorem am_cw289 : (.codeWith yL_player cL_player 5 (some FieldType.int) [(0, 10, 13, 13)] : Cond) ∈ lw_tbl := List.mem_of_getElem? (i := 1489) rfl
set_option maxRecDepth 20000 in
theorem am_iw289 : (.initialized yL_player.cls : Cond) ∈ lw_tbl := List.mem_of_getElem? (i := 97) rfl
set_option maxRecDepth 20000 in
theorem am_cw290 : (.codeWith yL_ledger cL_ledger 5 (some FieldType.int) [(0, 10, 13, 13)] : Cond) ∈ lw_tbl := List.mem_of_getElem? (i := 1508) rfl
set_option maxRecDepth 20000 in
theorem am_iw290 : (.initialized yL_ledger.cls : Cond) ∈ lw_tbl := List.mem_of_getElem? (i := 97) rfl
def am_okM : List am_Mt → Prop
  | [] => True
  | q :: t => am_mok q ∧ am_okM t
theorem am_okM_get : ∀ (t : List am_Mt) (k : Nat) (q : am_Mt), am_okM t → t[k]? = some q → am_mok q
  | [], _, _, _, h => by simp at h
  | r :: t, 0, q, h, e => by
    simp only [List.getElem?_cons_zero, Option.some.injEq] at e
    subst e
    exact h.1
  | r :: t, k + 1, q, h, e => by
    rw [List.getElem?_cons_succ] at e
    exact am_okM_get t k q h.2 e
theorem am_okM_app : ∀ (a b : List am_Mt), am_okM a → am_okM b → am_okM (a ++ b)
  | [], b, _, h => h
  | r :: a, b, h, h1 => ⟨h.1, am_okM_app a b h.2 h1⟩
theorem am_pnX10 : plainName RX10 = true ∧ RX10 ≠ "java/lang/invoke/MethodHandle" ∧ RX10 ≠ "java/lang/invoke/VarHandle" := by decide +kernel
theorem am_pnX0 : plainName RX0 = true ∧ RX0 ≠ "java/lang/invoke/MethodHandle" ∧ RX0 ≠ "java/lang/invoke/VarHandle" := by decide +kernel
theorem am_pnX1 : plainName RX1 = true ∧ RX1 ≠ "java/lang/invoke/MethodHandle" ∧ RX1 ≠ "java/lang/invoke/VarHandle" := by decide +kernel
theorem am_pnX2 : plainName RX2 = true ∧ RX2 ≠ "java/lang/invoke/MethodHandle" ∧ RX2 ≠ "java/lang/invoke/VarHandle" := by decide +kernel
theorem am_pnX3 : plainName RX3 = true ∧ RX3 ≠ "java/lang/invoke/MethodHandle" ∧ RX3 ≠ "java/lang/invoke/VarHandle" := by decide +kernel
theorem am_pnX4 : plainName RX4 = true ∧ RX4 ≠ "java/lang/invoke/MethodHandle" ∧ RX4 ≠ "java/lang/invoke/VarHandle" := by decide +kernel
theorem am_pnX5 : plainName RX5 = true ∧ RX5 ≠ "java/lang/invoke/MethodHandle" ∧ RX5 ≠ "java/lang/invoke/VarHandle" := by decide +kernel
theorem am_pnX6 : plainName RX6 = true ∧ RX6 ≠ "java/lang/invoke/MethodHandle" ∧ RX6 ≠ "java/lang/invoke/VarHandle" := by decide +kernel
theorem am_pnX7 : plainName RX7 = true ∧ RX7 ≠ "java/lang/invoke/MethodHandle" ∧ RX7 ≠ "java/lang/invoke/VarHandle" := by decide +kernel
theorem am_pnX8 : plainName RX8 = true ∧ RX8 ≠ "java/lang/invoke/MethodHandle" ∧ RX8 ≠ "java/lang/invoke/VarHandle" := by decide +kernel
theorem am_pnX9 : plainName RX9 = true ∧ RX9 ≠ "java/lang/invoke/MethodHandle" ∧ RX9 ≠ "java/lang/invoke/VarHandle" := by decide +kernel
theorem am_pnL : plainName RL = true ∧ RL ≠ "java/lang/invoke/MethodHandle" ∧ RL ≠ "java/lang/invoke/VarHandle" := by decide +kernel
theorem am_pnX11 : plainName RX11 = true ∧ RX11 ≠ "java/lang/invoke/MethodHandle" ∧ RX11 ≠ "java/lang/invoke/VarHandle" := by decide +kernel
theorem am_pnJ6 : plainName RJ6 = true ∧ RJ6 ≠ "java/lang/invoke/MethodHandle" ∧ RJ6 ≠ "java/lang/invoke/VarHandle" := by decide +kernel
theorem am_pnJxa1e45 : plainName RJxa1e45 = true ∧ RJxa1e45 ≠ "java/lang/invoke/MethodHandle" ∧ RJxa1e45 ≠ "java/lang/invoke/VarHandle" := by decide +kernel
theorem am_pnJxc12de : plainName RJxc12de = true ∧ RJxc12de ≠ "java/lang/invoke/MethodHandle" ∧ RJxc12de ≠ "java/lang/invoke/VarHandle" := by decide +kernel
theorem am_pnJx4a65c : plainName RJx4a65c = true ∧ RJx4a65c ≠ "java/lang/invoke/MethodHandle" ∧ RJx4a65c ≠ "java/lang/invoke/VarHandle" := by decide +kernel
theorem am_pnJ7 : plainName RJ7 = true ∧ RJ7 ≠ "java/lang/invoke/MethodHandle" ∧ RJ7 ≠ "java/lang/invoke/VarHandle" := by decide +kernel
theorem am_pnJ15 : plainName RJ15 = true ∧ RJ15 ≠ "java/lang/invoke/MethodHandle" ∧ RJ15 ≠ "java/lang/invoke/VarHandle" := by decide +kernel
theorem am_pnJ8 : plainName RJ8 = true ∧ RJ8 ≠ "java/lang/invoke/MethodHandle" ∧ RJ8 ≠ "java/lang/invoke/VarHandle" := by decide +kernel
theorem am_pnJ3 : plainName RJ3 = true ∧ RJ3 ≠ "java/lang/invoke/MethodHandle" ∧ RJ3 ≠ "java/lang/invoke/VarHandle" := by decide +kernel
noncomputable def am_q0 : am_Mt := (yX0_init, cX0_init, 1, none, 1, 23, [])
theorem am_mo0 : am_mok am_q0 := ⟨am_pnX0, am_cw0, am_iw0⟩
noncomputable def am_q1 : am_Mt := (yX0_landOf, cX0_landOf, 2, (some FieldType.int), 1, 21, [])
theorem am_mo1 : am_mok am_q1 := ⟨am_pnX0, am_cw1, am_iw1⟩
noncomputable def am_q2 : am_Mt := (yX0_holderOf, cX0_holderOf, 2, (some FieldType.int), 1, 21, [])
theorem am_mo2 : am_mok am_q2 := ⟨am_pnX0, am_cw2, am_iw2⟩
noncomputable def am_q3 : am_Mt := (yX0_hasMade, cX0_hasMade, 3, (some FieldType.boolean), 1, 21, [])
theorem am_mo3 : am_mok am_q3 := ⟨am_pnX0, am_cw3, am_iw3⟩
noncomputable def am_q4 : am_Mt := (yX0_foodOf, cX0_foodOf, 2, (some FieldType.int), 2, 43, [])
theorem am_mo4 : am_mok am_q4 := ⟨am_pnX0, am_cw4, am_iw4⟩
noncomputable def am_q5 : am_Mt := (yX0_workOf, cX0_workOf, 2, (some FieldType.int), 2, 43, [])
theorem am_mo5 : am_mok am_q5 := ⟨am_pnX0, am_cw5, am_iw5⟩
noncomputable def am_q6 : am_Mt := (yX0_tradeOf, cX0_tradeOf, 2, (some FieldType.int), 2, 42, [])
theorem am_mo6 : am_mok am_q6 := ⟨am_pnX0, am_cw6, am_iw6⟩
noncomputable def am_q7 : am_Mt := (yX0_stepCost, cX0_stepCost, 4, (some FieldType.int), 2, 43, [])
theorem am_mo7 : am_mok am_q7 := ⟨am_pnX0, am_cw7, am_iw7⟩
noncomputable def am_q8 : am_Mt := (yX0_canBeMade, cX0_canBeMade, 4, (some FieldType.boolean), 2, 43, [])
theorem am_mo8 : am_mok am_q8 := ⟨am_pnX0, am_cw8, am_iw8⟩
noncomputable def am_q9 : am_Mt := (yX0_countHeld, cX0_countHeld, 4, (some FieldType.int), 2, 42, [])
theorem am_mo9 : am_mok am_q9 := ⟨am_pnX0, am_cw9, am_iw9⟩
noncomputable def am_q10 : am_Mt := (yX1_init, cX1_init, 4, none, 1, 20, [])
theorem am_mo10 : am_mok am_q10 := ⟨am_pnX1, am_cw10, am_iw10⟩
noncomputable def am_q11 : am_Mt := (yX1_firstWork, cX1_firstWork, 1, (some FieldType.int), 1, 21, [])
theorem am_mo11 : am_mok am_q11 := ⟨am_pnX1, am_cw11, am_iw11⟩
noncomputable def am_q12 : am_Mt := (yX1_takeWork, cX1_takeWork, 4, (some FieldType.int), 1, 22, [])
theorem am_mo12 : am_mok am_q12 := ⟨am_pnX1, am_cw12, am_iw12⟩
noncomputable def am_q13 : am_Mt := (yX1_has, cX1_has, 2, (some FieldType.boolean), 1, 21, [])
theorem am_mo13 : am_mok am_q13 := ⟨am_pnX1, am_cw13, am_iw13⟩
noncomputable def am_q14 : am_Mt := (yX1_foodNeeded, cX1_foodNeeded, 1, (some FieldType.int), 0, 0, [])
theorem am_mo14 : am_mok am_q14 := ⟨am_pnX1, am_cw14, am_iw14⟩
noncomputable def am_q15 : am_Mt := (yX2_init, cX2_init, 2, none, 1, 20, [])
theorem am_mo15 : am_mok am_q15 := ⟨am_pnX2, am_cw15, am_iw15⟩
noncomputable def am_q16 : am_Mt := (yX2_strongestFoe, cX2_strongestFoe, 6, (some (FieldType.object "EmpireTurns$Unit")), 6, 133, [])
theorem am_mo16 : am_mok am_q16 := ⟨am_pnX2, am_cw16, am_iw16⟩
noncomputable def am_q17 : am_Mt := (yX2_toughness, cX2_toughness, 1, (some FieldType.int), 2, 41, [])
theorem am_mo17 : am_mok am_q17 := ⟨am_pnX2, am_cw17, am_iw17⟩
noncomputable def am_q18 : am_Mt := (yX2_isHostileCity, cX2_isHostileCity, 4, (some FieldType.boolean), 6, 133, [])
theorem am_mo18 : am_mok am_q18 := ⟨am_pnX2, am_cw18, am_iw18⟩
noncomputable def am_q19 : am_Mt := (yX2_mayEnter, cX2_mayEnter, 3, (some FieldType.boolean), 8, 179, [])
theorem am_mo19 : am_mok am_q19 := ⟨am_pnX2, am_cw19, am_iw19⟩
noncomputable def am_q20 : am_Mt := (yX2_isBarredByBorders, cX2_isBarredByBorders, 4, (some FieldType.boolean), 5, 111, [])
theorem am_mo20 : am_mok am_q20 := ⟨am_pnX2, am_cw20, am_iw20⟩
noncomputable def am_q21 : am_Mt := (yX2_isBarredByZones, cX2_isBarredByZones, 3, (some FieldType.boolean), 7, 157, [])
theorem am_mo21 : am_mok am_q21 := ⟨am_pnX2, am_cw21, am_iw21⟩
noncomputable def am_q22 : am_Mt := (yX2_isInZone, cX2_isInZone, 5, (some FieldType.boolean), 6, 133, [])
theorem am_mo22 : am_mok am_q22 := ⟨am_pnX2, am_cw22, am_iw22⟩
noncomputable def am_q23 : am_Mt := (yX2_hasOwnOn, cX2_hasOwnOn, 6, (some FieldType.boolean), 4, 87, [])
theorem am_mo23 : am_mok am_q23 := ⟨am_pnX2, am_cw23, am_iw23⟩
noncomputable def am_q24 : am_Mt := (yX2_fight, cX2_fight, 6, (some FieldType.boolean), 6, 154, [])
theorem am_mo24 : am_mok am_q24 := ⟨am_pnX2, am_cw24, am_iw24⟩
noncomputable def am_q25 : am_Mt := (yX2_loss, cX2_loss, 3, (some FieldType.int), 0, 0, [])
theorem am_mo25 : am_mok am_q25 := ⟨am_pnX2, am_cw25, am_iw25⟩
noncomputable def am_q26 : am_Mt := (yX2_shelterOn, cX2_shelterOn, 4, (some FieldType.int), 4, 87, [])
theorem am_mo26 : am_mok am_q26 := ⟨am_pnX2, am_cw26, am_iw26⟩
noncomputable def am_q27 : am_Mt := (yX2_goTo, cX2_goTo, 4, none, 5, 131, [])
theorem am_mo27 : am_mok am_q27 := ⟨am_pnX2, am_cw27, am_iw27⟩
noncomputable def am_q28 : am_Mt := (yX2_takeCity, cX2_takeCity, 6, none, 4, 106, [])
theorem am_mo28 : am_mok am_q28 := ⟨am_pnX2, am_cw28, am_iw28⟩
noncomputable def am_q29 : am_Mt := (yX2_captureCraft, cX2_captureCraft, 4, none, 3, 65, [])
theorem am_mo29 : am_mok am_q29 := ⟨am_pnX2, am_cw29, am_iw29⟩
noncomputable def am_q30 : am_Mt := (yX3_init, cX3_init, 1, none, 4, 80, [])
theorem am_mo30 : am_mok am_q30 := ⟨am_pnX3, am_cw30, am_iw30⟩
noncomputable def am_q31 : am_Mt := (yX3_offerOf, cX3_offerOf, 4, (some (FieldType.object "EmpireTurns$Treaty")), 1, 22, [])
theorem am_mo31 : am_mok am_q31 := ⟨am_pnX3, am_cw31, am_iw31⟩
noncomputable def am_q32 : am_Mt := (yX3_putOffer, cX3_putOffer, 5, none, 1, 22, [])
theorem am_mo32 : am_mok am_q32 := ⟨am_pnX3, am_cw32, am_iw32⟩
noncomputable def am_q33 : am_Mt := (yX3_dropOffer, cX3_dropOffer, 3, none, 2, 46, [])
theorem am_mo33 : am_mok am_q33 := ⟨am_pnX3, am_cw33, am_iw33⟩
noncomputable def am_q34 : am_Mt := (yX3_stands, cX3_stands, 6, (some FieldType.boolean), 3, 64, [])
theorem am_mo34 : am_mok am_q34 := ⟨am_pnX3, am_cw34, am_iw34⟩
noncomputable def am_q35 : am_Mt := (yX3_areAtWar, cX3_areAtWar, 3, (some FieldType.boolean), 4, 89, [])
theorem am_mo35 : am_mok am_q35 := ⟨am_pnX3, am_cw35, am_iw35⟩
noncomputable def am_q36 : am_Mt := (yX3_canStand, cX3_canStand, 3, (some FieldType.boolean), 4, 89, [])
theorem am_mo36 : am_mok am_q36 := ⟨am_pnX3, am_cw36, am_iw36⟩
noncomputable def am_q37 : am_Mt := (yX3_loseTurns, cX3_loseTurns, 2, none, 3, 64, [])
theorem am_mo37 : am_mok am_q37 := ⟨am_pnX3, am_cw37, am_iw37⟩
noncomputable def am_q38 : am_Mt := (yX4_init, cX4_init, 2, none, 1, 20, [])
theorem am_mo38 : am_mok am_q38 := ⟨am_pnX4, am_cw38, am_iw38⟩
noncomputable def am_q39 : am_Mt := (yX4_planUpTo, cX4_planUpTo, 7, none, 7, 158, [])
theorem am_mo39 : am_mok am_q39 := ⟨am_pnX4, am_cw39, am_iw39⟩
noncomputable def am_q40 : am_Mt := (yX4_openTiles, cX4_openTiles, 7, none, 2, 44, [])
theorem am_mo40 : am_mok am_q40 := ⟨am_pnX4, am_cw40, am_iw40⟩
noncomputable def am_q41 : am_Mt := (yX4_gather, cX4_gather, 4, none, 3, 64, [])
theorem am_mo41 : am_mok am_q41 := ⟨am_pnX4, am_cw41, am_iw41⟩
noncomputable def am_q42 : am_Mt := (yX4_worthOf, cX4_worthOf, 4, (some FieldType.int), 3, 64, [])
theorem am_mo42 : am_mok am_q42 := ⟨am_pnX4, am_cw42, am_iw42⟩
noncomputable def am_q43 : am_Mt := (yX4_foodLacking, cX4_foodLacking, 2, (some FieldType.int), 3, 64, [])
theorem am_mo43 : am_mok am_q43 := ⟨am_pnX4, am_cw43, am_iw43⟩
noncomputable def am_q44 : am_Mt := (yX4_mostFood, cX4_mostFood, 6, (some FieldType.int), 3, 64, [])
theorem am_mo44 : am_mok am_q44 := ⟨am_pnX4, am_cw44, am_iw44⟩
noncomputable def am_q45 : am_Mt := (yX4_bestPlan, cX4_bestPlan, 8, (some FieldType.long), 4, 89, [])
theorem am_mo45 : am_mok am_q45 := ⟨am_pnX4, am_cw45, am_iw45⟩
noncomputable def am_q46 : am_Mt := (yX4_addTile, cX4_addTile, 10, none, 1, 23, [])
theorem am_mo46 : am_mok am_q46 := ⟨am_pnX4, am_cw46, am_iw46⟩
noncomputable def am_q47 : am_Mt := (yX4_bestAt, cX4_bestAt, 2, (some FieldType.long), 0, 0, [])
theorem am_mo47 : am_mok am_q47 := ⟨am_pnX4, am_cw47, am_iw47⟩
noncomputable def am_q48 : am_Mt := (yX4_putBest, cX4_putBest, 4, none, 0, 0, [])
theorem am_mo48 : am_mok am_q48 := ⟨am_pnX4, am_cw48, am_iw48⟩
noncomputable def am_q49 : am_Mt := (yX4_tilesOf, cX4_tilesOf, 6, (some FieldType.long), 1, 21, [])
theorem am_mo49 : am_mok am_q49 := ⟨am_pnX4, am_cw49, am_iw49⟩
noncomputable def am_q50 : am_Mt := (yX4_bestOfAll, cX4_bestOfAll, 12, (some FieldType.long), 5, 111, [])
theorem am_mo50 : am_mok am_q50 := ⟨am_pnX4, am_cw50, am_iw50⟩
noncomputable def am_q51 : am_Mt := (yX4_pickedFood, cX4_pickedFood, 4, (some FieldType.int), 3, 64, [])
theorem am_mo51 : am_mok am_q51 := ⟨am_pnX4, am_cw51, am_iw51⟩
noncomputable def am_q52 : am_Mt := (yX4_pickedWorth, cX4_pickedWorth, 5, (some FieldType.int), 4, 87, [])
theorem am_mo52 : am_mok am_q52 := ⟨am_pnX4, am_cw52, am_iw52⟩
noncomputable def am_q53 : am_Mt := (yX4_pickedTiles, cX4_pickedTiles, 5, (some FieldType.long), 1, 21, [])
theorem am_mo53 : am_mok am_q53 := ⟨am_pnX4, am_cw53, am_iw53⟩
noncomputable def am_q54 : am_Mt := (yX4_pickNext, cX4_pickNext, 5, (some FieldType.boolean), 1, 22, [])
theorem am_mo54 : am_mok am_q54 := ⟨am_pnX4, am_cw54, am_iw54⟩
noncomputable def am_q55 : am_Mt := (yX5_init, cX5_init, 2, none, 1, 20, [])
theorem am_mo55 : am_mok am_q55 := ⟨am_pnX5, am_cw55, am_iw55⟩
noncomputable def am_q56 : am_Mt := (yX5_knows, cX5_knows, 2, (some FieldType.boolean), 1, 21, [])
theorem am_mo56 : am_mok am_q56 := ⟨am_pnX5, am_cw56, am_iw56⟩
noncomputable def am_q57 : am_Mt := (yX5_getCraft, cX5_getCraft, 2, none, 0, 0, [])
theorem am_mo57 : am_mok am_q57 := ⟨am_pnX5, am_cw57, am_iw57⟩
noncomputable def am_q58 : am_Mt := (yX5_gain, cX5_gain, 3, none, 1, 22, [])
theorem am_mo58 : am_mok am_q58 := ⟨am_pnX5, am_cw58, am_iw58⟩
noncomputable def am_q59 : am_Mt := (yX5_give, cX5_give, 3, none, 1, 22, [])
theorem am_mo59 : am_mok am_q59 := ⟨am_pnX5, am_cw59, am_iw59⟩
noncomputable def am_q60 : am_Mt := (yX6_init, cX6_init, 6, none, 1, 20, [])
theorem am_mo60 : am_mok am_q60 := ⟨am_pnX6, am_cw60, am_iw60⟩
noncomputable def am_q61 : am_Mt := (yX6_standsBetween, cX6_standsBetween, 4, (some FieldType.boolean), 0, 0, [])
theorem am_mo61 : am_mok am_q61 := ⟨am_pnX6, am_cw61, am_iw61⟩
noncomputable def am_q62 : am_Mt := (yX6_end, cX6_end, 3, none, 0, 0, [])
theorem am_mo62 : am_mok am_q62 := ⟨am_pnX6, am_cw62, am_iw62⟩
noncomputable def am_q63 : am_Mt := (yX6_loseTurn, cX6_loseTurn, 1, none, 1, 22, [])
theorem am_mo63 : am_mok am_q63 := ⟨am_pnX6, am_cw63, am_iw63⟩
noncomputable def am_q64 : am_Mt := (yX7_init, cX7_init, 2, none, 1, 20, [])
theorem am_mo64 : am_mok am_q64 := ⟨am_pnX7, am_cw64, am_iw64⟩
noncomputable def am_q65 : am_Mt := (yX7_run, cX7_run, 1, none, 10, 237, [])
theorem am_mo65 : am_mok am_q65 := ⟨am_pnX7, am_cw65, am_iw65⟩
noncomputable def am_q66 : am_Mt := (yX7_endCities, cX7_endCities, 3, none, 9, 215, [])
theorem am_mo66 : am_mok am_q66 := ⟨am_pnX7, am_cw66, am_iw66⟩
noncomputable def am_q67 : am_Mt := (yX7_feed, cX7_feed, 2, none, 2, 42, [])
theorem am_mo67 : am_mok am_q67 := ⟨am_pnX7, am_cw67, am_iw67⟩
noncomputable def am_q68 : am_Mt := (yX7_build, cX7_build, 3, none, 8, 193, [])
theorem am_mo68 : am_mok am_q68 := ⟨am_pnX7, am_cw68, am_iw68⟩
noncomputable def am_q69 : am_Mt := (yX7_canMake, cX7_canMake, 4, (some FieldType.boolean), 5, 108, [])
theorem am_mo69 : am_mok am_q69 := ⟨am_pnX7, am_cw69, am_iw69⟩
noncomputable def am_q70 : am_Mt := (yX7_share, cX7_share, 3, none, 2, 44, [])
theorem am_mo70 : am_mok am_q70 := ⟨am_pnX7, am_cw70, am_iw70⟩
noncomputable def am_q71 : am_Mt := (yX7_endPlayers, cX7_endPlayers, 3, none, 6, 135, [])
theorem am_mo71 : am_mok am_q71 := ⟨am_pnX7, am_cw71, am_iw71⟩
noncomputable def am_q72 : am_Mt := (yX7_reachGoal, cX7_reachGoal, 2, none, 1, 21, [])
theorem am_mo72 : am_mok am_q72 := ⟨am_pnX7, am_cw72, am_iw72⟩
noncomputable def am_q73 : am_Mt := (yX7_payUpkeep, cX7_payUpkeep, 5, none, 5, 111, [])
theorem am_mo73 : am_mok am_q73 := ⟨am_pnX7, am_cw73, am_iw73⟩
noncomputable def am_q74 : am_Mt := (yX7_upkeepOf, cX7_upkeepOf, 5, (some FieldType.int), 4, 87, [])
theorem am_mo74 : am_mok am_q74 := ⟨am_pnX7, am_cw74, am_iw74⟩
noncomputable def am_q75 : am_Mt := (yX7_payTributes, cX7_payTributes, 3, none, 5, 109, [])
theorem am_mo75 : am_mok am_q75 := ⟨am_pnX7, am_cw75, am_iw75⟩
noncomputable def am_q76 : am_Mt := (yX7_payTribute, cX7_payTribute, 5, none, 4, 85, [])
theorem am_mo76 : am_mok am_q76 := ⟨am_pnX7, am_cw76, am_iw76⟩
noncomputable def am_q77 : am_Mt := (yX7_spreadBorders, cX7_spreadBorders, 3, none, 6, 138, [])
theorem am_mo77 : am_mok am_q77 := ⟨am_pnX7, am_cw77, am_iw77⟩
noncomputable def am_q78 : am_Mt := (yX7_strongestOn, cX7_strongestOn, 6, (some FieldType.int), 5, 113, [])
theorem am_mo78 : am_mok am_q78 := ⟨am_pnX7, am_cw78, am_iw78⟩
noncomputable def am_q79 : am_Mt := (yX7_mostPull, cX7_mostPull, 4, (some FieldType.int), 4, 90, [])
theorem am_mo79 : am_mok am_q79 := ⟨am_pnX7, am_cw79, am_iw79⟩
noncomputable def am_q80 : am_Mt := (yX7_doJobs, cX7_doJobs, 3, none, 3, 64, [])
theorem am_mo80 : am_mok am_q80 := ⟨am_pnX7, am_cw80, am_iw80⟩
noncomputable def am_q81 : am_Mt := (yX7_restUnits, cX7_restUnits, 3, none, 3, 84, [])
theorem am_mo81 : am_mok am_q81 := ⟨am_pnX7, am_cw81, am_iw81⟩
noncomputable def am_q82 : am_Mt := (yX7_isSupplied, cX7_isSupplied, 3, (some FieldType.boolean), 2, 44, [])
theorem am_mo82 : am_mok am_q82 := ⟨am_pnX7, am_cw82, am_iw82⟩
noncomputable def am_q83 : am_Mt := (yX8_init, cX8_init, 5, none, 1, 21, [])
theorem am_mo83 : am_mok am_q83 := ⟨am_pnX8, am_cw83, am_iw83⟩
noncomputable def am_q84 : am_Mt := (yX8_attack, cX8_attack, 1, (some FieldType.int), 1, 21, [])
theorem am_mo84 : am_mok am_q84 := ⟨am_pnX8, am_cw84, am_iw84⟩
noncomputable def am_q85 : am_Mt := (yX8_defence, cX8_defence, 1, (some FieldType.int), 1, 21, [])
theorem am_mo85 : am_mok am_q85 := ⟨am_pnX8, am_cw85, am_iw85⟩
noncomputable def am_q86 : am_Mt := (yX8_dropJob, cX8_dropJob, 1, none, 0, 0, [])
theorem am_mo86 : am_mok am_q86 := ⟨am_pnX8, am_cw86, am_iw86⟩
noncomputable def am_q87 : am_Mt := (yX9_init, cX9_init, 2, none, 7, 169, [])
theorem am_mo87 : am_mok am_q87 := ⟨am_pnX9, am_cw87, am_iw87⟩
noncomputable def am_q88 : am_Mt := (yX9_playerAt, cX9_playerAt, 2, (some (FieldType.object "EmpireTurns$Player")), 3, 64, [])
theorem am_mo88 : am_mok am_q88 := ⟨am_pnX9, am_cw88, am_iw88⟩
noncomputable def am_q89 : am_Mt := (yX9_areAtWar, cX9_areAtWar, 3, (some FieldType.boolean), 5, 111, [])
theorem am_mo89 : am_mok am_q89 := ⟨am_pnX9, am_cw89, am_iw89⟩
noncomputable def am_q90 : am_Mt := (yX9_canLearn, cX9_canLearn, 4, (some FieldType.boolean), 2, 42, [])
theorem am_mo90 : am_mok am_q90 := ⟨am_pnX9, am_cw90, am_iw90⟩
noncomputable def am_q91 : am_Mt := (yX9_cityOn, cX9_cityOn, 4, (some (FieldType.object "EmpireTurns$City")), 3, 64, [])
theorem am_mo91 : am_mok am_q91 := ⟨am_pnX9, am_cw91, am_iw91⟩
noncomputable def am_q92 : am_Mt := (yX9_cityNumberOn, cX9_cityNumberOn, 3, (some FieldType.int), 4, 87, [])
theorem am_mo92 : am_mok am_q92 := ⟨am_pnX9, am_cw92, am_iw92⟩
noncomputable def am_q93 : am_Mt := (yX9_hasCityNear, cX9_hasCityNear, 3, (some FieldType.boolean), 3, 64, [])
theorem am_mo93 : am_mok am_q93 := ⟨am_pnX9, am_cw93, am_iw93⟩
noncomputable def am_q94 : am_Mt := (yX9_addCity, cX9_addCity, 4, (some FieldType.int), 7, 169, [])
theorem am_mo94 : am_mok am_q94 := ⟨am_pnX9, am_cw94, am_iw94⟩
noncomputable def am_q95 : am_Mt := (yX9_removeCity, cX9_removeCity, 3, none, 3, 84, [])
theorem am_mo95 : am_mok am_q95 := ⟨am_pnX9, am_cw95, am_iw95⟩
noncomputable def am_q96 : am_Mt := (yX9_countCities, cX9_countCities, 4, (some FieldType.int), 3, 64, [])
theorem am_mo96 : am_mok am_q96 := ⟨am_pnX9, am_cw96, am_iw96⟩
noncomputable def am_q97 : am_Mt := (yX9_greatestSizeUpTo, cX9_greatestSizeUpTo, 5, (some FieldType.int), 3, 64, [])
theorem am_mo97 : am_mok am_q97 := ⟨am_pnX9, am_cw97, am_iw97⟩
noncomputable def am_q98 : am_Mt := (yX9_pullOf, cX9_pullOf, 7, (some FieldType.int), 3, 64, [])
theorem am_mo98 : am_mok am_q98 := ⟨am_pnX9, am_cw98, am_iw98⟩
noncomputable def am_q99 : am_Mt := (yX9_scoreOf, cX9_scoreOf, 5, (some FieldType.int), 3, 65, [])
theorem am_mo99 : am_mok am_q99 := ⟨am_pnX9, am_cw99, am_iw99⟩
noncomputable def am_q100 : am_Mt := (yX9_countOn, cX9_countOn, 4, (some FieldType.int), 3, 64, [])
theorem am_mo100 : am_mok am_q100 := ⟨am_pnX9, am_cw100, am_iw100⟩
noncomputable def am_q101 : am_Mt := (yX9_countUnits, cX9_countUnits, 4, (some FieldType.int), 3, 64, [])
theorem am_mo101 : am_mok am_q101 := ⟨am_pnX9, am_cw101, am_iw101⟩
noncomputable def am_q102 : am_Mt := (yX9_hasRoomFor, cX9_hasRoomFor, 2, (some FieldType.boolean), 4, 87, [])
theorem am_mo102 : am_mok am_q102 := ⟨am_pnX9, am_cw102, am_iw102⟩
noncomputable def am_q103 : am_Mt := (yX9_hasOthersOn, cX9_hasOthersOn, 6, (some FieldType.boolean), 4, 87, [])
theorem am_mo103 : am_mok am_q103 := ⟨am_pnX9, am_cw103, am_iw103⟩
noncomputable def am_q104 : am_Mt := (yX9_addUnit, cX9_addUnit, 5, (some FieldType.int), 7, 169, [])
theorem am_mo104 : am_mok am_q104 := ⟨am_pnX9, am_cw104, am_iw104⟩
noncomputable def am_q105 : am_Mt := (yX9_removeUnit, cX9_removeUnit, 3, none, 3, 84, [])
theorem am_mo105 : am_mok am_q105 := ⟨am_pnX9, am_cw105, am_iw105⟩
noncomputable def am_q106 : am_Mt := (yX9_removeLastUnit, cX9_removeLastUnit, 3, (some FieldType.boolean), 3, 84, [])
theorem am_mo106 : am_mok am_q106 := ⟨am_pnX9, am_cw106, am_iw106⟩
noncomputable def am_q107 : am_Mt := (yX9_tilesOfFoes, cX9_tilesOfFoes, 6, (some FieldType.long), 6, 133, [])
theorem am_mo107 : am_mok am_q107 := ⟨am_pnX9, am_cw107, am_iw107⟩
noncomputable def am_q108 : am_Mt := (yX9_tilesOfCities, cX9_tilesOfCities, 4, (some FieldType.long), 3, 64, [])
theorem am_mo108 : am_mok am_q108 := ⟨am_pnX9, am_cw108, am_iw108⟩
noncomputable def am_q109 : am_Mt := (yX10_init, cX10_init, 1, none, 8, 190, [])
theorem am_mo109 : am_mok am_q109 := ⟨am_pnX10, am_cw109, am_iw109⟩
noncomputable def am_q110 : am_Mt := (yX10_lay, cX10_lay, 4, (some FieldType.int), 8, 130, [])
theorem am_mo110 : am_mok am_q110 := ⟨am_pnX10, am_cw110, am_iw110⟩
noncomputable def am_q111 : am_Mt := (yX10_need, cX10_need, 5, (some FieldType.int), 7, 110, [])
theorem am_mo111 : am_mok am_q111 := ⟨am_pnX10, am_cw111, am_iw111⟩
noncomputable def am_q112 : am_Mt := (yX10_place, cX10_place, 5, (some FieldType.int), 8, 193, [])
theorem am_mo112 : am_mok am_q112 := ⟨am_pnX10, am_cw112, am_iw112⟩
noncomputable def am_q113 : am_Mt := (yX10_found, cX10_found, 4, (some FieldType.int), 8, 192, [])
theorem am_mo113 : am_mok am_q113 := ⟨am_pnX10, am_cw113, am_iw113⟩
noncomputable def am_q114 : am_Mt := (yX10_order, cX10_order, 6, none, 7, 113, [])
theorem am_mo114 : am_mok am_q114 := ⟨am_pnX10, am_cw114, am_iw114⟩
noncomputable def am_q115 : am_Mt := (yX10_queue, cX10_queue, 4, (some FieldType.int), 7, 113, [])
theorem am_mo115 : am_mok am_q115 := ⟨am_pnX10, am_cw115, am_iw115⟩
noncomputable def am_q116 : am_Mt := (yX10_unqueue, cX10_unqueue, 4, (some FieldType.int), 7, 113, [])
theorem am_mo116 : am_mok am_q116 := ⟨am_pnX10, am_cw116, am_iw116⟩
noncomputable def am_q117 : am_Mt := (yX10_hurry, cX10_hurry, 5, (some FieldType.int), 7, 113, [])
theorem am_mo117 : am_mok am_q117 := ⟨am_pnX10, am_cw117, am_iw117⟩
noncomputable def am_q118 : am_Mt := (yX10_learn, cX10_learn, 4, none, 7, 112, [])
theorem am_mo118 : am_mok am_q118 := ⟨am_pnX10, am_cw118, am_iw118⟩
noncomputable def am_q119 : am_Mt := (yX10_setParts, cX10_setParts, 5, (some FieldType.int), 7, 112, [])
theorem am_mo119 : am_mok am_q119 := ⟨am_pnX10, am_cw119, am_iw119⟩
noncomputable def am_q120 : am_Mt := (yX10_offer, cX10_offer, 6, none, 7, 112, [])
theorem am_mo120 : am_mok am_q120 := ⟨am_pnX10, am_cw120, am_iw120⟩
noncomputable def am_q121 : am_Mt := (yX10_agree, cX10_agree, 6, (some FieldType.int), 7, 169, [])
theorem am_mo121 : am_mok am_q121 := ⟨am_pnX10, am_cw121, am_iw121⟩
noncomputable def am_q122 : am_Mt := (yX10_cancel, cX10_cancel, 5, (some FieldType.int), 7, 112, [])
theorem am_mo122 : am_mok am_q122 := ⟨am_pnX10, am_cw122, am_iw122⟩
noncomputable def am_q123 : am_Mt := (yX10_treaty, cX10_treaty, 4, (some FieldType.int), 7, 111, [])
theorem am_mo123 : am_mok am_q123 := ⟨am_pnX10, am_cw123, am_iw123⟩
noncomputable def am_q124 : am_Mt := (yX10_atWar, cX10_atWar, 3, (some FieldType.boolean), 7, 112, [])
theorem am_mo124 : am_mok am_q124 := ⟨am_pnX10, am_cw124, am_iw124⟩
noncomputable def am_q125 : am_Mt := (yX10_step, cX10_step, 7, (some FieldType.boolean), 9, 201, [])
theorem am_mo125 : am_mok am_q125 := ⟨am_pnX10, am_cw125, am_iw125⟩
noncomputable def am_q126 : am_Mt := (yX10_work, cX10_work, 4, none, 7, 113, [])
theorem am_mo126 : am_mok am_q126 := ⟨am_pnX10, am_cw126, am_iw126⟩
noncomputable def am_q127 : am_Mt := (yX10_unit, cX10_unit, 4, (some FieldType.int), 7, 113, [])
theorem am_mo127 : am_mok am_q127 := ⟨am_pnX10, am_cw127, am_iw127⟩
noncomputable def am_q128 : am_Mt := (yX10_unitsOn, cX10_unitsOn, 2, (some FieldType.int), 8, 130, [])
theorem am_mo128 : am_mok am_q128 := ⟨am_pnX10, am_cw128, am_iw128⟩
noncomputable def am_q129 : am_Mt := (yX10_endTurn, cX10_endTurn, 1, (some FieldType.int), 11, 257, [])
theorem am_mo129 : am_mok am_q129 := ⟨am_pnX10, am_cw129, am_iw129⟩
noncomputable def am_q130 : am_Mt := (yX10_plan, cX10_plan, 3, (some FieldType.long), 8, 184, [])
theorem am_mo130 : am_mok am_q130 := ⟨am_pnX10, am_cw130, am_iw130⟩
noncomputable def am_q131 : am_Mt := (yX10_planByAll, cX10_planByAll, 3, (some FieldType.long), 8, 184, [])
theorem am_mo131 : am_mok am_q131 := ⟨am_pnX10, am_cw131, am_iw131⟩
noncomputable def am_q132 : am_Mt := (yX10_city, cX10_city, 4, (some FieldType.int), 8, 184, [])
theorem am_mo132 : am_mok am_q132 := ⟨am_pnX10, am_cw132, am_iw132⟩
noncomputable def am_q133 : am_Mt := (yX10_tile, cX10_tile, 3, (some FieldType.int), 8, 130, [])
theorem am_mo133 : am_mok am_q133 := ⟨am_pnX10, am_cw133, am_iw133⟩
noncomputable def am_q134 : am_Mt := (yX10_pull, cX10_pull, 4, (some FieldType.int), 8, 130, [])
theorem am_mo134 : am_mok am_q134 := ⟨am_pnX10, am_cw134, am_iw134⟩
noncomputable def am_q135 : am_Mt := (yX10_player, cX10_player, 4, (some FieldType.int), 7, 112, [])
theorem am_mo135 : am_mok am_q135 := ⟨am_pnX10, am_cw135, am_iw135⟩
noncomputable def am_q136 : am_Mt := (yX10_ledger, cX10_ledger, 4, (some FieldType.int), 7, 112, [])
theorem am_mo136 : am_mok am_q136 := ⟨am_pnX10, am_cw136, am_iw136⟩
noncomputable def am_q137 : am_Mt := (yX10_findPlayer, cX10_findPlayer, 3, (some (FieldType.object "EmpireTurns$Player")), 6, 90, [])
theorem am_mo137 : am_mok am_q137 := ⟨am_pnX10, am_cw137, am_iw137⟩
noncomputable def am_q138 : am_Mt := (yX10_findCity, cX10_findCity, 4, (some (FieldType.object "EmpireTurns$City")), 6, 90, [])
theorem am_mo138 : am_mok am_q138 := ⟨am_pnX10, am_cw138, am_iw138⟩
noncomputable def am_q139 : am_Mt := (yX10_findUnit, cX10_findUnit, 4, (some (FieldType.object "EmpireTurns$Unit")), 6, 90, [])
theorem am_mo139 : am_mok am_q139 := ⟨am_pnX10, am_cw139, am_iw139⟩
noncomputable def am_q140 : am_Mt := (yX10_findTreaty, cX10_findTreaty, 2, (some (FieldType.object "EmpireTurns$Treaty")), 6, 90, [])
theorem am_mo140 : am_mok am_q140 := ⟨am_pnX10, am_cw140, am_iw140⟩
noncomputable def am_q141 : am_Mt := (yX10_isOffered, cX10_isOffered, 2, (some FieldType.boolean), 1, 22, [])
theorem am_mo141 : am_mok am_q141 := ⟨am_pnX10, am_cw141, am_iw141⟩
noncomputable def am_q142 : am_Mt := (yX10_requireTile, cX10_requireTile, 1, none, 7, 110, [])
theorem am_mo142 : am_mok am_q142 := ⟨am_pnX10, am_cw142, am_iw142⟩
noncomputable def am_q143 : am_Mt := (yX10_requireArgument, cX10_requireArgument, 1, none, 6, 90, [])
theorem am_mo143 : am_mok am_q143 := ⟨am_pnX10, am_cw143, am_iw143⟩
noncomputable def am_q144 : am_Mt := (yX10_requireState, cX10_requireState, 1, none, 6, 90, [])
theorem am_mo144 : am_mok am_q144 := ⟨am_pnX10, am_cw144, am_iw144⟩
noncomputable def am_q145 : am_Mt := (yX10_isBetween, cX10_isBetween, 3, (some FieldType.boolean), 0, 0, [])
theorem am_mo145 : am_mok am_q145 := ⟨am_pnX10, am_cw145, am_iw145⟩
noncomputable def am_q146 : am_Mt := (yX10_hasBit, cX10_hasBit, 2, (some FieldType.boolean), 0, 0, [])
theorem am_mo146 : am_mok am_q146 := ⟨am_pnX10, am_cw146, am_iw146⟩
noncomputable def am_q147 : am_Mt := (yX10_at, cX10_at, 2, (some FieldType.int), 0, 0, [])
theorem am_mo147 : am_mok am_q147 := ⟨am_pnX10, am_cw147, am_iw147⟩
noncomputable def am_q148 : am_Mt := (yX10_put, cX10_put, 3, none, 0, 0, [])
theorem am_mo148 : am_mok am_q148 := ⟨am_pnX10, am_cw148, am_iw148⟩
noncomputable def am_q149 : am_Mt := (yX10_distance, cX10_distance, 4, (some FieldType.int), 1, 21, [])
theorem am_mo149 : am_mok am_q149 := ⟨am_pnX10, am_cw149, am_iw149⟩
noncomputable def am_q150 : am_Mt := (yX10_tileBeside, cX10_tileBeside, 5, (some FieldType.int), 1, 22, [])
theorem am_mo150 : am_mok am_q150 := ⟨am_pnX10, am_cw150, am_iw150⟩
noncomputable def am_q151 : am_Mt := (yX11_init, cX11_init, 2, none, 1, 20, [])
theorem am_mo151 : am_mok am_q151 := ⟨am_pnX11, am_cw151, am_iw151⟩
noncomputable def am_q152 : am_Mt := (yX11_thrown, cX11_thrown, 1, (some FieldType.int), 0, 0, [])
theorem am_mo152 : am_mok am_q152 := ⟨am_pnX11, am_cw152, am_iw152⟩
noncomputable def am_q153 : am_Mt := (yX11_holds, cX11_holds, 2, (some FieldType.boolean), 0, 0, [])
theorem am_mo153 : am_mok am_q153 := ⟨am_pnX11, am_cw153, am_iw153⟩
noncomputable def am_q154 : am_Mt := (yX11_in, cX11_in, 3, (some FieldType.boolean), 0, 0, [])
theorem am_mo154 : am_mok am_q154 := ⟨am_pnX11, am_cw154, am_iw154⟩
noncomputable def am_q155 : am_Mt := (yX11_has, cX11_has, 2, (some FieldType.boolean), 0, 0, [])
theorem am_mo155 : am_mok am_q155 := ⟨am_pnX11, am_cw155, am_iw155⟩
noncomputable def am_q156 : am_Mt := (yX11_isPlayer, cX11_isPlayer, 1, (some FieldType.boolean), 1, 22, [])
theorem am_mo156 : am_mok am_q156 := ⟨am_pnX11, am_cw156, am_iw156⟩
noncomputable def am_q157 : am_Mt := (yX11_isTile, cX11_isTile, 1, (some FieldType.boolean), 1, 22, [])
theorem am_mo157 : am_mok am_q157 := ⟨am_pnX11, am_cw157, am_iw157⟩
noncomputable def am_q158 : am_Mt := (yX11_isCity, cX11_isCity, 2, (some FieldType.boolean), 1, 22, [])
theorem am_mo158 : am_mok am_q158 := ⟨am_pnX11, am_cw158, am_iw158⟩
noncomputable def am_q159 : am_Mt := (yX11_size, cX11_size, 1, (some FieldType.int), 0, 0, [])
theorem am_mo159 : am_mok am_q159 := ⟨am_pnX11, am_cw159, am_iw159⟩
noncomputable def am_q160 : am_Mt := (yX11_distance, cX11_distance, 4, (some FieldType.int), 1, 20, [])
theorem am_mo160 : am_mok am_q160 := ⟨am_pnX11, am_cw160, am_iw160⟩
noncomputable def am_q161 : am_Mt := (yX11_movesOf, cX11_movesOf, 1, (some FieldType.int), 0, 0, [])
theorem am_mo161 : am_mok am_q161 := ⟨am_pnX11, am_cw161, am_iw161⟩
noncomputable def am_q162 : am_Mt := (yX11_attackOf, cX11_attackOf, 1, (some FieldType.int), 0, 0, [])
theorem am_mo162 : am_mok am_q162 := ⟨am_pnX11, am_cw162, am_iw162⟩
noncomputable def am_q163 : am_Mt := (yX11_defenceOf, cX11_defenceOf, 1, (some FieldType.int), 0, 0, [])
theorem am_mo163 : am_mok am_q163 := ⟨am_pnX11, am_cw163, am_iw163⟩
noncomputable def am_q164 : am_Mt := (yX11_costOf, cX11_costOf, 1, (some FieldType.int), 0, 0, [])
theorem am_mo164 : am_mok am_q164 := ⟨am_pnX11, am_cw164, am_iw164⟩
noncomputable def am_q165 : am_Mt := (yX11_craftOf, cX11_craftOf, 1, (some FieldType.int), 0, 0, [])
theorem am_mo165 : am_mok am_q165 := ⟨am_pnX11, am_cw165, am_iw165⟩
noncomputable def am_q166 : am_Mt := (yX11_indexOf, cX11_indexOf, 3, (some FieldType.int), 0, 0, [])
theorem am_mo166 : am_mok am_q166 := ⟨am_pnX11, am_cw166, am_iw166⟩
noncomputable def am_q167 : am_Mt := (yX11_countOn, cX11_countOn, 4, (some FieldType.int), 0, 0, [])
theorem am_mo167 : am_mok am_q167 := ⟨am_pnX11, am_cw167, am_iw167⟩
noncomputable def am_q168 : am_Mt := (yX11_ownerOn, cX11_ownerOn, 3, (some FieldType.int), 0, 0, [])
theorem am_mo168 : am_mok am_q168 := ⟨am_pnX11, am_cw168, am_iw168⟩
noncomputable def am_q169 : am_Mt := (yX11_makesUnit, cX11_makesUnit, 4, (some FieldType.int), 1, 20, [])
theorem am_mo169 : am_mok am_q169 := ⟨am_pnX11, am_cw169, am_iw169⟩
noncomputable def am_q170 : am_Mt := (yX11_drops, cX11_drops, 3, none, 0, 0, [])
theorem am_mo170 : am_mok am_q170 := ⟨am_pnX11, am_cw170, am_iw170⟩
noncomputable def am_q171 : am_Mt := (yX11_stands, cX11_stands, 7, (some FieldType.boolean), 0, 0, [])
theorem am_mo171 : am_mok am_q171 := ⟨am_pnX11, am_cw171, am_iw171⟩
noncomputable def am_q172 : am_Mt := (yX11_areAtWar, cX11_areAtWar, 3, (some FieldType.boolean), 1, 26, [])
theorem am_mo172 : am_mok am_q172 := ⟨am_pnX11, am_cw172, am_iw172⟩
noncomputable def am_q173 : am_Mt := (yX11_lay, cX11_lay, 5, (some FieldType.int), 2, 42, [])
theorem am_mo173 : am_mok am_q173 := ⟨am_pnX11, am_cw173, am_iw173⟩
noncomputable def am_q174 : am_Mt := (yX11_many, cX11_many, 3, (some FieldType.int), 0, 0, [])
theorem am_mo174 : am_mok am_q174 := ⟨am_pnX11, am_cw174, am_iw174⟩
noncomputable def am_q175 : am_Mt := (yX11_need, cX11_need, 4, (some FieldType.int), 1, 22, [])
theorem am_mo175 : am_mok am_q175 := ⟨am_pnX11, am_cw175, am_iw175⟩
noncomputable def am_q176 : am_Mt := (yX11_isForeign, cX11_isForeign, 4, (some FieldType.boolean), 1, 22, [])
theorem am_mo176 : am_mok am_q176 := ⟨am_pnX11, am_cw176, am_iw176⟩
noncomputable def am_q177 : am_Mt := (yX11_place, cX11_place, 6, (some FieldType.int), 2, 45, [])
theorem am_mo177 : am_mok am_q177 := ⟨am_pnX11, am_cw177, am_iw177⟩
noncomputable def am_q178 : am_Mt := (yX11_foodOf, cX11_foodOf, 4, (some FieldType.int), 0, 0, [])
theorem am_mo178 : am_mok am_q178 := ⟨am_pnX11, am_cw178, am_iw178⟩
noncomputable def am_q179 : am_Mt := (yX11_workOf, cX11_workOf, 4, (some FieldType.int), 0, 0, [])
theorem am_mo179 : am_mok am_q179 := ⟨am_pnX11, am_cw179, am_iw179⟩
noncomputable def am_q180 : am_Mt := (yX11_tradeOf, cX11_tradeOf, 3, (some FieldType.int), 0, 0, [])
theorem am_mo180 : am_mok am_q180 := ⟨am_pnX11, am_cw180, am_iw180⟩
noncomputable def am_q181 : am_Mt := (yX11_most, cX11_most, 2, (some FieldType.int), 0, 0, [])
theorem am_mo181 : am_mok am_q181 := ⟨am_pnX11, am_cw181, am_iw181⟩
noncomputable def am_q182 : am_Mt := (yX11_foodOfAll, cX11_foodOfAll, 4, (some FieldType.int), 1, 23, [])
theorem am_mo182 : am_mok am_q182 := ⟨am_pnX11, am_cw182, am_iw182⟩
noncomputable def am_q183 : am_Mt := (yX11_workOfAll, cX11_workOfAll, 4, (some FieldType.int), 1, 23, [])
theorem am_mo183 : am_mok am_q183 := ⟨am_pnX11, am_cw183, am_iw183⟩
noncomputable def am_q184 : am_Mt := (yX11_tradeOfAll, cX11_tradeOfAll, 4, (some FieldType.int), 1, 22, [])
theorem am_mo184 : am_mok am_q184 := ⟨am_pnX11, am_cw184, am_iw184⟩
noncomputable def am_q185 : am_Mt := (yX11_canWork, cX11_canWork, 8, (some FieldType.boolean), 2, 48, [])
theorem am_mo185 : am_mok am_q185 := ⟨am_pnX11, am_cw185, am_iw185⟩
noncomputable def am_q186 : am_Mt := (yX11_at, cX11_at, 4, (some FieldType.int), 0, 0, [])
theorem am_mo186 : am_mok am_q186 := ⟨am_pnX11, am_cw186, am_iw186⟩
noncomputable def am_q187 : am_Mt := (yX11_finds, cX11_finds, 8, none, 1, 23, [])
theorem am_mo187 : am_mok am_q187 := ⟨am_pnX11, am_cw187, am_iw187⟩
noncomputable def am_q188 : am_Mt := (yX11_chooses, cX11_chooses, 10, (some FieldType.long), 1, 23, [])
theorem am_mo188 : am_mok am_q188 := ⟨am_pnX11, am_cw188, am_iw188⟩
noncomputable def am_q189 : am_Mt := (yX11_planOf, cX11_planOf, 7, (some FieldType.long), 3, 75, [])
theorem am_mo189 : am_mok am_q189 := ⟨am_pnX11, am_cw189, am_iw189⟩
noncomputable def am_q190 : am_Mt := (yX11_plansAll, cX11_plansAll, 4, none, 4, 101, [])
theorem am_mo190 : am_mok am_q190 := ⟨am_pnX11, am_cw190, am_iw190⟩
noncomputable def am_q191 : am_Mt := (yX11_mayFound, cX11_mayFound, 5, (some FieldType.boolean), 2, 43, [])
theorem am_mo191 : am_mok am_q191 := ⟨am_pnX11, am_cw191, am_iw191⟩
noncomputable def am_q192 : am_Mt := (yX11_found, cX11_found, 5, (some FieldType.int), 3, 67, [])
theorem am_mo192 : am_mok am_q192 := ⟨am_pnX11, am_cw192, am_iw192⟩
noncomputable def am_q193 : am_Mt := (yX11_order, cX11_order, 5, none, 2, 43, [])
theorem am_mo193 : am_mok am_q193 := ⟨am_pnX11, am_cw193, am_iw193⟩
noncomputable def am_q194 : am_Mt := (yX11_queue, cX11_queue, 4, (some FieldType.int), 2, 43, [])
theorem am_mo194 : am_mok am_q194 := ⟨am_pnX11, am_cw194, am_iw194⟩
noncomputable def am_q195 : am_Mt := (yX11_takesOut, cX11_takesOut, 4, none, 0, 0, [])
theorem am_mo195 : am_mok am_q195 := ⟨am_pnX11, am_cw195, am_iw195⟩
noncomputable def am_q196 : am_Mt := (yX11_unqueue, cX11_unqueue, 5, (some FieldType.int), 2, 43, [])
theorem am_mo196 : am_mok am_q196 := ⟨am_pnX11, am_cw196, am_iw196⟩
noncomputable def am_q197 : am_Mt := (yX11_hurry, cX11_hurry, 4, (some FieldType.int), 2, 43, [])
theorem am_mo197 : am_mok am_q197 := ⟨am_pnX11, am_cw197, am_iw197⟩
noncomputable def am_q198 : am_Mt := (yX11_couldLearn, cX11_couldLearn, 3, (some FieldType.boolean), 1, 21, [])
theorem am_mo198 : am_mok am_q198 := ⟨am_pnX11, am_cw198, am_iw198⟩
noncomputable def am_q199 : am_Mt := (yX11_knows, cX11_knows, 3, none, 0, 0, [])
theorem am_mo199 : am_mok am_q199 := ⟨am_pnX11, am_cw199, am_iw199⟩
noncomputable def am_q200 : am_Mt := (yX11_learn, cX11_learn, 4, none, 2, 43, [])
theorem am_mo200 : am_mok am_q200 := ⟨am_pnX11, am_cw200, am_iw200⟩
noncomputable def am_q201 : am_Mt := (yX11_setParts, cX11_setParts, 4, (some FieldType.int), 2, 42, [])
theorem am_mo201 : am_mok am_q201 := ⟨am_pnX11, am_cw201, am_iw201⟩
noncomputable def am_q202 : am_Mt := (yX11_offer, cX11_offer, 7, none, 2, 42, [])
theorem am_mo202 : am_mok am_q202 := ⟨am_pnX11, am_cw202, am_iw202⟩
noncomputable def am_q203 : am_Mt := (yX11_mayAgree, cX11_mayAgree, 5, (some FieldType.boolean), 2, 43, [])
theorem am_mo203 : am_mok am_q203 := ⟨am_pnX11, am_cw203, am_iw203⟩
noncomputable def am_q204 : am_Mt := (yX11_agree, cX11_agree, 6, (some FieldType.int), 3, 67, [])
theorem am_mo204 : am_mok am_q204 := ⟨am_pnX11, am_cw204, am_iw204⟩
noncomputable def am_q205 : am_Mt := (yX11_isTreaty, cX11_isTreaty, 2, (some FieldType.boolean), 1, 22, [])
theorem am_mo205 : am_mok am_q205 := ⟨am_pnX11, am_cw205, am_iw205⟩
noncomputable def am_q206 : am_Mt := (yX11_breaks, cX11_breaks, 4, none, 0, 0, [])
theorem am_mo206 : am_mok am_q206 := ⟨am_pnX11, am_cw206, am_iw206⟩
noncomputable def am_q207 : am_Mt := (yX11_cancel, cX11_cancel, 6, (some FieldType.int), 2, 43, [])
theorem am_mo207 : am_mok am_q207 := ⟨am_pnX11, am_cw207, am_iw207⟩
noncomputable def am_q208 : am_Mt := (yX11_treaty, cX11_treaty, 3, (some FieldType.int), 2, 43, [])
theorem am_mo208 : am_mok am_q208 := ⟨am_pnX11, am_cw208, am_iw208⟩
noncomputable def am_q209 : am_Mt := (yX11_atWar, cX11_atWar, 3, (some FieldType.boolean), 2, 48, [])
theorem am_mo209 : am_mok am_q209 := ⟨am_pnX11, am_cw209, am_iw209⟩
noncomputable def am_q210 : am_Mt := (yX11_isZoned, cX11_isZoned, 5, (some FieldType.boolean), 2, 48, [])
theorem am_mo210 : am_mok am_q210 := ⟨am_pnX11, am_cw210, am_iw210⟩
noncomputable def am_q211 : am_Mt := (yX11_costTo, cX11_costTo, 3, (some FieldType.int), 0, 0, [])
theorem am_mo211 : am_mok am_q211 := ⟨am_pnX11, am_cw211, am_iw211⟩
noncomputable def am_q212 : am_Mt := (yX11_isBarred, cX11_isBarred, 4, (some FieldType.boolean), 2, 48, [])
theorem am_mo212 : am_mok am_q212 := ⟨am_pnX11, am_cw212, am_iw212⟩
noncomputable def am_q213 : am_Mt := (yX11_wayTo, cX11_wayTo, 10, (some FieldType.int), 3, 72, [])
theorem am_mo213 : am_mok am_q213 := ⟨am_pnX11, am_cw213, am_iw213⟩
noncomputable def am_q214 : am_Mt := (yX11_citiesOf, cX11_citiesOf, 4, (some FieldType.int), 0, 0, [])
theorem am_mo214 : am_mok am_q214 := ⟨am_pnX11, am_cw214, am_iw214⟩
noncomputable def am_q215 : am_Mt := (yX11_takes, cX11_takes, 6, none, 2, 43, [])
theorem am_mo215 : am_mok am_q215 := ⟨am_pnX11, am_cw215, am_iw215⟩
noncomputable def am_q216 : am_Mt := (yX11_defender, cX11_defender, 5, (some FieldType.int), 1, 20, [])
theorem am_mo216 : am_mok am_q216 := ⟨am_pnX11, am_cw216, am_iw216⟩
noncomputable def am_q217 : am_Mt := (yX11_fights, cX11_fights, 12, (some FieldType.boolean), 4, 92, [])
theorem am_mo217 : am_mok am_q217 := ⟨am_pnX11, am_cw217, am_iw217⟩
noncomputable def am_q218 : am_Mt := (yX11_goes, cX11_goes, 5, none, 3, 68, [])
theorem am_mo218 : am_mok am_q218 := ⟨am_pnX11, am_cw218, am_iw218⟩
noncomputable def am_q219 : am_Mt := (yX11_step, cX11_step, 10, (some FieldType.boolean), 5, 123, [])
theorem am_mo219 : am_mok am_q219 := ⟨am_pnX11, am_cw219, am_iw219⟩
noncomputable def am_q220 : am_Mt := (yX11_canHave, cX11_canHave, 5, (some FieldType.boolean), 0, 0, [])
theorem am_mo220 : am_mok am_q220 := ⟨am_pnX11, am_cw220, am_iw220⟩
noncomputable def am_q221 : am_Mt := (yX11_work, cX11_work, 6, none, 1, 24, [])
theorem am_mo221 : am_mok am_q221 := ⟨am_pnX11, am_cw221, am_iw221⟩
noncomputable def am_q222 : am_Mt := (yX11_unit, cX11_unit, 4, (some FieldType.int), 1, 22, [])
theorem am_mo222 : am_mok am_q222 := ⟨am_pnX11, am_cw222, am_iw222⟩
noncomputable def am_q223 : am_Mt := (yX11_unitsOn, cX11_unitsOn, 2, (some FieldType.int), 2, 42, [])
theorem am_mo223 : am_mok am_q223 := ⟨am_pnX11, am_cw223, am_iw223⟩
noncomputable def am_q224 : am_Mt := (yX11_canMake, cX11_canMake, 4, (some FieldType.boolean), 1, 23, [])
theorem am_mo224 : am_mok am_q224 := ⟨am_pnX11, am_cw224, am_iw224⟩
noncomputable def am_q225 : am_Mt := (yX11_eats, cX11_eats, 4, none, 1, 21, [])
theorem am_mo225 : am_mok am_q225 := ⟨am_pnX11, am_cw225, am_iw225⟩
noncomputable def am_q226 : am_Mt := (yX11_makes, cX11_makes, 4, none, 2, 46, [])
theorem am_mo226 : am_mok am_q226 := ⟨am_pnX11, am_cw226, am_iw226⟩
noncomputable def am_q227 : am_Mt := (yX11_trades, cX11_trades, 6, none, 1, 21, [])
theorem am_mo227 : am_mok am_q227 := ⟨am_pnX11, am_cw227, am_iw227⟩
noncomputable def am_q228 : am_Mt := (yX11_lastOf, cX11_lastOf, 4, (some FieldType.int), 0, 0, [])
theorem am_mo228 : am_mok am_q228 := ⟨am_pnX11, am_cw228, am_iw228⟩
noncomputable def am_q229 : am_Mt := (yX11_keeps, cX11_keeps, 6, none, 1, 23, [])
theorem am_mo229 : am_mok am_q229 := ⟨am_pnX11, am_cw229, am_iw229⟩
noncomputable def am_q230 : am_Mt := (yX11_learns, cX11_learns, 3, none, 1, 22, [])
theorem am_mo230 : am_mok am_q230 := ⟨am_pnX11, am_cw230, am_iw230⟩
noncomputable def am_q231 : am_Mt := (yX11_paysTributes, cX11_paysTributes, 3, none, 1, 23, [])
theorem am_mo231 : am_mok am_q231 := ⟨am_pnX11, am_cw231, am_iw231⟩
noncomputable def am_q232 : am_Mt := (yX11_pulls, cX11_pulls, 6, (some FieldType.int), 2, 43, [])
theorem am_mo232 : am_mok am_q232 := ⟨am_pnX11, am_cw232, am_iw232⟩
noncomputable def am_q233 : am_Mt := (yX11_fallsTo, cX11_fallsTo, 7, (some FieldType.int), 3, 68, [])
theorem am_mo233 : am_mok am_q233 := ⟨am_pnX11, am_cw233, am_iw233⟩
noncomputable def am_q234 : am_Mt := (yX11_isFar, cX11_isFar, 4, (some FieldType.boolean), 2, 43, [])
theorem am_mo234 : am_mok am_q234 := ⟨am_pnX11, am_cw234, am_iw234⟩
noncomputable def am_q235 : am_Mt := (yX11_endsUnits, cX11_endsUnits, 2, none, 3, 66, [])
theorem am_mo235 : am_mok am_q235 := ⟨am_pnX11, am_cw235, am_iw235⟩
noncomputable def am_q236 : am_Mt := (yX11_endTurn, cX11_endTurn, 4, (some FieldType.int), 5, 124, [])
theorem am_mo236 : am_mok am_q236 := ⟨am_pnX11, am_cw236, am_iw236⟩
noncomputable def am_q237 : am_Mt := (yX11_plan, cX11_plan, 2, (some FieldType.long), 5, 124, [])
theorem am_mo237 : am_mok am_q237 := ⟨am_pnX11, am_cw237, am_iw237⟩
noncomputable def am_q238 : am_Mt := (yX11_planByAll, cX11_planByAll, 5, (some FieldType.long), 5, 124, [])
theorem am_mo238 : am_mok am_q238 := ⟨am_pnX11, am_cw238, am_iw238⟩
noncomputable def am_q239 : am_Mt := (yX11_city, cX11_city, 3, (some FieldType.int), 5, 124, [])
theorem am_mo239 : am_mok am_q239 := ⟨am_pnX11, am_cw239, am_iw239⟩
noncomputable def am_q240 : am_Mt := (yX11_tile, cX11_tile, 3, (some FieldType.int), 2, 42, [])
theorem am_mo240 : am_mok am_q240 := ⟨am_pnX11, am_cw240, am_iw240⟩
noncomputable def am_q241 : am_Mt := (yX11_pull, cX11_pull, 3, (some FieldType.int), 3, 68, [])
theorem am_mo241 : am_mok am_q241 := ⟨am_pnX11, am_cw241, am_iw241⟩
noncomputable def am_q242 : am_Mt := (yX11_score, cX11_score, 4, (some FieldType.int), 1, 22, [])
theorem am_mo242 : am_mok am_q242 := ⟨am_pnX11, am_cw242, am_iw242⟩
noncomputable def am_q243 : am_Mt := (yX11_player, cX11_player, 3, (some FieldType.int), 2, 45, [])
theorem am_mo243 : am_mok am_q243 := ⟨am_pnX11, am_cw243, am_iw243⟩
noncomputable def am_q244 : am_Mt := (yX11_ledger, cX11_ledger, 3, (some FieldType.int), 2, 42, [])
theorem am_mo244 : am_mok am_q244 := ⟨am_pnX11, am_cw244, am_iw244⟩
noncomputable def am_q245 : am_Mt := (yJ6_bitCount_0f7a4, cJ6_bitCount_0f7a4, 1, (some FieldType.int), 0, 0, [])
theorem am_mo245 : am_mok am_q245 := ⟨am_pnJ6, am_cw245, am_iw245⟩
noncomputable def am_q246 : am_Mt := (yJxa1e45_init_da8c8, cJxa1e45_init_da8c8, 1, none, 1, 20, [])
theorem am_mo246 : am_mok am_q246 := ⟨am_pnJxa1e45, am_cw246, am_iw246⟩
noncomputable def am_q247 : am_Mt := (yJxc12de_init_da8c8, cJxc12de_init_da8c8, 1, none, 2, 40, [])
theorem am_mo247 : am_mok am_q247 := ⟨am_pnJxc12de, am_cw247, am_iw247⟩
noncomputable def am_q248 : am_Mt := (yJx4a65c_init_da8c8, cJx4a65c_init_da8c8, 1, none, 3, 60, [])
theorem am_mo248 : am_mok am_q248 := ⟨am_pnJx4a65c, am_cw248, am_iw248⟩
noncomputable def am_q249 : am_Mt := (yJx4a65c_grow_92f84, cJx4a65c_grow_92f84, 4, (some (FieldType.array (FieldType.object "java/lang/Object"))), 3, 82, [])
theorem am_mo249 : am_mok am_q249 := ⟨am_pnJx4a65c, am_cw249, am_iw249⟩
noncomputable def am_q250 : am_Mt := (yJx4a65c_grow_d5877, cJx4a65c_grow_d5877, 1, (some (FieldType.array (FieldType.object "java/lang/Object"))), 4, 105, [])
theorem am_mo250 : am_mok am_q250 := ⟨am_pnJx4a65c, am_cw250, am_iw250⟩
noncomputable def am_q251 : am_Mt := (yJx4a65c_size_8abf5, cJx4a65c_size_8abf5, 1, (some FieldType.int), 0, 0, [])
theorem am_mo251 : am_mok am_q251 := ⟨am_pnJx4a65c, am_cw251, am_iw251⟩
noncomputable def am_q252 : am_Mt := (yJx4a65c_elementData_915e3, cJx4a65c_elementData_915e3, 2, (some (FieldType.object "java/lang/Object")), 0, 0, [])
theorem am_mo252 : am_mok am_q252 := ⟨am_pnJx4a65c, am_cw252, am_iw252⟩
noncomputable def am_q253 : am_Mt := (yJx4a65c_get_915e3, cJx4a65c_get_915e3, 2, (some (FieldType.object "java/lang/Object")), 2, 43, [])
theorem am_mo253 : am_mok am_q253 := ⟨am_pnJx4a65c, am_cw253, am_iw253⟩
noncomputable def am_q254 : am_Mt := (yJx4a65c_add_72be8, cJx4a65c_add_72be8, 4, none, 5, 125, [])
theorem am_mo254 : am_mok am_q254 := ⟨am_pnJx4a65c, am_cw254, am_iw254⟩
noncomputable def am_q255 : am_Mt := (yJx4a65c_add_9ea2d, cJx4a65c_add_9ea2d, 2, (some FieldType.boolean), 6, 148, [])
theorem am_mo255 : am_mok am_q255 := ⟨am_pnJx4a65c, am_cw255, am_iw255⟩
noncomputable def am_q256 : am_Mt := (yJx4a65c_remove_915e3, cJx4a65c_remove_915e3, 4, (some (FieldType.object "java/lang/Object")), 2, 61, [])
theorem am_mo256 : am_mok am_q256 := ⟨am_pnJx4a65c, am_cw256, am_iw256⟩
noncomputable def am_q257 : am_Mt := (yJx4a65c_fastRemove_b59b0, cJx4a65c_fastRemove_b59b0, 4, none, 1, 38, [])
theorem am_mo257 : am_mok am_q257 := ⟨am_pnJx4a65c, am_cw257, am_iw257⟩
noncomputable def am_q258 : am_Mt := (yJ7_fill_53178, cJ7_fill_53178, 4, none, 0, 0, [])
theorem am_mo258 : am_mok am_q258 := ⟨am_pnJ7, am_cw258, am_iw258⟩
noncomputable def am_q259 : am_Mt := (yJ7_copyOf_1904c, cJ7_copyOf_1904c, 2, (some (FieldType.array (FieldType.object "java/lang/Object"))), 2, 61, [])
theorem am_mo259 : am_mok am_q259 := ⟨am_pnJ7, am_cw259, am_iw259⟩
noncomputable def am_q260 : am_Mt := (yJ7_copyOf_6403c, cJ7_copyOf_6403c, 4, (some (FieldType.array (FieldType.object "java/lang/Object"))), 1, 38, [])
theorem am_mo260 : am_mok am_q260 := ⟨am_pnJ7, am_cw260, am_iw260⟩
noncomputable def am_q261 : am_Mt := (yJ15_checkIndex_7cf53, cJ15_checkIndex_7cf53, 2, (some FieldType.int), 1, 22, [])
theorem am_mo261 : am_mok am_q261 := ⟨am_pnJ15, am_cw261, am_iw261⟩
noncomputable def am_q262 : am_Mt := (yJ8_newLength_cabcc, cJ8_newLength_cabcc, 4, (some FieldType.int), 1, 22, [])
theorem am_mo262 : am_mok am_q262 := ⟨am_pnJ8, am_cw262, am_iw262⟩
noncomputable def am_q263 : am_Mt := (yJ8_hugeLength_7cf53, cJ8_hugeLength_7cf53, 3, (some FieldType.int), 0, 0, [])
theorem am_mo263 : am_mok am_q263 := ⟨am_pnJ8, am_cw263, am_iw263⟩
noncomputable def am_q264 : am_Mt := (yJ3_checkIndex_8e157, cJ3_checkIndex_8e157, 3, (some FieldType.int), 0, 0, [])
theorem am_mo264 : am_mok am_q264 := ⟨am_pnJ3, am_cw264, am_iw264⟩
noncomputable def am_q265 : am_Mt := (yL_lay, cL_lay, 5, (some FieldType.int), 9, 153, [(0, 10, 13, 13), (0, 10, 17, 15)])
theorem am_mo265 : am_mok am_q265 := ⟨am_pnL, am_cw265, am_iw265⟩
noncomputable def am_q266 : am_Mt := (yL_need, cL_need, 5, (some FieldType.int), 8, 134, [(0, 10, 13, 13), (0, 10, 17, 15)])
theorem am_mo266 : am_mok am_q266 := ⟨am_pnL, am_cw266, am_iw266⟩
noncomputable def am_q267 : am_Mt := (yL_place, cL_place, 6, (some FieldType.int), 9, 217, [(0, 12, 15, 13), (0, 12, 19, 15)])
theorem am_mo267 : am_mok am_q267 := ⟨am_pnL, am_cw267, am_iw267⟩
noncomputable def am_q268 : am_Mt := (yL_found, cL_found, 4, (some FieldType.int), 9, 215, [(0, 9, 12, 28), (0, 9, 15, 15)])
theorem am_mo268 : am_mok am_q268 := ⟨am_pnL, am_cw268, am_iw268⟩
noncomputable def am_q269 : am_Mt := (yL_order, cL_order, 6, (some FieldType.int), 8, 138, [(0, 9, 12, 28), (0, 9, 16, 13)])
theorem am_mo269 : am_mok am_q269 := ⟨am_pnL, am_cw269, am_iw269⟩
noncomputable def am_q270 : am_Mt := (yL_queue, cL_queue, 5, (some FieldType.int), 8, 136, [(0, 10, 13, 28), (0, 10, 17, 13), (0, 10, 21, 15)])
theorem am_mo270 : am_mok am_q270 := ⟨am_pnL, am_cw270, am_iw270⟩
noncomputable def am_q271 : am_Mt := (yL_unqueue, cL_unqueue, 5, (some FieldType.int), 8, 136, [(0, 10, 13, 28), (0, 10, 17, 13)])
theorem am_mo271 : am_mok am_q271 := ⟨am_pnL, am_cw271, am_iw271⟩
noncomputable def am_q272 : am_Mt := (yL_hurry, cL_hurry, 4, (some FieldType.int), 8, 137, [(0, 9, 12, 28), (0, 9, 15, 15)])
theorem am_mo272 : am_mok am_q272 := ⟨am_pnL, am_cw272, am_iw272⟩
noncomputable def am_q273 : am_Mt := (yL_learn, cL_learn, 4, (some FieldType.int), 8, 135, [(0, 6, 9, 13), (0, 6, 12, 15)])
theorem am_mo273 : am_mok am_q273 := ⟨am_pnL, am_cw273, am_iw273⟩
noncomputable def am_q274 : am_Mt := (yL_setParts, cL_setParts, 5, (some FieldType.int), 8, 136, [(0, 10, 13, 13)])
theorem am_mo274 : am_mok am_q274 := ⟨am_pnL, am_cw274, am_iw274⟩
noncomputable def am_q275 : am_Mt := (yL_offer, cL_offer, 7, (some FieldType.int), 8, 137, [(0, 11, 14, 13)])
theorem am_mo275 : am_mok am_q275 := ⟨am_pnL, am_cw275, am_iw275⟩
noncomputable def am_q276 : am_Mt := (yL_agree, cL_agree, 5, (some FieldType.int), 8, 194, [(0, 10, 13, 13), (0, 10, 17, 28), (0, 10, 21, 15)])
theorem am_mo276 : am_mok am_q276 := ⟨am_pnL, am_cw276, am_iw276⟩
noncomputable def am_q277 : am_Mt := (yL_cancel, cL_cancel, 5, (some FieldType.int), 8, 136, [(0, 10, 13, 13), (0, 10, 17, 28), (0, 10, 21, 15)])
theorem am_mo277 : am_mok am_q277 := ⟨am_pnL, am_cw277, am_iw277⟩
noncomputable def am_q278 : am_Mt := (yL_treaty, cL_treaty, 5, (some FieldType.int), 8, 134, [(0, 10, 13, 28), (0, 10, 17, 13)])
theorem am_mo278 : am_mok am_q278 := ⟨am_pnL, am_cw278, am_iw278⟩
noncomputable def am_q279 : am_Mt := (yL_atWar, cL_atWar, 5, (some FieldType.int), 8, 134, [(0, 17, 20, 13)])
theorem am_mo279 : am_mok am_q279 := ⟨am_pnL, am_cw279, am_iw279⟩
noncomputable def am_q280 : am_Mt := (yL_step, cL_step, 6, (some FieldType.int), 10, 227, [(0, 19, 22, 28), (0, 19, 26, 13), (0, 19, 30, 15)])
theorem am_mo280 : am_mok am_q280 := ⟨am_pnL, am_cw280, am_iw280⟩
noncomputable def am_q281 : am_Mt := (yL_work, cL_work, 4, (some FieldType.int), 8, 136, [(0, 6, 9, 28), (0, 6, 12, 13), (0, 6, 15, 15)])
theorem am_mo281 : am_mok am_q281 := ⟨am_pnL, am_cw281, am_iw281⟩
noncomputable def am_q282 : am_Mt := (yL_unit, cL_unit, 5, (some FieldType.int), 8, 136, [(0, 10, 13, 28), (0, 10, 17, 13)])
theorem am_mo282 : am_mok am_q282 := ⟨am_pnL, am_cw282, am_iw282⟩
noncomputable def am_q283 : am_Mt := (yL_unitsOn, cL_unitsOn, 4, (some FieldType.int), 9, 151, [(0, 9, 12, 13)])
theorem am_mo283 : am_mok am_q283 := ⟨am_pnL, am_cw283, am_iw283⟩
noncomputable def am_q284 : am_Mt := (yL_plan, cL_plan, 4, (some FieldType.int), 9, 206, [(0, 8, 11, 28)])
theorem am_mo284 : am_mok am_q284 := ⟨am_pnL, am_cw284, am_iw284⟩
noncomputable def am_q285 : am_Mt := (yL_planByAll, cL_planByAll, 4, (some FieldType.int), 9, 206, [(0, 8, 11, 28), (0, 8, 14, 15)])
theorem am_mo285 : am_mok am_q285 := ⟨am_pnL, am_cw285, am_iw285⟩
noncomputable def am_q286 : am_Mt := (yL_city, cL_city, 5, (some FieldType.int), 9, 207, [(0, 10, 13, 28), (0, 10, 17, 13)])
theorem am_mo286 : am_mok am_q286 := ⟨am_pnL, am_cw286, am_iw286⟩
noncomputable def am_q287 : am_Mt := (yL_tile, cL_tile, 5, (some FieldType.int), 9, 152, [(0, 10, 13, 13)])
theorem am_mo287 : am_mok am_q287 := ⟨am_pnL, am_cw287, am_iw287⟩
noncomputable def am_q288 : am_Mt := (yL_pull, cL_pull, 5, (some FieldType.int), 9, 153, [(0, 10, 13, 13)])
theorem am_mo288 : am_mok am_q288 := ⟨am_pnL, am_cw288, am_iw288⟩
noncomputable def am_q289 : am_Mt := (yL_player, cL_player, 5, (some FieldType.int), 8, 135, [(0, 10, 13, 13)])
theorem am_mo289 : am_mok am_q289 := ⟨am_pnL, am_cw289, am_iw289⟩
noncomputable def am_q290 : am_Mt := (yL_ledger, cL_ledger, 5, (some FieldType.int), 8, 135, [(0, 10, 13, 13)])
theorem am_mo290 : am_mok am_q290 := ⟨am_pnL, am_cw290, am_iw290⟩
noncomputable def am_mb0 : List am_Mt := [am_q0, am_q1, am_q2, am_q3, am_q4, am_q5, am_q6, am_q7, am_q8, am_q9, am_q10, am_q11, am_q12, am_q13, am_q14, am_q15, am_q16, am_q17, am_q18, am_q19, am_q20, am_q21, am_q22, am_q23, am_q24, am_q25, am_q26, am_q27, am_q28, am_q29, am_q30, am_q31, am_q32, am_q33, am_q34, am_q35, am_q36, am_q37, am_q38, am_q39]
theorem am_mbo0 : am_okM am_mb0 := ⟨am_mo0, am_mo1, am_mo2, am_mo3, am_mo4, am_mo5, am_mo6, am_mo7, am_mo8, am_mo9, am_mo10, am_mo11, am_mo12, am_mo13, am_mo14, am_mo15, am_mo16, am_mo17, am_mo18, am_mo19, am_mo20, am_mo21, am_mo22, am_mo23, am_mo24, am_mo25, am_mo26, am_mo27, am_mo28, am_mo29, am_mo30, am_mo31, am_mo32, am_mo33, am_mo34, am_mo35, am_mo36, am_mo37, am_mo38, am_mo39, trivial⟩
noncomputable def am_mb1 : List am_Mt := [am_q40, am_q41, am_q42, am_q43, am_q44, am_q45, am_q46, am_q47, am_q48, am_q49, am_q50, am_q51, am_q52, am_q53, am_q54, am_q55, am_q56, am_q57, am_q58, am_q59, am_q60, am_q61, am_q62, am_q63, am_q64, am_q65, am_q66, am_q67, am_q68, am_q69, am_q70, am_q71, am_q72, am_q73, am_q74, am_q75, am_q76, am_q77, am_q78, am_q79]
theorem am_mbo1 : am_okM am_mb1 := ⟨am_mo40, am_mo41, am_mo42, am_mo43, am_mo44, am_mo45, am_mo46, am_mo47, am_mo48, am_mo49, am_mo50, am_mo51, am_mo52, am_mo53, am_mo54, am_mo55, am_mo56, am_mo57, am_mo58, am_mo59, am_mo60, am_mo61, am_mo62, am_mo63, am_mo64, am_mo65, am_mo66, am_mo67, am_mo68, am_mo69, am_mo70, am_mo71, am_mo72, am_mo73, am_mo74, am_mo75, am_mo76, am_mo77, am_mo78, am_mo79, trivial⟩
noncomputable def am_mb2 : List am_Mt := [am_q80, am_q81, am_q82, am_q83, am_q84, am_q85, am_q86, am_q87, am_q88, am_q89, am_q90, am_q91, am_q92, am_q93, am_q94, am_q95, am_q96, am_q97, am_q98, am_q99, am_q100, am_q101, am_q102, am_q103, am_q104, am_q105, am_q106, am_q107, am_q108, am_q109, am_q110, am_q111, am_q112, am_q113, am_q114, am_q115, am_q116, am_q117, am_q118, am_q119]
theorem am_mbo2 : am_okM am_mb2 := ⟨am_mo80, am_mo81, am_mo82, am_mo83, am_mo84, am_mo85, am_mo86, am_mo87, am_mo88, am_mo89, am_mo90, am_mo91, am_mo92, am_mo93, am_mo94, am_mo95, am_mo96, am_mo97, am_mo98, am_mo99, am_mo100, am_mo101, am_mo102, am_mo103, am_mo104, am_mo105, am_mo106, am_mo107, am_mo108, am_mo109, am_mo110, am_mo111, am_mo112, am_mo113, am_mo114, am_mo115, am_mo116, am_mo117, am_mo118, am_mo119, trivial⟩
noncomputable def am_mb3 : List am_Mt := [am_q120, am_q121, am_q122, am_q123, am_q124, am_q125, am_q126, am_q127, am_q128, am_q129, am_q130, am_q131, am_q132, am_q133, am_q134, am_q135, am_q136, am_q137, am_q138, am_q139, am_q140, am_q141, am_q142, am_q143, am_q144, am_q145, am_q146, am_q147, am_q148, am_q149, am_q150, am_q151, am_q152, am_q153, am_q154, am_q155, am_q156, am_q157, am_q158, am_q159]
theorem am_mbo3 : am_okM am_mb3 := ⟨am_mo120, am_mo121, am_mo122, am_mo123, am_mo124, am_mo125, am_mo126, am_mo127, am_mo128, am_mo129, am_mo130, am_mo131, am_mo132, am_mo133, am_mo134, am_mo135, am_mo136, am_mo137, am_mo138, am_mo139, am_mo140, am_mo141, am_mo142, am_mo143, am_mo144, am_mo145, am_mo146, am_mo147, am_mo148, am_mo149, am_mo150, am_mo151, am_mo152, am_mo153, am_mo154, am_mo155, am_mo156, am_mo157, am_mo158, am_mo159, trivial⟩
noncomputable def am_mb4 : List am_Mt := [am_q160, am_q161, am_q162, am_q163, am_q164, am_q165, am_q166, am_q167, am_q168, am_q169, am_q170, am_q171, am_q172, am_q173, am_q174, am_q175, am_q176, am_q177, am_q178, am_q179, am_q180, am_q181, am_q182, am_q183, am_q184, am_q185, am_q186, am_q187, am_q188, am_q189, am_q190, am_q191, am_q192, am_q193, am_q194, am_q195, am_q196, am_q197, am_q198, am_q199]
theorem am_mbo4 : am_okM am_mb4 := ⟨am_mo160, am_mo161, am_mo162, am_mo163, am_mo164, am_mo165, am_mo166, am_mo167, am_mo168, am_mo169, am_mo170, am_mo171, am_mo172, am_mo173, am_mo174, am_mo175, am_mo176, am_mo177, am_mo178, am_mo179, am_mo180, am_mo181, am_mo182, am_mo183, am_mo184, am_mo185, am_mo186, am_mo187, am_mo188, am_mo189, am_mo190, am_mo191, am_mo192, am_mo193, am_mo194, am_mo195, am_mo196, am_mo197, am_mo198, am_mo199, trivial⟩
noncomputable def am_mb5 : List am_Mt := [am_q200, am_q201, am_q202, am_q203, am_q204, am_q205, am_q206, am_q207, am_q208, am_q209, am_q210, am_q211, am_q212, am_q213, am_q214, am_q215, am_q216, am_q217, am_q218, am_q219, am_q220, am_q221, am_q222, am_q223, am_q224, am_q225, am_q226, am_q227, am_q228, am_q229, am_q230, am_q231, am_q232, am_q233, am_q234, am_q235, am_q236, am_q237, am_q238, am_q239]
theorem am_mbo5 : am_okM am_mb5 := ⟨am_mo200, am_mo201, am_mo202, am_mo203, am_mo204, am_mo205, am_mo206, am_mo207, am_mo208, am_mo209, am_mo210, am_mo211, am_mo212, am_mo213, am_mo214, am_mo215, am_mo216, am_mo217, am_mo218, am_mo219, am_mo220, am_mo221, am_mo222, am_mo223, am_mo224, am_mo225, am_mo226, am_mo227, am_mo228, am_mo229, am_mo230, am_mo231, am_mo232, am_mo233, am_mo234, am_mo235, am_mo236, am_mo237, am_mo238, am_mo239, trivial⟩
noncomputable def am_mb6 : List am_Mt := [am_q240, am_q241, am_q242, am_q243, am_q244, am_q245, am_q246, am_q247, am_q248, am_q249, am_q250, am_q251, am_q252, am_q253, am_q254, am_q255, am_q256, am_q257, am_q258, am_q259, am_q260, am_q261, am_q262, am_q263, am_q264, am_q265, am_q266, am_q267, am_q268, am_q269, am_q270, am_q271, am_q272, am_q273, am_q274, am_q275, am_q276, am_q277, am_q278, am_q279]
theorem am_mbo6 : am_okM am_mb6 := ⟨am_mo240, am_mo241, am_mo242, am_mo243, am_mo244, am_mo245, am_mo246, am_mo247, am_mo248, am_mo249, am_mo250, am_mo251, am_mo252, am_mo253, am_mo254, am_mo255, am_mo256, am_mo257, am_mo258, am_mo259, am_mo260, am_mo261, am_mo262, am_mo263, am_mo264, am_mo265, am_mo266, am_mo267, am_mo268, am_mo269, am_mo270, am_mo271, am_mo272, am_mo273, am_mo274, am_mo275, am_mo276, am_mo277, am_mo278, am_mo279, trivial⟩
noncomputable def am_mb7 : List am_Mt := [am_q280, am_q281, am_q282, am_q283, am_q284, am_q285, am_q286, am_q287, am_q288, am_q289, am_q290]
theorem am_mbo7 : am_okM am_mb7 := ⟨am_mo280, am_mo281, am_mo282, am_mo283, am_mo284, am_mo285, am_mo286, am_mo287, am_mo288, am_mo289, am_mo290, trivial⟩
set_option maxRecDepth 20000 in
theorem am_M_eq : am_M = (am_mb0 ++ (am_mb1 ++ (am_mb2 ++ (am_mb3 ++ (am_mb4 ++ (am_mb5 ++ (am_mb6 ++ am_mb7))))))) ++ [(yL_law, cL_law, 8, some .boolean, 12, 277, [])] := rfl
set_option maxRecDepth 20000 in
theorem am_mb_len : (am_mb0 ++ (am_mb1 ++ (am_mb2 ++ (am_mb3 ++ (am_mb4 ++ (am_mb5 ++ (am_mb6 ++ am_mb7))))))).length = 291 := rfl
theorem am_mok_of {mu : Nat} {q : am_Mt} (h : am_M[mu]? = some q) (hm : mu < 291) : am_mok q := by
  rw [am_M_eq, List.getElem?_append_left (by rw [am_mb_len]; exact hm)] at h
  exact am_okM_get _ mu q (am_okM_app _ _ am_mbo0 (am_okM_app _ _ am_mbo1 (am_okM_app _ _ am_mbo2 (am_okM_app _ _ am_mbo3 (am_okM_app _ _ am_mbo4 (am_okM_app _ _ am_mbo5 (am_okM_app _ _ am_mbo6 am_mbo7))))))) h
