theorem mt1 {w : Cond} (h : w ∈ tables_1_1) : w ∈ lw_tbl := List.mem_append_right _ (List.mem_append_left _ h)
theorem mt2 {w : Cond} (h : w ∈ tables_1_2) : w ∈ lw_tbl := List.mem_append_right _ (List.mem_append_right _ (List.mem_append_left _ h))
theorem mt3 {w : Cond} (h : w ∈ tables_1_3) : w ∈ lw_tbl := List.mem_append_right _ (List.mem_append_right _ (List.mem_append_right _ (List.mem_append_left _ h)))
theorem mt4 {w : Cond} (h : w ∈ tables_1_4) : w ∈ lw_tbl := List.mem_append_right _ (List.mem_append_right _ (List.mem_append_right _ (List.mem_append_right _ (List.mem_append_left _ h))))
theorem mt5 {w : Cond} (h : w ∈ tables_1_5) : w ∈ lw_tbl := List.mem_append_right _ (List.mem_append_right _ (List.mem_append_right _ (List.mem_append_right _ (List.mem_append_right _ (List.mem_append_left _ h)))))
theorem mt6 {w : Cond} (h : w ∈ tables_1_6) : w ∈ lw_tbl := List.mem_append_right _ (List.mem_append_right _ (List.mem_append_right _ (List.mem_append_right _ (List.mem_append_right _ (List.mem_append_right _ (List.mem_append_left _ h))))))
theorem mt7 {w : Cond} (h : w ∈ tables_1_7) : w ∈ lw_tbl := List.mem_append_right _ (List.mem_append_right _ (List.mem_append_right _ (List.mem_append_right _ (List.mem_append_right _ (List.mem_append_right _ (List.mem_append_right _ (List.mem_append_left _ h)))))))
theorem mt8 {w : Cond} (h : w ∈ tables_1_8) : w ∈ lw_tbl := List.mem_append_right _ (List.mem_append_right _ (List.mem_append_right _ (List.mem_append_right _ (List.mem_append_right _ (List.mem_append_right _ (List.mem_append_right _ (List.mem_append_right _ (List.mem_append_left _ h))))))))
theorem mt9 {w : Cond} (h : w ∈ tables_1_9) : w ∈ lw_tbl := List.mem_append_right _ (List.mem_append_right _ (List.mem_append_right _ (List.mem_append_right _ (List.mem_append_right _ (List.mem_append_right _ (List.mem_append_right _ (List.mem_append_right _ (List.mem_append_right _ (h)))))))))
theorem mp1x {q : MethodName × Nat} (h : q ∈ lw_privs_1) : q ∈ lw_privs := List.mem_append_left _ h
theorem mp1 {w : Cond} (h : w ∈ k2_sels lw_privs_1) : w ∈ lw_tbl := List.mem_append_left _ (by obtain ⟨q, hq, e⟩ := List.mem_map.mp h; exact List.mem_map.mpr ⟨q, mp1x hq, e⟩)
theorem mp2x {q : MethodName × Nat} (h : q ∈ lw_privs_2) : q ∈ lw_privs := List.mem_append_right _ (List.mem_append_left _ h)
theorem mp2 {w : Cond} (h : w ∈ k2_sels lw_privs_2) : w ∈ lw_tbl := List.mem_append_left _ (by obtain ⟨q, hq, e⟩ := List.mem_map.mp h; exact List.mem_map.mpr ⟨q, mp2x hq, e⟩)
theorem mp3x {q : MethodName × Nat} (h : q ∈ lw_privs_3) : q ∈ lw_privs := List.mem_append_right _ (List.mem_append_right _ (List.mem_append_left _ h))
theorem mp3 {w : Cond} (h : w ∈ k2_sels lw_privs_3) : w ∈ lw_tbl := List.mem_append_left _ (by obtain ⟨q, hq, e⟩ := List.mem_map.mp h; exact List.mem_map.mpr ⟨q, mp3x hq, e⟩)
theorem mp4x {q : MethodName × Nat} (h : q ∈ lw_privs_4) : q ∈ lw_privs := List.mem_append_right _ (List.mem_append_right _ (List.mem_append_right _ (List.mem_append_left _ h)))
theorem mp4 {w : Cond} (h : w ∈ k2_sels lw_privs_4) : w ∈ lw_tbl := List.mem_append_left _ (by obtain ⟨q, hq, e⟩ := List.mem_map.mp h; exact List.mem_map.mpr ⟨q, mp4x hq, e⟩)
theorem mp5x {q : MethodName × Nat} (h : q ∈ lw_privs_5) : q ∈ lw_privs := List.mem_append_right _ (List.mem_append_right _ (List.mem_append_right _ (List.mem_append_right _ (List.mem_append_left _ h))))
theorem mp5 {w : Cond} (h : w ∈ k2_sels lw_privs_5) : w ∈ lw_tbl := List.mem_append_left _ (by obtain ⟨q, hq, e⟩ := List.mem_map.mp h; exact List.mem_map.mpr ⟨q, mp5x hq, e⟩)
theorem mp6x {q : MethodName × Nat} (h : q ∈ lw_privs_6) : q ∈ lw_privs := List.mem_append_right _ (List.mem_append_right _ (List.mem_append_right _ (List.mem_append_right _ (List.mem_append_right _ (List.mem_append_left _ h)))))
theorem mp6 {w : Cond} (h : w ∈ k2_sels lw_privs_6) : w ∈ lw_tbl := List.mem_append_left _ (by obtain ⟨q, hq, e⟩ := List.mem_map.mp h; exact List.mem_map.mpr ⟨q, mp6x hq, e⟩)
theorem mp7x {q : MethodName × Nat} (h : q ∈ lw_privs_7) : q ∈ lw_privs := List.mem_append_right _ (List.mem_append_right _ (List.mem_append_right _ (List.mem_append_right _ (List.mem_append_right _ (List.mem_append_right _ (List.mem_append_left _ h))))))
theorem mp7 {w : Cond} (h : w ∈ k2_sels lw_privs_7) : w ∈ lw_tbl := List.mem_append_left _ (by obtain ⟨q, hq, e⟩ := List.mem_map.mp h; exact List.mem_map.mpr ⟨q, mp7x hq, e⟩)
theorem mp8x {q : MethodName × Nat} (h : q ∈ lw_privs_8) : q ∈ lw_privs := List.mem_append_right _ (List.mem_append_right _ (List.mem_append_right _ (List.mem_append_right _ (List.mem_append_right _ (List.mem_append_right _ (List.mem_append_right _ (List.mem_append_left _ h)))))))
theorem mp8 {w : Cond} (h : w ∈ k2_sels lw_privs_8) : w ∈ lw_tbl := List.mem_append_left _ (by obtain ⟨q, hq, e⟩ := List.mem_map.mp h; exact List.mem_map.mpr ⟨q, mp8x hq, e⟩)
theorem mp9x {q : MethodName × Nat} (h : q ∈ lw_privs_9) : q ∈ lw_privs := List.mem_append_right _ (List.mem_append_right _ (List.mem_append_right _ (List.mem_append_right _ (List.mem_append_right _ (List.mem_append_right _ (List.mem_append_right _ (List.mem_append_right _ (List.mem_append_left _ h))))))))
theorem mp9 {w : Cond} (h : w ∈ k2_sels lw_privs_9) : w ∈ lw_tbl := List.mem_append_left _ (by obtain ⟨q, hq, e⟩ := List.mem_map.mp h; exact List.mem_map.mpr ⟨q, mp9x hq, e⟩)
theorem mp10x {q : MethodName × Nat} (h : q ∈ lw_privs_10) : q ∈ lw_privs := List.mem_append_right _ (List.mem_append_right _ (List.mem_append_right _ (List.mem_append_right _ (List.mem_append_right _ (List.mem_append_right _ (List.mem_append_right _ (List.mem_append_right _ (List.mem_append_right _ (h)))))))))
theorem mp10 {w : Cond} (h : w ∈ k2_sels lw_privs_10) : w ∈ lw_tbl := List.mem_append_left _ (by obtain ⟨q, hq, e⟩ := List.mem_map.mp h; exact List.mem_map.mpr ⟨q, mp10x hq, e⟩)
/-! ===== the methods, and what the tables say of them and of what they link ===== -/
abbrev mX0_init : MD := (yX0_init, cX0_init, 1, none, 3, 60)
theorem okX0_init : MOk mX0_init 0 := ⟨mt2 (List.mem_of_getElem? (i := 186) rfl), mt1 (List.mem_of_getElem? (i := 11) (by decide +kernel)), by decide +kernel, ⟨by decide +kernel, by decide +kernel⟩, by decide +kernel⟩
theorem liX0_init : Cond.instanceMethod yX0_init ∈ lw_tbl := mt2 (List.mem_of_getElem? (i := 185) (by decide +kernel))
abbrev mX0_begin : MD := (yX0_begin, cX0_begin, 2, none, 0, 0)
theorem okX0_begin : MOk mX0_begin 1 := ⟨mt4 (List.mem_of_getElem? (i := 133) rfl), mt1 (List.mem_of_getElem? (i := 11) (by decide +kernel)), by decide +kernel, ⟨by decide +kernel, by decide +kernel⟩, by decide +kernel⟩
theorem liX0_begin : Cond.instanceMethod yX0_begin ∈ lw_tbl := mt4 (List.mem_of_getElem? (i := 131) (by decide +kernel))
theorem lqX0_begin : Cond.selects RX0 yX0_begin yX0_begin ∈ lw_tbl := mt4 (List.mem_of_getElem? (i := 132) (by decide +kernel))
abbrev mX0_ofSum : MD := (yX0_ofSum, cX0_ofSum, 7, none, 5, 123)
theorem okX0_ofSum : MOk mX0_ofSum 2 := ⟨mt5 (List.mem_of_getElem? (i := 81) rfl), mt1 (List.mem_of_getElem? (i := 11) (by decide +kernel)), by decide +kernel, ⟨by decide +kernel, by decide +kernel⟩, by decide +kernel⟩
theorem liX0_ofSum : Cond.instanceMethod yX0_ofSum ∈ lw_tbl := mt5 (List.mem_of_getElem? (i := 79) (by decide +kernel))
theorem lqX0_ofSum : Cond.selects RX0 yX0_ofSum yX0_ofSum ∈ lw_tbl := mt5 (List.mem_of_getElem? (i := 80) (by decide +kernel))
abbrev mX0_multiply : MD := (yX0_multiply, cX0_multiply, 6, none, 5, 123)
theorem okX0_multiply : MOk mX0_multiply 3 := ⟨mt5 (List.mem_of_getElem? (i := 125) rfl), mt1 (List.mem_of_getElem? (i := 11) (by decide +kernel)), by decide +kernel, ⟨by decide +kernel, by decide +kernel⟩, by decide +kernel⟩
theorem liX0_multiply : Cond.instanceMethod yX0_multiply ∈ lw_tbl := mt5 (List.mem_of_getElem? (i := 123) (by decide +kernel))
theorem lqX0_multiply : Cond.selects RX0 yX0_multiply yX0_multiply ∈ lw_tbl := mt5 (List.mem_of_getElem? (i := 124) (by decide +kernel))
abbrev mX0_orderOfClass : MD := (yX0_orderOfClass, cX0_orderOfClass, 4, some (.int), 5, 123)
theorem okX0_orderOfClass : MOk mX0_orderOfClass 2 := ⟨mt5 (List.mem_of_getElem? (i := 151) rfl), mt1 (List.mem_of_getElem? (i := 11) (by decide +kernel)), by decide +kernel, ⟨by decide +kernel, by decide +kernel⟩, by decide +kernel⟩
theorem liX0_orderOfClass : Cond.instanceMethod yX0_orderOfClass ∈ lw_tbl := mt5 (List.mem_of_getElem? (i := 149) (by decide +kernel))
theorem lqX0_orderOfClass : Cond.selects RX0 yX0_orderOfClass yX0_orderOfClass ∈ lw_tbl := mt5 (List.mem_of_getElem? (i := 150) (by decide +kernel))
abbrev mX0_logOf : MD := (yX0_logOf, cX0_logOf, 5, some (.int), 5, 123)
theorem okX0_logOf : MOk mX0_logOf 3 := ⟨mt5 (List.mem_of_getElem? (i := 176) rfl), mt1 (List.mem_of_getElem? (i := 11) (by decide +kernel)), by decide +kernel, ⟨by decide +kernel, by decide +kernel⟩, by decide +kernel⟩
theorem liX0_logOf : Cond.instanceMethod yX0_logOf ∈ lw_tbl := mt5 (List.mem_of_getElem? (i := 174) (by decide +kernel))
theorem lqX0_logOf : Cond.selects RX0 yX0_logOf yX0_logOf ∈ lw_tbl := mt5 (List.mem_of_getElem? (i := 175) (by decide +kernel))
abbrev mX0_plus : MD := (yX0_plus, cX0_plus, 5, none, 4, 99)
theorem okX0_plus : MOk mX0_plus 3 := ⟨mt5 (List.mem_of_getElem? (i := 100) rfl), mt1 (List.mem_of_getElem? (i := 11) (by decide +kernel)), by decide +kernel, ⟨by decide +kernel, by decide +kernel⟩, by decide +kernel⟩
theorem liX0_plus : Cond.instanceMethod yX0_plus ∈ lw_tbl := mt5 (List.mem_of_getElem? (i := 98) (by decide +kernel))
theorem lqX0_plus : Cond.selects RX0 yX0_plus yX0_plus ∈ lw_tbl := mt5 (List.mem_of_getElem? (i := 99) (by decide +kernel))
abbrev mX0_compose : MD := (yX0_compose, cX0_compose, 4, none, 3, 76)
theorem okX0_compose : MOk mX0_compose 2 := ⟨mt5 (List.mem_of_getElem? (i := 104) rfl), mt1 (List.mem_of_getElem? (i := 11) (by decide +kernel)), by decide +kernel, ⟨by decide +kernel, by decide +kernel⟩, by decide +kernel⟩
theorem liX0_compose : Cond.instanceMethod yX0_compose ∈ lw_tbl := mt5 (List.mem_of_getElem? (i := 103) (by decide +kernel))
theorem lqX0_compose : Cond.selects RX0 yX0_compose yX0_compose ∈ lw_tbl := mp3 (List.mem_of_getElem? (i := 5) (by decide +kernel))
abbrev mX0_addShare : MD := (yX0_addShare, cX0_addShare, 4, none, 2, 48)
theorem okX0_addShare : MOk mX0_addShare 3 := ⟨mt5 (List.mem_of_getElem? (i := 112) rfl), mt1 (List.mem_of_getElem? (i := 11) (by decide +kernel)), by decide +kernel, ⟨by decide +kernel, by decide +kernel⟩, by decide +kernel⟩
theorem liX0_addShare : Cond.instanceMethod yX0_addShare ∈ lw_tbl := mt5 (List.mem_of_getElem? (i := 111) (by decide +kernel))
theorem lqX0_addShare : Cond.selects RX0 yX0_addShare yX0_addShare ∈ lw_tbl := mp3 (List.mem_of_getElem? (i := 6) (by decide +kernel))
abbrev mX0_greatestOrder : MD := (yX0_greatestOrder, cX0_greatestOrder, 3, some (.int), 1, 21)
theorem okX0_greatestOrder : MOk mX0_greatestOrder 0 := ⟨mt5 (List.mem_of_getElem? (i := 226) rfl), mt1 (List.mem_of_getElem? (i := 11) (by decide +kernel)), by decide +kernel, ⟨by decide +kernel, by decide +kernel⟩, by decide +kernel⟩
theorem liX0_greatestOrder : Cond.instanceMethod yX0_greatestOrder ∈ lw_tbl := mt5 (List.mem_of_getElem? (i := 224) (by decide +kernel))
theorem lqX0_greatestOrder : Cond.selects RX0 yX0_greatestOrder yX0_greatestOrder ∈ lw_tbl := mt5 (List.mem_of_getElem? (i := 225) (by decide +kernel))
abbrev mX0_killedBy : MD := (yX0_killedBy, cX0_killedBy, 4, some (.int), 0, 0)
theorem okX0_killedBy : MOk mX0_killedBy 1 := ⟨mt5 (List.mem_of_getElem? (i := 230) rfl), mt1 (List.mem_of_getElem? (i := 11) (by decide +kernel)), by decide +kernel, ⟨by decide +kernel, by decide +kernel⟩, by decide +kernel⟩
theorem liX0_killedBy : Cond.instanceMethod yX0_killedBy ∈ lw_tbl := mt5 (List.mem_of_getElem? (i := 228) (by decide +kernel))
theorem lqX0_killedBy : Cond.selects RX0 yX0_killedBy yX0_killedBy ∈ lw_tbl := mt5 (List.mem_of_getElem? (i := 229) (by decide +kernel))
abbrev mX0_list : MD := (yX0_list, cX0_list, 4, none, 6, 146)
theorem okX0_list : MOk mX0_list 1 := ⟨mt5 (List.mem_of_getElem? (i := 185) rfl), mt1 (List.mem_of_getElem? (i := 11) (by decide +kernel)), by decide +kernel, ⟨by decide +kernel, by decide +kernel⟩, by decide +kernel⟩
theorem liX0_list : Cond.instanceMethod yX0_list ∈ lw_tbl := mt5 (List.mem_of_getElem? (i := 183) (by decide +kernel))
theorem lqX0_list : Cond.selects RX0 yX0_list yX0_list ∈ lw_tbl := mt5 (List.mem_of_getElem? (i := 184) (by decide +kernel))
abbrev mX0_listGreater : MD := (yX0_listGreater, cX0_listGreater, 4, none, 2, 52)
theorem okX0_listGreater : MOk mX0_listGreater 0 := ⟨mt5 (List.mem_of_getElem? (i := 195) rfl), mt1 (List.mem_of_getElem? (i := 11) (by decide +kernel)), by decide +kernel, ⟨by decide +kernel, by decide +kernel⟩, by decide +kernel⟩
theorem liX0_listGreater : Cond.instanceMethod yX0_listGreater ∈ lw_tbl := mt5 (List.mem_of_getElem? (i := 194) (by decide +kernel))
theorem lqX0_listGreater : Cond.selects RX0 yX0_listGreater yX0_listGreater ∈ lw_tbl := mp3 (List.mem_of_getElem? (i := 10) (by decide +kernel))
abbrev mX0_keepRoots : MD := (yX0_keepRoots, cX0_keepRoots, 10, none, 1, 22)
theorem okX0_keepRoots : MOk mX0_keepRoots 4 := ⟨mt5 (List.mem_of_getElem? (i := 201) rfl), mt1 (List.mem_of_getElem? (i := 11) (by decide +kernel)), by decide +kernel, ⟨by decide +kernel, by decide +kernel⟩, by decide +kernel⟩
theorem liX0_keepRoots : Cond.instanceMethod yX0_keepRoots ∈ lw_tbl := mt5 (List.mem_of_getElem? (i := 200) (by decide +kernel))
theorem lqX0_keepRoots : Cond.selects RX0 yX0_keepRoots yX0_keepRoots ∈ lw_tbl := mp3 (List.mem_of_getElem? (i := 11) (by decide +kernel))
abbrev mX0_keep : MD := (yX0_keep, cX0_keep, 2, none, 0, 0)
theorem okX0_keep : MOk mX0_keep 1 := ⟨mt5 (List.mem_of_getElem? (i := 189) rfl), mt1 (List.mem_of_getElem? (i := 11) (by decide +kernel)), by decide +kernel, ⟨by decide +kernel, by decide +kernel⟩, by decide +kernel⟩
theorem liX0_keep : Cond.instanceMethod yX0_keep ∈ lw_tbl := mt5 (List.mem_of_getElem? (i := 188) (by decide +kernel))
theorem lqX0_keep : Cond.selects RX0 yX0_keep yX0_keep ∈ lw_tbl := mp3 (List.mem_of_getElem? (i := 9) (by decide +kernel))
abbrev mX0_walkFrom : MD := (yX0_walkFrom, cX0_walkFrom, 4, none, 5, 123)
theorem okX0_walkFrom : MOk mX0_walkFrom 1 := ⟨mt5 (List.mem_of_getElem? (i := 206) rfl), mt1 (List.mem_of_getElem? (i := 11) (by decide +kernel)), by decide +kernel, ⟨by decide +kernel, by decide +kernel⟩, by decide +kernel⟩
theorem liX0_walkFrom : Cond.instanceMethod yX0_walkFrom ∈ lw_tbl := mt5 (List.mem_of_getElem? (i := 205) (by decide +kernel))
theorem lqX0_walkFrom : Cond.selects RX0 yX0_walkFrom yX0_walkFrom ∈ lw_tbl := mp3 (List.mem_of_getElem? (i := 12) (by decide +kernel))
abbrev mX0_takeKey : MD := (yX0_takeKey, cX0_takeKey, 6, none, 3, 67)
theorem okX0_takeKey : MOk mX0_takeKey 2 := ⟨mt5 (List.mem_of_getElem? (i := 210) rfl), mt1 (List.mem_of_getElem? (i := 11) (by decide +kernel)), by decide +kernel, ⟨by decide +kernel, by decide +kernel⟩, by decide +kernel⟩
theorem liX0_takeKey : Cond.instanceMethod yX0_takeKey ∈ lw_tbl := mt5 (List.mem_of_getElem? (i := 209) (by decide +kernel))
theorem lqX0_takeKey : Cond.selects RX0 yX0_takeKey yX0_takeKey ∈ lw_tbl := mp3 (List.mem_of_getElem? (i := 13) (by decide +kernel))
abbrev mX0_keyOf : MD := (yX0_keyOf, cX0_keyOf, 4, some (.int), 1, 21)
theorem okX0_keyOf : MOk mX0_keyOf 1 := ⟨mt5 (List.mem_of_getElem? (i := 214) rfl), mt1 (List.mem_of_getElem? (i := 11) (by decide +kernel)), by decide +kernel, ⟨by decide +kernel, by decide +kernel⟩, by decide +kernel⟩
theorem liX0_keyOf : Cond.instanceMethod yX0_keyOf ∈ lw_tbl := mt5 (List.mem_of_getElem? (i := 213) (by decide +kernel))
theorem lqX0_keyOf : Cond.selects RX0 yX0_keyOf yX0_keyOf ∈ lw_tbl := mp3 (List.mem_of_getElem? (i := 14) (by decide +kernel))
abbrev mX0_indexOfKey : MD := (yX0_indexOfKey, cX0_indexOfKey, 6, some (.int), 0, 0)
theorem okX0_indexOfKey : MOk mX0_indexOfKey 1 := ⟨mt5 (List.mem_of_getElem? (i := 218) rfl), mt1 (List.mem_of_getElem? (i := 11) (by decide +kernel)), by decide +kernel, ⟨by decide +kernel, by decide +kernel⟩, by decide +kernel⟩
theorem liX0_indexOfKey : Cond.instanceMethod yX0_indexOfKey ∈ lw_tbl := mt5 (List.mem_of_getElem? (i := 217) (by decide +kernel))
theorem lqX0_indexOfKey : Cond.selects RX0 yX0_indexOfKey yX0_indexOfKey ∈ lw_tbl := mp3 (List.mem_of_getElem? (i := 15) (by decide +kernel))
abbrev mX0_commonDivisor : MD := (yX0_commonDivisor, cX0_commonDivisor, 6, some (.int), 1, 21)
theorem okX0_commonDivisor : MOk mX0_commonDivisor 2 := ⟨mt5 (List.mem_of_getElem? (i := 221) rfl), mt1 (List.mem_of_getElem? (i := 11) (by decide +kernel)), by decide +kernel, ⟨by decide +kernel, by decide +kernel⟩, by decide +kernel⟩
theorem lsX0_commonDivisor : Cond.static yX0_commonDivisor ∈ lw_tbl := mt5 (List.mem_of_getElem? (i := 220) (by decide +kernel))
abbrev mX1_init : MD := (yX1_init, cX1_init, 1, none, 1, 20)
theorem okX1_init : MOk mX1_init 0 := ⟨mt2 (List.mem_of_getElem? (i := 120) rfl), mt1 (List.mem_of_getElem? (i := 10) (by decide +kernel)), by decide +kernel, ⟨by decide +kernel, by decide +kernel⟩, by decide +kernel⟩
theorem liX1_init : Cond.instanceMethod yX1_init ∈ lw_tbl := mt2 (List.mem_of_getElem? (i := 119) (by decide +kernel))
abbrev mX1_load : MD := (yX1_load, cX1_load, 4, none, 3, 74)
theorem okX1_load : MOk mX1_load 2 := ⟨mt6 (List.mem_of_getElem? (i := 22) rfl), mt1 (List.mem_of_getElem? (i := 10) (by decide +kernel)), by decide +kernel, ⟨by decide +kernel, by decide +kernel⟩, by decide +kernel⟩
theorem liX1_load : Cond.instanceMethod yX1_load ∈ lw_tbl := mt6 (List.mem_of_getElem? (i := 20) (by decide +kernel))
theorem lqX1_load : Cond.selects RX1 yX1_load yX1_load ∈ lw_tbl := mt6 (List.mem_of_getElem? (i := 21) (by decide +kernel))
abbrev mX1_send : MD := (yX1_send, cX1_send, 7, none, 1, 23)
theorem okX1_send : MOk mX1_send 2 := ⟨mt6 (List.mem_of_getElem? (i := 68) rfl), mt1 (List.mem_of_getElem? (i := 10) (by decide +kernel)), by decide +kernel, ⟨by decide +kernel, by decide +kernel⟩, by decide +kernel⟩
theorem liX1_send : Cond.instanceMethod yX1_send ∈ lw_tbl := mt6 (List.mem_of_getElem? (i := 66) (by decide +kernel))
theorem lqX1_send : Cond.selects RX1 yX1_send yX1_send ∈ lw_tbl := mt6 (List.mem_of_getElem? (i := 67) (by decide +kernel))
abbrev mX1_disturb : MD := (yX1_disturb, cX1_disturb, 8, none, 1, 26)
theorem okX1_disturb : MOk mX1_disturb 3 := ⟨mt6 (List.mem_of_getElem? (i := 76) rfl), mt1 (List.mem_of_getElem? (i := 10) (by decide +kernel)), by decide +kernel, ⟨by decide +kernel, by decide +kernel⟩, by decide +kernel⟩
theorem liX1_disturb : Cond.instanceMethod yX1_disturb ∈ lw_tbl := mt6 (List.mem_of_getElem? (i := 74) (by decide +kernel))
theorem lqX1_disturb : Cond.selects RX1 yX1_disturb yX1_disturb ∈ lw_tbl := mt6 (List.mem_of_getElem? (i := 75) (by decide +kernel))
abbrev mX1_mend : MD := (yX1_mend, cX1_mend, 4, none, 2, 43)
theorem okX1_mend : MOk mX1_mend 1 := ⟨mt6 (List.mem_of_getElem? (i := 84) rfl), mt1 (List.mem_of_getElem? (i := 10) (by decide +kernel)), by decide +kernel, ⟨by decide +kernel, by decide +kernel⟩, by decide +kernel⟩
theorem liX1_mend : Cond.instanceMethod yX1_mend ∈ lw_tbl := mt6 (List.mem_of_getElem? (i := 82) (by decide +kernel))
theorem lqX1_mend : Cond.selects RX1 yX1_mend yX1_mend ∈ lw_tbl := mt6 (List.mem_of_getElem? (i := 83) (by decide +kernel))
abbrev mX1_isSentNearest : MD := (yX1_isSentNearest, cX1_isSentNearest, 1, some (.boolean), 1, 23)
theorem okX1_isSentNearest : MOk mX1_isSentNearest 0 := ⟨mt6 (List.mem_of_getElem? (i := 92) rfl), mt1 (List.mem_of_getElem? (i := 10) (by decide +kernel)), by decide +kernel, ⟨by decide +kernel, by decide +kernel⟩, by decide +kernel⟩
theorem liX1_isSentNearest : Cond.instanceMethod yX1_isSentNearest ∈ lw_tbl := mt6 (List.mem_of_getElem? (i := 90) (by decide +kernel))
theorem lqX1_isSentNearest : Cond.selects RX1 yX1_isSentNearest yX1_isSentNearest ∈ lw_tbl := mt6 (List.mem_of_getElem? (i := 91) (by decide +kernel))
abbrev mX1_weighAll : MD := (yX1_weighAll, cX1_weighAll, 5, none, 2, 43)
theorem okX1_weighAll : MOk mX1_weighAll 1 := ⟨mt6 (List.mem_of_getElem? (i := 48) rfl), mt1 (List.mem_of_getElem? (i := 10) (by decide +kernel)), by decide +kernel, ⟨by decide +kernel, by decide +kernel⟩, by decide +kernel⟩
theorem liX1_weighAll : Cond.instanceMethod yX1_weighAll ∈ lw_tbl := mt6 (List.mem_of_getElem? (i := 46) (by decide +kernel))
theorem lqX1_weighAll : Cond.selects RX1 yX1_weighAll yX1_weighAll ∈ lw_tbl := mt6 (List.mem_of_getElem? (i := 47) (by decide +kernel))
abbrev mX1_least : MD := (yX1_least, cX1_least, 2, some (.int), 0, 0)
theorem okX1_least : MOk mX1_least 0 := ⟨mt6 (List.mem_of_getElem? (i := 60) rfl), mt1 (List.mem_of_getElem? (i := 10) (by decide +kernel)), by decide +kernel, ⟨by decide +kernel, by decide +kernel⟩, by decide +kernel⟩
theorem liX1_least : Cond.instanceMethod yX1_least ∈ lw_tbl := mt6 (List.mem_of_getElem? (i := 58) (by decide +kernel))
theorem lqX1_least : Cond.selects RX1 yX1_least yX1_least ∈ lw_tbl := mt6 (List.mem_of_getElem? (i := 59) (by decide +kernel))
abbrev mX1_drawNext : MD := (yX1_drawNext, cX1_drawNext, 1, some (.int), 0, 0)
theorem okX1_drawNext : MOk mX1_drawNext 1 := ⟨mt6 (List.mem_of_getElem? (i := 79) rfl), mt1 (List.mem_of_getElem? (i := 10) (by decide +kernel)), by decide +kernel, ⟨by decide +kernel, by decide +kernel⟩, by decide +kernel⟩
theorem lsX1_drawNext : Cond.static yX1_drawNext ∈ lw_tbl := mt6 (List.mem_of_getElem? (i := 78) (by decide +kernel))
abbrev mX1_unlikePlaces : MD := (yX1_unlikePlaces, cX1_unlikePlaces, 4, some (.int), 0, 0)
theorem okX1_unlikePlaces : MOk mX1_unlikePlaces 1 := ⟨mt6 (List.mem_of_getElem? (i := 88) rfl), mt1 (List.mem_of_getElem? (i := 10) (by decide +kernel)), by decide +kernel, ⟨by decide +kernel, by decide +kernel⟩, by decide +kernel⟩
theorem liX1_unlikePlaces : Cond.instanceMethod yX1_unlikePlaces ∈ lw_tbl := mt6 (List.mem_of_getElem? (i := 87) (by decide +kernel))
theorem lqX1_unlikePlaces : Cond.selects RX1 yX1_unlikePlaces yX1_unlikePlaces ∈ lw_tbl := mp4 (List.mem_of_getElem? (i := 8) (by decide +kernel))
abbrev mX1_beginWords : MD := (yX1_beginWords, cX1_beginWords, 1, none, 1, 23)
theorem okX1_beginWords : MOk mX1_beginWords 0 := ⟨mt6 (List.mem_of_getElem? (i := 52) rfl), mt1 (List.mem_of_getElem? (i := 10) (by decide +kernel)), by decide +kernel, ⟨by decide +kernel, by decide +kernel⟩, by decide +kernel⟩
theorem liX1_beginWords : Cond.instanceMethod yX1_beginWords ∈ lw_tbl := mt6 (List.mem_of_getElem? (i := 51) (by decide +kernel))
theorem lqX1_beginWords : Cond.selects RX1 yX1_beginWords yX1_beginWords ∈ lw_tbl := mp4 (List.mem_of_getElem? (i := 6) (by decide +kernel))
abbrev mX1_nextWord : MD := (yX1_nextWord, cX1_nextWord, 6, none, 0, 0)
theorem okX1_nextWord : MOk mX1_nextWord 1 := ⟨mt6 (List.mem_of_getElem? (i := 56) rfl), mt1 (List.mem_of_getElem? (i := 10) (by decide +kernel)), by decide +kernel, ⟨by decide +kernel, by decide +kernel⟩, by decide +kernel⟩
theorem liX1_nextWord : Cond.instanceMethod yX1_nextWord ∈ lw_tbl := mt6 (List.mem_of_getElem? (i := 55) (by decide +kernel))
theorem lqX1_nextWord : Cond.selects RX1 yX1_nextWord yX1_nextWord ∈ lw_tbl := mp4 (List.mem_of_getElem? (i := 7) (by decide +kernel))
abbrev mX1_takePowers : MD := (yX1_takePowers, cX1_takePowers, 12, none, 1, 23)
theorem okX1_takePowers : MOk mX1_takePowers 3 := ⟨mt6 (List.mem_of_getElem? (i := 27) rfl), mt1 (List.mem_of_getElem? (i := 10) (by decide +kernel)), by decide +kernel, ⟨by decide +kernel, by decide +kernel⟩, by decide +kernel⟩
theorem liX1_takePowers : Cond.instanceMethod yX1_takePowers ∈ lw_tbl := mt6 (List.mem_of_getElem? (i := 26) (by decide +kernel))
theorem lqX1_takePowers : Cond.selects RX1 yX1_takePowers yX1_takePowers ∈ lw_tbl := mp4 (List.mem_of_getElem? (i := 2) (by decide +kernel))
abbrev mX1_takeValues : MD := (yX1_takeValues, cX1_takeValues, 8, none, 2, 47)
theorem okX1_takeValues : MOk mX1_takeValues 3 := ⟨mt6 (List.mem_of_getElem? (i := 34) rfl), mt1 (List.mem_of_getElem? (i := 10) (by decide +kernel)), by decide +kernel, ⟨by decide +kernel, by decide +kernel⟩, by decide +kernel⟩
theorem liX1_takeValues : Cond.instanceMethod yX1_takeValues ∈ lw_tbl := mt6 (List.mem_of_getElem? (i := 33) (by decide +kernel))
theorem lqX1_takeValues : Cond.selects RX1 yX1_takeValues yX1_takeValues ∈ lw_tbl := mp4 (List.mem_of_getElem? (i := 3) (by decide +kernel))
abbrev mX1_findBasis : MD := (yX1_findBasis, cX1_findBasis, 5, none, 2, 47)
theorem okX1_findBasis : MOk mX1_findBasis 1 := ⟨mt6 (List.mem_of_getElem? (i := 39) rfl), mt1 (List.mem_of_getElem? (i := 10) (by decide +kernel)), by decide +kernel, ⟨by decide +kernel, by decide +kernel⟩, by decide +kernel⟩
theorem liX1_findBasis : Cond.instanceMethod yX1_findBasis ∈ lw_tbl := mt6 (List.mem_of_getElem? (i := 38) (by decide +kernel))
theorem lqX1_findBasis : Cond.selects RX1 yX1_findBasis yX1_findBasis ∈ lw_tbl := mp4 (List.mem_of_getElem? (i := 4) (by decide +kernel))
abbrev mX1_addRow : MD := (yX1_addRow, cX1_addRow, 6, none, 1, 22)
theorem okX1_addRow : MOk mX1_addRow 4 := ⟨mt6 (List.mem_of_getElem? (i := 44) rfl), mt1 (List.mem_of_getElem? (i := 10) (by decide +kernel)), by decide +kernel, ⟨by decide +kernel, by decide +kernel⟩, by decide +kernel⟩
theorem liX1_addRow : Cond.instanceMethod yX1_addRow ∈ lw_tbl := mt6 (List.mem_of_getElem? (i := 43) (by decide +kernel))
theorem lqX1_addRow : Cond.selects RX1 yX1_addRow yX1_addRow ∈ lw_tbl := mp4 (List.mem_of_getElem? (i := 5) (by decide +kernel))
abbrev mX2_init : MD := (yX2_init, cX2_init, 1, none, 2, 40)
theorem okX2_init : MOk mX2_init 0 := ⟨mt1 (List.mem_of_getElem? (i := 185) rfl), mt1 (List.mem_of_getElem? (i := 7) (by decide +kernel)), by decide +kernel, ⟨by decide +kernel, by decide +kernel⟩, by decide +kernel⟩
theorem liX2_init : Cond.instanceMethod yX2_init ∈ lw_tbl := mt1 (List.mem_of_getElem? (i := 184) (by decide +kernel))
abbrev mX2_load : MD := (yX2_load, cX2_load, 2, none, 3, 72)
theorem okX2_load : MOk mX2_load 1 := ⟨mt4 (List.mem_of_getElem? (i := 96) rfl), mt1 (List.mem_of_getElem? (i := 7) (by decide +kernel)), by decide +kernel, ⟨by decide +kernel, by decide +kernel⟩, by decide +kernel⟩
theorem liX2_load : Cond.instanceMethod yX2_load ∈ lw_tbl := mt4 (List.mem_of_getElem? (i := 94) (by decide +kernel))
theorem lqX2_load : Cond.selects RX2 yX2_load yX2_load ∈ lw_tbl := mt4 (List.mem_of_getElem? (i := 95) (by decide +kernel))
abbrev mX2_hasPoint : MD := (yX2_hasPoint, cX2_hasPoint, 2, some (.boolean), 0, 0)
theorem okX2_hasPoint : MOk mX2_hasPoint 1 := ⟨mt4 (List.mem_of_getElem? (i := 165) rfl), mt1 (List.mem_of_getElem? (i := 7) (by decide +kernel)), by decide +kernel, ⟨by decide +kernel, by decide +kernel⟩, by decide +kernel⟩
theorem liX2_hasPoint : Cond.instanceMethod yX2_hasPoint ∈ lw_tbl := mt4 (List.mem_of_getElem? (i := 163) (by decide +kernel))
theorem lqX2_hasPoint : Cond.selects RX2 yX2_hasPoint yX2_hasPoint ∈ lw_tbl := mt4 (List.mem_of_getElem? (i := 164) (by decide +kernel))
abbrev mX2_isFar : MD := (yX2_isFar, cX2_isFar, 2, some (.boolean), 0, 0)
theorem okX2_isFar : MOk mX2_isFar 1 := ⟨mt4 (List.mem_of_getElem? (i := 145) rfl), mt1 (List.mem_of_getElem? (i := 7) (by decide +kernel)), by decide +kernel, ⟨by decide +kernel, by decide +kernel⟩, by decide +kernel⟩
theorem liX2_isFar : Cond.instanceMethod yX2_isFar ∈ lw_tbl := mt4 (List.mem_of_getElem? (i := 143) (by decide +kernel))
theorem lqX2_isFar : Cond.selects RX2 yX2_isFar yX2_isFar ∈ lw_tbl := mt4 (List.mem_of_getElem? (i := 144) (by decide +kernel))
abbrev mX2_isFixed : MD := (yX2_isFixed, cX2_isFixed, 2, some (.boolean), 1, 21)
theorem okX2_isFixed : MOk mX2_isFixed 1 := ⟨mt4 (List.mem_of_getElem? (i := 141) rfl), mt1 (List.mem_of_getElem? (i := 7) (by decide +kernel)), by decide +kernel, ⟨by decide +kernel, by decide +kernel⟩, by decide +kernel⟩
theorem liX2_isFixed : Cond.instanceMethod yX2_isFixed ∈ lw_tbl := mt4 (List.mem_of_getElem? (i := 139) (by decide +kernel))
theorem lqX2_isFixed : Cond.selects RX2 yX2_isFixed yX2_isFixed ∈ lw_tbl := mt4 (List.mem_of_getElem? (i := 140) (by decide +kernel))
abbrev mX2_fixedPoints : MD := (yX2_fixedPoints, cX2_fixedPoints, 3, some (.int), 2, 42)
theorem okX2_fixedPoints : MOk mX2_fixedPoints 0 := ⟨mt4 (List.mem_of_getElem? (i := 137) rfl), mt1 (List.mem_of_getElem? (i := 7) (by decide +kernel)), by decide +kernel, ⟨by decide +kernel, by decide +kernel⟩, by decide +kernel⟩
theorem liX2_fixedPoints : Cond.instanceMethod yX2_fixedPoints ∈ lw_tbl := mt4 (List.mem_of_getElem? (i := 135) (by decide +kernel))
theorem lqX2_fixedPoints : Cond.selects RX2 yX2_fixedPoints yX2_fixedPoints ∈ lw_tbl := mt4 (List.mem_of_getElem? (i := 136) (by decide +kernel))
abbrev mX2_pointAt : MD := (yX2_pointAt, cX2_pointAt, 4, some (.int), 0, 0)
theorem okX2_pointAt : MOk mX2_pointAt 2 := ⟨mt4 (List.mem_of_getElem? (i := 192) rfl), mt1 (List.mem_of_getElem? (i := 7) (by decide +kernel)), by decide +kernel, ⟨by decide +kernel, by decide +kernel⟩, by decide +kernel⟩
theorem liX2_pointAt : Cond.instanceMethod yX2_pointAt ∈ lw_tbl := mt4 (List.mem_of_getElem? (i := 190) (by decide +kernel))
theorem lqX2_pointAt : Cond.selects RX2 yX2_pointAt yX2_pointAt ∈ lw_tbl := mt4 (List.mem_of_getElem? (i := 191) (by decide +kernel))
abbrev mX2_carries : MD := (yX2_carries, cX2_carries, 4, some (.boolean), 1, 23)
theorem okX2_carries : MOk mX2_carries 1 := ⟨mt4 (List.mem_of_getElem? (i := 188) rfl), mt1 (List.mem_of_getElem? (i := 7) (by decide +kernel)), by decide +kernel, ⟨by decide +kernel, by decide +kernel⟩, by decide +kernel⟩
theorem liX2_carries : Cond.instanceMethod yX2_carries ∈ lw_tbl := mt4 (List.mem_of_getElem? (i := 186) (by decide +kernel))
theorem lqX2_carries : Cond.selects RX2 yX2_carries yX2_carries ∈ lw_tbl := mt4 (List.mem_of_getElem? (i := 187) (by decide +kernel))
abbrev mX2_shareAt : MD := (yX2_shareAt, cX2_shareAt, 4, some (.int), 0, 0)
theorem okX2_shareAt : MOk mX2_shareAt 1 := ⟨mt4 (List.mem_of_getElem? (i := 149) rfl), mt1 (List.mem_of_getElem? (i := 7) (by decide +kernel)), by decide +kernel, ⟨by decide +kernel, by decide +kernel⟩, by decide +kernel⟩
theorem liX2_shareAt : Cond.instanceMethod yX2_shareAt ∈ lw_tbl := mt4 (List.mem_of_getElem? (i := 147) (by decide +kernel))
theorem lqX2_shareAt : Cond.selects RX2 yX2_shareAt yX2_shareAt ∈ lw_tbl := mt4 (List.mem_of_getElem? (i := 148) (by decide +kernel))
abbrev mX2_findPoints : MD := (yX2_findPoints, cX2_findPoints, 4, none, 1, 22)
theorem okX2_findPoints : MOk mX2_findPoints 0 := ⟨mt4 (List.mem_of_getElem? (i := 102) rfl), mt1 (List.mem_of_getElem? (i := 7) (by decide +kernel)), by decide +kernel, ⟨by decide +kernel, by decide +kernel⟩, by decide +kernel⟩
theorem liX2_findPoints : Cond.instanceMethod yX2_findPoints ∈ lw_tbl := mt4 (List.mem_of_getElem? (i := 101) (by decide +kernel))
theorem lqX2_findPoints : Cond.selects RX2 yX2_findPoints yX2_findPoints ∈ lw_tbl := mp2 (List.mem_of_getElem? (i := 3) (by decide +kernel))
abbrev mX2_findShare : MD := (yX2_findShare, cX2_findShare, 4, none, 1, 23)
theorem okX2_findShare : MOk mX2_findShare 1 := ⟨mt4 (List.mem_of_getElem? (i := 120) rfl), mt1 (List.mem_of_getElem? (i := 7) (by decide +kernel)), by decide +kernel, ⟨by decide +kernel, by decide +kernel⟩, by decide +kernel⟩
theorem liX2_findShare : Cond.instanceMethod yX2_findShare ∈ lw_tbl := mt4 (List.mem_of_getElem? (i := 119) (by decide +kernel))
theorem lqX2_findShare : Cond.selects RX2 yX2_findShare yX2_findShare ∈ lw_tbl := mp2 (List.mem_of_getElem? (i := 6) (by decide +kernel))
abbrev mX2_pointsOfSquareField : MD := (yX2_pointsOfSquareField, cX2_pointsOfSquareField, 4, some (.int), 2, 49)
theorem okX2_pointsOfSquareField : MOk mX2_pointsOfSquareField 0 := ⟨mt4 (List.mem_of_getElem? (i := 108) rfl), mt1 (List.mem_of_getElem? (i := 7) (by decide +kernel)), by decide +kernel, ⟨by decide +kernel, by decide +kernel⟩, by decide +kernel⟩
theorem liX2_pointsOfSquareField : Cond.instanceMethod yX2_pointsOfSquareField ∈ lw_tbl := mt4 (List.mem_of_getElem? (i := 107) (by decide +kernel))
theorem lqX2_pointsOfSquareField : Cond.selects RX2 yX2_pointsOfSquareField yX2_pointsOfSquareField ∈ lw_tbl := mp2 (List.mem_of_getElem? (i := 4) (by decide +kernel))
abbrev mX2_pointsOver : MD := (yX2_pointsOver, cX2_pointsOver, 8, some (.int), 1, 22)
theorem okX2_pointsOver : MOk mX2_pointsOver 2 := ⟨mt4 (List.mem_of_getElem? (i := 112) rfl), mt1 (List.mem_of_getElem? (i := 7) (by decide +kernel)), by decide +kernel, ⟨by decide +kernel, by decide +kernel⟩, by decide +kernel⟩
theorem liX2_pointsOver : Cond.instanceMethod yX2_pointsOver ∈ lw_tbl := mt4 (List.mem_of_getElem? (i := 111) (by decide +kernel))
theorem lqX2_pointsOver : Cond.selects RX2 yX2_pointsOver yX2_pointsOver ∈ lw_tbl := mp2 (List.mem_of_getElem? (i := 5) (by decide +kernel))
abbrev mX2_findCounts : MD := (yX2_findCounts, cX2_findCounts, 7, none, 0, 0)
theorem okX2_findCounts : MOk mX2_findCounts 0 := ⟨mt4 (List.mem_of_getElem? (i := 125) rfl), mt1 (List.mem_of_getElem? (i := 7) (by decide +kernel)), by decide +kernel, ⟨by decide +kernel, by decide +kernel⟩, by decide +kernel⟩
theorem liX2_findCounts : Cond.instanceMethod yX2_findCounts ∈ lw_tbl := mt4 (List.mem_of_getElem? (i := 124) (by decide +kernel))
theorem lqX2_findCounts : Cond.selects RX2 yX2_findCounts yX2_findCounts ∈ lw_tbl := mp2 (List.mem_of_getElem? (i := 7) (by decide +kernel))
abbrev mX2_findPlaces : MD := (yX2_findPlaces, cX2_findPlaces, 5, none, 0, 0)
theorem okX2_findPlaces : MOk mX2_findPlaces 0 := ⟨mt4 (List.mem_of_getElem? (i := 129) rfl), mt1 (List.mem_of_getElem? (i := 7) (by decide +kernel)), by decide +kernel, ⟨by decide +kernel, by decide +kernel⟩, by decide +kernel⟩
theorem liX2_findPlaces : Cond.instanceMethod yX2_findPlaces ∈ lw_tbl := mt4 (List.mem_of_getElem? (i := 128) (by decide +kernel))
theorem lqX2_findPlaces : Cond.selects RX2 yX2_findPlaces yX2_findPlaces ∈ lw_tbl := mp2 (List.mem_of_getElem? (i := 8) (by decide +kernel))
abbrev mX2_searchChange : MD := (yX2_searchChange, cX2_searchChange, 7, some (.int), 2, 48)
theorem okX2_searchChange : MOk mX2_searchChange 2 := ⟨mt5 (List.mem_of_getElem? (i := 238) rfl), mt1 (List.mem_of_getElem? (i := 7) (by decide +kernel)), by decide +kernel, ⟨by decide +kernel, by decide +kernel⟩, by decide +kernel⟩
theorem liX2_searchChange : Cond.instanceMethod yX2_searchChange ∈ lw_tbl := mt5 (List.mem_of_getElem? (i := 236) (by decide +kernel))
theorem lqX2_searchChange : Cond.selects RX2 yX2_searchChange yX2_searchChange ∈ lw_tbl := mt5 (List.mem_of_getElem? (i := 237) (by decide +kernel))
abbrev mX2_move : MD := (yX2_move, cX2_move, 6, none, 1, 23)
theorem okX2_move : MOk mX2_move 3 := ⟨mt4 (List.mem_of_getElem? (i := 228) rfl), mt1 (List.mem_of_getElem? (i := 7) (by decide +kernel)), by decide +kernel, ⟨by decide +kernel, by decide +kernel⟩, by decide +kernel⟩
theorem liX2_move : Cond.instanceMethod yX2_move ∈ lw_tbl := mt4 (List.mem_of_getElem? (i := 227) (by decide +kernel))
theorem lqX2_move : Cond.selects RX2 yX2_move yX2_move ∈ lw_tbl := mp2 (List.mem_of_getElem? (i := 12) (by decide +kernel))
abbrev mX2_isMovedTo : MD := (yX2_isMovedTo, cX2_isMovedTo, 3, some (.boolean), 1, 22)
theorem okX2_isMovedTo : MOk mX2_isMovedTo 1 := ⟨mt6 (List.mem_of_getElem? (i := 2) rfl), mt1 (List.mem_of_getElem? (i := 7) (by decide +kernel)), by decide +kernel, ⟨by decide +kernel, by decide +kernel⟩, by decide +kernel⟩
theorem liX2_isMovedTo : Cond.instanceMethod yX2_isMovedTo ∈ lw_tbl := mt6 (List.mem_of_getElem? (i := 1) (by decide +kernel))
theorem lqX2_isMovedTo : Cond.selects RX2 yX2_isMovedTo yX2_isMovedTo ∈ lw_tbl := mp4 (List.mem_of_getElem? (i := 0) (by decide +kernel))
abbrev mX2_beginAt : MD := (yX2_beginAt, cX2_beginAt, 3, none, 3, 73)
theorem okX2_beginAt : MOk mX2_beginAt 2 := ⟨mt4 (List.mem_of_getElem? (i := 218) rfl), mt1 (List.mem_of_getElem? (i := 7) (by decide +kernel)), by decide +kernel, ⟨by decide +kernel, by decide +kernel⟩, by decide +kernel⟩
theorem liX2_beginAt : Cond.instanceMethod yX2_beginAt ∈ lw_tbl := mt4 (List.mem_of_getElem? (i := 216) (by decide +kernel))
theorem lqX2_beginAt : Cond.selects RX2 yX2_beginAt yX2_beginAt ∈ lw_tbl := mt4 (List.mem_of_getElem? (i := 217) (by decide +kernel))
abbrev mX2_nextPower : MD := (yX2_nextPower, cX2_nextPower, 3, none, 1, 22)
theorem okX2_nextPower : MOk mX2_nextPower 0 := ⟨mt4 (List.mem_of_getElem? (i := 234) rfl), mt1 (List.mem_of_getElem? (i := 7) (by decide +kernel)), by decide +kernel, ⟨by decide +kernel, by decide +kernel⟩, by decide +kernel⟩
theorem liX2_nextPower : Cond.instanceMethod yX2_nextPower ∈ lw_tbl := mt4 (List.mem_of_getElem? (i := 232) (by decide +kernel))
theorem lqX2_nextPower : Cond.selects RX2 yX2_nextPower yX2_nextPower ∈ lw_tbl := mt4 (List.mem_of_getElem? (i := 233) (by decide +kernel))
abbrev mX2_takeRoot : MD := (yX2_takeRoot, cX2_takeRoot, 6, none, 2, 48)
theorem okX2_takeRoot : MOk mX2_takeRoot 1 := ⟨mt4 (List.mem_of_getElem? (i := 224) rfl), mt1 (List.mem_of_getElem? (i := 7) (by decide +kernel)), by decide +kernel, ⟨by decide +kernel, by decide +kernel⟩, by decide +kernel⟩
theorem liX2_takeRoot : Cond.instanceMethod yX2_takeRoot ∈ lw_tbl := mt4 (List.mem_of_getElem? (i := 223) (by decide +kernel))
theorem lqX2_takeRoot : Cond.selects RX2 yX2_takeRoot yX2_takeRoot ∈ lw_tbl := mp2 (List.mem_of_getElem? (i := 11) (by decide +kernel))
abbrev mX3_init : MD := (yX3_init, cX3_init, 1, none, 2, 40)
theorem okX3_init : MOk mX3_init 0 := ⟨mt1 (List.mem_of_getElem? (i := 129) rfl), mt1 (List.mem_of_getElem? (i := 5) (by decide +kernel)), by decide +kernel, ⟨by decide +kernel, by decide +kernel⟩, by decide +kernel⟩
theorem liX3_init : Cond.instanceMethod yX3_init ∈ lw_tbl := mt1 (List.mem_of_getElem? (i := 128) (by decide +kernel))
abbrev mX3_run : MD := (yX3_run, cX3_run, 5, none, 2, 52)
theorem okX3_run : MOk mX3_run 3 := ⟨mt4 (List.mem_of_getElem? (i := 30) rfl), mt1 (List.mem_of_getElem? (i := 5) (by decide +kernel)), by decide +kernel, ⟨by decide +kernel, by decide +kernel⟩, by decide +kernel⟩
theorem liX3_run : Cond.instanceMethod yX3_run ∈ lw_tbl := mt4 (List.mem_of_getElem? (i := 28) (by decide +kernel))
theorem lqX3_run : Cond.selects RX3 yX3_run yX3_run ∈ lw_tbl := mt4 (List.mem_of_getElem? (i := 29) (by decide +kernel))
abbrev mX4_init : MD := (yX4_init, cX4_init, 1, none, 1, 20)
theorem okX4_init : MOk mX4_init 0 := ⟨mt1 (List.mem_of_getElem? (i := 102) rfl), mt1 (List.mem_of_getElem? (i := 4) (by decide +kernel)), by decide +kernel, ⟨by decide +kernel, by decide +kernel⟩, by decide +kernel⟩
theorem liX4_init : Cond.instanceMethod yX4_init ∈ lw_tbl := mt1 (List.mem_of_getElem? (i := 101) (by decide +kernel))
abbrev mX4_choose : MD := (yX4_choose, cX4_choose, 4, some (.boolean), 1, 22)
theorem okX4_choose : MOk mX4_choose 1 := ⟨mt4 (List.mem_of_getElem? (i := 4) rfl), mt1 (List.mem_of_getElem? (i := 4) (by decide +kernel)), by decide +kernel, ⟨by decide +kernel, by decide +kernel⟩, by decide +kernel⟩
theorem liX4_choose : Cond.instanceMethod yX4_choose ∈ lw_tbl := mt4 (List.mem_of_getElem? (i := 2) (by decide +kernel))
theorem lqX4_choose : Cond.selects RX4 yX4_choose yX4_choose ∈ lw_tbl := mt4 (List.mem_of_getElem? (i := 3) (by decide +kernel))
abbrev mX4_rem : MD := (yX4_rem, cX4_rem, 3, some (.int), 0, 0)
theorem okX4_rem : MOk mX4_rem 1 := ⟨mt4 (List.mem_of_getElem? (i := 8) rfl), mt1 (List.mem_of_getElem? (i := 4) (by decide +kernel)), by decide +kernel, ⟨by decide +kernel, by decide +kernel⟩, by decide +kernel⟩
theorem liX4_rem : Cond.instanceMethod yX4_rem ∈ lw_tbl := mt4 (List.mem_of_getElem? (i := 6) (by decide +kernel))
theorem lqX4_rem : Cond.selects RX4 yX4_rem yX4_rem ∈ lw_tbl := mt4 (List.mem_of_getElem? (i := 7) (by decide +kernel))
abbrev mX4_inverse : MD := (yX4_inverse, cX4_inverse, 2, some (.int), 0, 0)
theorem okX4_inverse : MOk mX4_inverse 1 := ⟨mt4 (List.mem_of_getElem? (i := 53) rfl), mt1 (List.mem_of_getElem? (i := 4) (by decide +kernel)), by decide +kernel, ⟨by decide +kernel, by decide +kernel⟩, by decide +kernel⟩
theorem liX4_inverse : Cond.instanceMethod yX4_inverse ∈ lw_tbl := mt4 (List.mem_of_getElem? (i := 51) (by decide +kernel))
theorem lqX4_inverse : Cond.selects RX4 yX4_inverse yX4_inverse ∈ lw_tbl := mt4 (List.mem_of_getElem? (i := 52) (by decide +kernel))
abbrev mX4_isSquare : MD := (yX4_isSquare, cX4_isSquare, 2, some (.boolean), 0, 0)
theorem okX4_isSquare : MOk mX4_isSquare 1 := ⟨mt4 (List.mem_of_getElem? (i := 116) rfl), mt1 (List.mem_of_getElem? (i := 4) (by decide +kernel)), by decide +kernel, ⟨by decide +kernel, by decide +kernel⟩, by decide +kernel⟩
theorem liX4_isSquare : Cond.instanceMethod yX4_isSquare ∈ lw_tbl := mt4 (List.mem_of_getElem? (i := 114) (by decide +kernel))
theorem lqX4_isSquare : Cond.selects RX4 yX4_isSquare yX4_isSquare ∈ lw_tbl := mt4 (List.mem_of_getElem? (i := 115) (by decide +kernel))
abbrev mX5_init : MD := (yX5_init, cX5_init, 1, none, 2, 40)
theorem okX5_init : MOk mX5_init 0 := ⟨mt2 (List.mem_of_getElem? (i := 38) rfl), mt1 (List.mem_of_getElem? (i := 8) (by decide +kernel)), by decide +kernel, ⟨by decide +kernel, by decide +kernel⟩, by decide +kernel⟩
theorem liX5_init : Cond.instanceMethod yX5_init ∈ lw_tbl := mt2 (List.mem_of_getElem? (i := 37) (by decide +kernel))
abbrev mX5_load : MD := (yX5_load, cX5_load, 3, none, 3, 68)
theorem okX5_load : MOk mX5_load 2 := ⟨mt4 (List.mem_of_getElem? (i := 204) rfl), mt1 (List.mem_of_getElem? (i := 8) (by decide +kernel)), by decide +kernel, ⟨by decide +kernel, by decide +kernel⟩, by decide +kernel⟩
theorem liX5_load : Cond.instanceMethod yX5_load ∈ lw_tbl := mt4 (List.mem_of_getElem? (i := 202) (by decide +kernel))
theorem lqX5_load : Cond.selects RX5 yX5_load yX5_load ∈ lw_tbl := mt4 (List.mem_of_getElem? (i := 203) (by decide +kernel))
abbrev mX5_orderAt : MD := (yX5_orderAt, cX5_orderAt, 5, some (.int), 4, 95)
theorem okX5_orderAt : MOk mX5_orderAt 2 := ⟨mt4 (List.mem_of_getElem? (i := 211) rfl), mt1 (List.mem_of_getElem? (i := 8) (by decide +kernel)), by decide +kernel, ⟨by decide +kernel, by decide +kernel⟩, by decide +kernel⟩
theorem liX5_orderAt : Cond.instanceMethod yX5_orderAt ∈ lw_tbl := mt4 (List.mem_of_getElem? (i := 209) (by decide +kernel))
theorem lqX5_orderAt : Cond.selects RX5 yX5_orderAt yX5_orderAt ∈ lw_tbl := mt4 (List.mem_of_getElem? (i := 210) (by decide +kernel))
abbrev mX5_rational : MD := (yX5_rational, cX5_rational, 4, some (.int), 5, 119)
theorem okX5_rational : MOk mX5_rational 1 := ⟨mt5 (List.mem_of_getElem? (i := 4) rfl), mt1 (List.mem_of_getElem? (i := 8) (by decide +kernel)), by decide +kernel, ⟨by decide +kernel, by decide +kernel⟩, by decide +kernel⟩
theorem liX5_rational : Cond.instanceMethod yX5_rational ∈ lw_tbl := mt5 (List.mem_of_getElem? (i := 2) (by decide +kernel))
theorem lqX5_rational : Cond.selects RX5 yX5_rational yX5_rational ∈ lw_tbl := mt5 (List.mem_of_getElem? (i := 3) (by decide +kernel))
abbrev mX6_init : MD := (yX6_init, cX6_init, 1, none, 2, 40)
theorem okX6_init : MOk mX6_init 0 := ⟨mt2 (List.mem_of_getElem? (i := 198) rfl), mt1 (List.mem_of_getElem? (i := 12) (by decide +kernel)), by decide +kernel, ⟨by decide +kernel, by decide +kernel⟩, by decide +kernel⟩
theorem liX6_init : Cond.instanceMethod yX6_init ∈ lw_tbl := mt2 (List.mem_of_getElem? (i := 197) (by decide +kernel))
abbrev mX6_nothing : MD := (yX6_nothing, cX6_nothing, 1, none, 2, 44)
theorem okX6_nothing : MOk mX6_nothing 0 := ⟨mt5 (List.mem_of_getElem? (i := 85) rfl), mt1 (List.mem_of_getElem? (i := 12) (by decide +kernel)), by decide +kernel, ⟨by decide +kernel, by decide +kernel⟩, by decide +kernel⟩
theorem liX6_nothing : Cond.instanceMethod yX6_nothing ∈ lw_tbl := mt5 (List.mem_of_getElem? (i := 83) (by decide +kernel))
theorem lqX6_nothing : Cond.selects RX6 yX6_nothing yX6_nothing ∈ lw_tbl := mt5 (List.mem_of_getElem? (i := 84) (by decide +kernel))
abbrev mX6_place : MD := (yX6_place, cX6_place, 4, none, 2, 44)
theorem okX6_place : MOk mX6_place 3 := ⟨mt5 (List.mem_of_getElem? (i := 91) rfl), mt1 (List.mem_of_getElem? (i := 12) (by decide +kernel)), by decide +kernel, ⟨by decide +kernel, by decide +kernel⟩, by decide +kernel⟩
theorem liX6_place : Cond.instanceMethod yX6_place ∈ lw_tbl := mt5 (List.mem_of_getElem? (i := 89) (by decide +kernel))
theorem lqX6_place : Cond.selects RX6 yX6_place yX6_place ∈ lw_tbl := mt5 (List.mem_of_getElem? (i := 90) (by decide +kernel))
abbrev mX6_copy : MD := (yX6_copy, cX6_copy, 2, none, 2, 47)
theorem okX6_copy : MOk mX6_copy 1 := ⟨mt5 (List.mem_of_getElem? (i := 120) rfl), mt1 (List.mem_of_getElem? (i := 12) (by decide +kernel)), by decide +kernel, ⟨by decide +kernel, by decide +kernel⟩, by decide +kernel⟩
theorem liX6_copy : Cond.instanceMethod yX6_copy ∈ lw_tbl := mt5 (List.mem_of_getElem? (i := 118) (by decide +kernel))
theorem lqX6_copy : Cond.selects RX6 yX6_copy yX6_copy ∈ lw_tbl := mt5 (List.mem_of_getElem? (i := 119) (by decide +kernel))
abbrev mX6_isNothing : MD := (yX6_isNothing, cX6_isNothing, 1, some (.boolean), 0, 0)
theorem okX6_isNothing : MOk mX6_isNothing 0 := ⟨mt5 (List.mem_of_getElem? (i := 155) rfl), mt1 (List.mem_of_getElem? (i := 12) (by decide +kernel)), by decide +kernel, ⟨by decide +kernel, by decide +kernel⟩, by decide +kernel⟩
theorem liX6_isNothing : Cond.instanceMethod yX6_isNothing ∈ lw_tbl := mt5 (List.mem_of_getElem? (i := 153) (by decide +kernel))
theorem lqX6_isNothing : Cond.selects RX6 yX6_isNothing yX6_isNothing ∈ lw_tbl := mt5 (List.mem_of_getElem? (i := 154) (by decide +kernel))
abbrev mX6_matches : MD := (yX6_matches, cX6_matches, 2, some (.boolean), 1, 23)
theorem okX6_matches : MOk mX6_matches 1 := ⟨mt5 (List.mem_of_getElem? (i := 163) rfl), mt1 (List.mem_of_getElem? (i := 12) (by decide +kernel)), by decide +kernel, ⟨by decide +kernel, by decide +kernel⟩, by decide +kernel⟩
theorem liX6_matches : Cond.instanceMethod yX6_matches ∈ lw_tbl := mt5 (List.mem_of_getElem? (i := 161) (by decide +kernel))
theorem lqX6_matches : Cond.selects RX6 yX6_matches yX6_matches ∈ lw_tbl := mt5 (List.mem_of_getElem? (i := 162) (by decide +kernel))
abbrev mX6_part : MD := (yX6_part, cX6_part, 2, some (.int), 1, 21)
theorem okX6_part : MOk mX6_part 1 := ⟨mt5 (List.mem_of_getElem? (i := 129) rfl), mt1 (List.mem_of_getElem? (i := 12) (by decide +kernel)), by decide +kernel, ⟨by decide +kernel, by decide +kernel⟩, by decide +kernel⟩
theorem liX6_part : Cond.instanceMethod yX6_part ∈ lw_tbl := mt5 (List.mem_of_getElem? (i := 127) (by decide +kernel))
theorem lqX6_part : Cond.selects RX6 yX6_part yX6_part ∈ lw_tbl := mt5 (List.mem_of_getElem? (i := 128) (by decide +kernel))
abbrev mX7_init : MD := (yX7_init, cX7_init, 1, none, 1, 20)
theorem okX7_init : MOk mX7_init 0 := ⟨mt1 (List.mem_of_getElem? (i := 135) rfl), mt1 (List.mem_of_getElem? (i := 6) (by decide +kernel)), by decide +kernel, ⟨by decide +kernel, by decide +kernel⟩, by decide +kernel⟩
theorem liX7_init : Cond.instanceMethod yX7_init ∈ lw_tbl := mt1 (List.mem_of_getElem? (i := 134) (by decide +kernel))
abbrev mX7_at : MD := (yX7_at, cX7_at, 2, some (.int), 0, 0)
theorem okX7_at : MOk mX7_at 1 := ⟨mt4 (List.mem_of_getElem? (i := 65) rfl), mt1 (List.mem_of_getElem? (i := 6) (by decide +kernel)), by decide +kernel, ⟨by decide +kernel, by decide +kernel⟩, by decide +kernel⟩
theorem liX7_at : Cond.instanceMethod yX7_at ∈ lw_tbl := mt4 (List.mem_of_getElem? (i := 63) (by decide +kernel))
theorem lqX7_at : Cond.selects RX7 yX7_at yX7_at ∈ lw_tbl := mt4 (List.mem_of_getElem? (i := 64) (by decide +kernel))
abbrev mX7_clear : MD := (yX7_clear, cX7_clear, 1, none, 1, 23)
theorem okX7_clear : MOk mX7_clear 0 := ⟨mt4 (List.mem_of_getElem? (i := 16) rfl), mt1 (List.mem_of_getElem? (i := 6) (by decide +kernel)), by decide +kernel, ⟨by decide +kernel, by decide +kernel⟩, by decide +kernel⟩
theorem liX7_clear : Cond.instanceMethod yX7_clear ∈ lw_tbl := mt4 (List.mem_of_getElem? (i := 14) (by decide +kernel))
theorem lqX7_clear : Cond.selects RX7 yX7_clear yX7_clear ∈ lw_tbl := mt4 (List.mem_of_getElem? (i := 15) (by decide +kernel))
abbrev mX7_put : MD := (yX7_put, cX7_put, 3, none, 1, 22)
theorem okX7_put : MOk mX7_put 2 := ⟨mt4 (List.mem_of_getElem? (i := 42) rfl), mt1 (List.mem_of_getElem? (i := 6) (by decide +kernel)), by decide +kernel, ⟨by decide +kernel, by decide +kernel⟩, by decide +kernel⟩
theorem liX7_put : Cond.instanceMethod yX7_put ∈ lw_tbl := mt4 (List.mem_of_getElem? (i := 40) (by decide +kernel))
theorem lqX7_put : Cond.selects RX7 yX7_put yX7_put ∈ lw_tbl := mt4 (List.mem_of_getElem? (i := 41) (by decide +kernel))
abbrev mX7_copy : MD := (yX7_copy, cX7_copy, 2, none, 1, 26)
theorem okX7_copy : MOk mX7_copy 1 := ⟨mt4 (List.mem_of_getElem? (i := 34) rfl), mt1 (List.mem_of_getElem? (i := 6) (by decide +kernel)), by decide +kernel, ⟨by decide +kernel, by decide +kernel⟩, by decide +kernel⟩
theorem liX7_copy : Cond.instanceMethod yX7_copy ∈ lw_tbl := mt4 (List.mem_of_getElem? (i := 32) (by decide +kernel))
theorem lqX7_copy : Cond.selects RX7 yX7_copy yX7_copy ∈ lw_tbl := mt4 (List.mem_of_getElem? (i := 33) (by decide +kernel))
abbrev mX7_take : MD := (yX7_take, cX7_take, 6, none, 2, 43)
theorem okX7_take : MOk mX7_take 4 := ⟨mt4 (List.mem_of_getElem? (i := 12) rfl), mt1 (List.mem_of_getElem? (i := 6) (by decide +kernel)), by decide +kernel, ⟨by decide +kernel, by decide +kernel⟩, by decide +kernel⟩
theorem liX7_take : Cond.instanceMethod yX7_take ∈ lw_tbl := mt4 (List.mem_of_getElem? (i := 10) (by decide +kernel))
theorem lqX7_take : Cond.selects RX7 yX7_take yX7_take ∈ lw_tbl := mt4 (List.mem_of_getElem? (i := 11) (by decide +kernel))
abbrev mX7_slope : MD := (yX7_slope, cX7_slope, 4, none, 2, 43)
theorem okX7_slope : MOk mX7_slope 2 := ⟨mt4 (List.mem_of_getElem? (i := 26) rfl), mt1 (List.mem_of_getElem? (i := 6) (by decide +kernel)), by decide +kernel, ⟨by decide +kernel, by decide +kernel⟩, by decide +kernel⟩
theorem liX7_slope : Cond.instanceMethod yX7_slope ∈ lw_tbl := mt4 (List.mem_of_getElem? (i := 24) (by decide +kernel))
theorem lqX7_slope : Cond.selects RX7 yX7_slope yX7_slope ∈ lw_tbl := mt4 (List.mem_of_getElem? (i := 25) (by decide +kernel))
abbrev mX7_add : MD := (yX7_add, cX7_add, 5, none, 1, 22)
theorem okX7_add : MOk mX7_add 3 := ⟨mt4 (List.mem_of_getElem? (i := 61) rfl), mt1 (List.mem_of_getElem? (i := 6) (by decide +kernel)), by decide +kernel, ⟨by decide +kernel, by decide +kernel⟩, by decide +kernel⟩
theorem liX7_add : Cond.instanceMethod yX7_add ∈ lw_tbl := mt4 (List.mem_of_getElem? (i := 59) (by decide +kernel))
theorem lqX7_add : Cond.selects RX7 yX7_add yX7_add ∈ lw_tbl := mt4 (List.mem_of_getElem? (i := 60) (by decide +kernel))
abbrev mX7_product : MD := (yX7_product, cX7_product, 6, none, 1, 23)
theorem okX7_product : MOk mX7_product 3 := ⟨mt4 (List.mem_of_getElem? (i := 57) rfl), mt1 (List.mem_of_getElem? (i := 6) (by decide +kernel)), by decide +kernel, ⟨by decide +kernel, by decide +kernel⟩, by decide +kernel⟩
theorem liX7_product : Cond.instanceMethod yX7_product ∈ lw_tbl := mt4 (List.mem_of_getElem? (i := 55) (by decide +kernel))
theorem lqX7_product : Cond.selects RX7 yX7_product yX7_product ∈ lw_tbl := mt4 (List.mem_of_getElem? (i := 56) (by decide +kernel))
abbrev mX7_scale : MD := (yX7_scale, cX7_scale, 4, none, 1, 22)
theorem okX7_scale : MOk mX7_scale 2 := ⟨mt4 (List.mem_of_getElem? (i := 70) rfl), mt1 (List.mem_of_getElem? (i := 6) (by decide +kernel)), by decide +kernel, ⟨by decide +kernel, by decide +kernel⟩, by decide +kernel⟩
theorem liX7_scale : Cond.instanceMethod yX7_scale ∈ lw_tbl := mt4 (List.mem_of_getElem? (i := 68) (by decide +kernel))
theorem lqX7_scale : Cond.selects RX7 yX7_scale yX7_scale ∈ lw_tbl := mt4 (List.mem_of_getElem? (i := 69) (by decide +kernel))
abbrev mX7_divide : MD := (yX7_divide, cX7_divide, 10, none, 1, 23)
theorem okX7_divide : MOk mX7_divide 3 := ⟨mt4 (List.mem_of_getElem? (i := 49) rfl), mt1 (List.mem_of_getElem? (i := 6) (by decide +kernel)), by decide +kernel, ⟨by decide +kernel, by decide +kernel⟩, by decide +kernel⟩
theorem liX7_divide : Cond.instanceMethod yX7_divide ∈ lw_tbl := mt4 (List.mem_of_getElem? (i := 47) (by decide +kernel))
theorem lqX7_divide : Cond.selects RX7 yX7_divide yX7_divide ∈ lw_tbl := mt4 (List.mem_of_getElem? (i := 48) (by decide +kernel))
abbrev mX7_matches : MD := (yX7_matches, cX7_matches, 4, some (.boolean), 0, 0)
theorem okX7_matches : MOk mX7_matches 1 := ⟨mt5 (List.mem_of_getElem? (i := 167) rfl), mt1 (List.mem_of_getElem? (i := 6) (by decide +kernel)), by decide +kernel, ⟨by decide +kernel, by decide +kernel⟩, by decide +kernel⟩
theorem liX7_matches : Cond.instanceMethod yX7_matches ∈ lw_tbl := mt5 (List.mem_of_getElem? (i := 165) (by decide +kernel))
theorem lqX7_matches : Cond.selects RX7 yX7_matches yX7_matches ∈ lw_tbl := mt5 (List.mem_of_getElem? (i := 166) (by decide +kernel))
abbrev mX7_settle : MD := (yX7_settle, cX7_settle, 3, none, 0, 0)
theorem okX7_settle : MOk mX7_settle 1 := ⟨mt4 (List.mem_of_getElem? (i := 22) rfl), mt1 (List.mem_of_getElem? (i := 6) (by decide +kernel)), by decide +kernel, ⟨by decide +kernel, by decide +kernel⟩, by decide +kernel⟩
theorem liX7_settle : Cond.instanceMethod yX7_settle ∈ lw_tbl := mt4 (List.mem_of_getElem? (i := 21) (by decide +kernel))
theorem lqX7_settle : Cond.selects RX7 yX7_settle yX7_settle ∈ lw_tbl := mp2 (List.mem_of_getElem? (i := 0) (by decide +kernel))
abbrev mX8_init : MD := (yX8_init, cX8_init, 2, none, 1, 20)
theorem okX8_init : MOk mX8_init 1 := ⟨mt1 (List.mem_of_getElem? (i := 68) rfl), mt1 (List.mem_of_getElem? (i := 3) (by decide +kernel)), by decide +kernel, ⟨by decide +kernel, by decide +kernel⟩, by decide +kernel⟩
theorem liX8_init : Cond.instanceMethod yX8_init ∈ lw_tbl := mt1 (List.mem_of_getElem? (i := 67) (by decide +kernel))
abbrev mX8_read : MD := (yX8_read, cX8_read, 4, none, 7, 152)
theorem okX8_read : MOk mX8_read 2 := ⟨mt3 (List.mem_of_getElem? (i := 108) rfl), mt1 (List.mem_of_getElem? (i := 3) (by decide +kernel)), by decide +kernel, ⟨by decide +kernel, by decide +kernel⟩, by decide +kernel⟩
theorem liX8_read : Cond.instanceMethod yX8_read ∈ lw_tbl := mt3 (List.mem_of_getElem? (i := 106) (by decide +kernel))
theorem lqX8_read : Cond.selects RX8 yX8_read yX8_read ∈ lw_tbl := mt3 (List.mem_of_getElem? (i := 107) (by decide +kernel))
abbrev mX8_beginRow : MD := (yX8_beginRow, cX8_beginRow, 2, none, 1, 23)
theorem okX8_beginRow : MOk mX8_beginRow 1 := ⟨mt3 (List.mem_of_getElem? (i := 115) rfl), mt1 (List.mem_of_getElem? (i := 3) (by decide +kernel)), by decide +kernel, ⟨by decide +kernel, by decide +kernel⟩, by decide +kernel⟩
theorem liX8_beginRow : Cond.instanceMethod yX8_beginRow ∈ lw_tbl := mt3 (List.mem_of_getElem? (i := 114) (by decide +kernel))
theorem lqX8_beginRow : Cond.selects RX8 yX8_beginRow yX8_beginRow ∈ lw_tbl := mp1 (List.mem_of_getElem? (i := 0) (by decide +kernel))
abbrev mX8_curveLine : MD := (yX8_curveLine, cX8_curveLine, 1, none, 6, 128)
theorem okX8_curveLine : MOk mX8_curveLine 0 := ⟨mt3 (List.mem_of_getElem? (i := 132) rfl), mt1 (List.mem_of_getElem? (i := 3) (by decide +kernel)), by decide +kernel, ⟨by decide +kernel, by decide +kernel⟩, by decide +kernel⟩
theorem liX8_curveLine : Cond.instanceMethod yX8_curveLine ∈ lw_tbl := mt3 (List.mem_of_getElem? (i := 131) (by decide +kernel))
theorem lqX8_curveLine : Cond.selects RX8 yX8_curveLine yX8_curveLine ∈ lw_tbl := mp1 (List.mem_of_getElem? (i := 2) (by decide +kernel))
abbrev mX8_curveNumbers : MD := (yX8_curveNumbers, cX8_curveNumbers, 3, none, 3, 62)
theorem okX8_curveNumbers : MOk mX8_curveNumbers 0 := ⟨mt3 (List.mem_of_getElem? (i := 208) rfl), mt1 (List.mem_of_getElem? (i := 3) (by decide +kernel)), by decide +kernel, ⟨by decide +kernel, by decide +kernel⟩, by decide +kernel⟩
theorem liX8_curveNumbers : Cond.instanceMethod yX8_curveNumbers ∈ lw_tbl := mt3 (List.mem_of_getElem? (i := 207) (by decide +kernel))
theorem lqX8_curveNumbers : Cond.selects RX8 yX8_curveNumbers yX8_curveNumbers ∈ lw_tbl := mp1 (List.mem_of_getElem? (i := 8) (by decide +kernel))
abbrev mX8_sumLine : MD := (yX8_sumLine, cX8_sumLine, 1, none, 6, 128)
theorem okX8_sumLine : MOk mX8_sumLine 0 := ⟨mt3 (List.mem_of_getElem? (i := 220) rfl), mt1 (List.mem_of_getElem? (i := 3) (by decide +kernel)), by decide +kernel, ⟨by decide +kernel, by decide +kernel⟩, by decide +kernel⟩
theorem liX8_sumLine : Cond.instanceMethod yX8_sumLine ∈ lw_tbl := mt3 (List.mem_of_getElem? (i := 219) (by decide +kernel))
theorem lqX8_sumLine : Cond.selects RX8 yX8_sumLine yX8_sumLine ∈ lw_tbl := mp1 (List.mem_of_getElem? (i := 11) (by decide +kernel))
abbrev mX8_entryLine : MD := (yX8_entryLine, cX8_entryLine, 7, none, 4, 85)
theorem okX8_entryLine : MOk mX8_entryLine 0 := ⟨mt3 (List.mem_of_getElem? (i := 230) rfl), mt1 (List.mem_of_getElem? (i := 3) (by decide +kernel)), by decide +kernel, ⟨by decide +kernel, by decide +kernel⟩, by decide +kernel⟩
theorem liX8_entryLine : Cond.instanceMethod yX8_entryLine ∈ lw_tbl := mt3 (List.mem_of_getElem? (i := 229) (by decide +kernel))
theorem lqX8_entryLine : Cond.selects RX8 yX8_entryLine yX8_entryLine ∈ lw_tbl := mp1 (List.mem_of_getElem? (i := 13) (by decide +kernel))
abbrev mX8_functionLine : MD := (yX8_functionLine, cX8_functionLine, 5, none, 6, 128)
theorem okX8_functionLine : MOk mX8_functionLine 0 := ⟨mt3 (List.mem_of_getElem? (i := 234) rfl), mt1 (List.mem_of_getElem? (i := 3) (by decide +kernel)), by decide +kernel, ⟨by decide +kernel, by decide +kernel⟩, by decide +kernel⟩
theorem liX8_functionLine : Cond.instanceMethod yX8_functionLine ∈ lw_tbl := mt3 (List.mem_of_getElem? (i := 233) (by decide +kernel))
theorem lqX8_functionLine : Cond.selects RX8 yX8_functionLine yX8_functionLine ∈ lw_tbl := mp1 (List.mem_of_getElem? (i := 14) (by decide +kernel))
abbrev mX8_closeLine : MD := (yX8_closeLine, cX8_closeLine, 1, none, 2, 40)
theorem okX8_closeLine : MOk mX8_closeLine 0 := ⟨mt3 (List.mem_of_getElem? (i := 216) rfl), mt1 (List.mem_of_getElem? (i := 3) (by decide +kernel)), by decide +kernel, ⟨by decide +kernel, by decide +kernel⟩, by decide +kernel⟩
theorem liX8_closeLine : Cond.instanceMethod yX8_closeLine ∈ lw_tbl := mt3 (List.mem_of_getElem? (i := 215) (by decide +kernel))
theorem lqX8_closeLine : Cond.selects RX8 yX8_closeLine yX8_closeLine ∈ lw_tbl := mp1 (List.mem_of_getElem? (i := 10) (by decide +kernel))
abbrev mX8_primeNumber : MD := (yX8_primeNumber, cX8_primeNumber, 7, some (.int), 2, 40)
theorem okX8_primeNumber : MOk mX8_primeNumber 0 := ⟨mt3 (List.mem_of_getElem? (i := 189) rfl), mt1 (List.mem_of_getElem? (i := 3) (by decide +kernel)), by decide +kernel, ⟨by decide +kernel, by decide +kernel⟩, by decide +kernel⟩
theorem liX8_primeNumber : Cond.instanceMethod yX8_primeNumber ∈ lw_tbl := mt3 (List.mem_of_getElem? (i := 188) (by decide +kernel))
theorem lqX8_primeNumber : Cond.selects RX8 yX8_primeNumber yX8_primeNumber ∈ lw_tbl := mp1 (List.mem_of_getElem? (i := 4) (by decide +kernel))
abbrev mX8_numberTo : MD := (yX8_numberTo, cX8_numberTo, 3, some (.int), 2, 40)
theorem okX8_numberTo : MOk mX8_numberTo 1 := ⟨mt3 (List.mem_of_getElem? (i := 212) rfl), mt1 (List.mem_of_getElem? (i := 3) (by decide +kernel)), by decide +kernel, ⟨by decide +kernel, by decide +kernel⟩, by decide +kernel⟩
theorem liX8_numberTo : Cond.instanceMethod yX8_numberTo ∈ lw_tbl := mt3 (List.mem_of_getElem? (i := 211) (by decide +kernel))
theorem lqX8_numberTo : Cond.selects RX8 yX8_numberTo yX8_numberTo ∈ lw_tbl := mp1 (List.mem_of_getElem? (i := 9) (by decide +kernel))
abbrev mX8_signedTo : MD := (yX8_signedTo, cX8_signedTo, 4, some (.int), 3, 62)
theorem okX8_signedTo : MOk mX8_signedTo 1 := ⟨mt3 (List.mem_of_getElem? (i := 225) rfl), mt1 (List.mem_of_getElem? (i := 3) (by decide +kernel)), by decide +kernel, ⟨by decide +kernel, by decide +kernel⟩, by decide +kernel⟩
theorem liX8_signedTo : Cond.instanceMethod yX8_signedTo ∈ lw_tbl := mt3 (List.mem_of_getElem? (i := 224) (by decide +kernel))
theorem lqX8_signedTo : Cond.selects RX8 yX8_signedTo yX8_signedTo ∈ lw_tbl := mp1 (List.mem_of_getElem? (i := 12) (by decide +kernel))
abbrev mX8_stop : MD := (yX8_stop, cX8_stop, 1, none, 0, 0)
theorem okX8_stop : MOk mX8_stop 0 := ⟨mt3 (List.mem_of_getElem? (i := 193) rfl), mt1 (List.mem_of_getElem? (i := 3) (by decide +kernel)), by decide +kernel, ⟨by decide +kernel, by decide +kernel⟩, by decide +kernel⟩
theorem liX8_stop : Cond.instanceMethod yX8_stop ∈ lw_tbl := mt3 (List.mem_of_getElem? (i := 192) (by decide +kernel))
theorem lqX8_stop : Cond.selects RX8 yX8_stop yX8_stop ∈ lw_tbl := mp1 (List.mem_of_getElem? (i := 5) (by decide +kernel))
abbrev mX8_note : MD := (yX8_note, cX8_note, 2, none, 0, 0)
theorem okX8_note : MOk mX8_note 1 := ⟨mt3 (List.mem_of_getElem? (i := 203) rfl), mt1 (List.mem_of_getElem? (i := 3) (by decide +kernel)), by decide +kernel, ⟨by decide +kernel, by decide +kernel⟩, by decide +kernel⟩
theorem liX8_note : Cond.instanceMethod yX8_note ∈ lw_tbl := mt3 (List.mem_of_getElem? (i := 202) (by decide +kernel))
theorem lqX8_note : Cond.selects RX8 yX8_note yX8_note ∈ lw_tbl := mp1 (List.mem_of_getElem? (i := 7) (by decide +kernel))
abbrev mX8_next : MD := (yX8_next, cX8_next, 1, none, 1, 20)
theorem okX8_next : MOk mX8_next 0 := ⟨mt3 (List.mem_of_getElem? (i := 122) rfl), mt1 (List.mem_of_getElem? (i := 3) (by decide +kernel)), by decide +kernel, ⟨by decide +kernel, by decide +kernel⟩, by decide +kernel⟩
theorem liX8_next : Cond.instanceMethod yX8_next ∈ lw_tbl := mt3 (List.mem_of_getElem? (i := 121) (by decide +kernel))
theorem lqX8_next : Cond.selects RX8 yX8_next yX8_next ∈ lw_tbl := mp1 (List.mem_of_getElem? (i := 1) (by decide +kernel))
abbrev mX8_value : MD := (yX8_value, cX8_value, 3, some (.int), 0, 0)
theorem okX8_value : MOk mX8_value 0 := ⟨mt3 (List.mem_of_getElem? (i := 197) rfl), mt1 (List.mem_of_getElem? (i := 3) (by decide +kernel)), by decide +kernel, ⟨by decide +kernel, by decide +kernel⟩, by decide +kernel⟩
theorem liX8_value : Cond.instanceMethod yX8_value ∈ lw_tbl := mt3 (List.mem_of_getElem? (i := 196) (by decide +kernel))
theorem lqX8_value : Cond.selects RX8 yX8_value yX8_value ∈ lw_tbl := mp1 (List.mem_of_getElem? (i := 6) (by decide +kernel))
abbrev mX8_isWord : MD := (yX8_isWord, cX8_isWord, 3, some (.boolean), 5, 106)
theorem okX8_isWord : MOk mX8_isWord 1 := ⟨mt3 (List.mem_of_getElem? (i := 137) rfl), mt1 (List.mem_of_getElem? (i := 3) (by decide +kernel)), by decide +kernel, ⟨by decide +kernel, by decide +kernel⟩, by decide +kernel⟩
theorem liX8_isWord : Cond.instanceMethod yX8_isWord ∈ lw_tbl := mt3 (List.mem_of_getElem? (i := 136) (by decide +kernel))
theorem lqX8_isWord : Cond.selects RX8 yX8_isWord yX8_isWord ∈ lw_tbl := mp1 (List.mem_of_getElem? (i := 3) (by decide +kernel))
abbrev mX8_isLetter : MD := (yX8_isLetter, cX8_isLetter, 1, some (.boolean), 0, 0)
theorem okX8_isLetter : MOk mX8_isLetter 1 := ⟨mt3 (List.mem_of_getElem? (i := 125) rfl), mt1 (List.mem_of_getElem? (i := 3) (by decide +kernel)), by decide +kernel, ⟨by decide +kernel, by decide +kernel⟩, by decide +kernel⟩
theorem lsX8_isLetter : Cond.static yX8_isLetter ∈ lw_tbl := mt3 (List.mem_of_getElem? (i := 124) (by decide +kernel))
abbrev mX8_isDigit : MD := (yX8_isDigit, cX8_isDigit, 1, some (.boolean), 0, 0)
theorem okX8_isDigit : MOk mX8_isDigit 1 := ⟨mt3 (List.mem_of_getElem? (i := 128) rfl), mt1 (List.mem_of_getElem? (i := 3) (by decide +kernel)), by decide +kernel, ⟨by decide +kernel, by decide +kernel⟩, by decide +kernel⟩
theorem lsX8_isDigit : Cond.static yX8_isDigit ∈ lw_tbl := mt3 (List.mem_of_getElem? (i := 127) (by decide +kernel))
abbrev mX9_init : MD := (yX9_init, cX9_init, 1, none, 1, 20)
theorem okX9_init : MOk mX9_init 0 := ⟨mt2 (List.mem_of_getElem? (i := 66) rfl), mt1 (List.mem_of_getElem? (i := 9) (by decide +kernel)), by decide +kernel, ⟨by decide +kernel, by decide +kernel⟩, by decide +kernel⟩
theorem liX9_init : Cond.instanceMethod yX9_init ∈ lw_tbl := mt2 (List.mem_of_getElem? (i := 65) (by decide +kernel))
abbrev mX9_load : MD := (yX9_load, cX9_load, 5, none, 5, 124)
theorem okX9_load : MOk mX9_load 2 := ⟨mt5 (List.mem_of_getElem? (i := 17) rfl), mt1 (List.mem_of_getElem? (i := 9) (by decide +kernel)), by decide +kernel, ⟨by decide +kernel, by decide +kernel⟩, by decide +kernel⟩
theorem liX9_load : Cond.instanceMethod yX9_load ∈ lw_tbl := mt5 (List.mem_of_getElem? (i := 15) (by decide +kernel))
theorem lqX9_load : Cond.selects RX9 yX9_load yX9_load ∈ lw_tbl := mt5 (List.mem_of_getElem? (i := 16) (by decide +kernel))
abbrev mX9_coefficient : MD := (yX9_coefficient, cX9_coefficient, 6, some (.int), 1, 22)
theorem okX9_coefficient : MOk mX9_coefficient 3 := ⟨mt5 (List.mem_of_getElem? (i := 65) rfl), mt1 (List.mem_of_getElem? (i := 9) (by decide +kernel)), by decide +kernel, ⟨by decide +kernel, by decide +kernel⟩, by decide +kernel⟩
theorem liX9_coefficient : Cond.instanceMethod yX9_coefficient ∈ lw_tbl := mt5 (List.mem_of_getElem? (i := 63) (by decide +kernel))
theorem lqX9_coefficient : Cond.selects RX9 yX9_coefficient yX9_coefficient ∈ lw_tbl := mt5 (List.mem_of_getElem? (i := 64) (by decide +kernel))
abbrev mX9_gather : MD := (yX9_gather, cX9_gather, 6, none, 1, 23)
theorem okX9_gather : MOk mX9_gather 2 := ⟨mt5 (List.mem_of_getElem? (i := 24) rfl), mt1 (List.mem_of_getElem? (i := 9) (by decide +kernel)), by decide +kernel, ⟨by decide +kernel, by decide +kernel⟩, by decide +kernel⟩
theorem liX9_gather : Cond.instanceMethod yX9_gather ∈ lw_tbl := mt5 (List.mem_of_getElem? (i := 23) (by decide +kernel))
theorem lqX9_gather : Cond.selects RX9 yX9_gather yX9_gather ∈ lw_tbl := mp2 (List.mem_of_getElem? (i := 14) (by decide +kernel))
abbrev mX9_findDepths : MD := (yX9_findDepths, cX9_findDepths, 5, none, 2, 42)
theorem okX9_findDepths : MOk mX9_findDepths 1 := ⟨mt5 (List.mem_of_getElem? (i := 30) rfl), mt1 (List.mem_of_getElem? (i := 9) (by decide +kernel)), by decide +kernel, ⟨by decide +kernel, by decide +kernel⟩, by decide +kernel⟩
theorem liX9_findDepths : Cond.instanceMethod yX9_findDepths ∈ lw_tbl := mt5 (List.mem_of_getElem? (i := 29) (by decide +kernel))
theorem lqX9_findDepths : Cond.selects RX9 yX9_findDepths yX9_findDepths ∈ lw_tbl := mp2 (List.mem_of_getElem? (i := 15) (by decide +kernel))
abbrev mX9_findUnder : MD := (yX9_findUnder, cX9_findUnder, 5, none, 1, 23)
theorem okX9_findUnder : MOk mX9_findUnder 1 := ⟨mt5 (List.mem_of_getElem? (i := 36) rfl), mt1 (List.mem_of_getElem? (i := 9) (by decide +kernel)), by decide +kernel, ⟨by decide +kernel, by decide +kernel⟩, by decide +kernel⟩
theorem liX9_findUnder : Cond.instanceMethod yX9_findUnder ∈ lw_tbl := mt5 (List.mem_of_getElem? (i := 35) (by decide +kernel))
theorem lqX9_findUnder : Cond.selects RX9 yX9_findUnder yX9_findUnder ∈ lw_tbl := mp3 (List.mem_of_getElem? (i := 0) (by decide +kernel))
abbrev mX9_ask : MD := (yX9_ask, cX9_ask, 10, none, 4, 95)
theorem okX9_ask : MOk mX9_ask 3 := ⟨mt5 (List.mem_of_getElem? (i := 42) rfl), mt1 (List.mem_of_getElem? (i := 9) (by decide +kernel)), by decide +kernel, ⟨by decide +kernel, by decide +kernel⟩, by decide +kernel⟩
theorem liX9_ask : Cond.instanceMethod yX9_ask ∈ lw_tbl := mt5 (List.mem_of_getElem? (i := 41) (by decide +kernel))
theorem lqX9_ask : Cond.selects RX9 yX9_ask yX9_ask ∈ lw_tbl := mp3 (List.mem_of_getElem? (i := 1) (by decide +kernel))
abbrev mX9_solve : MD := (yX9_solve, cX9_solve, 4, none, 2, 50)
theorem okX9_solve : MOk mX9_solve 1 := ⟨mt5 (List.mem_of_getElem? (i := 48) rfl), mt1 (List.mem_of_getElem? (i := 9) (by decide +kernel)), by decide +kernel, ⟨by decide +kernel, by decide +kernel⟩, by decide +kernel⟩
theorem liX9_solve : Cond.instanceMethod yX9_solve ∈ lw_tbl := mt5 (List.mem_of_getElem? (i := 47) (by decide +kernel))
theorem lqX9_solve : Cond.selects RX9 yX9_solve yX9_solve ∈ lw_tbl := mp3 (List.mem_of_getElem? (i := 2) (by decide +kernel))
abbrev mX9_bringUp : MD := (yX9_bringUp, cX9_bringUp, 5, some (.boolean), 0, 0)
theorem okX9_bringUp : MOk mX9_bringUp 2 := ⟨mt5 (List.mem_of_getElem? (i := 52) rfl), mt1 (List.mem_of_getElem? (i := 9) (by decide +kernel)), by decide +kernel, ⟨by decide +kernel, by decide +kernel⟩, by decide +kernel⟩
theorem liX9_bringUp : Cond.instanceMethod yX9_bringUp ∈ lw_tbl := mt5 (List.mem_of_getElem? (i := 51) (by decide +kernel))
theorem lqX9_bringUp : Cond.selects RX9 yX9_bringUp yX9_bringUp ∈ lw_tbl := mp3 (List.mem_of_getElem? (i := 3) (by decide +kernel))
abbrev mX9_clearColumn : MD := (yX9_clearColumn, cX9_clearColumn, 9, none, 1, 22)
theorem okX9_clearColumn : MOk mX9_clearColumn 3 := ⟨mt5 (List.mem_of_getElem? (i := 56) rfl), mt1 (List.mem_of_getElem? (i := 9) (by decide +kernel)), by decide +kernel, ⟨by decide +kernel, by decide +kernel⟩, by decide +kernel⟩
theorem liX9_clearColumn : Cond.instanceMethod yX9_clearColumn ∈ lw_tbl := mt5 (List.mem_of_getElem? (i := 55) (by decide +kernel))
theorem lqX9_clearColumn : Cond.selects RX9 yX9_clearColumn yX9_clearColumn ∈ lw_tbl := mp3 (List.mem_of_getElem? (i := 4) (by decide +kernel))
abbrev mX10_init : MD := (yX10_init, cX10_init, 1, none, 1, 20)
theorem okX10_init : MOk mX10_init 0 := ⟨mt1 (List.mem_of_getElem? (i := 33) rfl), mt1 (List.mem_of_getElem? (i := 2) (by decide +kernel)), by decide +kernel, ⟨by decide +kernel, by decide +kernel⟩, by decide +kernel⟩
theorem liX10_init : Cond.instanceMethod yX10_init ∈ lw_tbl := mt1 (List.mem_of_getElem? (i := 32) (by decide +kernel))
abbrev mX10_append : MD := (yX10_append, cX10_append, 3, none, 0, 0)
theorem okX10_append : MOk mX10_append 1 := ⟨mt3 (List.mem_of_getElem? (i := 88) rfl), mt1 (List.mem_of_getElem? (i := 2) (by decide +kernel)), by decide +kernel, ⟨by decide +kernel, by decide +kernel⟩, by decide +kernel⟩
theorem liX10_append : Cond.instanceMethod yX10_append ∈ lw_tbl := mt3 (List.mem_of_getElem? (i := 86) (by decide +kernel))
theorem lqX10_append : Cond.selects RX10 yX10_append yX10_append ∈ lw_tbl := mt3 (List.mem_of_getElem? (i := 87) (by decide +kernel))
abbrev mX10_row : MD := (yX10_row, cX10_row, 3, some ((.array .int)), 0, 0)
theorem okX10_row : MOk mX10_row 2 := ⟨mt3 (List.mem_of_getElem? (i := 102) rfl), mt1 (List.mem_of_getElem? (i := 2) (by decide +kernel)), by decide +kernel, ⟨by decide +kernel, by decide +kernel⟩, by decide +kernel⟩
theorem liX10_row : Cond.instanceMethod yX10_row ∈ lw_tbl := mt3 (List.mem_of_getElem? (i := 100) (by decide +kernel))
theorem lqX10_row : Cond.selects RX10 yX10_row yX10_row ∈ lw_tbl := mt3 (List.mem_of_getElem? (i := 101) (by decide +kernel))
abbrev mX10_tell : MD := (yX10_tell, cX10_tell, 4, none, 1, 26)
theorem okX10_tell : MOk mX10_tell 3 := ⟨mt4 (List.mem_of_getElem? (i := 74) rfl), mt1 (List.mem_of_getElem? (i := 2) (by decide +kernel)), by decide +kernel, ⟨by decide +kernel, by decide +kernel⟩, by decide +kernel⟩
theorem liX10_tell : Cond.instanceMethod yX10_tell ∈ lw_tbl := mt4 (List.mem_of_getElem? (i := 72) (by decide +kernel))
theorem lqX10_tell : Cond.selects RX10 yX10_tell yX10_tell ∈ lw_tbl := mt4 (List.mem_of_getElem? (i := 73) (by decide +kernel))
abbrev mX10_copy : MD := (yX10_copy, cX10_copy, 3, none, 1, 26)
theorem okX10_copy : MOk mX10_copy 1 := ⟨mt6 (List.mem_of_getElem? (i := 104) rfl), mt1 (List.mem_of_getElem? (i := 2) (by decide +kernel)), by decide +kernel, ⟨by decide +kernel, by decide +kernel⟩, by decide +kernel⟩
theorem liX10_copy : Cond.instanceMethod yX10_copy ∈ lw_tbl := mt6 (List.mem_of_getElem? (i := 102) (by decide +kernel))
theorem lqX10_copy : Cond.selects RX10 yX10_copy yX10_copy ∈ lw_tbl := mt6 (List.mem_of_getElem? (i := 103) (by decide +kernel))
abbrev mX10_degreeOf : MD := (yX10_degreeOf, cX10_degreeOf, 3, some (.int), 0, 0)
theorem okX10_degreeOf : MOk mX10_degreeOf 1 := ⟨mt5 (List.mem_of_getElem? (i := 20) rfl), mt1 (List.mem_of_getElem? (i := 2) (by decide +kernel)), by decide +kernel, ⟨by decide +kernel, by decide +kernel⟩, by decide +kernel⟩
theorem lsX10_degreeOf : Cond.static yX10_degreeOf ∈ lw_tbl := mt5 (List.mem_of_getElem? (i := 19) (by decide +kernel))
abbrev mX11_init : MD := (yX11_init, cX11_init, 1, none, 4, 80)
theorem okX11_init : MOk mX11_init 0 := ⟨mt1 (List.mem_of_getElem? (i := 25) rfl), mt1 (List.mem_of_getElem? (i := 1) (by decide +kernel)), by decide +kernel, ⟨by decide +kernel, by decide +kernel⟩, by decide +kernel⟩
theorem liX11_init : Cond.instanceMethod yX11_init ∈ lw_tbl := mt1 (List.mem_of_getElem? (i := 24) (by decide +kernel))
abbrev mX11_feed : MD := (yX11_feed, cX11_feed, 6, some (.int), 1, 22)
theorem okX11_feed : MOk mX11_feed 5 := ⟨mt3 (List.mem_of_getElem? (i := 84) rfl), mt1 (List.mem_of_getElem? (i := 1) (by decide +kernel)), by decide +kernel, ⟨by decide +kernel, by decide +kernel⟩, by decide +kernel⟩
theorem liX11_feed : Cond.instanceMethod yX11_feed ∈ lw_tbl := mt3 (List.mem_of_getElem? (i := 82) (by decide +kernel))
theorem lqX11_feed : Cond.selects RX11 yX11_feed yX11_feed ∈ lw_tbl := mt3 (List.mem_of_getElem? (i := 83) (by decide +kernel))
abbrev mX11_end : MD := (yX11_end, cX11_end, 2, some (.int), 0, 0)
theorem okX11_end : MOk mX11_end 1 := ⟨mt3 (List.mem_of_getElem? (i := 92) rfl), mt1 (List.mem_of_getElem? (i := 1) (by decide +kernel)), by decide +kernel, ⟨by decide +kernel, by decide +kernel⟩, by decide +kernel⟩
theorem liX11_end : Cond.instanceMethod yX11_end ∈ lw_tbl := mt3 (List.mem_of_getElem? (i := 90) (by decide +kernel))
theorem lqX11_end : Cond.selects RX11 yX11_end yX11_end ∈ lw_tbl := mt3 (List.mem_of_getElem? (i := 91) (by decide +kernel))
abbrev mX11_text : MD := (yX11_text, cX11_text, 6, some (.int), 8, 175)
theorem okX11_text : MOk mX11_text 2 := ⟨mt3 (List.mem_of_getElem? (i := 96) rfl), mt1 (List.mem_of_getElem? (i := 1) (by decide +kernel)), by decide +kernel, ⟨by decide +kernel, by decide +kernel⟩, by decide +kernel⟩
theorem liX11_text : Cond.instanceMethod yX11_text ∈ lw_tbl := mt3 (List.mem_of_getElem? (i := 94) (by decide +kernel))
theorem lqX11_text : Cond.selects RX11 yX11_text yX11_text ∈ lw_tbl := mt3 (List.mem_of_getElem? (i := 95) (by decide +kernel))
abbrev mX11_fault : MD := (yX11_fault, cX11_fault, 2, some (.int), 0, 0)
theorem okX11_fault : MOk mX11_fault 1 := ⟨mt4 (List.mem_of_getElem? (i := 84) rfl), mt1 (List.mem_of_getElem? (i := 1) (by decide +kernel)), by decide +kernel, ⟨by decide +kernel, by decide +kernel⟩, by decide +kernel⟩
theorem liX11_fault : Cond.instanceMethod yX11_fault ∈ lw_tbl := mt4 (List.mem_of_getElem? (i := 82) (by decide +kernel))
theorem lqX11_fault : Cond.selects RX11 yX11_fault yX11_fault ∈ lw_tbl := mt4 (List.mem_of_getElem? (i := 83) (by decide +kernel))
abbrev mX11_curve : MD := (yX11_curve, cX11_curve, 4, some (.int), 5, 115)
theorem okX11_curve : MOk mX11_curve 2 := ⟨mt4 (List.mem_of_getElem? (i := 88) rfl), mt1 (List.mem_of_getElem? (i := 1) (by decide +kernel)), by decide +kernel, ⟨by decide +kernel, by decide +kernel⟩, by decide +kernel⟩
theorem liX11_curve : Cond.instanceMethod yX11_curve ∈ lw_tbl := mt4 (List.mem_of_getElem? (i := 86) (by decide +kernel))
theorem lqX11_curve : Cond.selects RX11 yX11_curve yX11_curve ∈ lw_tbl := mt4 (List.mem_of_getElem? (i := 87) (by decide +kernel))
abbrev mX11_sum : MD := (yX11_sum, cX11_sum, 6, some (.int), 1, 22)
theorem okX11_sum : MOk mX11_sum 2 := ⟨mt4 (List.mem_of_getElem? (i := 153) rfl), mt1 (List.mem_of_getElem? (i := 1) (by decide +kernel)), by decide +kernel, ⟨by decide +kernel, by decide +kernel⟩, by decide +kernel⟩
theorem liX11_sum : Cond.instanceMethod yX11_sum ∈ lw_tbl := mt4 (List.mem_of_getElem? (i := 151) (by decide +kernel))
theorem lqX11_sum : Cond.selects RX11 yX11_sum yX11_sum ∈ lw_tbl := mt4 (List.mem_of_getElem? (i := 152) (by decide +kernel))
abbrev mX11_function : MD := (yX11_function, cX11_function, 5, some (.int), 1, 22)
theorem okX11_function : MOk mX11_function 3 := ⟨mt4 (List.mem_of_getElem? (i := 157) rfl), mt1 (List.mem_of_getElem? (i := 1) (by decide +kernel)), by decide +kernel, ⟨by decide +kernel, by decide +kernel⟩, by decide +kernel⟩
theorem liX11_function : Cond.instanceMethod yX11_function ∈ lw_tbl := mt4 (List.mem_of_getElem? (i := 155) (by decide +kernel))
theorem lqX11_function : Cond.selects RX11 yX11_function yX11_function ∈ lw_tbl := mt4 (List.mem_of_getElem? (i := 156) (by decide +kernel))
abbrev mX11_point : MD := (yX11_point, cX11_point, 4, some (.int), 5, 115)
theorem okX11_point : MOk mX11_point 3 := ⟨mt4 (List.mem_of_getElem? (i := 161) rfl), mt1 (List.mem_of_getElem? (i := 1) (by decide +kernel)), by decide +kernel, ⟨by decide +kernel, by decide +kernel⟩, by decide +kernel⟩
theorem liX11_point : Cond.instanceMethod yX11_point ∈ lw_tbl := mt4 (List.mem_of_getElem? (i := 159) (by decide +kernel))
theorem lqX11_point : Cond.selects RX11 yX11_point yX11_point ∈ lw_tbl := mt4 (List.mem_of_getElem? (i := 160) (by decide +kernel))
abbrev mX11_counted : MD := (yX11_counted, cX11_counted, 4, some (.long), 5, 115)
theorem okX11_counted : MOk mX11_counted 3 := ⟨mt4 (List.mem_of_getElem? (i := 170) rfl), mt1 (List.mem_of_getElem? (i := 1) (by decide +kernel)), by decide +kernel, ⟨by decide +kernel, by decide +kernel⟩, by decide +kernel⟩
theorem liX11_counted : Cond.instanceMethod yX11_counted ∈ lw_tbl := mt4 (List.mem_of_getElem? (i := 168) (by decide +kernel))
theorem lqX11_counted : Cond.selects RX11 yX11_counted yX11_counted ∈ lw_tbl := mt4 (List.mem_of_getElem? (i := 169) (by decide +kernel))
abbrev mX11_share : MD := (yX11_share, cX11_share, 3, some (.int), 5, 115)
theorem okX11_share : MOk mX11_share 2 := ⟨mt4 (List.mem_of_getElem? (i := 175) rfl), mt1 (List.mem_of_getElem? (i := 1) (by decide +kernel)), by decide +kernel, ⟨by decide +kernel, by decide +kernel⟩, by decide +kernel⟩
theorem liX11_share : Cond.instanceMethod yX11_share ∈ lw_tbl := mt4 (List.mem_of_getElem? (i := 173) (by decide +kernel))
theorem lqX11_share : Cond.selects RX11 yX11_share yX11_share ∈ lw_tbl := mt4 (List.mem_of_getElem? (i := 174) (by decide +kernel))
abbrev mX11_fits : MD := (yX11_fits, cX11_fits, 3, some (.boolean), 6, 138)
theorem okX11_fits : MOk mX11_fits 2 := ⟨mt4 (List.mem_of_getElem? (i := 180) rfl), mt1 (List.mem_of_getElem? (i := 1) (by decide +kernel)), by decide +kernel, ⟨by decide +kernel, by decide +kernel⟩, by decide +kernel⟩
theorem liX11_fits : Cond.instanceMethod yX11_fits ∈ lw_tbl := mt4 (List.mem_of_getElem? (i := 178) (by decide +kernel))
theorem lqX11_fits : Cond.selects RX11 yX11_fits yX11_fits ∈ lw_tbl := mt4 (List.mem_of_getElem? (i := 179) (by decide +kernel))
abbrev mX11_order : MD := (yX11_order, cX11_order, 4, some (.int), 6, 138)
theorem okX11_order : MOk mX11_order 3 := ⟨mt4 (List.mem_of_getElem? (i := 196) rfl), mt1 (List.mem_of_getElem? (i := 1) (by decide +kernel)), by decide +kernel, ⟨by decide +kernel, by decide +kernel⟩, by decide +kernel⟩
theorem liX11_order : Cond.instanceMethod yX11_order ∈ lw_tbl := mt4 (List.mem_of_getElem? (i := 194) (by decide +kernel))
theorem lqX11_order : Cond.selects RX11 yX11_order yX11_order ∈ lw_tbl := mt4 (List.mem_of_getElem? (i := 195) (by decide +kernel))
abbrev mX11_norm : MD := (yX11_norm, cX11_norm, 5, some (.int), 6, 142)
theorem okX11_norm : MOk mX11_norm 3 := ⟨mt4 (List.mem_of_getElem? (i := 239) rfl), mt1 (List.mem_of_getElem? (i := 1) (by decide +kernel)), by decide +kernel, ⟨by decide +kernel, by decide +kernel⟩, by decide +kernel⟩
theorem liX11_norm : Cond.instanceMethod yX11_norm ∈ lw_tbl := mt4 (List.mem_of_getElem? (i := 237) (by decide +kernel))
theorem lqX11_norm : Cond.selects RX11 yX11_norm yX11_norm ∈ lw_tbl := mt4 (List.mem_of_getElem? (i := 238) (by decide +kernel))
abbrev mX11_room : MD := (yX11_room, cX11_room, 4, some (.int), 7, 171)
theorem okX11_room : MOk mX11_room 3 := ⟨mt5 (List.mem_of_getElem? (i := 9) rfl), mt1 (List.mem_of_getElem? (i := 1) (by decide +kernel)), by decide +kernel, ⟨by decide +kernel, by decide +kernel⟩, by decide +kernel⟩
theorem liX11_room : Cond.instanceMethod yX11_room ∈ lw_tbl := mt5 (List.mem_of_getElem? (i := 7) (by decide +kernel))
theorem lqX11_room : Cond.selects RX11 yX11_room yX11_room ∈ lw_tbl := mt5 (List.mem_of_getElem? (i := 8) (by decide +kernel))
abbrev mX11_base : MD := (yX11_base, cX11_base, 7, some (.int), 7, 171)
theorem okX11_base : MOk mX11_base 5 := ⟨mt5 (List.mem_of_getElem? (i := 61) rfl), mt1 (List.mem_of_getElem? (i := 1) (by decide +kernel)), by decide +kernel, ⟨by decide +kernel, by decide +kernel⟩, by decide +kernel⟩
theorem liX11_base : Cond.instanceMethod yX11_base ∈ lw_tbl := mt5 (List.mem_of_getElem? (i := 59) (by decide +kernel))
theorem lqX11_base : Cond.selects RX11 yX11_base yX11_base ∈ lw_tbl := mt5 (List.mem_of_getElem? (i := 60) (by decide +kernel))
abbrev mX11_under : MD := (yX11_under, cX11_under, 4, some (.int), 7, 171)
theorem okX11_under : MOk mX11_under 3 := ⟨mt5 (List.mem_of_getElem? (i := 69) rfl), mt1 (List.mem_of_getElem? (i := 1) (by decide +kernel)), by decide +kernel, ⟨by decide +kernel, by decide +kernel⟩, by decide +kernel⟩
theorem liX11_under : Cond.instanceMethod yX11_under ∈ lw_tbl := mt5 (List.mem_of_getElem? (i := 67) (by decide +kernel))
theorem lqX11_under : Cond.selects RX11 yX11_under yX11_under ∈ lw_tbl := mt5 (List.mem_of_getElem? (i := 68) (by decide +kernel))
abbrev mX11_gap : MD := (yX11_gap, cX11_gap, 4, some (.int), 5, 115)
theorem okX11_gap : MOk mX11_gap 3 := ⟨mt5 (List.mem_of_getElem? (i := 73) rfl), mt1 (List.mem_of_getElem? (i := 1) (by decide +kernel)), by decide +kernel, ⟨by decide +kernel, by decide +kernel⟩, by decide +kernel⟩
theorem liX11_gap : Cond.instanceMethod yX11_gap ∈ lw_tbl := mt5 (List.mem_of_getElem? (i := 71) (by decide +kernel))
theorem lqX11_gap : Cond.selects RX11 yX11_gap yX11_gap ∈ lw_tbl := mt5 (List.mem_of_getElem? (i := 72) (by decide +kernel))
abbrev mX11_times : MD := (yX11_times, cX11_times, 5, some (.int), 6, 149)
theorem okX11_times : MOk mX11_times 4 := ⟨mt5 (List.mem_of_getElem? (i := 77) rfl), mt1 (List.mem_of_getElem? (i := 1) (by decide +kernel)), by decide +kernel, ⟨by decide +kernel, by decide +kernel⟩, by decide +kernel⟩
theorem liX11_times : Cond.instanceMethod yX11_times ∈ lw_tbl := mt5 (List.mem_of_getElem? (i := 75) (by decide +kernel))
theorem lqX11_times : Cond.selects RX11 yX11_times yX11_times ∈ lw_tbl := mt5 (List.mem_of_getElem? (i := 76) (by decide +kernel))
abbrev mX11_added : MD := (yX11_added, cX11_added, 5, some (.int), 7, 171)
theorem okX11_added : MOk mX11_added 4 := ⟨mt5 (List.mem_of_getElem? (i := 134) rfl), mt1 (List.mem_of_getElem? (i := 1) (by decide +kernel)), by decide +kernel, ⟨by decide +kernel, by decide +kernel⟩, by decide +kernel⟩
theorem liX11_added : Cond.instanceMethod yX11_added ∈ lw_tbl := mt5 (List.mem_of_getElem? (i := 132) (by decide +kernel))
theorem lqX11_added : Cond.selects RX11 yX11_added yX11_added ∈ lw_tbl := mt5 (List.mem_of_getElem? (i := 133) (by decide +kernel))
abbrev mX11_orderOf : MD := (yX11_orderOf, cX11_orderOf, 3, some (.int), 6, 149)
theorem okX11_orderOf : MOk mX11_orderOf 2 := ⟨mt5 (List.mem_of_getElem? (i := 147) rfl), mt1 (List.mem_of_getElem? (i := 1) (by decide +kernel)), by decide +kernel, ⟨by decide +kernel, by decide +kernel⟩, by decide +kernel⟩
theorem liX11_orderOf : Cond.instanceMethod yX11_orderOf ∈ lw_tbl := mt5 (List.mem_of_getElem? (i := 145) (by decide +kernel))
theorem lqX11_orderOf : Cond.selects RX11 yX11_orderOf yX11_orderOf ∈ lw_tbl := mt5 (List.mem_of_getElem? (i := 146) (by decide +kernel))
abbrev mX11_same : MD := (yX11_same, cX11_same, 4, some (.boolean), 7, 171)
theorem okX11_same : MOk mX11_same 3 := ⟨mt5 (List.mem_of_getElem? (i := 159) rfl), mt1 (List.mem_of_getElem? (i := 1) (by decide +kernel)), by decide +kernel, ⟨by decide +kernel, by decide +kernel⟩, by decide +kernel⟩
theorem liX11_same : Cond.instanceMethod yX11_same ∈ lw_tbl := mt5 (List.mem_of_getElem? (i := 157) (by decide +kernel))
theorem lqX11_same : Cond.selects RX11 yX11_same yX11_same ∈ lw_tbl := mt5 (List.mem_of_getElem? (i := 158) (by decide +kernel))
abbrev mX11_log : MD := (yX11_log, cX11_log, 4, some (.int), 7, 171)
theorem okX11_log : MOk mX11_log 3 := ⟨mt5 (List.mem_of_getElem? (i := 172) rfl), mt1 (List.mem_of_getElem? (i := 1) (by decide +kernel)), by decide +kernel, ⟨by decide +kernel, by decide +kernel⟩, by decide +kernel⟩
theorem liX11_log : Cond.instanceMethod yX11_log ∈ lw_tbl := mt5 (List.mem_of_getElem? (i := 170) (by decide +kernel))
theorem lqX11_log : Cond.selects RX11 yX11_log yX11_log ∈ lw_tbl := mt5 (List.mem_of_getElem? (i := 171) (by decide +kernel))
abbrev mX11_torsion : MD := (yX11_torsion, cX11_torsion, 3, some (.int), 7, 169)
theorem okX11_torsion : MOk mX11_torsion 2 := ⟨mt5 (List.mem_of_getElem? (i := 181) rfl), mt1 (List.mem_of_getElem? (i := 1) (by decide +kernel)), by decide +kernel, ⟨by decide +kernel, by decide +kernel⟩, by decide +kernel⟩
theorem liX11_torsion : Cond.instanceMethod yX11_torsion ∈ lw_tbl := mt5 (List.mem_of_getElem? (i := 179) (by decide +kernel))
theorem lqX11_torsion : Cond.selects RX11 yX11_torsion yX11_torsion ∈ lw_tbl := mt5 (List.mem_of_getElem? (i := 180) (by decide +kernel))
abbrev mX11_change : MD := (yX11_change, cX11_change, 5, some (.int), 5, 115)
theorem okX11_change : MOk mX11_change 3 := ⟨mt5 (List.mem_of_getElem? (i := 234) rfl), mt1 (List.mem_of_getElem? (i := 1) (by decide +kernel)), by decide +kernel, ⟨by decide +kernel, by decide +kernel⟩, by decide +kernel⟩
theorem liX11_change : Cond.instanceMethod yX11_change ∈ lw_tbl := mt5 (List.mem_of_getElem? (i := 232) (by decide +kernel))
theorem lqX11_change : Cond.selects RX11 yX11_change yX11_change ∈ lw_tbl := mt5 (List.mem_of_getElem? (i := 233) (by decide +kernel))
abbrev mX11_like : MD := (yX11_like, cX11_like, 4, some (.boolean), 5, 115)
theorem okX11_like : MOk mX11_like 2 := ⟨mt6 (List.mem_of_getElem? (i := 6) rfl), mt1 (List.mem_of_getElem? (i := 1) (by decide +kernel)), by decide +kernel, ⟨by decide +kernel, by decide +kernel⟩, by decide +kernel⟩
theorem liX11_like : Cond.instanceMethod yX11_like ∈ lw_tbl := mt6 (List.mem_of_getElem? (i := 4) (by decide +kernel))
theorem lqX11_like : Cond.selects RX11 yX11_like yX11_like ∈ lw_tbl := mt6 (List.mem_of_getElem? (i := 5) (by decide +kernel))
abbrev mX11_twist : MD := (yX11_twist, cX11_twist, 3, some (.int), 5, 115)
theorem okX11_twist : MOk mX11_twist 2 := ⟨mt6 (List.mem_of_getElem? (i := 10) rfl), mt1 (List.mem_of_getElem? (i := 1) (by decide +kernel)), by decide +kernel, ⟨by decide +kernel, by decide +kernel⟩, by decide +kernel⟩
theorem liX11_twist : Cond.instanceMethod yX11_twist ∈ lw_tbl := mt6 (List.mem_of_getElem? (i := 8) (by decide +kernel))
theorem lqX11_twist : Cond.selects RX11 yX11_twist yX11_twist ∈ lw_tbl := mt6 (List.mem_of_getElem? (i := 9) (by decide +kernel))
abbrev mX11_code : MD := (yX11_code, cX11_code, 4, some (.int), 7, 171)
theorem okX11_code : MOk mX11_code 3 := ⟨mt6 (List.mem_of_getElem? (i := 14) rfl), mt1 (List.mem_of_getElem? (i := 1) (by decide +kernel)), by decide +kernel, ⟨by decide +kernel, by decide +kernel⟩, by decide +kernel⟩
theorem liX11_code : Cond.instanceMethod yX11_code ∈ lw_tbl := mt6 (List.mem_of_getElem? (i := 12) (by decide +kernel))
theorem lqX11_code : Cond.selects RX11 yX11_code yX11_code ∈ lw_tbl := mt6 (List.mem_of_getElem? (i := 13) (by decide +kernel))
abbrev mX11_sent : MD := (yX11_sent, cX11_sent, 5, some (.int), 7, 171)
theorem okX11_sent : MOk mX11_sent 4 := ⟨mt6 (List.mem_of_getElem? (i := 64) rfl), mt1 (List.mem_of_getElem? (i := 1) (by decide +kernel)), by decide +kernel, ⟨by decide +kernel, by decide +kernel⟩, by decide +kernel⟩
theorem liX11_sent : Cond.instanceMethod yX11_sent ∈ lw_tbl := mt6 (List.mem_of_getElem? (i := 62) (by decide +kernel))
theorem lqX11_sent : Cond.selects RX11 yX11_sent yX11_sent ∈ lw_tbl := mt6 (List.mem_of_getElem? (i := 63) (by decide +kernel))
abbrev mX11_mended : MD := (yX11_mended, cX11_mended, 7, some (.int), 7, 171)
theorem okX11_mended : MOk mX11_mended 6 := ⟨mt6 (List.mem_of_getElem? (i := 72) rfl), mt1 (List.mem_of_getElem? (i := 1) (by decide +kernel)), by decide +kernel, ⟨by decide +kernel, by decide +kernel⟩, by decide +kernel⟩
theorem liX11_mended : Cond.instanceMethod yX11_mended ∈ lw_tbl := mt6 (List.mem_of_getElem? (i := 70) (by decide +kernel))
theorem lqX11_mended : Cond.selects RX11 yX11_mended yX11_mended ∈ lw_tbl := mt6 (List.mem_of_getElem? (i := 71) (by decide +kernel))
abbrev mX11_count : MD := (yX11_count, cX11_count, 2, some (.int), 0, 0)
theorem okX11_count : MOk mX11_count 1 := ⟨mt6 (List.mem_of_getElem? (i := 96) rfl), mt1 (List.mem_of_getElem? (i := 1) (by decide +kernel)), by decide +kernel, ⟨by decide +kernel, by decide +kernel⟩, by decide +kernel⟩
theorem liX11_count : Cond.instanceMethod yX11_count ∈ lw_tbl := mt6 (List.mem_of_getElem? (i := 94) (by decide +kernel))
theorem lqX11_count : Cond.selects RX11 yX11_count yX11_count ∈ lw_tbl := mt6 (List.mem_of_getElem? (i := 95) (by decide +kernel))
abbrev mX11_image : MD := (yX11_image, cX11_image, 2, some (.boolean), 2, 48)
theorem okX11_image : MOk mX11_image 1 := ⟨mt6 (List.mem_of_getElem? (i := 100) rfl), mt1 (List.mem_of_getElem? (i := 1) (by decide +kernel)), by decide +kernel, ⟨by decide +kernel, by decide +kernel⟩, by decide +kernel⟩
theorem liX11_image : Cond.instanceMethod yX11_image ∈ lw_tbl := mt6 (List.mem_of_getElem? (i := 98) (by decide +kernel))
theorem lqX11_image : Cond.selects RX11 yX11_image yX11_image ∈ lw_tbl := mt6 (List.mem_of_getElem? (i := 99) (by decide +kernel))
abbrev mX11_again : MD := (yX11_again, cX11_again, 2, some (.boolean), 2, 48)
theorem okX11_again : MOk mX11_again 1 := ⟨mt6 (List.mem_of_getElem? (i := 108) rfl), mt1 (List.mem_of_getElem? (i := 1) (by decide +kernel)), by decide +kernel, ⟨by decide +kernel, by decide +kernel⟩, by decide +kernel⟩
theorem liX11_again : Cond.instanceMethod yX11_again ∈ lw_tbl := mt6 (List.mem_of_getElem? (i := 106) (by decide +kernel))
theorem lqX11_again : Cond.selects RX11 yX11_again yX11_again ∈ lw_tbl := mt6 (List.mem_of_getElem? (i := 107) (by decide +kernel))
abbrev mX11_forget : MD := (yX11_forget, cX11_forget, 1, none, 0, 0)
theorem okX11_forget : MOk mX11_forget 0 := ⟨mt4 (List.mem_of_getElem? (i := 80) rfl), mt1 (List.mem_of_getElem? (i := 1) (by decide +kernel)), by decide +kernel, ⟨by decide +kernel, by decide +kernel⟩, by decide +kernel⟩
theorem liX11_forget : Cond.instanceMethod yX11_forget ∈ lw_tbl := mt4 (List.mem_of_getElem? (i := 79) (by decide +kernel))
theorem lqX11_forget : Cond.selects RX11 yX11_forget yX11_forget ∈ lw_tbl := mp2 (List.mem_of_getElem? (i := 1) (by decide +kernel))
abbrev mX11_isSound : MD := (yX11_isSound, cX11_isSound, 4, some (.boolean), 3, 76)
theorem okX11_isSound : MOk mX11_isSound 1 := ⟨mt4 (List.mem_of_getElem? (i := 0) rfl), mt1 (List.mem_of_getElem? (i := 1) (by decide +kernel)), by decide +kernel, ⟨by decide +kernel, by decide +kernel⟩, by decide +kernel⟩
theorem liX11_isSound : Cond.instanceMethod yX11_isSound ∈ lw_tbl := mt3 (List.mem_of_getElem? (i := 239) (by decide +kernel))
theorem lqX11_isSound : Cond.selects RX11 yX11_isSound yX11_isSound ∈ lw_tbl := mp1 (List.mem_of_getElem? (i := 15) (by decide +kernel))
abbrev mX11_isReady : MD := (yX11_isReady, cX11_isReady, 3, some (.boolean), 4, 93)
theorem okX11_isReady : MOk mX11_isReady 1 := ⟨mt4 (List.mem_of_getElem? (i := 92) rfl), mt1 (List.mem_of_getElem? (i := 1) (by decide +kernel)), by decide +kernel, ⟨by decide +kernel, by decide +kernel⟩, by decide +kernel⟩
theorem liX11_isReady : Cond.instanceMethod yX11_isReady ∈ lw_tbl := mt4 (List.mem_of_getElem? (i := 91) (by decide +kernel))
theorem lqX11_isReady : Cond.selects RX11 yX11_isReady yX11_isReady ∈ lw_tbl := mp2 (List.mem_of_getElem? (i := 2) (by decide +kernel))
abbrev mX11_isMeasured : MD := (yX11_isMeasured, cX11_isMeasured, 4, some (.boolean), 5, 115)
theorem okX11_isMeasured : MOk mX11_isMeasured 2 := ⟨mt4 (List.mem_of_getElem? (i := 200) rfl), mt1 (List.mem_of_getElem? (i := 1) (by decide +kernel)), by decide +kernel, ⟨by decide +kernel, by decide +kernel⟩, by decide +kernel⟩
theorem liX11_isMeasured : Cond.instanceMethod yX11_isMeasured ∈ lw_tbl := mt4 (List.mem_of_getElem? (i := 199) (by decide +kernel))
theorem lqX11_isMeasured : Cond.selects RX11 yX11_isMeasured yX11_isMeasured ∈ lw_tbl := mp2 (List.mem_of_getElem? (i := 10) (by decide +kernel))
abbrev mX11_isFitting : MD := (yX11_isFitting, cX11_isFitting, 4, some (.boolean), 5, 115)
theorem okX11_isFitting : MOk mX11_isFitting 2 := ⟨mt4 (List.mem_of_getElem? (i := 184) rfl), mt1 (List.mem_of_getElem? (i := 1) (by decide +kernel)), by decide +kernel, ⟨by decide +kernel, by decide +kernel⟩, by decide +kernel⟩
theorem liX11_isFitting : Cond.instanceMethod yX11_isFitting ∈ lw_tbl := mt4 (List.mem_of_getElem? (i := 183) (by decide +kernel))
theorem lqX11_isFitting : Cond.selects RX11 yX11_isFitting yX11_isFitting ∈ lw_tbl := mp2 (List.mem_of_getElem? (i := 9) (by decide +kernel))
abbrev mX11_areFitting : MD := (yX11_areFitting, cX11_areFitting, 4, some (.boolean), 6, 138)
theorem okX11_areFitting : MOk mX11_areFitting 3 := ⟨mt5 (List.mem_of_getElem? (i := 138) rfl), mt1 (List.mem_of_getElem? (i := 1) (by decide +kernel)), by decide +kernel, ⟨by decide +kernel, by decide +kernel⟩, by decide +kernel⟩
theorem liX11_areFitting : Cond.instanceMethod yX11_areFitting ∈ lw_tbl := mt5 (List.mem_of_getElem? (i := 137) (by decide +kernel))
theorem lqX11_areFitting : Cond.selects RX11 yX11_areFitting yX11_areFitting ∈ lw_tbl := mp3 (List.mem_of_getElem? (i := 7) (by decide +kernel))
abbrev mX11_takeClasses : MD := (yX11_takeClasses, cX11_takeClasses, 3, none, 6, 149)
theorem okX11_takeClasses : MOk mX11_takeClasses 2 := ⟨mt5 (List.mem_of_getElem? (i := 142) rfl), mt1 (List.mem_of_getElem? (i := 1) (by decide +kernel)), by decide +kernel, ⟨by decide +kernel, by decide +kernel⟩, by decide +kernel⟩
theorem liX11_takeClasses : Cond.instanceMethod yX11_takeClasses ∈ lw_tbl := mt5 (List.mem_of_getElem? (i := 141) (by decide +kernel))
theorem lqX11_takeClasses : Cond.selects RX11 yX11_takeClasses yX11_takeClasses ∈ lw_tbl := mp3 (List.mem_of_getElem? (i := 8) (by decide +kernel))
abbrev mX11_isRoomReady : MD := (yX11_isRoomReady, cX11_isRoomReady, 4, some (.boolean), 6, 148)
theorem okX11_isRoomReady : MOk mX11_isRoomReady 2 := ⟨mt5 (List.mem_of_getElem? (i := 13) rfl), mt1 (List.mem_of_getElem? (i := 1) (by decide +kernel)), by decide +kernel, ⟨by decide +kernel, by decide +kernel⟩, by decide +kernel⟩
theorem liX11_isRoomReady : Cond.instanceMethod yX11_isRoomReady ∈ lw_tbl := mt5 (List.mem_of_getElem? (i := 12) (by decide +kernel))
theorem lqX11_isRoomReady : Cond.selects RX11 yX11_isRoomReady yX11_isRoomReady ∈ lw_tbl := mp2 (List.mem_of_getElem? (i := 13) (by decide +kernel))
abbrev mX11_readyCode : MD := (yX11_readyCode, cX11_readyCode, 1, none, 4, 97)
theorem okX11_readyCode : MOk mX11_readyCode 0 := ⟨mt6 (List.mem_of_getElem? (i := 18) rfl), mt1 (List.mem_of_getElem? (i := 1) (by decide +kernel)), by decide +kernel, ⟨by decide +kernel, by decide +kernel⟩, by decide +kernel⟩
theorem liX11_readyCode : Cond.instanceMethod yX11_readyCode ∈ lw_tbl := mt6 (List.mem_of_getElem? (i := 17) (by decide +kernel))
theorem lqX11_readyCode : Cond.selects RX11 yX11_readyCode yX11_readyCode ∈ lw_tbl := mp4 (List.mem_of_getElem? (i := 1) (by decide +kernel))
abbrev mX12_init : MD := (yX12_init, cX12_init, 1, none, 1, 20)
theorem okX12_init : MOk mX12_init 0 := ⟨mt6 (List.mem_of_getElem? (i := 113) rfl), mt1 (List.mem_of_getElem? (i := 13) (by decide +kernel)), by decide +kernel, ⟨by decide +kernel, by decide +kernel⟩, by decide +kernel⟩
theorem liX12_init : Cond.instanceMethod yX12_init ∈ lw_tbl := mt6 (List.mem_of_getElem? (i := 112) (by decide +kernel))
abbrev mX12_isIn : MD := (yX12_isIn, cX12_isIn, 3, some (.boolean), 0, 0)
theorem okX12_isIn : MOk mX12_isIn 3 := ⟨mt7 (List.mem_of_getElem? (i := 28) rfl), mt1 (List.mem_of_getElem? (i := 13) (by decide +kernel)), by decide +kernel, ⟨by decide +kernel, by decide +kernel⟩, by decide +kernel⟩
theorem lsX12_isIn : Cond.static yX12_isIn ∈ lw_tbl := mt7 (List.mem_of_getElem? (i := 27) (by decide +kernel))
abbrev mX12_feed : MD := (yX12_feed, cX12_feed, 8, some (.int), 0, 0)
theorem okX12_feed : MOk mX12_feed 5 := ⟨mt7 (List.mem_of_getElem? (i := 17) rfl), mt1 (List.mem_of_getElem? (i := 13) (by decide +kernel)), by decide +kernel, ⟨by decide +kernel, by decide +kernel⟩, by decide +kernel⟩
theorem liX12_feed : Cond.instanceMethod yX12_feed ∈ lw_tbl := mt7 (List.mem_of_getElem? (i := 15) (by decide +kernel))
theorem lqX12_feed : Cond.selects RX12 yX12_feed yX12_feed ∈ lw_tbl := mt7 (List.mem_of_getElem? (i := 16) (by decide +kernel))
abbrev mX12_end : MD := (yX12_end, cX12_end, 2, some (.int), 0, 0)
theorem okX12_end : MOk mX12_end 1 := ⟨mt7 (List.mem_of_getElem? (i := 21) rfl), mt1 (List.mem_of_getElem? (i := 13) (by decide +kernel)), by decide +kernel, ⟨by decide +kernel, by decide +kernel⟩, by decide +kernel⟩
theorem liX12_end : Cond.instanceMethod yX12_end ∈ lw_tbl := mt7 (List.mem_of_getElem? (i := 19) (by decide +kernel))
theorem lqX12_end : Cond.selects RX12 yX12_end yX12_end ∈ lw_tbl := mt7 (List.mem_of_getElem? (i := 20) (by decide +kernel))
abbrev mX12_byteAt : MD := (yX12_byteAt, cX12_byteAt, 2, some (.int), 0, 0)
theorem okX12_byteAt : MOk mX12_byteAt 1 := ⟨mt7 (List.mem_of_getElem? (i := 40) rfl), mt1 (List.mem_of_getElem? (i := 13) (by decide +kernel)), by decide +kernel, ⟨by decide +kernel, by decide +kernel⟩, by decide +kernel⟩
theorem liX12_byteAt : Cond.instanceMethod yX12_byteAt ∈ lw_tbl := mt7 (List.mem_of_getElem? (i := 39) (by decide +kernel))
theorem lqX12_byteAt : Cond.selects RX12 yX12_byteAt yX12_byteAt ∈ lw_tbl := mp4 (List.mem_of_getElem? (i := 11) (by decide +kernel))
abbrev mX12_isLetter : MD := (yX12_isLetter, cX12_isLetter, 1, some (.boolean), 0, 0)
theorem okX12_isLetter : MOk mX12_isLetter 1 := ⟨mt7 (List.mem_of_getElem? (i := 43) rfl), mt1 (List.mem_of_getElem? (i := 13) (by decide +kernel)), by decide +kernel, ⟨by decide +kernel, by decide +kernel⟩, by decide +kernel⟩
theorem lsX12_isLetter : Cond.static yX12_isLetter ∈ lw_tbl := mt7 (List.mem_of_getElem? (i := 42) (by decide +kernel))
abbrev mX12_isDigit : MD := (yX12_isDigit, cX12_isDigit, 1, some (.boolean), 0, 0)
theorem okX12_isDigit : MOk mX12_isDigit 1 := ⟨mt7 (List.mem_of_getElem? (i := 51) rfl), mt1 (List.mem_of_getElem? (i := 13) (by decide +kernel)), by decide +kernel, ⟨by decide +kernel, by decide +kernel⟩, by decide +kernel⟩
theorem lsX12_isDigit : Cond.static yX12_isDigit ∈ lw_tbl := mt7 (List.mem_of_getElem? (i := 50) (by decide +kernel))
abbrev mX12_wordOf : MD := (yX12_wordOf, cX12_wordOf, 1, some (.int), 0, 0)
theorem okX12_wordOf : MOk mX12_wordOf 1 := ⟨mt7 (List.mem_of_getElem? (i := 46) rfl), mt1 (List.mem_of_getElem? (i := 13) (by decide +kernel)), by decide +kernel, ⟨by decide +kernel, by decide +kernel⟩, by decide +kernel⟩
theorem lsX12_wordOf : Cond.static yX12_wordOf ∈ lw_tbl := mt7 (List.mem_of_getElem? (i := 45) (by decide +kernel))
abbrev mX12_advance : MD := (yX12_advance, cX12_advance, 3, none, 1, 21)
theorem okX12_advance : MOk mX12_advance 0 := ⟨mt7 (List.mem_of_getElem? (i := 36) rfl), mt1 (List.mem_of_getElem? (i := 13) (by decide +kernel)), by decide +kernel, ⟨by decide +kernel, by decide +kernel⟩, by decide +kernel⟩
theorem liX12_advance : Cond.instanceMethod yX12_advance ∈ lw_tbl := mt7 (List.mem_of_getElem? (i := 35) (by decide +kernel))
theorem lqX12_advance : Cond.selects RX12 yX12_advance yX12_advance ∈ lw_tbl := mp4 (List.mem_of_getElem? (i := 10) (by decide +kernel))
abbrev mX12_ends : MD := (yX12_ends, cX12_ends, 1, none, 0, 0)
theorem okX12_ends : MOk mX12_ends 0 := ⟨mt7 (List.mem_of_getElem? (i := 63) rfl), mt1 (List.mem_of_getElem? (i := 13) (by decide +kernel)), by decide +kernel, ⟨by decide +kernel, by decide +kernel⟩, by decide +kernel⟩
theorem liX12_ends : Cond.instanceMethod yX12_ends ∈ lw_tbl := mt7 (List.mem_of_getElem? (i := 62) (by decide +kernel))
theorem lqX12_ends : Cond.selects RX12 yX12_ends yX12_ends ∈ lw_tbl := mp4 (List.mem_of_getElem? (i := 14) (by decide +kernel))
abbrev mX12_also : MD := (yX12_also, cX12_also, 3, none, 0, 0)
theorem okX12_also : MOk mX12_also 2 := ⟨mt7 (List.mem_of_getElem? (i := 70) rfl), mt1 (List.mem_of_getElem? (i := 13) (by decide +kernel)), by decide +kernel, ⟨by decide +kernel, by decide +kernel⟩, by decide +kernel⟩
theorem liX12_also : Cond.instanceMethod yX12_also ∈ lw_tbl := mt7 (List.mem_of_getElem? (i := 69) (by decide +kernel))
theorem lqX12_also : Cond.selects RX12 yX12_also yX12_also ∈ lw_tbl := mp4 (List.mem_of_getElem? (i := 15) (by decide +kernel))
abbrev mX12_numbered : MD := (yX12_numbered, cX12_numbered, 4, some (.int), 2, 43)
theorem okX12_numbered : MOk mX12_numbered 2 := ⟨mt7 (List.mem_of_getElem? (i := 74) rfl), mt1 (List.mem_of_getElem? (i := 13) (by decide +kernel)), by decide +kernel, ⟨by decide +kernel, by decide +kernel⟩, by decide +kernel⟩
theorem liX12_numbered : Cond.instanceMethod yX12_numbered ∈ lw_tbl := mt7 (List.mem_of_getElem? (i := 73) (by decide +kernel))
theorem lqX12_numbered : Cond.selects RX12 yX12_numbered yX12_numbered ∈ lw_tbl := mp5 (List.mem_of_getElem? (i := 0) (by decide +kernel))
abbrev mX12_signed : MD := (yX12_signed, cX12_signed, 4, some (.int), 3, 66)
theorem okX12_signed : MOk mX12_signed 1 := ⟨mt7 (List.mem_of_getElem? (i := 86) rfl), mt1 (List.mem_of_getElem? (i := 13) (by decide +kernel)), by decide +kernel, ⟨by decide +kernel, by decide +kernel⟩, by decide +kernel⟩
theorem liX12_signed : Cond.instanceMethod yX12_signed ∈ lw_tbl := mt7 (List.mem_of_getElem? (i := 85) (by decide +kernel))
theorem lqX12_signed : Cond.selects RX12 yX12_signed yX12_signed ∈ lw_tbl := mp5 (List.mem_of_getElem? (i := 3) (by decide +kernel))
abbrev mX12_takes : MD := (yX12_takes, cX12_takes, 4, some (.int), 2, 43)
theorem okX12_takes : MOk mX12_takes 2 := ⟨mt7 (List.mem_of_getElem? (i := 59) rfl), mt1 (List.mem_of_getElem? (i := 13) (by decide +kernel)), by decide +kernel, ⟨by decide +kernel, by decide +kernel⟩, by decide +kernel⟩
theorem liX12_takes : Cond.instanceMethod yX12_takes ∈ lw_tbl := mt7 (List.mem_of_getElem? (i := 58) (by decide +kernel))
theorem lqX12_takes : Cond.selects RX12 yX12_takes yX12_takes ∈ lw_tbl := mp4 (List.mem_of_getElem? (i := 13) (by decide +kernel))
abbrev mX12_endsLine : MD := (yX12_endsLine, cX12_endsLine, 1, none, 2, 43)
theorem okX12_endsLine : MOk mX12_endsLine 0 := ⟨mt7 (List.mem_of_getElem? (i := 78) rfl), mt1 (List.mem_of_getElem? (i := 13) (by decide +kernel)), by decide +kernel, ⟨by decide +kernel, by decide +kernel⟩, by decide +kernel⟩
theorem liX12_endsLine : Cond.instanceMethod yX12_endsLine ∈ lw_tbl := mt7 (List.mem_of_getElem? (i := 77) (by decide +kernel))
theorem lqX12_endsLine : Cond.selects RX12 yX12_endsLine yX12_endsLine ∈ lw_tbl := mp5 (List.mem_of_getElem? (i := 1) (by decide +kernel))
abbrev mX12_isPrime : MD := (yX12_isPrime, cX12_isPrime, 1, some (.boolean), 0, 0)
theorem okX12_isPrime : MOk mX12_isPrime 1 := ⟨mt7 (List.mem_of_getElem? (i := 66) rfl), mt1 (List.mem_of_getElem? (i := 13) (by decide +kernel)), by decide +kernel, ⟨by decide +kernel, by decide +kernel⟩, by decide +kernel⟩
theorem lsX12_isPrime : Cond.static yX12_isPrime ∈ lw_tbl := mt7 (List.mem_of_getElem? (i := 65) (by decide +kernel))
abbrev mX12_curveLine : MD := (yX12_curveLine, cX12_curveLine, 2, none, 3, 66)
theorem okX12_curveLine : MOk mX12_curveLine 0 := ⟨mt7 (List.mem_of_getElem? (i := 55) rfl), mt1 (List.mem_of_getElem? (i := 13) (by decide +kernel)), by decide +kernel, ⟨by decide +kernel, by decide +kernel⟩, by decide +kernel⟩
theorem liX12_curveLine : Cond.instanceMethod yX12_curveLine ∈ lw_tbl := mt7 (List.mem_of_getElem? (i := 54) (by decide +kernel))
theorem lqX12_curveLine : Cond.selects RX12 yX12_curveLine yX12_curveLine ∈ lw_tbl := mp4 (List.mem_of_getElem? (i := 12) (by decide +kernel))
abbrev mX12_sumLine : MD := (yX12_sumLine, cX12_sumLine, 6, none, 4, 89)
theorem okX12_sumLine : MOk mX12_sumLine 0 := ⟨mt7 (List.mem_of_getElem? (i := 82) rfl), mt1 (List.mem_of_getElem? (i := 13) (by decide +kernel)), by decide +kernel, ⟨by decide +kernel, by decide +kernel⟩, by decide +kernel⟩
theorem liX12_sumLine : Cond.instanceMethod yX12_sumLine ∈ lw_tbl := mt7 (List.mem_of_getElem? (i := 81) (by decide +kernel))
theorem lqX12_sumLine : Cond.selects RX12 yX12_sumLine yX12_sumLine ∈ lw_tbl := mp5 (List.mem_of_getElem? (i := 2) (by decide +kernel))
abbrev mX12_functionLine : MD := (yX12_functionLine, cX12_functionLine, 4, none, 3, 66)
theorem okX12_functionLine : MOk mX12_functionLine 0 := ⟨mt7 (List.mem_of_getElem? (i := 90) rfl), mt1 (List.mem_of_getElem? (i := 13) (by decide +kernel)), by decide +kernel, ⟨by decide +kernel, by decide +kernel⟩, by decide +kernel⟩
theorem liX12_functionLine : Cond.instanceMethod yX12_functionLine ∈ lw_tbl := mt7 (List.mem_of_getElem? (i := 89) (by decide +kernel))
theorem lqX12_functionLine : Cond.selects RX12 yX12_functionLine yX12_functionLine ∈ lw_tbl := mp5 (List.mem_of_getElem? (i := 4) (by decide +kernel))
abbrev mX12_placeOf : MD := (yX12_placeOf, cX12_placeOf, 2, some (.int), 0, 0)
theorem okX12_placeOf : MOk mX12_placeOf 2 := ⟨mt7 (List.mem_of_getElem? (i := 148) rfl), mt1 (List.mem_of_getElem? (i := 13) (by decide +kernel)), by decide +kernel, ⟨by decide +kernel, by decide +kernel⟩, by decide +kernel⟩
theorem lsX12_placeOf : Cond.static yX12_placeOf ∈ lw_tbl := mt7 (List.mem_of_getElem? (i := 147) (by decide +kernel))
abbrev mX12_sizeOf : MD := (yX12_sizeOf, cX12_sizeOf, 1, some (.int), 0, 0)
theorem okX12_sizeOf : MOk mX12_sizeOf 1 := ⟨mt7 (List.mem_of_getElem? (i := 145) rfl), mt1 (List.mem_of_getElem? (i := 13) (by decide +kernel)), by decide +kernel, ⟨by decide +kernel, by decide +kernel⟩, by decide +kernel⟩
theorem lsX12_sizeOf : Cond.static yX12_sizeOf ∈ lw_tbl := mt7 (List.mem_of_getElem? (i := 144) (by decide +kernel))
abbrev mX12_isOf : MD := (yX12_isOf, cX12_isOf, 3, some (.boolean), 1, 22)
theorem okX12_isOf : MOk mX12_isOf 2 := ⟨mt7 (List.mem_of_getElem? (i := 32) rfl), mt1 (List.mem_of_getElem? (i := 13) (by decide +kernel)), by decide +kernel, ⟨by decide +kernel, by decide +kernel⟩, by decide +kernel⟩
theorem liX12_isOf : Cond.instanceMethod yX12_isOf ∈ lw_tbl := mt7 (List.mem_of_getElem? (i := 31) (by decide +kernel))
theorem lqX12_isOf : Cond.selects RX12 yX12_isOf yX12_isOf ∈ lw_tbl := mp4 (List.mem_of_getElem? (i := 9) (by decide +kernel))
abbrev mX12_text : MD := (yX12_text, cX12_text, 5, some (.int), 6, 138)
theorem okX12_text : MOk mX12_text 2 := ⟨mt7 (List.mem_of_getElem? (i := 25) rfl), mt1 (List.mem_of_getElem? (i := 13) (by decide +kernel)), by decide +kernel, ⟨by decide +kernel, by decide +kernel⟩, by decide +kernel⟩
theorem liX12_text : Cond.instanceMethod yX12_text ∈ lw_tbl := mt7 (List.mem_of_getElem? (i := 23) (by decide +kernel))
theorem lqX12_text : Cond.selects RX12 yX12_text yX12_text ∈ lw_tbl := mt7 (List.mem_of_getElem? (i := 24) (by decide +kernel))
abbrev mX12_fault : MD := (yX12_fault, cX12_fault, 2, some (.int), 0, 0)
theorem okX12_fault : MOk mX12_fault 1 := ⟨mt7 (List.mem_of_getElem? (i := 152) rfl), mt1 (List.mem_of_getElem? (i := 13) (by decide +kernel)), by decide +kernel, ⟨by decide +kernel, by decide +kernel⟩, by decide +kernel⟩
theorem liX12_fault : Cond.instanceMethod yX12_fault ∈ lw_tbl := mt7 (List.mem_of_getElem? (i := 150) (by decide +kernel))
theorem lqX12_fault : Cond.selects RX12 yX12_fault yX12_fault ∈ lw_tbl := mt7 (List.mem_of_getElem? (i := 151) (by decide +kernel))
abbrev mX12_mod : MD := (yX12_mod, cX12_mod, 3, some (.int), 0, 0)
theorem okX12_mod : MOk mX12_mod 1 := ⟨mt7 (List.mem_of_getElem? (i := 102) rfl), mt1 (List.mem_of_getElem? (i := 13) (by decide +kernel)), by decide +kernel, ⟨by decide +kernel, by decide +kernel⟩, by decide +kernel⟩
theorem liX12_mod : Cond.instanceMethod yX12_mod ∈ lw_tbl := mt7 (List.mem_of_getElem? (i := 101) (by decide +kernel))
theorem lqX12_mod : Cond.selects RX12 yX12_mod yX12_mod ∈ lw_tbl := mp5 (List.mem_of_getElem? (i := 7) (by decide +kernel))
abbrev mX12_inverse : MD := (yX12_inverse, cX12_inverse, 3, some (.int), 1, 22)
theorem okX12_inverse : MOk mX12_inverse 1 := ⟨mt7 (List.mem_of_getElem? (i := 126) rfl), mt1 (List.mem_of_getElem? (i := 13) (by decide +kernel)), by decide +kernel, ⟨by decide +kernel, by decide +kernel⟩, by decide +kernel⟩
theorem liX12_inverse : Cond.instanceMethod yX12_inverse ∈ lw_tbl := mt7 (List.mem_of_getElem? (i := 125) (by decide +kernel))
theorem lqX12_inverse : Cond.selects RX12 yX12_inverse yX12_inverse ∈ lw_tbl := mp5 (List.mem_of_getElem? (i := 13) (by decide +kernel))
abbrev mX12_at : MD := (yX12_at, cX12_at, 3, some (.int), 0, 0)
theorem okX12_at : MOk mX12_at 2 := ⟨mt7 (List.mem_of_getElem? (i := 114) rfl), mt1 (List.mem_of_getElem? (i := 13) (by decide +kernel)), by decide +kernel, ⟨by decide +kernel, by decide +kernel⟩, by decide +kernel⟩
theorem liX12_at : Cond.instanceMethod yX12_at ∈ lw_tbl := mt7 (List.mem_of_getElem? (i := 113) (by decide +kernel))
theorem lqX12_at : Cond.selects RX12 yX12_at yX12_at ∈ lw_tbl := mp5 (List.mem_of_getElem? (i := 10) (by decide +kernel))
abbrev mX12_deg : MD := (yX12_deg, cX12_deg, 3, some (.int), 1, 22)
theorem okX12_deg : MOk mX12_deg 1 := ⟨mt7 (List.mem_of_getElem? (i := 118) rfl), mt1 (List.mem_of_getElem? (i := 13) (by decide +kernel)), by decide +kernel, ⟨by decide +kernel, by decide +kernel⟩, by decide +kernel⟩
theorem liX12_deg : Cond.instanceMethod yX12_deg ∈ lw_tbl := mt7 (List.mem_of_getElem? (i := 117) (by decide +kernel))
theorem lqX12_deg : Cond.selects RX12 yX12_deg yX12_deg ∈ lw_tbl := mp5 (List.mem_of_getElem? (i := 11) (by decide +kernel))
abbrev mX12_zero : MD := (yX12_zero, cX12_zero, 3, none, 0, 0)
theorem okX12_zero : MOk mX12_zero 1 := ⟨mt7 (List.mem_of_getElem? (i := 98) rfl), mt1 (List.mem_of_getElem? (i := 13) (by decide +kernel)), by decide +kernel, ⟨by decide +kernel, by decide +kernel⟩, by decide +kernel⟩
theorem liX12_zero : Cond.instanceMethod yX12_zero ∈ lw_tbl := mt7 (List.mem_of_getElem? (i := 97) (by decide +kernel))
theorem lqX12_zero : Cond.selects RX12 yX12_zero yX12_zero ∈ lw_tbl := mp5 (List.mem_of_getElem? (i := 6) (by decide +kernel))
abbrev mX12_copy : MD := (yX12_copy, cX12_copy, 4, none, 1, 22)
theorem okX12_copy : MOk mX12_copy 2 := ⟨mt7 (List.mem_of_getElem? (i := 110) rfl), mt1 (List.mem_of_getElem? (i := 13) (by decide +kernel)), by decide +kernel, ⟨by decide +kernel, by decide +kernel⟩, by decide +kernel⟩
theorem liX12_copy : Cond.instanceMethod yX12_copy ∈ lw_tbl := mt7 (List.mem_of_getElem? (i := 109) (by decide +kernel))
theorem lqX12_copy : Cond.selects RX12 yX12_copy yX12_copy ∈ lw_tbl := mp5 (List.mem_of_getElem? (i := 9) (by decide +kernel))
abbrev mX12_adds : MD := (yX12_adds, cX12_adds, 6, none, 1, 22)
theorem okX12_adds : MOk mX12_adds 4 := ⟨mt7 (List.mem_of_getElem? (i := 130) rfl), mt1 (List.mem_of_getElem? (i := 13) (by decide +kernel)), by decide +kernel, ⟨by decide +kernel, by decide +kernel⟩, by decide +kernel⟩
theorem liX12_adds : Cond.instanceMethod yX12_adds ∈ lw_tbl := mt7 (List.mem_of_getElem? (i := 129) (by decide +kernel))
theorem lqX12_adds : Cond.selects RX12 yX12_adds yX12_adds ∈ lw_tbl := mp5 (List.mem_of_getElem? (i := 14) (by decide +kernel))
abbrev mX12_product : MD := (yX12_product, cX12_product, 5, none, 2, 47)
theorem okX12_product : MOk mX12_product 3 := ⟨mt7 (List.mem_of_getElem? (i := 138) rfl), mt1 (List.mem_of_getElem? (i := 13) (by decide +kernel)), by decide +kernel, ⟨by decide +kernel, by decide +kernel⟩, by decide +kernel⟩
theorem liX12_product : Cond.instanceMethod yX12_product ∈ lw_tbl := mt7 (List.mem_of_getElem? (i := 137) (by decide +kernel))
theorem lqX12_product : Cond.selects RX12 yX12_product yX12_product ∈ lw_tbl := mp6 (List.mem_of_getElem? (i := 0) (by decide +kernel))
abbrev mX12_divides : MD := (yX12_divides, cX12_divides, 9, none, 2, 47)
theorem okX12_divides : MOk mX12_divides 4 := ⟨mt7 (List.mem_of_getElem? (i := 122) rfl), mt1 (List.mem_of_getElem? (i := 13) (by decide +kernel)), by decide +kernel, ⟨by decide +kernel, by decide +kernel⟩, by decide +kernel⟩
theorem liX12_divides : Cond.instanceMethod yX12_divides ∈ lw_tbl := mt7 (List.mem_of_getElem? (i := 121) (by decide +kernel))
theorem lqX12_divides : Cond.selects RX12 yX12_divides yX12_divides ∈ lw_tbl := mp5 (List.mem_of_getElem? (i := 12) (by decide +kernel))
abbrev mX12_common : MD := (yX12_common, cX12_common, 4, none, 4, 93)
theorem okX12_common : MOk mX12_common 2 := ⟨mt7 (List.mem_of_getElem? (i := 106) rfl), mt1 (List.mem_of_getElem? (i := 13) (by decide +kernel)), by decide +kernel, ⟨by decide +kernel, by decide +kernel⟩, by decide +kernel⟩
theorem liX12_common : Cond.instanceMethod yX12_common ∈ lw_tbl := mt7 (List.mem_of_getElem? (i := 105) (by decide +kernel))
theorem lqX12_common : Cond.selects RX12 yX12_common yX12_common ∈ lw_tbl := mp5 (List.mem_of_getElem? (i := 8) (by decide +kernel))
abbrev mX12_steps : MD := (yX12_steps, cX12_steps, 3, none, 3, 71)
theorem okX12_steps : MOk mX12_steps 2 := ⟨mt7 (List.mem_of_getElem? (i := 134) rfl), mt1 (List.mem_of_getElem? (i := 13) (by decide +kernel)), by decide +kernel, ⟨by decide +kernel, by decide +kernel⟩, by decide +kernel⟩
theorem liX12_steps : Cond.instanceMethod yX12_steps ∈ lw_tbl := mt7 (List.mem_of_getElem? (i := 133) (by decide +kernel))
theorem lqX12_steps : Cond.selects RX12 yX12_steps yX12_steps ∈ lw_tbl := mp5 (List.mem_of_getElem? (i := 15) (by decide +kernel))
abbrev mX12_scaled : MD := (yX12_scaled, cX12_scaled, 4, none, 2, 47)
theorem okX12_scaled : MOk mX12_scaled 3 := ⟨mt7 (List.mem_of_getElem? (i := 142) rfl), mt1 (List.mem_of_getElem? (i := 13) (by decide +kernel)), by decide +kernel, ⟨by decide +kernel, by decide +kernel⟩, by decide +kernel⟩
theorem liX12_scaled : Cond.instanceMethod yX12_scaled ∈ lw_tbl := mt7 (List.mem_of_getElem? (i := 141) (by decide +kernel))
theorem lqX12_scaled : Cond.selects RX12 yX12_scaled yX12_scaled ∈ lw_tbl := mp6 (List.mem_of_getElem? (i := 1) (by decide +kernel))
abbrev mX12_value : MD := (yX12_value, cX12_value, 5, some (.int), 1, 22)
theorem okX12_value : MOk mX12_value 2 := ⟨mt7 (List.mem_of_getElem? (i := 168) rfl), mt1 (List.mem_of_getElem? (i := 13) (by decide +kernel)), by decide +kernel, ⟨by decide +kernel, by decide +kernel⟩, by decide +kernel⟩
theorem liX12_value : Cond.instanceMethod yX12_value ∈ lw_tbl := mt7 (List.mem_of_getElem? (i := 167) (by decide +kernel))
theorem lqX12_value : Cond.selects RX12 yX12_value yX12_value ∈ lw_tbl := mp6 (List.mem_of_getElem? (i := 4) (by decide +kernel))
abbrev mX12_isCurve : MD := (yX12_isCurve, cX12_isCurve, 3, some (.boolean), 5, 116)
theorem okX12_isCurve : MOk mX12_isCurve 0 := ⟨mt7 (List.mem_of_getElem? (i := 94) rfl), mt1 (List.mem_of_getElem? (i := 13) (by decide +kernel)), by decide +kernel, ⟨by decide +kernel, by decide +kernel⟩, by decide +kernel⟩
theorem liX12_isCurve : Cond.instanceMethod yX12_isCurve ∈ lw_tbl := mt7 (List.mem_of_getElem? (i := 93) (by decide +kernel))
theorem lqX12_isCurve : Cond.selects RX12 yX12_isCurve yX12_isCurve ∈ lw_tbl := mp5 (List.mem_of_getElem? (i := 5) (by decide +kernel))
abbrev mX12_takesCurve : MD := (yX12_takesCurve, cX12_takesCurve, 4, some (.boolean), 3, 68)
theorem okX12_takesCurve : MOk mX12_takesCurve 1 := ⟨mt7 (List.mem_of_getElem? (i := 160) rfl), mt1 (List.mem_of_getElem? (i := 13) (by decide +kernel)), by decide +kernel, ⟨by decide +kernel, by decide +kernel⟩, by decide +kernel⟩
theorem liX12_takesCurve : Cond.instanceMethod yX12_takesCurve ∈ lw_tbl := mt7 (List.mem_of_getElem? (i := 159) (by decide +kernel))
theorem lqX12_takesCurve : Cond.selects RX12 yX12_takesCurve yX12_takesCurve ∈ lw_tbl := mp6 (List.mem_of_getElem? (i := 2) (by decide +kernel))
abbrev mX12_points : MD := (yX12_points, cX12_points, 3, none, 2, 46)
theorem okX12_points : MOk mX12_points 0 := ⟨mt7 (List.mem_of_getElem? (i := 164) rfl), mt1 (List.mem_of_getElem? (i := 13) (by decide +kernel)), by decide +kernel, ⟨by decide +kernel, by decide +kernel⟩, by decide +kernel⟩
theorem liX12_points : Cond.instanceMethod yX12_points ∈ lw_tbl := mt7 (List.mem_of_getElem? (i := 163) (by decide +kernel))
theorem lqX12_points : Cond.selects RX12 yX12_points yX12_points ∈ lw_tbl := mp6 (List.mem_of_getElem? (i := 3) (by decide +kernel))
abbrev mX12_isFixed : MD := (yX12_isFixed, cX12_isFixed, 2, some (.boolean), 0, 0)
theorem okX12_isFixed : MOk mX12_isFixed 1 := ⟨mt7 (List.mem_of_getElem? (i := 217) rfl), mt1 (List.mem_of_getElem? (i := 13) (by decide +kernel)), by decide +kernel, ⟨by decide +kernel, by decide +kernel⟩, by decide +kernel⟩
theorem liX12_isFixed : Cond.instanceMethod yX12_isFixed ∈ lw_tbl := mt7 (List.mem_of_getElem? (i := 216) (by decide +kernel))
theorem lqX12_isFixed : Cond.selects RX12 yX12_isFixed yX12_isFixed ∈ lw_tbl := mp6 (List.mem_of_getElem? (i := 13) (by decide +kernel))
abbrev mX12_isPoint : MD := (yX12_isPoint, cX12_isPoint, 2, some (.boolean), 1, 22)
theorem okX12_isPoint : MOk mX12_isPoint 1 := ⟨mt7 (List.mem_of_getElem? (i := 233) rfl), mt1 (List.mem_of_getElem? (i := 13) (by decide +kernel)), by decide +kernel, ⟨by decide +kernel, by decide +kernel⟩, by decide +kernel⟩
theorem liX12_isPoint : Cond.instanceMethod yX12_isPoint ∈ lw_tbl := mt7 (List.mem_of_getElem? (i := 232) (by decide +kernel))
theorem lqX12_isPoint : Cond.selects RX12 yX12_isPoint yX12_isPoint ∈ lw_tbl := mp6 (List.mem_of_getElem? (i := 14) (by decide +kernel))
abbrev mX12_isSquare : MD := (yX12_isSquare, cX12_isSquare, 4, some (.boolean), 1, 22)
theorem okX12_isSquare : MOk mX12_isSquare 1 := ⟨mt7 (List.mem_of_getElem? (i := 193) rfl), mt1 (List.mem_of_getElem? (i := 13) (by decide +kernel)), by decide +kernel, ⟨by decide +kernel, by decide +kernel⟩, by decide +kernel⟩
theorem liX12_isSquare : Cond.instanceMethod yX12_isSquare ∈ lw_tbl := mt7 (List.mem_of_getElem? (i := 192) (by decide +kernel))
theorem lqX12_isSquare : Cond.selects RX12 yX12_isSquare yX12_isSquare ∈ lw_tbl := mp6 (List.mem_of_getElem? (i := 10) (by decide +kernel))
abbrev mX12_noSquare : MD := (yX12_noSquare, cX12_noSquare, 2, some (.int), 2, 45)
theorem okX12_noSquare : MOk mX12_noSquare 0 := ⟨mt7 (List.mem_of_getElem? (i := 189) rfl), mt1 (List.mem_of_getElem? (i := 13) (by decide +kernel)), by decide +kernel, ⟨by decide +kernel, by decide +kernel⟩, by decide +kernel⟩
theorem liX12_noSquare : Cond.instanceMethod yX12_noSquare ∈ lw_tbl := mt7 (List.mem_of_getElem? (i := 188) (by decide +kernel))
theorem lqX12_noSquare : Cond.selects RX12 yX12_noSquare yX12_noSquare ∈ lw_tbl := mp6 (List.mem_of_getElem? (i := 9) (by decide +kernel))
abbrev mX12_pointsOfTwo : MD := (yX12_pointsOfTwo, cX12_pointsOfTwo, 9, some (.int), 3, 66)
theorem okX12_pointsOfTwo : MOk mX12_pointsOfTwo 0 := ⟨mt7 (List.mem_of_getElem? (i := 185) rfl), mt1 (List.mem_of_getElem? (i := 13) (by decide +kernel)), by decide +kernel, ⟨by decide +kernel, by decide +kernel⟩, by decide +kernel⟩
theorem liX12_pointsOfTwo : Cond.instanceMethod yX12_pointsOfTwo ∈ lw_tbl := mt7 (List.mem_of_getElem? (i := 184) (by decide +kernel))
theorem lqX12_pointsOfTwo : Cond.selects RX12 yX12_pointsOfTwo yX12_pointsOfTwo ∈ lw_tbl := mp6 (List.mem_of_getElem? (i := 8) (by decide +kernel))
abbrev mX12_shareA : MD := (yX12_shareA, cX12_shareA, 1, some (.int), 0, 0)
theorem okX12_shareA : MOk mX12_shareA 0 := ⟨mt7 (List.mem_of_getElem? (i := 181) rfl), mt1 (List.mem_of_getElem? (i := 13) (by decide +kernel)), by decide +kernel, ⟨by decide +kernel, by decide +kernel⟩, by decide +kernel⟩
theorem liX12_shareA : Cond.instanceMethod yX12_shareA ∈ lw_tbl := mt7 (List.mem_of_getElem? (i := 180) (by decide +kernel))
theorem lqX12_shareA : Cond.selects RX12 yX12_shareA yX12_shareA ∈ lw_tbl := mp6 (List.mem_of_getElem? (i := 7) (by decide +kernel))
abbrev mX12_shareOf : MD := (yX12_shareOf, cX12_shareOf, 3, some (.int), 4, 94)
theorem okX12_shareOf : MOk mX12_shareOf 1 := ⟨mt7 (List.mem_of_getElem? (i := 177) rfl), mt1 (List.mem_of_getElem? (i := 13) (by decide +kernel)), by decide +kernel, ⟨by decide +kernel, by decide +kernel⟩, by decide +kernel⟩
theorem liX12_shareOf : Cond.instanceMethod yX12_shareOf ∈ lw_tbl := mt7 (List.mem_of_getElem? (i := 176) (by decide +kernel))
theorem lqX12_shareOf : Cond.selects RX12 yX12_shareOf yX12_shareOf ∈ lw_tbl := mp6 (List.mem_of_getElem? (i := 6) (by decide +kernel))
abbrev mX12_classesOf : MD := (yX12_classesOf, cX12_classesOf, 4, some (.int), 5, 116)
theorem okX12_classesOf : MOk mX12_classesOf 1 := ⟨mt7 (List.mem_of_getElem? (i := 173) rfl), mt1 (List.mem_of_getElem? (i := 13) (by decide +kernel)), by decide +kernel, ⟨by decide +kernel, by decide +kernel⟩, by decide +kernel⟩
theorem liX12_classesOf : Cond.instanceMethod yX12_classesOf ∈ lw_tbl := mt7 (List.mem_of_getElem? (i := 172) (by decide +kernel))
theorem lqX12_classesOf : Cond.selects RX12 yX12_classesOf yX12_classesOf ∈ lw_tbl := mp6 (List.mem_of_getElem? (i := 5) (by decide +kernel))
abbrev mX12_share : MD := (yX12_share, cX12_share, 3, some (.int), 6, 139)
theorem okX12_share : MOk mX12_share 2 := ⟨mt7 (List.mem_of_getElem? (i := 156) rfl), mt1 (List.mem_of_getElem? (i := 13) (by decide +kernel)), by decide +kernel, ⟨by decide +kernel, by decide +kernel⟩, by decide +kernel⟩
theorem liX12_share : Cond.instanceMethod yX12_share ∈ lw_tbl := mt7 (List.mem_of_getElem? (i := 154) (by decide +kernel))
theorem lqX12_share : Cond.selects RX12 yX12_share yX12_share ∈ lw_tbl := mt7 (List.mem_of_getElem? (i := 155) (by decide +kernel))
abbrev mX12_counts : MD := (yX12_counts, cX12_counts, 11, none, 5, 116)
theorem okX12_counts : MOk mX12_counts 0 := ⟨mt7 (List.mem_of_getElem? (i := 202) rfl), mt1 (List.mem_of_getElem? (i := 13) (by decide +kernel)), by decide +kernel, ⟨by decide +kernel, by decide +kernel⟩, by decide +kernel⟩
theorem liX12_counts : Cond.instanceMethod yX12_counts ∈ lw_tbl := mt7 (List.mem_of_getElem? (i := 201) (by decide +kernel))
theorem lqX12_counts : Cond.selects RX12 yX12_counts yX12_counts ∈ lw_tbl := mp6 (List.mem_of_getElem? (i := 11) (by decide +kernel))
abbrev mX12_counted : MD := (yX12_counted, cX12_counted, 4, some (.long), 6, 146)
theorem okX12_counted : MOk mX12_counted 3 := ⟨mt7 (List.mem_of_getElem? (i := 197) rfl), mt1 (List.mem_of_getElem? (i := 13) (by decide +kernel)), by decide +kernel, ⟨by decide +kernel, by decide +kernel⟩, by decide +kernel⟩
theorem liX12_counted : Cond.instanceMethod yX12_counted ∈ lw_tbl := mt7 (List.mem_of_getElem? (i := 195) (by decide +kernel))
theorem lqX12_counted : Cond.selects RX12 yX12_counted yX12_counted ∈ lw_tbl := mt7 (List.mem_of_getElem? (i := 196) (by decide +kernel))
abbrev mX12_fixedOnes : MD := (yX12_fixedOnes, cX12_fixedOnes, 3, some (.int), 1, 21)
theorem okX12_fixedOnes : MOk mX12_fixedOnes 0 := ⟨mt7 (List.mem_of_getElem? (i := 213) rfl), mt1 (List.mem_of_getElem? (i := 13) (by decide +kernel)), by decide +kernel, ⟨by decide +kernel, by decide +kernel⟩, by decide +kernel⟩
theorem liX12_fixedOnes : Cond.instanceMethod yX12_fixedOnes ∈ lw_tbl := mt7 (List.mem_of_getElem? (i := 212) (by decide +kernel))
theorem lqX12_fixedOnes : Cond.selects RX12 yX12_fixedOnes yX12_fixedOnes ∈ lw_tbl := mp6 (List.mem_of_getElem? (i := 12) (by decide +kernel))
abbrev mX12_curve : MD := (yX12_curve, cX12_curve, 3, some (.int), 6, 139)
theorem okX12_curve : MOk mX12_curve 2 := ⟨mt7 (List.mem_of_getElem? (i := 209) rfl), mt1 (List.mem_of_getElem? (i := 13) (by decide +kernel)), by decide +kernel, ⟨by decide +kernel, by decide +kernel⟩, by decide +kernel⟩
theorem liX12_curve : Cond.instanceMethod yX12_curve ∈ lw_tbl := mt7 (List.mem_of_getElem? (i := 207) (by decide +kernel))
theorem lqX12_curve : Cond.selects RX12 yX12_curve yX12_curve ∈ lw_tbl := mt7 (List.mem_of_getElem? (i := 208) (by decide +kernel))
abbrev mX12_sum : MD := (yX12_sum, cX12_sum, 6, some (.int), 2, 44)
theorem okX12_sum : MOk mX12_sum 2 := ⟨mt7 (List.mem_of_getElem? (i := 221) rfl), mt1 (List.mem_of_getElem? (i := 13) (by decide +kernel)), by decide +kernel, ⟨by decide +kernel, by decide +kernel⟩, by decide +kernel⟩
theorem liX12_sum : Cond.instanceMethod yX12_sum ∈ lw_tbl := mt7 (List.mem_of_getElem? (i := 219) (by decide +kernel))
theorem lqX12_sum : Cond.selects RX12 yX12_sum yX12_sum ∈ lw_tbl := mt7 (List.mem_of_getElem? (i := 220) (by decide +kernel))
abbrev mX12_function : MD := (yX12_function, cX12_function, 4, some (.int), 2, 44)
theorem okX12_function : MOk mX12_function 3 := ⟨mt7 (List.mem_of_getElem? (i := 225) rfl), mt1 (List.mem_of_getElem? (i := 13) (by decide +kernel)), by decide +kernel, ⟨by decide +kernel, by decide +kernel⟩, by decide +kernel⟩
theorem liX12_function : Cond.instanceMethod yX12_function ∈ lw_tbl := mt7 (List.mem_of_getElem? (i := 223) (by decide +kernel))
theorem lqX12_function : Cond.selects RX12 yX12_function yX12_function ∈ lw_tbl := mt7 (List.mem_of_getElem? (i := 224) (by decide +kernel))
abbrev mX12_point : MD := (yX12_point, cX12_point, 4, some (.int), 4, 91)
theorem okX12_point : MOk mX12_point 3 := ⟨mt7 (List.mem_of_getElem? (i := 229) rfl), mt1 (List.mem_of_getElem? (i := 13) (by decide +kernel)), by decide +kernel, ⟨by decide +kernel, by decide +kernel⟩, by decide +kernel⟩
theorem liX12_point : Cond.instanceMethod yX12_point ∈ lw_tbl := mt7 (List.mem_of_getElem? (i := 227) (by decide +kernel))
theorem lqX12_point : Cond.selects RX12 yX12_point yX12_point ∈ lw_tbl := mt7 (List.mem_of_getElem? (i := 228) (by decide +kernel))
abbrev mX12_takesFunction : MD := (yX12_takesFunction, cX12_takesFunction, 3, some (.boolean), 2, 44)
theorem okX12_takesFunction : MOk mX12_takesFunction 1 := ⟨mt8 (List.mem_of_getElem? (i := 5) rfl), mt1 (List.mem_of_getElem? (i := 13) (by decide +kernel)), by decide +kernel, ⟨by decide +kernel, by decide +kernel⟩, by decide +kernel⟩
theorem liX12_takesFunction : Cond.instanceMethod yX12_takesFunction ∈ lw_tbl := mt8 (List.mem_of_getElem? (i := 4) (by decide +kernel))
theorem lqX12_takesFunction : Cond.selects RX12 yX12_takesFunction yX12_takesFunction ∈ lw_tbl := mp7 (List.mem_of_getElem? (i := 0) (by decide +kernel))
abbrev mX12_often : MD := (yX12_often, cX12_often, 5, some (.int), 3, 75)
theorem okX12_often : MOk mX12_often 3 := ⟨mt8 (List.mem_of_getElem? (i := 17) rfl), mt1 (List.mem_of_getElem? (i := 13) (by decide +kernel)), by decide +kernel, ⟨by decide +kernel, by decide +kernel⟩, by decide +kernel⟩
theorem liX12_often : Cond.instanceMethod yX12_often ∈ lw_tbl := mt8 (List.mem_of_getElem? (i := 16) (by decide +kernel))
theorem lqX12_often : Cond.selects RX12 yX12_often yX12_often ∈ lw_tbl := mp7 (List.mem_of_getElem? (i := 3) (by decide +kernel))
abbrev mX12_norms : MD := (yX12_norms, cX12_norms, 1, none, 3, 71)
theorem okX12_norms : MOk mX12_norms 0 := ⟨mt8 (List.mem_of_getElem? (i := 21) rfl), mt1 (List.mem_of_getElem? (i := 13) (by decide +kernel)), by decide +kernel, ⟨by decide +kernel, by decide +kernel⟩, by decide +kernel⟩
theorem liX12_norms : Cond.instanceMethod yX12_norms ∈ lw_tbl := mt8 (List.mem_of_getElem? (i := 20) (by decide +kernel))
theorem lqX12_norms : Cond.selects RX12 yX12_norms yX12_norms ∈ lw_tbl := mp7 (List.mem_of_getElem? (i := 4) (by decide +kernel))
abbrev mX12_oftenOf : MD := (yX12_oftenOf, cX12_oftenOf, 3, some (.int), 4, 99)
theorem okX12_oftenOf : MOk mX12_oftenOf 2 := ⟨mt8 (List.mem_of_getElem? (i := 13) rfl), mt1 (List.mem_of_getElem? (i := 13) (by decide +kernel)), by decide +kernel, ⟨by decide +kernel, by decide +kernel⟩, by decide +kernel⟩
theorem liX12_oftenOf : Cond.instanceMethod yX12_oftenOf ∈ lw_tbl := mt8 (List.mem_of_getElem? (i := 12) (by decide +kernel))
theorem lqX12_oftenOf : Cond.selects RX12 yX12_oftenOf yX12_oftenOf ∈ lw_tbl := mp7 (List.mem_of_getElem? (i := 2) (by decide +kernel))
abbrev mX12_orderAt : MD := (yX12_orderAt, cX12_orderAt, 11, some (.int), 5, 121)
theorem okX12_orderAt : MOk mX12_orderAt 1 := ⟨mt8 (List.mem_of_getElem? (i := 9) rfl), mt1 (List.mem_of_getElem? (i := 13) (by decide +kernel)), by decide +kernel, ⟨by decide +kernel, by decide +kernel⟩, by decide +kernel⟩
theorem liX12_orderAt : Cond.instanceMethod yX12_orderAt ∈ lw_tbl := mt8 (List.mem_of_getElem? (i := 8) (by decide +kernel))
theorem lqX12_orderAt : Cond.selects RX12 yX12_orderAt yX12_orderAt ∈ lw_tbl := mp7 (List.mem_of_getElem? (i := 1) (by decide +kernel))
abbrev mX12_areBoth : MD := (yX12_areBoth, cX12_areBoth, 3, some (.boolean), 4, 91)
theorem okX12_areBoth : MOk mX12_areBoth 2 := ⟨mt8 (List.mem_of_getElem? (i := 1) rfl), mt1 (List.mem_of_getElem? (i := 13) (by decide +kernel)), by decide +kernel, ⟨by decide +kernel, by decide +kernel⟩, by decide +kernel⟩
theorem liX12_areBoth : Cond.instanceMethod yX12_areBoth ∈ lw_tbl := mt8 (List.mem_of_getElem? (i := 0) (by decide +kernel))
theorem lqX12_areBoth : Cond.selects RX12 yX12_areBoth yX12_areBoth ∈ lw_tbl := mp6 (List.mem_of_getElem? (i := 15) (by decide +kernel))
abbrev mX12_order : MD := (yX12_order, cX12_order, 4, some (.int), 6, 151)
theorem okX12_order : MOk mX12_order 3 := ⟨mt7 (List.mem_of_getElem? (i := 237) rfl), mt1 (List.mem_of_getElem? (i := 13) (by decide +kernel)), by decide +kernel, ⟨by decide +kernel, by decide +kernel⟩, by decide +kernel⟩
theorem liX12_order : Cond.instanceMethod yX12_order ∈ lw_tbl := mt7 (List.mem_of_getElem? (i := 235) (by decide +kernel))
theorem lqX12_order : Cond.selects RX12 yX12_order yX12_order ∈ lw_tbl := mt7 (List.mem_of_getElem? (i := 236) (by decide +kernel))
abbrev mX12_norm : MD := (yX12_norm, cX12_norm, 8, some (.int), 6, 151)
theorem okX12_norm : MOk mX12_norm 3 := ⟨mt8 (List.mem_of_getElem? (i := 25) rfl), mt1 (List.mem_of_getElem? (i := 13) (by decide +kernel)), by decide +kernel, ⟨by decide +kernel, by decide +kernel⟩, by decide +kernel⟩
theorem liX12_norm : Cond.instanceMethod yX12_norm ∈ lw_tbl := mt8 (List.mem_of_getElem? (i := 23) (by decide +kernel))
theorem lqX12_norm : Cond.selects RX12 yX12_norm yX12_norm ∈ lw_tbl := mt8 (List.mem_of_getElem? (i := 24) (by decide +kernel))
abbrev mX12_clears : MD := (yX12_clears, cX12_clears, 2, none, 0, 0)
theorem okX12_clears : MOk mX12_clears 0 := ⟨mt8 (List.mem_of_getElem? (i := 37) rfl), mt1 (List.mem_of_getElem? (i := 13) (by decide +kernel)), by decide +kernel, ⟨by decide +kernel, by decide +kernel⟩, by decide +kernel⟩
theorem liX12_clears : Cond.instanceMethod yX12_clears ∈ lw_tbl := mt8 (List.mem_of_getElem? (i := 36) (by decide +kernel))
theorem lqX12_clears : Cond.selects RX12 yX12_clears yX12_clears ∈ lw_tbl := mp7 (List.mem_of_getElem? (i := 6) (by decide +kernel))
abbrev mX12_takesSum : MD := (yX12_takesSum, cX12_takesSum, 8, some (.boolean), 2, 46)
theorem okX12_takesSum : MOk mX12_takesSum 2 := ⟨mt8 (List.mem_of_getElem? (i := 33) rfl), mt1 (List.mem_of_getElem? (i := 13) (by decide +kernel)), by decide +kernel, ⟨by decide +kernel, by decide +kernel⟩, by decide +kernel⟩
theorem liX12_takesSum : Cond.instanceMethod yX12_takesSum ∈ lw_tbl := mt8 (List.mem_of_getElem? (i := 32) (by decide +kernel))
theorem lqX12_takesSum : Cond.selects RX12 yX12_takesSum yX12_takesSum ∈ lw_tbl := mp7 (List.mem_of_getElem? (i := 5) (by decide +kernel))
abbrev mX12_fits : MD := (yX12_fits, cX12_fits, 3, some (.boolean), 4, 91)
theorem okX12_fits : MOk mX12_fits 2 := ⟨mt8 (List.mem_of_getElem? (i := 29) rfl), mt1 (List.mem_of_getElem? (i := 13) (by decide +kernel)), by decide +kernel, ⟨by decide +kernel, by decide +kernel⟩, by decide +kernel⟩
theorem liX12_fits : Cond.instanceMethod yX12_fits ∈ lw_tbl := mt8 (List.mem_of_getElem? (i := 27) (by decide +kernel))
theorem lqX12_fits : Cond.selects RX12 yX12_fits yX12_fits ∈ lw_tbl := mt8 (List.mem_of_getElem? (i := 28) (by decide +kernel))
abbrev mX12_degree : MD := (yX12_degree, cX12_degree, 3, some (.int), 0, 0)
theorem okX12_degree : MOk mX12_degree 0 := ⟨mt8 (List.mem_of_getElem? (i := 49) rfl), mt1 (List.mem_of_getElem? (i := 13) (by decide +kernel)), by decide +kernel, ⟨by decide +kernel, by decide +kernel⟩, by decide +kernel⟩
theorem liX12_degree : Cond.instanceMethod yX12_degree ∈ lw_tbl := mt8 (List.mem_of_getElem? (i := 48) (by decide +kernel))
theorem lqX12_degree : Cond.selects RX12 yX12_degree yX12_degree ∈ lw_tbl := mp7 (List.mem_of_getElem? (i := 8) (by decide +kernel))
abbrev mX12_isColumn : MD := (yX12_isColumn, cX12_isColumn, 2, some (.boolean), 0, 0)
theorem okX12_isColumn : MOk mX12_isColumn 1 := ⟨mt8 (List.mem_of_getElem? (i := 85) rfl), mt1 (List.mem_of_getElem? (i := 13) (by decide +kernel)), by decide +kernel, ⟨by decide +kernel, by decide +kernel⟩, by decide +kernel⟩
theorem liX12_isColumn : Cond.instanceMethod yX12_isColumn ∈ lw_tbl := mt8 (List.mem_of_getElem? (i := 84) (by decide +kernel))
theorem lqX12_isColumn : Cond.selects RX12 yX12_isColumn yX12_isColumn ∈ lw_tbl := mp8 (List.mem_of_getElem? (i := 1) (by decide +kernel))
abbrev mX12_undersBy : MD := (yX12_undersBy, cX12_undersBy, 3, none, 1, 22)
theorem okX12_undersBy : MOk mX12_undersBy 1 := ⟨mt8 (List.mem_of_getElem? (i := 65) rfl), mt1 (List.mem_of_getElem? (i := 13) (by decide +kernel)), by decide +kernel, ⟨by decide +kernel, by decide +kernel⟩, by decide +kernel⟩
theorem liX12_undersBy : Cond.instanceMethod yX12_undersBy ∈ lw_tbl := mt8 (List.mem_of_getElem? (i := 64) (by decide +kernel))
theorem lqX12_undersBy : Cond.selects RX12 yX12_undersBy yX12_undersBy ∈ lw_tbl := mp7 (List.mem_of_getElem? (i := 12) (by decide +kernel))
abbrev mX12_belows : MD := (yX12_belows, cX12_belows, 4, some (.int), 2, 46)
theorem okX12_belows : MOk mX12_belows 1 := ⟨mt8 (List.mem_of_getElem? (i := 61) rfl), mt1 (List.mem_of_getElem? (i := 13) (by decide +kernel)), by decide +kernel, ⟨by decide +kernel, by decide +kernel⟩, by decide +kernel⟩
theorem liX12_belows : Cond.instanceMethod yX12_belows ∈ lw_tbl := mt8 (List.mem_of_getElem? (i := 60) (by decide +kernel))
theorem lqX12_belows : Cond.selects RX12 yX12_belows yX12_belows ∈ lw_tbl := mp7 (List.mem_of_getElem? (i := 11) (by decide +kernel))
abbrev mX12_seriesAt : MD := (yX12_seriesAt, cX12_seriesAt, 8, none, 2, 44)
theorem okX12_seriesAt : MOk mX12_seriesAt 3 := ⟨mt8 (List.mem_of_getElem? (i := 77) rfl), mt1 (List.mem_of_getElem? (i := 13) (by decide +kernel)), by decide +kernel, ⟨by decide +kernel, by decide +kernel⟩, by decide +kernel⟩
theorem liX12_seriesAt : Cond.instanceMethod yX12_seriesAt ∈ lw_tbl := mt8 (List.mem_of_getElem? (i := 76) (by decide +kernel))
theorem lqX12_seriesAt : Cond.selects RX12 yX12_seriesAt yX12_seriesAt ∈ lw_tbl := mp7 (List.mem_of_getElem? (i := 15) (by decide +kernel))
abbrev mX12_wants : MD := (yX12_wants, cX12_wants, 8, none, 1, 22)
theorem okX12_wants : MOk mX12_wants 3 := ⟨mt8 (List.mem_of_getElem? (i := 73) rfl), mt1 (List.mem_of_getElem? (i := 13) (by decide +kernel)), by decide +kernel, ⟨by decide +kernel, by decide +kernel⟩, by decide +kernel⟩
theorem liX12_wants : Cond.instanceMethod yX12_wants ∈ lw_tbl := mt8 (List.mem_of_getElem? (i := 72) (by decide +kernel))
theorem lqX12_wants : Cond.selects RX12 yX12_wants yX12_wants ∈ lw_tbl := mp7 (List.mem_of_getElem? (i := 14) (by decide +kernel))
abbrev mX12_wantsAt : MD := (yX12_wantsAt, cX12_wantsAt, 4, none, 3, 69)
theorem okX12_wantsAt : MOk mX12_wantsAt 1 := ⟨mt8 (List.mem_of_getElem? (i := 57) rfl), mt1 (List.mem_of_getElem? (i := 13) (by decide +kernel)), by decide +kernel, ⟨by decide +kernel, by decide +kernel⟩, by decide +kernel⟩
theorem liX12_wantsAt : Cond.instanceMethod yX12_wantsAt ∈ lw_tbl := mt8 (List.mem_of_getElem? (i := 56) (by decide +kernel))
theorem lqX12_wantsAt : Cond.selects RX12 yX12_wantsAt yX12_wantsAt ∈ lw_tbl := mp7 (List.mem_of_getElem? (i := 10) (by decide +kernel))
abbrev mX12_conditionsAt : MD := (yX12_conditionsAt, cX12_conditionsAt, 5, none, 3, 71)
theorem okX12_conditionsAt : MOk mX12_conditionsAt 1 := ⟨mt8 (List.mem_of_getElem? (i := 69) rfl), mt1 (List.mem_of_getElem? (i := 13) (by decide +kernel)), by decide +kernel, ⟨by decide +kernel, by decide +kernel⟩, by decide +kernel⟩
theorem liX12_conditionsAt : Cond.instanceMethod yX12_conditionsAt ∈ lw_tbl := mt8 (List.mem_of_getElem? (i := 68) (by decide +kernel))
theorem lqX12_conditionsAt : Cond.selects RX12 yX12_conditionsAt yX12_conditionsAt ∈ lw_tbl := mp7 (List.mem_of_getElem? (i := 13) (by decide +kernel))
abbrev mX12_swaps : MD := (yX12_swaps, cX12_swaps, 5, none, 0, 0)
theorem okX12_swaps : MOk mX12_swaps 2 := ⟨mt8 (List.mem_of_getElem? (i := 89) rfl), mt1 (List.mem_of_getElem? (i := 13) (by decide +kernel)), by decide +kernel, ⟨by decide +kernel, by decide +kernel⟩, by decide +kernel⟩
theorem liX12_swaps : Cond.instanceMethod yX12_swaps ∈ lw_tbl := mt8 (List.mem_of_getElem? (i := 88) (by decide +kernel))
theorem lqX12_swaps : Cond.selects RX12 yX12_swaps yX12_swaps ∈ lw_tbl := mp8 (List.mem_of_getElem? (i := 2) (by decide +kernel))
abbrev mX12_takesRow : MD := (yX12_takesRow, cX12_takesRow, 5, none, 1, 22)
theorem okX12_takesRow : MOk mX12_takesRow 3 := ⟨mt8 (List.mem_of_getElem? (i := 93) rfl), mt1 (List.mem_of_getElem? (i := 13) (by decide +kernel)), by decide +kernel, ⟨by decide +kernel, by decide +kernel⟩, by decide +kernel⟩
theorem liX12_takesRow : Cond.instanceMethod yX12_takesRow ∈ lw_tbl := mt8 (List.mem_of_getElem? (i := 92) (by decide +kernel))
theorem lqX12_takesRow : Cond.selects RX12 yX12_takesRow yX12_takesRow ∈ lw_tbl := mp8 (List.mem_of_getElem? (i := 3) (by decide +kernel))
abbrev mX12_eliminates : MD := (yX12_eliminates, cX12_eliminates, 6, none, 2, 46)
theorem okX12_eliminates : MOk mX12_eliminates 0 := ⟨mt8 (List.mem_of_getElem? (i := 81) rfl), mt1 (List.mem_of_getElem? (i := 13) (by decide +kernel)), by decide +kernel, ⟨by decide +kernel, by decide +kernel⟩, by decide +kernel⟩
theorem liX12_eliminates : Cond.instanceMethod yX12_eliminates ∈ lw_tbl := mt8 (List.mem_of_getElem? (i := 80) (by decide +kernel))
theorem lqX12_eliminates : Cond.selects RX12 yX12_eliminates yX12_eliminates ∈ lw_tbl := mp8 (List.mem_of_getElem? (i := 0) (by decide +kernel))
abbrev mX12_rooms : MD := (yX12_rooms, cX12_rooms, 2, some (.int), 4, 95)
theorem okX12_rooms : MOk mX12_rooms 0 := ⟨mt8 (List.mem_of_getElem? (i := 53) rfl), mt1 (List.mem_of_getElem? (i := 13) (by decide +kernel)), by decide +kernel, ⟨by decide +kernel, by decide +kernel⟩, by decide +kernel⟩
theorem liX12_rooms : Cond.instanceMethod yX12_rooms ∈ lw_tbl := mt8 (List.mem_of_getElem? (i := 52) (by decide +kernel))
theorem lqX12_rooms : Cond.selects RX12 yX12_rooms yX12_rooms ∈ lw_tbl := mp7 (List.mem_of_getElem? (i := 9) (by decide +kernel))
abbrev mX12_baseAt : MD := (yX12_baseAt, cX12_baseAt, 3, some (.int), 1, 22)
theorem okX12_baseAt : MOk mX12_baseAt 2 := ⟨mt8 (List.mem_of_getElem? (i := 101) rfl), mt1 (List.mem_of_getElem? (i := 13) (by decide +kernel)), by decide +kernel, ⟨by decide +kernel, by decide +kernel⟩, by decide +kernel⟩
theorem liX12_baseAt : Cond.instanceMethod yX12_baseAt ∈ lw_tbl := mt8 (List.mem_of_getElem? (i := 100) (by decide +kernel))
theorem lqX12_baseAt : Cond.selects RX12 yX12_baseAt yX12_baseAt ∈ lw_tbl := mp8 (List.mem_of_getElem? (i := 4) (by decide +kernel))
abbrev mX12_isAsked : MD := (yX12_isAsked, cX12_isAsked, 3, some (.boolean), 4, 91)
theorem okX12_isAsked : MOk mX12_isAsked 2 := ⟨mt8 (List.mem_of_getElem? (i := 45) rfl), mt1 (List.mem_of_getElem? (i := 13) (by decide +kernel)), by decide +kernel, ⟨by decide +kernel, by decide +kernel⟩, by decide +kernel⟩
theorem liX12_isAsked : Cond.instanceMethod yX12_isAsked ∈ lw_tbl := mt8 (List.mem_of_getElem? (i := 44) (by decide +kernel))
theorem lqX12_isAsked : Cond.selects RX12 yX12_isAsked yX12_isAsked ∈ lw_tbl := mp7 (List.mem_of_getElem? (i := 7) (by decide +kernel))
abbrev mX12_room : MD := (yX12_room, cX12_room, 5, some (.int), 5, 116)
theorem okX12_room : MOk mX12_room 3 := ⟨mt8 (List.mem_of_getElem? (i := 41) rfl), mt1 (List.mem_of_getElem? (i := 13) (by decide +kernel)), by decide +kernel, ⟨by decide +kernel, by decide +kernel⟩, by decide +kernel⟩
theorem liX12_room : Cond.instanceMethod yX12_room ∈ lw_tbl := mt8 (List.mem_of_getElem? (i := 39) (by decide +kernel))
theorem lqX12_room : Cond.selects RX12 yX12_room yX12_room ∈ lw_tbl := mt8 (List.mem_of_getElem? (i := 40) (by decide +kernel))
abbrev mX12_base : MD := (yX12_base, cX12_base, 7, some (.int), 5, 116)
theorem okX12_base : MOk mX12_base 5 := ⟨mt8 (List.mem_of_getElem? (i := 97) rfl), mt1 (List.mem_of_getElem? (i := 13) (by decide +kernel)), by decide +kernel, ⟨by decide +kernel, by decide +kernel⟩, by decide +kernel⟩
theorem liX12_base : Cond.instanceMethod yX12_base ∈ lw_tbl := mt8 (List.mem_of_getElem? (i := 95) (by decide +kernel))
theorem lqX12_base : Cond.selects RX12 yX12_base yX12_base ∈ lw_tbl := mt8 (List.mem_of_getElem? (i := 96) (by decide +kernel))
abbrev mX12_under : MD := (yX12_under, cX12_under, 4, some (.int), 5, 116)
theorem okX12_under : MOk mX12_under 3 := ⟨mt8 (List.mem_of_getElem? (i := 105) rfl), mt1 (List.mem_of_getElem? (i := 13) (by decide +kernel)), by decide +kernel, ⟨by decide +kernel, by decide +kernel⟩, by decide +kernel⟩
theorem liX12_under : Cond.instanceMethod yX12_under ∈ lw_tbl := mt8 (List.mem_of_getElem? (i := 103) (by decide +kernel))
theorem lqX12_under : Cond.selects RX12 yX12_under yX12_under ∈ lw_tbl := mt8 (List.mem_of_getElem? (i := 104) (by decide +kernel))
abbrev mX12_roomOfPoint : MD := (yX12_roomOfPoint, cX12_roomOfPoint, 3, some (.int), 5, 116)
theorem okX12_roomOfPoint : MOk mX12_roomOfPoint 2 := ⟨mt8 (List.mem_of_getElem? (i := 113) rfl), mt1 (List.mem_of_getElem? (i := 13) (by decide +kernel)), by decide +kernel, ⟨by decide +kernel, by decide +kernel⟩, by decide +kernel⟩
theorem liX12_roomOfPoint : Cond.instanceMethod yX12_roomOfPoint ∈ lw_tbl := mt8 (List.mem_of_getElem? (i := 112) (by decide +kernel))
theorem lqX12_roomOfPoint : Cond.selects RX12 yX12_roomOfPoint yX12_roomOfPoint ∈ lw_tbl := mp8 (List.mem_of_getElem? (i := 5) (by decide +kernel))
abbrev mX12_gap : MD := (yX12_gap, cX12_gap, 8, some (.int), 6, 138)
theorem okX12_gap : MOk mX12_gap 3 := ⟨mt8 (List.mem_of_getElem? (i := 109) rfl), mt1 (List.mem_of_getElem? (i := 13) (by decide +kernel)), by decide +kernel, ⟨by decide +kernel, by decide +kernel⟩, by decide +kernel⟩
theorem liX12_gap : Cond.instanceMethod yX12_gap ∈ lw_tbl := mt8 (List.mem_of_getElem? (i := 107) (by decide +kernel))
theorem lqX12_gap : Cond.selects RX12 yX12_gap yX12_gap ∈ lw_tbl := mt8 (List.mem_of_getElem? (i := 108) (by decide +kernel))
abbrev mX12_noClass : MD := (yX12_noClass, cX12_noClass, 3, none, 0, 0)
theorem okX12_noClass : MOk mX12_noClass 1 := ⟨mt8 (List.mem_of_getElem? (i := 125) rfl), mt1 (List.mem_of_getElem? (i := 13) (by decide +kernel)), by decide +kernel, ⟨by decide +kernel, by decide +kernel⟩, by decide +kernel⟩
theorem liX12_noClass : Cond.instanceMethod yX12_noClass ∈ lw_tbl := mt8 (List.mem_of_getElem? (i := 124) (by decide +kernel))
theorem lqX12_noClass : Cond.selects RX12 yX12_noClass yX12_noClass ∈ lw_tbl := mp8 (List.mem_of_getElem? (i := 7) (by decide +kernel))
abbrev mX12_isNone : MD := (yX12_isNone, cX12_isNone, 2, some (.boolean), 0, 0)
theorem okX12_isNone : MOk mX12_isNone 1 := ⟨mt8 (List.mem_of_getElem? (i := 177) rfl), mt1 (List.mem_of_getElem? (i := 13) (by decide +kernel)), by decide +kernel, ⟨by decide +kernel, by decide +kernel⟩, by decide +kernel⟩
theorem liX12_isNone : Cond.instanceMethod yX12_isNone ∈ lw_tbl := mt8 (List.mem_of_getElem? (i := 176) (by decide +kernel))
theorem lqX12_isNone : Cond.selects RX12 yX12_isNone yX12_isNone ∈ lw_tbl := mp9 (List.mem_of_getElem? (i := 2) (by decide +kernel))
abbrev mX12_areAlike : MD := (yX12_areAlike, cX12_areAlike, 5, some (.boolean), 0, 0)
theorem okX12_areAlike : MOk mX12_areAlike 2 := ⟨mt8 (List.mem_of_getElem? (i := 185) rfl), mt1 (List.mem_of_getElem? (i := 13) (by decide +kernel)), by decide +kernel, ⟨by decide +kernel, by decide +kernel⟩, by decide +kernel⟩
theorem liX12_areAlike : Cond.instanceMethod yX12_areAlike ∈ lw_tbl := mt8 (List.mem_of_getElem? (i := 184) (by decide +kernel))
theorem lqX12_areAlike : Cond.selects RX12 yX12_areAlike yX12_areAlike ∈ lw_tbl := mp9 (List.mem_of_getElem? (i := 3) (by decide +kernel))
abbrev mX12_copiesClass : MD := (yX12_copiesClass, cX12_copiesClass, 4, none, 0, 0)
theorem okX12_copiesClass : MOk mX12_copiesClass 2 := ⟨mt8 (List.mem_of_getElem? (i := 133) rfl), mt1 (List.mem_of_getElem? (i := 13) (by decide +kernel)), by decide +kernel, ⟨by decide +kernel, by decide +kernel⟩, by decide +kernel⟩
theorem liX12_copiesClass : Cond.instanceMethod yX12_copiesClass ∈ lw_tbl := mt8 (List.mem_of_getElem? (i := 132) (by decide +kernel))
theorem lqX12_copiesClass : Cond.selects RX12 yX12_copiesClass yX12_copiesClass ∈ lw_tbl := mp8 (List.mem_of_getElem? (i := 9) (by decide +kernel))
abbrev mX12_loads : MD := (yX12_loads, cX12_loads, 5, none, 1, 22)
theorem okX12_loads : MOk mX12_loads 3 := ⟨mt8 (List.mem_of_getElem? (i := 145) rfl), mt1 (List.mem_of_getElem? (i := 13) (by decide +kernel)), by decide +kernel, ⟨by decide +kernel, by decide +kernel⟩, by decide +kernel⟩
theorem liX12_loads : Cond.instanceMethod yX12_loads ∈ lw_tbl := mt8 (List.mem_of_getElem? (i := 144) (by decide +kernel))
theorem lqX12_loads : Cond.selects RX12 yX12_loads yX12_loads ∈ lw_tbl := mp8 (List.mem_of_getElem? (i := 12) (by decide +kernel))
abbrev mX12_stores : MD := (yX12_stores, cX12_stores, 5, none, 2, 44)
theorem okX12_stores : MOk mX12_stores 3 := ⟨mt8 (List.mem_of_getElem? (i := 157) rfl), mt1 (List.mem_of_getElem? (i := 13) (by decide +kernel)), by decide +kernel, ⟨by decide +kernel, by decide +kernel⟩, by decide +kernel⟩
theorem liX12_stores : Cond.instanceMethod yX12_stores ∈ lw_tbl := mt8 (List.mem_of_getElem? (i := 156) (by decide +kernel))
theorem lqX12_stores : Cond.selects RX12 yX12_stores yX12_stores ∈ lw_tbl := mp8 (List.mem_of_getElem? (i := 15) (by decide +kernel))
abbrev mX12_together : MD := (yX12_together, cX12_together, 4, none, 5, 116)
theorem okX12_together : MOk mX12_together 3 := ⟨mt8 (List.mem_of_getElem? (i := 141) rfl), mt1 (List.mem_of_getElem? (i := 13) (by decide +kernel)), by decide +kernel, ⟨by decide +kernel, by decide +kernel⟩, by decide +kernel⟩
theorem liX12_together : Cond.instanceMethod yX12_together ∈ lw_tbl := mt8 (List.mem_of_getElem? (i := 140) (by decide +kernel))
theorem lqX12_together : Cond.selects RX12 yX12_together yX12_together ∈ lw_tbl := mp8 (List.mem_of_getElem? (i := 11) (by decide +kernel))
abbrev mX12_adds3 : MD := (yX12_adds3, cX12_adds3, 5, none, 3, 71)
theorem okX12_adds3 : MOk mX12_adds3 4 := ⟨mt8 (List.mem_of_getElem? (i := 149) rfl), mt1 (List.mem_of_getElem? (i := 13) (by decide +kernel)), by decide +kernel, ⟨by decide +kernel, by decide +kernel⟩, by decide +kernel⟩
theorem liX12_adds3 : Cond.instanceMethod yX12_adds3 ∈ lw_tbl := mt8 (List.mem_of_getElem? (i := 148) (by decide +kernel))
theorem lqX12_adds3 : Cond.selects RX12 yX12_adds3 yX12_adds3 ∈ lw_tbl := mp8 (List.mem_of_getElem? (i := 13) (by decide +kernel))
abbrev mX12_reduces : MD := (yX12_reduces, cX12_reduces, 2, none, 3, 75)
theorem okX12_reduces : MOk mX12_reduces 0 := ⟨mt8 (List.mem_of_getElem? (i := 153) rfl), mt1 (List.mem_of_getElem? (i := 13) (by decide +kernel)), by decide +kernel, ⟨by decide +kernel, by decide +kernel⟩, by decide +kernel⟩
theorem liX12_reduces : Cond.instanceMethod yX12_reduces ∈ lw_tbl := mt8 (List.mem_of_getElem? (i := 152) (by decide +kernel))
theorem lqX12_reduces : Cond.selects RX12 yX12_reduces yX12_reduces ∈ lw_tbl := mp8 (List.mem_of_getElem? (i := 14) (by decide +kernel))
abbrev mX12_turned : MD := (yX12_turned, cX12_turned, 3, none, 1, 22)
theorem okX12_turned : MOk mX12_turned 1 := ⟨mt8 (List.mem_of_getElem? (i := 137) rfl), mt1 (List.mem_of_getElem? (i := 13) (by decide +kernel)), by decide +kernel, ⟨by decide +kernel, by decide +kernel⟩, by decide +kernel⟩
theorem liX12_turned : Cond.instanceMethod yX12_turned ∈ lw_tbl := mt8 (List.mem_of_getElem? (i := 136) (by decide +kernel))
theorem lqX12_turned : Cond.selects RX12 yX12_turned yX12_turned ∈ lw_tbl := mp8 (List.mem_of_getElem? (i := 10) (by decide +kernel))
abbrev mX12_timesOf : MD := (yX12_timesOf, cX12_timesOf, 5, none, 6, 139)
theorem okX12_timesOf : MOk mX12_timesOf 3 := ⟨mt8 (List.mem_of_getElem? (i := 129) rfl), mt1 (List.mem_of_getElem? (i := 13) (by decide +kernel)), by decide +kernel, ⟨by decide +kernel, by decide +kernel⟩, by decide +kernel⟩
theorem liX12_timesOf : Cond.instanceMethod yX12_timesOf ∈ lw_tbl := mt8 (List.mem_of_getElem? (i := 128) (by decide +kernel))
theorem lqX12_timesOf : Cond.selects RX12 yX12_timesOf yX12_timesOf ∈ lw_tbl := mp8 (List.mem_of_getElem? (i := 8) (by decide +kernel))
abbrev mX12_classOf : MD := (yX12_classOf, cX12_classOf, 4, none, 7, 163)
theorem okX12_classOf : MOk mX12_classOf 1 := ⟨mt8 (List.mem_of_getElem? (i := 121) rfl), mt1 (List.mem_of_getElem? (i := 13) (by decide +kernel)), by decide +kernel, ⟨by decide +kernel, by decide +kernel⟩, by decide +kernel⟩
theorem liX12_classOf : Cond.instanceMethod yX12_classOf ∈ lw_tbl := mt8 (List.mem_of_getElem? (i := 120) (by decide +kernel))
theorem lqX12_classOf : Cond.selects RX12 yX12_classOf yX12_classOf ∈ lw_tbl := mp8 (List.mem_of_getElem? (i := 6) (by decide +kernel))
abbrev mX12_toldOf : MD := (yX12_toldOf, cX12_toldOf, 3, some (.int), 1, 22)
theorem okX12_toldOf : MOk mX12_toldOf 2 := ⟨mt8 (List.mem_of_getElem? (i := 161) rfl), mt1 (List.mem_of_getElem? (i := 13) (by decide +kernel)), by decide +kernel, ⟨by decide +kernel, by decide +kernel⟩, by decide +kernel⟩
theorem liX12_toldOf : Cond.instanceMethod yX12_toldOf ∈ lw_tbl := mt8 (List.mem_of_getElem? (i := 160) (by decide +kernel))
theorem lqX12_toldOf : Cond.selects RX12 yX12_toldOf yX12_toldOf ∈ lw_tbl := mp9 (List.mem_of_getElem? (i := 0) (by decide +kernel))
abbrev mX12_times : MD := (yX12_times, cX12_times, 5, some (.int), 8, 186)
theorem okX12_times : MOk mX12_times 4 := ⟨mt8 (List.mem_of_getElem? (i := 117) rfl), mt1 (List.mem_of_getElem? (i := 13) (by decide +kernel)), by decide +kernel, ⟨by decide +kernel, by decide +kernel⟩, by decide +kernel⟩
theorem liX12_times : Cond.instanceMethod yX12_times ∈ lw_tbl := mt8 (List.mem_of_getElem? (i := 115) (by decide +kernel))
theorem lqX12_times : Cond.selects RX12 yX12_times yX12_times ∈ lw_tbl := mt8 (List.mem_of_getElem? (i := 116) (by decide +kernel))
abbrev mX12_areTwo : MD := (yX12_areTwo, cX12_areTwo, 4, some (.boolean), 8, 186)
theorem okX12_areTwo : MOk mX12_areTwo 3 := ⟨mt8 (List.mem_of_getElem? (i := 169) rfl), mt1 (List.mem_of_getElem? (i := 13) (by decide +kernel)), by decide +kernel, ⟨by decide +kernel, by decide +kernel⟩, by decide +kernel⟩
theorem liX12_areTwo : Cond.instanceMethod yX12_areTwo ∈ lw_tbl := mt8 (List.mem_of_getElem? (i := 168) (by decide +kernel))
theorem lqX12_areTwo : Cond.selects RX12 yX12_areTwo yX12_areTwo ∈ lw_tbl := mp9 (List.mem_of_getElem? (i := 1) (by decide +kernel))
abbrev mX12_added : MD := (yX12_added, cX12_added, 5, some (.int), 9, 209)
theorem okX12_added : MOk mX12_added 4 := ⟨mt8 (List.mem_of_getElem? (i := 165) rfl), mt1 (List.mem_of_getElem? (i := 13) (by decide +kernel)), by decide +kernel, ⟨by decide +kernel, by decide +kernel⟩, by decide +kernel⟩
theorem liX12_added : Cond.instanceMethod yX12_added ∈ lw_tbl := mt8 (List.mem_of_getElem? (i := 163) (by decide +kernel))
theorem lqX12_added : Cond.selects RX12 yX12_added yX12_added ∈ lw_tbl := mt8 (List.mem_of_getElem? (i := 164) (by decide +kernel))
abbrev mX12_orderOf : MD := (yX12_orderOf, cX12_orderOf, 4, some (.int), 8, 186)
theorem okX12_orderOf : MOk mX12_orderOf 2 := ⟨mt8 (List.mem_of_getElem? (i := 173) rfl), mt1 (List.mem_of_getElem? (i := 13) (by decide +kernel)), by decide +kernel, ⟨by decide +kernel, by decide +kernel⟩, by decide +kernel⟩
theorem liX12_orderOf : Cond.instanceMethod yX12_orderOf ∈ lw_tbl := mt8 (List.mem_of_getElem? (i := 171) (by decide +kernel))
theorem lqX12_orderOf : Cond.selects RX12 yX12_orderOf yX12_orderOf ∈ lw_tbl := mt8 (List.mem_of_getElem? (i := 172) (by decide +kernel))
abbrev mX12_same : MD := (yX12_same, cX12_same, 4, some (.boolean), 9, 209)
theorem okX12_same : MOk mX12_same 3 := ⟨mt8 (List.mem_of_getElem? (i := 181) rfl), mt1 (List.mem_of_getElem? (i := 13) (by decide +kernel)), by decide +kernel, ⟨by decide +kernel, by decide +kernel⟩, by decide +kernel⟩
theorem liX12_same : Cond.instanceMethod yX12_same ∈ lw_tbl := mt8 (List.mem_of_getElem? (i := 179) (by decide +kernel))
theorem lqX12_same : Cond.selects RX12 yX12_same yX12_same ∈ lw_tbl := mt8 (List.mem_of_getElem? (i := 180) (by decide +kernel))
abbrev mX12_log : MD := (yX12_log, cX12_log, 5, some (.int), 9, 209)
theorem okX12_log : MOk mX12_log 3 := ⟨mt8 (List.mem_of_getElem? (i := 189) rfl), mt1 (List.mem_of_getElem? (i := 13) (by decide +kernel)), by decide +kernel, ⟨by decide +kernel, by decide +kernel⟩, by decide +kernel⟩
theorem liX12_log : Cond.instanceMethod yX12_log ∈ lw_tbl := mt8 (List.mem_of_getElem? (i := 187) (by decide +kernel))
theorem lqX12_log : Cond.selects RX12 yX12_log yX12_log ∈ lw_tbl := mt8 (List.mem_of_getElem? (i := 188) (by decide +kernel))
abbrev mX12_isClass : MD := (yX12_isClass, cX12_isClass, 2, some (.boolean), 3, 75)
theorem okX12_isClass : MOk mX12_isClass 1 := ⟨mt8 (List.mem_of_getElem? (i := 201) rfl), mt1 (List.mem_of_getElem? (i := 13) (by decide +kernel)), by decide +kernel, ⟨by decide +kernel, by decide +kernel⟩, by decide +kernel⟩
theorem liX12_isClass : Cond.instanceMethod yX12_isClass ∈ lw_tbl := mt8 (List.mem_of_getElem? (i := 200) (by decide +kernel))
theorem lqX12_isClass : Cond.selects RX12 yX12_isClass yX12_isClass ∈ lw_tbl := mp9 (List.mem_of_getElem? (i := 5) (by decide +kernel))
abbrev mX12_allClasses : MD := (yX12_allClasses, cX12_allClasses, 7, none, 4, 96)
theorem okX12_allClasses : MOk mX12_allClasses 0 := ⟨mt8 (List.mem_of_getElem? (i := 197) rfl), mt1 (List.mem_of_getElem? (i := 13) (by decide +kernel)), by decide +kernel, ⟨by decide +kernel, by decide +kernel⟩, by decide +kernel⟩
theorem liX12_allClasses : Cond.instanceMethod yX12_allClasses ∈ lw_tbl := mt8 (List.mem_of_getElem? (i := 196) (by decide +kernel))
theorem lqX12_allClasses : Cond.selects RX12 yX12_allClasses yX12_allClasses ∈ lw_tbl := mp9 (List.mem_of_getElem? (i := 4) (by decide +kernel))
abbrev mX12_orderOfClass : MD := (yX12_orderOfClass, cX12_orderOfClass, 5, some (.int), 7, 163)
theorem okX12_orderOfClass : MOk mX12_orderOfClass 1 := ⟨mt8 (List.mem_of_getElem? (i := 205) rfl), mt1 (List.mem_of_getElem? (i := 13) (by decide +kernel)), by decide +kernel, ⟨by decide +kernel, by decide +kernel⟩, by decide +kernel⟩
theorem liX12_orderOfClass : Cond.instanceMethod yX12_orderOfClass ∈ lw_tbl := mt8 (List.mem_of_getElem? (i := 204) (by decide +kernel))
theorem lqX12_orderOfClass : Cond.selects RX12 yX12_orderOfClass yX12_orderOfClass ∈ lw_tbl := mp9 (List.mem_of_getElem? (i := 6) (by decide +kernel))
abbrev mX12_torsion : MD := (yX12_torsion, cX12_torsion, 6, some (.int), 8, 187)
theorem okX12_torsion : MOk mX12_torsion 2 := ⟨mt8 (List.mem_of_getElem? (i := 193) rfl), mt1 (List.mem_of_getElem? (i := 13) (by decide +kernel)), by decide +kernel, ⟨by decide +kernel, by decide +kernel⟩, by decide +kernel⟩
theorem liX12_torsion : Cond.instanceMethod yX12_torsion ∈ lw_tbl := mt8 (List.mem_of_getElem? (i := 191) (by decide +kernel))
theorem lqX12_torsion : Cond.selects RX12 yX12_torsion yX12_torsion ∈ lw_tbl := mt8 (List.mem_of_getElem? (i := 192) (by decide +kernel))
abbrev mX12_moves : MD := (yX12_moves, cX12_moves, 6, none, 2, 47)
theorem okX12_moves : MOk mX12_moves 4 := ⟨mt8 (List.mem_of_getElem? (i := 213) rfl), mt1 (List.mem_of_getElem? (i := 13) (by decide +kernel)), by decide +kernel, ⟨by decide +kernel, by decide +kernel⟩, by decide +kernel⟩
theorem liX12_moves : Cond.instanceMethod yX12_moves ∈ lw_tbl := mt8 (List.mem_of_getElem? (i := 212) (by decide +kernel))
theorem lqX12_moves : Cond.selects RX12 yX12_moves yX12_moves ∈ lw_tbl := mp9 (List.mem_of_getElem? (i := 7) (by decide +kernel))
abbrev mX12_isTimes : MD := (yX12_isTimes, cX12_isTimes, 6, some (.boolean), 1, 22)
theorem okX12_isTimes : MOk mX12_isTimes 3 := ⟨mt8 (List.mem_of_getElem? (i := 217) rfl), mt1 (List.mem_of_getElem? (i := 13) (by decide +kernel)), by decide +kernel, ⟨by decide +kernel, by decide +kernel⟩, by decide +kernel⟩
theorem liX12_isTimes : Cond.instanceMethod yX12_isTimes ∈ lw_tbl := mt8 (List.mem_of_getElem? (i := 216) (by decide +kernel))
theorem lqX12_isTimes : Cond.selects RX12 yX12_isTimes yX12_isTimes ∈ lw_tbl := mp9 (List.mem_of_getElem? (i := 8) (by decide +kernel))
abbrev mX12_change : MD := (yX12_change, cX12_change, 8, some (.int), 4, 91)
theorem okX12_change : MOk mX12_change 3 := ⟨mt8 (List.mem_of_getElem? (i := 209) rfl), mt1 (List.mem_of_getElem? (i := 13) (by decide +kernel)), by decide +kernel, ⟨by decide +kernel, by decide +kernel⟩, by decide +kernel⟩
theorem liX12_change : Cond.instanceMethod yX12_change ∈ lw_tbl := mt8 (List.mem_of_getElem? (i := 207) (by decide +kernel))
theorem lqX12_change : Cond.selects RX12 yX12_change yX12_change ∈ lw_tbl := mt8 (List.mem_of_getElem? (i := 208) (by decide +kernel))
abbrev mX12_like : MD := (yX12_like, cX12_like, 7, some (.boolean), 4, 91)
theorem okX12_like : MOk mX12_like 2 := ⟨mt8 (List.mem_of_getElem? (i := 221) rfl), mt1 (List.mem_of_getElem? (i := 13) (by decide +kernel)), by decide +kernel, ⟨by decide +kernel, by decide +kernel⟩, by decide +kernel⟩
theorem liX12_like : Cond.instanceMethod yX12_like ∈ lw_tbl := mt8 (List.mem_of_getElem? (i := 219) (by decide +kernel))
theorem lqX12_like : Cond.selects RX12 yX12_like yX12_like ∈ lw_tbl := mt8 (List.mem_of_getElem? (i := 220) (by decide +kernel))
abbrev mX12_twist : MD := (yX12_twist, cX12_twist, 3, some (.int), 6, 139)
theorem okX12_twist : MOk mX12_twist 2 := ⟨mt8 (List.mem_of_getElem? (i := 225) rfl), mt1 (List.mem_of_getElem? (i := 13) (by decide +kernel)), by decide +kernel, ⟨by decide +kernel, by decide +kernel⟩, by decide +kernel⟩
theorem liX12_twist : Cond.instanceMethod yX12_twist ∈ lw_tbl := mt8 (List.mem_of_getElem? (i := 223) (by decide +kernel))
theorem lqX12_twist : Cond.selects RX12 yX12_twist yX12_twist ∈ lw_tbl := mt8 (List.mem_of_getElem? (i := 224) (by decide +kernel))
abbrev mX12_powerAt : MD := (yX12_powerAt, cX12_powerAt, 7, some (.int), 1, 22)
theorem okX12_powerAt : MOk mX12_powerAt 3 := ⟨mt9 (List.mem_of_getElem? (i := 1) rfl), mt1 (List.mem_of_getElem? (i := 13) (by decide +kernel)), by decide +kernel, ⟨by decide +kernel, by decide +kernel⟩, by decide +kernel⟩
theorem liX12_powerAt : Cond.instanceMethod yX12_powerAt ∈ lw_tbl := mt9 (List.mem_of_getElem? (i := 0) (by decide +kernel))
theorem lqX12_powerAt : Cond.selects RX12 yX12_powerAt yX12_powerAt ∈ lw_tbl := mp9 (List.mem_of_getElem? (i := 11) (by decide +kernel))
abbrev mX12_underAt : MD := (yX12_underAt, cX12_underAt, 4, some (.int), 1, 22)
theorem okX12_underAt : MOk mX12_underAt 1 := ⟨mt8 (List.mem_of_getElem? (i := 237) rfl), mt1 (List.mem_of_getElem? (i := 13) (by decide +kernel)), by decide +kernel, ⟨by decide +kernel, by decide +kernel⟩, by decide +kernel⟩
theorem liX12_underAt : Cond.instanceMethod yX12_underAt ∈ lw_tbl := mt8 (List.mem_of_getElem? (i := 236) (by decide +kernel))
theorem lqX12_underAt : Cond.selects RX12 yX12_underAt yX12_underAt ∈ lw_tbl := mp9 (List.mem_of_getElem? (i := 10) (by decide +kernel))
abbrev mX12_codes : MD := (yX12_codes, cX12_codes, 6, none, 5, 116)
theorem okX12_codes : MOk mX12_codes 0 := ⟨mt8 (List.mem_of_getElem? (i := 233) rfl), mt1 (List.mem_of_getElem? (i := 13) (by decide +kernel)), by decide +kernel, ⟨by decide +kernel, by decide +kernel⟩, by decide +kernel⟩
theorem liX12_codes : Cond.instanceMethod yX12_codes ∈ lw_tbl := mt8 (List.mem_of_getElem? (i := 232) (by decide +kernel))
theorem lqX12_codes : Cond.selects RX12 yX12_codes yX12_codes ∈ lw_tbl := mp9 (List.mem_of_getElem? (i := 9) (by decide +kernel))
abbrev mX12_stepsAt : MD := (yX12_stepsAt, cX12_stepsAt, 7, none, 2, 44)
theorem okX12_stepsAt : MOk mX12_stepsAt 1 := ⟨mt9 (List.mem_of_getElem? (i := 5) rfl), mt1 (List.mem_of_getElem? (i := 13) (by decide +kernel)), by decide +kernel, ⟨by decide +kernel, by decide +kernel⟩, by decide +kernel⟩
theorem liX12_stepsAt : Cond.instanceMethod yX12_stepsAt ∈ lw_tbl := mt9 (List.mem_of_getElem? (i := 4) (by decide +kernel))
theorem lqX12_stepsAt : Cond.selects RX12 yX12_stepsAt yX12_stepsAt ∈ lw_tbl := mp9 (List.mem_of_getElem? (i := 12) (by decide +kernel))
abbrev mX12_codesOf : MD := (yX12_codesOf, cX12_codesOf, 8, none, 1, 22)
theorem okX12_codesOf : MOk mX12_codesOf 4 := ⟨mt9 (List.mem_of_getElem? (i := 9) rfl), mt1 (List.mem_of_getElem? (i := 13) (by decide +kernel)), by decide +kernel, ⟨by decide +kernel, by decide +kernel⟩, by decide +kernel⟩
theorem liX12_codesOf : Cond.instanceMethod yX12_codesOf ∈ lw_tbl := mt9 (List.mem_of_getElem? (i := 8) (by decide +kernel))
theorem lqX12_codesOf : Cond.selects RX12 yX12_codesOf yX12_codesOf ∈ lw_tbl := mp9 (List.mem_of_getElem? (i := 13) (by decide +kernel))
abbrev mX12_unlike : MD := (yX12_unlike, cX12_unlike, 3, some (.int), 0, 0)
theorem okX12_unlike : MOk mX12_unlike 0 := ⟨mt9 (List.mem_of_getElem? (i := 13) rfl), mt1 (List.mem_of_getElem? (i := 13) (by decide +kernel)), by decide +kernel, ⟨by decide +kernel, by decide +kernel⟩, by decide +kernel⟩
theorem liX12_unlike : Cond.instanceMethod yX12_unlike ∈ lw_tbl := mt9 (List.mem_of_getElem? (i := 12) (by decide +kernel))
theorem lqX12_unlike : Cond.selects RX12 yX12_unlike yX12_unlike ∈ lw_tbl := mp9 (List.mem_of_getElem? (i := 14) (by decide +kernel))
abbrev mX12_code : MD := (yX12_code, cX12_code, 8, some (.int), 6, 141)
theorem okX12_code : MOk mX12_code 3 := ⟨mt8 (List.mem_of_getElem? (i := 229) rfl), mt1 (List.mem_of_getElem? (i := 13) (by decide +kernel)), by decide +kernel, ⟨by decide +kernel, by decide +kernel⟩, by decide +kernel⟩
theorem liX12_code : Cond.instanceMethod yX12_code ∈ lw_tbl := mt8 (List.mem_of_getElem? (i := 227) (by decide +kernel))
theorem lqX12_code : Cond.selects RX12 yX12_code yX12_code ∈ lw_tbl := mt8 (List.mem_of_getElem? (i := 228) (by decide +kernel))
abbrev mX12_sent : MD := (yX12_sent, cX12_sent, 5, some (.int), 6, 141)
theorem okX12_sent : MOk mX12_sent 4 := ⟨mt9 (List.mem_of_getElem? (i := 17) rfl), mt1 (List.mem_of_getElem? (i := 13) (by decide +kernel)), by decide +kernel, ⟨by decide +kernel, by decide +kernel⟩, by decide +kernel⟩
theorem liX12_sent : Cond.instanceMethod yX12_sent ∈ lw_tbl := mt9 (List.mem_of_getElem? (i := 15) (by decide +kernel))
theorem lqX12_sent : Cond.selects RX12 yX12_sent yX12_sent ∈ lw_tbl := mt9 (List.mem_of_getElem? (i := 16) (by decide +kernel))
abbrev mX12_drawn : MD := (yX12_drawn, cX12_drawn, 2, some (.int), 0, 0)
theorem okX12_drawn : MOk mX12_drawn 1 := ⟨mt9 (List.mem_of_getElem? (i := 25) rfl), mt1 (List.mem_of_getElem? (i := 13) (by decide +kernel)), by decide +kernel, ⟨by decide +kernel, by decide +kernel⟩, by decide +kernel⟩
theorem liX12_drawn : Cond.instanceMethod yX12_drawn ∈ lw_tbl := mt9 (List.mem_of_getElem? (i := 24) (by decide +kernel))
theorem lqX12_drawn : Cond.selects RX12 yX12_drawn yX12_drawn ∈ lw_tbl := mp9 (List.mem_of_getElem? (i := 15) (by decide +kernel))
abbrev mX12_mended : MD := (yX12_mended, cX12_mended, 12, some (.int), 6, 141)
theorem okX12_mended : MOk mX12_mended 6 := ⟨mt9 (List.mem_of_getElem? (i := 21) rfl), mt1 (List.mem_of_getElem? (i := 13) (by decide +kernel)), by decide +kernel, ⟨by decide +kernel, by decide +kernel⟩, by decide +kernel⟩
theorem liX12_mended : Cond.instanceMethod yX12_mended ∈ lw_tbl := mt9 (List.mem_of_getElem? (i := 19) (by decide +kernel))
theorem lqX12_mended : Cond.selects RX12 yX12_mended yX12_mended ∈ lw_tbl := mt9 (List.mem_of_getElem? (i := 20) (by decide +kernel))
abbrev mX12_isOwn : MD := (yX12_isOwn, cX12_isOwn, 3, some (.boolean), 0, 0)
theorem okX12_isOwn : MOk mX12_isOwn 0 := ⟨mt9 (List.mem_of_getElem? (i := 30) rfl), mt1 (List.mem_of_getElem? (i := 13) (by decide +kernel)), by decide +kernel, ⟨by decide +kernel, by decide +kernel⟩, by decide +kernel⟩
theorem liX12_isOwn : Cond.instanceMethod yX12_isOwn ∈ lw_tbl := mt9 (List.mem_of_getElem? (i := 29) (by decide +kernel))
theorem lqX12_isOwn : Cond.selects RX12 yX12_isOwn yX12_isOwn ∈ lw_tbl := mp10 (List.mem_of_getElem? (i := 0) (by decide +kernel))
abbrev mX12_count : MD := (yX12_count, cX12_count, 2, some (.int), 1, 22)
theorem okX12_count : MOk mX12_count 1 := ⟨mt9 (List.mem_of_getElem? (i := 34) rfl), mt1 (List.mem_of_getElem? (i := 13) (by decide +kernel)), by decide +kernel, ⟨by decide +kernel, by decide +kernel⟩, by decide +kernel⟩
theorem liX12_count : Cond.instanceMethod yX12_count ∈ lw_tbl := mt9 (List.mem_of_getElem? (i := 32) (by decide +kernel))
theorem lqX12_count : Cond.selects RX12 yX12_count yX12_count ∈ lw_tbl := mt9 (List.mem_of_getElem? (i := 33) (by decide +kernel))
abbrev mX12_image : MD := (yX12_image, cX12_image, 3, some (.boolean), 1, 22)
theorem okX12_image : MOk mX12_image 1 := ⟨mt9 (List.mem_of_getElem? (i := 38) rfl), mt1 (List.mem_of_getElem? (i := 13) (by decide +kernel)), by decide +kernel, ⟨by decide +kernel, by decide +kernel⟩, by decide +kernel⟩
theorem liX12_image : Cond.instanceMethod yX12_image ∈ lw_tbl := mt9 (List.mem_of_getElem? (i := 36) (by decide +kernel))
theorem lqX12_image : Cond.selects RX12 yX12_image yX12_image ∈ lw_tbl := mt9 (List.mem_of_getElem? (i := 37) (by decide +kernel))
abbrev mX12_again : MD := (yX12_again, cX12_again, 3, some (.boolean), 1, 22)
theorem okX12_again : MOk mX12_again 1 := ⟨mt9 (List.mem_of_getElem? (i := 42) rfl), mt1 (List.mem_of_getElem? (i := 13) (by decide +kernel)), by decide +kernel, ⟨by decide +kernel, by decide +kernel⟩, by decide +kernel⟩
theorem liX12_again : Cond.instanceMethod yX12_again ∈ lw_tbl := mt9 (List.mem_of_getElem? (i := 40) (by decide +kernel))
theorem lqX12_again : Cond.selects RX12 yX12_again yX12_again ∈ lw_tbl := mt9 (List.mem_of_getElem? (i := 41) (by decide +kernel))
abbrev mJ9_abs_0f7a4 : MD := (yJ9_abs_0f7a4, cJ9_abs_0f7a4, 1, some (.int), 0, 0)
theorem lsJ9_abs_0f7a4 : Cond.static yJ9_abs_0f7a4 ∈ lw_tbl := mt5 (List.mem_of_getElem? (i := 94) (by decide +kernel))
abbrev mJ9_max_7cf53 : MD := (yJ9_max_7cf53, cJ9_max_7cf53, 2, some (.int), 0, 0)
theorem lsJ9_max_7cf53 : Cond.static yJ9_max_7cf53 ∈ lw_tbl := mt4 (List.mem_of_getElem? (i := 44) (by decide +kernel))
abbrev mJ9_min_7cf53 : MD := (yJ9_min_7cf53, cJ9_min_7cf53, 2, some (.int), 0, 0)
theorem lsJ9_min_7cf53 : Cond.static yJ9_min_7cf53 ∈ lw_tbl := mt3 (List.mem_of_getElem? (i := 110) (by decide +kernel))
abbrev mJ0_length_8abf5 : MD := (yJ0_length_8abf5, cJ0_length_8abf5, 1, some (.int), 1, 20)
theorem okJ0_length_8abf5 : MOk mJ0_length_8abf5 0 := ⟨mt3 (List.mem_of_getElem? (i := 141) rfl), mt1 (List.mem_of_getElem? (i := 16) (by decide +kernel)), by decide +kernel, ⟨by decide +kernel, by decide +kernel⟩, by decide +kernel⟩
theorem liJ0_length_8abf5 : Cond.instanceMethod yJ0_length_8abf5 ∈ lw_tbl := mt3 (List.mem_of_getElem? (i := 139) (by decide +kernel))
theorem lqJ0_length_8abf5 : Cond.selects RJ0 yJ0_length_8abf5 yJ0_length_8abf5 ∈ lw_tbl := mt3 (List.mem_of_getElem? (i := 140) (by decide +kernel))
abbrev mJ0_charAt_5068e : MD := (yJ0_charAt_5068e, cJ0_charAt_5068e, 2, some (.char), 4, 85)
theorem okJ0_charAt_5068e : MOk mJ0_charAt_5068e 1 := ⟨mt3 (List.mem_of_getElem? (i := 151) rfl), mt1 (List.mem_of_getElem? (i := 16) (by decide +kernel)), by decide +kernel, ⟨by decide +kernel, by decide +kernel⟩, by decide +kernel⟩
theorem liJ0_charAt_5068e : Cond.instanceMethod yJ0_charAt_5068e ∈ lw_tbl := mt3 (List.mem_of_getElem? (i := 149) (by decide +kernel))
theorem lqJ0_charAt_5068e : Cond.selects RJ0 yJ0_charAt_5068e yJ0_charAt_5068e ∈ lw_tbl := mt3 (List.mem_of_getElem? (i := 150) (by decide +kernel))
abbrev mJ0_coder_7d493 : MD := (yJ0_coder_7d493, cJ0_coder_7d493, 1, some (.byte), 0, 0)
theorem okJ0_coder_7d493 : MOk mJ0_coder_7d493 0 := ⟨mt3 (List.mem_of_getElem? (i := 145) rfl), mt1 (List.mem_of_getElem? (i := 16) (by decide +kernel)), by decide +kernel, ⟨by decide +kernel, by decide +kernel⟩, by decide +kernel⟩
theorem liJ0_coder_7d493 : Cond.instanceMethod yJ0_coder_7d493 ∈ lw_tbl := mt3 (List.mem_of_getElem? (i := 143) (by decide +kernel))
theorem lqJ0_coder_7d493 : Cond.selects RJ0 yJ0_coder_7d493 yJ0_coder_7d493 ∈ lw_tbl := mt3 (List.mem_of_getElem? (i := 144) (by decide +kernel))
abbrev mJ0_isLatin1_aae02 : MD := (yJ0_isLatin1_aae02, cJ0_isLatin1_aae02, 1, some (.boolean), 0, 0)
theorem okJ0_isLatin1_aae02 : MOk mJ0_isLatin1_aae02 0 := ⟨mt3 (List.mem_of_getElem? (i := 155) rfl), mt1 (List.mem_of_getElem? (i := 16) (by decide +kernel)), by decide +kernel, ⟨by decide +kernel, by decide +kernel⟩, by decide +kernel⟩
theorem liJ0_isLatin1_aae02 : Cond.instanceMethod yJ0_isLatin1_aae02 ∈ lw_tbl := mt3 (List.mem_of_getElem? (i := 153) (by decide +kernel))
theorem lqJ0_isLatin1_aae02 : Cond.selects RJ0 yJ0_isLatin1_aae02 yJ0_isLatin1_aae02 ∈ lw_tbl := mt3 (List.mem_of_getElem? (i := 154) (by decide +kernel))
abbrev mJ0_checkIndex_df160 : MD := (yJ0_checkIndex_df160, cJ0_checkIndex_df160, 2, none, 1, 22)
theorem okJ0_checkIndex_df160 : MOk mJ0_checkIndex_df160 2 := ⟨mt3 (List.mem_of_getElem? (i := 161) rfl), mt1 (List.mem_of_getElem? (i := 16) (by decide +kernel)), by decide +kernel, ⟨by decide +kernel, by decide +kernel⟩, by decide +kernel⟩
theorem lsJ0_checkIndex_df160 : Cond.static yJ0_checkIndex_df160 ∈ lw_tbl := mt3 (List.mem_of_getElem? (i := 160) (by decide +kernel))
abbrev mJ1_charAt_3b067 : MD := (yJ1_charAt_3b067, cJ1_charAt_3b067, 2, some (.char), 2, 43)
theorem okJ1_charAt_3b067 : MOk mJ1_charAt_3b067 2 := ⟨mt3 (List.mem_of_getElem? (i := 158) rfl), mt1 (List.mem_of_getElem? (i := 17) (by decide +kernel)), by decide +kernel, ⟨by decide +kernel, by decide +kernel⟩, by decide +kernel⟩
theorem lsJ1_charAt_3b067 : Cond.static yJ1_charAt_3b067 ∈ lw_tbl := mt3 (List.mem_of_getElem? (i := 157) (by decide +kernel))
abbrev mJ2_getChar_3b067 : MD := (yJ2_getChar_3b067, cJ2_getChar_3b067, 2, some (.char), 1, 20)
theorem okJ2_getChar_3b067 : MOk mJ2_getChar_3b067 2 := ⟨mt3 (List.mem_of_getElem? (i := 179) rfl), mt1 (List.mem_of_getElem? (i := 19) (by decide +kernel)), by decide +kernel, ⟨by decide +kernel, by decide +kernel⟩, by decide +kernel⟩
theorem lsJ2_getChar_3b067 : Cond.static yJ2_getChar_3b067 ∈ lw_tbl := mt3 (List.mem_of_getElem? (i := 178) (by decide +kernel))
abbrev mJ2_length_9d52b : MD := (yJ2_length_9d52b, cJ2_length_9d52b, 1, some (.int), 0, 0)
theorem okJ2_length_9d52b : MOk mJ2_length_9d52b 1 := ⟨mt3 (List.mem_of_getElem? (i := 175) rfl), mt1 (List.mem_of_getElem? (i := 19) (by decide +kernel)), by decide +kernel, ⟨by decide +kernel, by decide +kernel⟩, by decide +kernel⟩
theorem lsJ2_length_9d52b : Cond.static yJ2_length_9d52b ∈ lw_tbl := mt3 (List.mem_of_getElem? (i := 174) (by decide +kernel))
abbrev mJ2_charAt_3b067 : MD := (yJ2_charAt_3b067, cJ2_charAt_3b067, 2, some (.char), 3, 64)
theorem okJ2_charAt_3b067 : MOk mJ2_charAt_3b067 2 := ⟨mt3 (List.mem_of_getElem? (i := 169) rfl), mt1 (List.mem_of_getElem? (i := 19) (by decide +kernel)), by decide +kernel, ⟨by decide +kernel, by decide +kernel⟩, by decide +kernel⟩
theorem lsJ2_charAt_3b067 : Cond.static yJ2_charAt_3b067 ∈ lw_tbl := mt3 (List.mem_of_getElem? (i := 168) (by decide +kernel))
abbrev mJ2_checkIndex_2214a : MD := (yJ2_checkIndex_2214a, cJ2_checkIndex_2214a, 2, none, 2, 43)
theorem okJ2_checkIndex_2214a : MOk mJ2_checkIndex_2214a 2 := ⟨mt3 (List.mem_of_getElem? (i := 172) rfl), mt1 (List.mem_of_getElem? (i := 19) (by decide +kernel)), by decide +kernel, ⟨by decide +kernel, by decide +kernel⟩, by decide +kernel⟩
theorem lsJ2_checkIndex_2214a : Cond.static yJ2_checkIndex_2214a ∈ lw_tbl := mt3 (List.mem_of_getElem? (i := 171) (by decide +kernel))
abbrev mJ7_fill_53178 : MD := (yJ7_fill_53178, cJ7_fill_53178, 4, none, 0, 0)
theorem okJ7_fill_53178 : MOk mJ7_fill_53178 2 := ⟨mt3 (List.mem_of_getElem? (i := 118) rfl), mt1 (List.mem_of_getElem? (i := 15) (by decide +kernel)), by decide +kernel, ⟨by decide +kernel, by decide +kernel⟩, by decide +kernel⟩
theorem lsJ7_fill_53178 : Cond.static yJ7_fill_53178 ∈ lw_tbl := mt3 (List.mem_of_getElem? (i := 117) (by decide +kernel))
abbrev mJ3_checkIndex_8e157 : MD := (yJ3_checkIndex_8e157, cJ3_checkIndex_8e157, 3, some (.int), 0, 0)
theorem okJ3_checkIndex_8e157 : MOk mJ3_checkIndex_8e157 3 := ⟨mt3 (List.mem_of_getElem? (i := 166) rfl), mt1 (List.mem_of_getElem? (i := 18) (by decide +kernel)), by decide +kernel, ⟨by decide +kernel, by decide +kernel⟩, by decide +kernel⟩
theorem lsJ3_checkIndex_8e157 : Cond.static yJ3_checkIndex_8e157 ∈ lw_tbl := mt3 (List.mem_of_getElem? (i := 165) (by decide +kernel))
