set_option maxRecDepth 100000 in
theorem q_ok_71 : ∀ r ∈ q_p71, q_okr 71 r = true := List.all_eq_true.mp (by decide +kernel)
theorem q_cw_71 : lw_tbl[758]? = some (.code (q_mi 71).1 (q_mi 71).2.1 (q_mi 71).2.2.1 (q_mi 71).2.2.2.1) := by decide +kernel
set_option maxRecDepth 100000 in
theorem q_ok_72 : ∀ r ∈ q_p72, q_okr 72 r = true := List.all_eq_true.mp (by decide +kernel)
theorem q_cw_72 : lw_tbl[858]? = some (.code (q_mi 72).1 (q_mi 72).2.1 (q_mi 72).2.2.1 (q_mi 72).2.2.2.1) := by decide +kernel
set_option maxRecDepth 100000 in
theorem q_ok_73 : ∀ r ∈ q_p73, q_okr 73 r = true := List.all_eq_true.mp (by decide +kernel)
theorem q_cw_73 : lw_tbl[716]? = some (.code (q_mi 73).1 (q_mi 73).2.1 (q_mi 73).2.2.1 (q_mi 73).2.2.2.1) := by decide +kernel
set_option maxRecDepth 100000 in
theorem q_ok_74 : ∀ r ∈ q_p74, q_okr 74 r = true := List.all_eq_true.mp (by decide +kernel)
theorem q_cw_74 : lw_tbl[779]? = some (.code (q_mi 74).1 (q_mi 74).2.1 (q_mi 74).2.2.1 (q_mi 74).2.2.2.1) := by decide +kernel
set_option maxRecDepth 100000 in
theorem q_ok_75 : ∀ r ∈ q_p75, q_okr 75 r = true := List.all_eq_true.mp (by decide +kernel)
theorem q_cw_75 : lw_tbl[791]? = some (.code (q_mi 75).1 (q_mi 75).2.1 (q_mi 75).2.2.1 (q_mi 75).2.2.2.1) := by decide +kernel
set_option maxRecDepth 100000 in
theorem q_ok_76 : ∀ r ∈ q_p76, q_okr 76 r = true := List.all_eq_true.mp (by decide +kernel)
theorem q_cw_76 : lw_tbl[750]? = some (.code (q_mi 76).1 (q_mi 76).2.1 (q_mi 76).2.2.1 (q_mi 76).2.2.2.1) := by decide +kernel
set_option maxRecDepth 100000 in
theorem q_ok_77 : ∀ r ∈ q_p77, q_okr 77 r = true := List.all_eq_true.mp (by decide +kernel)
theorem q_cw_77 : lw_tbl[970]? = some (.code (q_mi 77).1 (q_mi 77).2.1 (q_mi 77).2.2.1 (q_mi 77).2.2.2.1) := by decide +kernel
set_option maxRecDepth 100000 in
theorem q_ok_78_0 : ∀ r ∈ (q_p78.drop 0).take 60, q_okr 78 r = true := List.all_eq_true.mp (by decide +kernel)
set_option maxRecDepth 100000 in
theorem q_ok_78_60 : ∀ r ∈ (q_p78.drop 60).take 60, q_okr 78 r = true := List.all_eq_true.mp (by decide +kernel)
set_option maxRecDepth 100000 in
theorem q_ok_78 : ∀ r ∈ q_p78, q_okr 78 r = true := by
  have e : q_p78 = (q_p78.drop 0).take 60 ++ (q_p78.drop 60).take 60 := by decide +kernel
  intro r h
  rw [e] at h
  simp only [List.mem_append] at h
  rcases h with h | h
  · exact q_ok_78_0 r h
  · exact q_ok_78_60 r h
theorem q_cw_78 : lw_tbl[887]? = some (.code (q_mi 78).1 (q_mi 78).2.1 (q_mi 78).2.2.1 (q_mi 78).2.2.2.1) := by decide +kernel
set_option maxRecDepth 100000 in
theorem q_ok_79_0 : ∀ r ∈ (q_p79.drop 0).take 60, q_okr 79 r = true := List.all_eq_true.mp (by decide +kernel)
set_option maxRecDepth 100000 in
theorem q_ok_79_60 : ∀ r ∈ (q_p79.drop 60).take 60, q_okr 79 r = true := List.all_eq_true.mp (by decide +kernel)
set_option maxRecDepth 100000 in
theorem q_ok_79 : ∀ r ∈ q_p79, q_okr 79 r = true := by
  have e : q_p79 = (q_p79.drop 0).take 60 ++ (q_p79.drop 60).take 60 := by decide +kernel
  intro r h
  rw [e] at h
  simp only [List.mem_append] at h
  rcases h with h | h
  · exact q_ok_79_0 r h
  · exact q_ok_79_60 r h
theorem q_cw_79 : lw_tbl[882]? = some (.code (q_mi 79).1 (q_mi 79).2.1 (q_mi 79).2.2.1 (q_mi 79).2.2.2.1) := by decide +kernel
set_option maxRecDepth 100000 in
theorem q_ok_80 : ∀ r ∈ q_p80, q_okr 80 r = true := List.all_eq_true.mp (by decide +kernel)
theorem q_cw_80 : lw_tbl[966]? = some (.code (q_mi 80).1 (q_mi 80).2.1 (q_mi 80).2.2.1 (q_mi 80).2.2.2.1) := by decide +kernel
set_option maxRecDepth 100000 in
theorem q_ok_81 : ∀ r ∈ q_p81, q_okr 81 r = true := List.all_eq_true.mp (by decide +kernel)
theorem q_cw_81 : lw_tbl[942]? = some (.code (q_mi 81).1 (q_mi 81).2.1 (q_mi 81).2.2.1 (q_mi 81).2.2.2.1) := by decide +kernel
set_option maxRecDepth 100000 in
theorem q_ok_82 : ∀ r ∈ q_p82, q_okr 82 r = true := List.all_eq_true.mp (by decide +kernel)
theorem q_cw_82 : lw_tbl[938]? = some (.code (q_mi 82).1 (q_mi 82).2.1 (q_mi 82).2.2.1 (q_mi 82).2.2.2.1) := by decide +kernel
set_option maxRecDepth 100000 in
theorem q_ok_83 : ∀ r ∈ q_p83, q_okr 83 r = true := List.all_eq_true.mp (by decide +kernel)
theorem q_cw_83 : lw_tbl[316]? = some (.code (q_mi 83).1 (q_mi 83).2.1 (q_mi 83).2.2.1 (q_mi 83).2.2.2.1) := by decide +kernel
set_option maxRecDepth 100000 in
theorem q_ok_84 : ∀ r ∈ q_p84, q_okr 84 r = true := List.all_eq_true.mp (by decide +kernel)
theorem q_cw_84 : lw_tbl[587]? = some (.code (q_mi 84).1 (q_mi 84).2.1 (q_mi 84).2.2.1 (q_mi 84).2.2.2.1) := by decide +kernel
set_option maxRecDepth 100000 in
theorem q_ok_85 : ∀ r ∈ q_p85, q_okr 85 r = true := List.all_eq_true.mp (by decide +kernel)
theorem q_cw_85 : lw_tbl[580]? = some (.code (q_mi 85).1 (q_mi 85).2.1 (q_mi 85).2.2.1 (q_mi 85).2.2.2.1) := by decide +kernel
set_option maxRecDepth 100000 in
theorem q_ok_86 : ∀ r ∈ q_p86, q_okr 86 r = true := List.all_eq_true.mp (by decide +kernel)
theorem q_cw_86 : lw_tbl[344]? = some (.code (q_mi 86).1 (q_mi 86).2.1 (q_mi 86).2.2.1 (q_mi 86).2.2.2.1) := by decide +kernel
set_option maxRecDepth 100000 in
theorem q_ok_87 : ∀ r ∈ q_p87, q_okr 87 r = true := List.all_eq_true.mp (by decide +kernel)
theorem q_cw_87 : lw_tbl[334]? = some (.code (q_mi 87).1 (q_mi 87).2.1 (q_mi 87).2.2.1 (q_mi 87).2.2.2.1) := by decide +kernel
set_option maxRecDepth 100000 in
theorem q_ok_88 : ∀ r ∈ q_p88, q_okr 88 r = true := List.all_eq_true.mp (by decide +kernel)
theorem q_cw_88 : lw_tbl[339]? = some (.code (q_mi 88).1 (q_mi 88).2.1 (q_mi 88).2.2.1 (q_mi 88).2.2.2.1) := by decide +kernel
set_option maxRecDepth 100000 in
theorem q_ok_89 : ∀ r ∈ q_p89, q_okr 89 r = true := List.all_eq_true.mp (by decide +kernel)
theorem q_cw_89 : lw_tbl[349]? = some (.code (q_mi 89).1 (q_mi 89).2.1 (q_mi 89).2.2.1 (q_mi 89).2.2.2.1) := by decide +kernel
set_option maxRecDepth 100000 in
theorem q_ok_90 : ∀ r ∈ q_p90, q_okr 90 r = true := List.all_eq_true.mp (by decide +kernel)
theorem q_cw_90 : lw_tbl[557]? = some (.code (q_mi 90).1 (q_mi 90).2.1 (q_mi 90).2.2.1 (q_mi 90).2.2.2.1) := by decide +kernel
set_option maxRecDepth 100000 in
theorem q_ok_91 : ∀ r ∈ q_p91, q_okr 91 r = true := List.all_eq_true.mp (by decide +kernel)
theorem q_cw_91 : lw_tbl[374]? = some (.code (q_mi 91).1 (q_mi 91).2.1 (q_mi 91).2.2.1 (q_mi 91).2.2.2.1) := by decide +kernel
set_option maxRecDepth 100000 in
theorem q_ok_92 : ∀ r ∈ q_p92, q_okr 92 r = true := List.all_eq_true.mp (by decide +kernel)
theorem q_cw_92 : lw_tbl[435]? = some (.code (q_mi 92).1 (q_mi 92).2.1 (q_mi 92).2.2.1 (q_mi 92).2.2.2.1) := by decide +kernel
set_option maxRecDepth 100000 in
theorem q_ok_93 : ∀ r ∈ q_p93, q_okr 93 r = true := List.all_eq_true.mp (by decide +kernel)
theorem q_cw_93 : lw_tbl[59]? = some (.code (q_mi 93).1 (q_mi 93).2.1 (q_mi 93).2.2.1 (q_mi 93).2.2.2.1) := by decide +kernel
set_option maxRecDepth 100000 in
theorem q_ok_94_0 : ∀ r ∈ (q_p94.drop 0).take 60, q_okr 94 r = true := List.all_eq_true.mp (by decide +kernel)
set_option maxRecDepth 100000 in
theorem q_ok_94_60 : ∀ r ∈ (q_p94.drop 60).take 60, q_okr 94 r = true := List.all_eq_true.mp (by decide +kernel)
set_option maxRecDepth 100000 in
theorem q_ok_94 : ∀ r ∈ q_p94, q_okr 94 r = true := by
  have e : q_p94 = (q_p94.drop 0).take 60 ++ (q_p94.drop 60).take 60 := by decide +kernel
  intro r h
  rw [e] at h
  simp only [List.mem_append] at h
  rcases h with h | h
  · exact q_ok_94_0 r h
  · exact q_ok_94_60 r h
theorem q_cw_94 : lw_tbl[423]? = some (.code (q_mi 94).1 (q_mi 94).2.1 (q_mi 94).2.2.1 (q_mi 94).2.2.2.1) := by decide +kernel
set_option maxRecDepth 100000 in
theorem q_ok_95_0 : ∀ r ∈ (q_p95.drop 0).take 60, q_okr 95 r = true := List.all_eq_true.mp (by decide +kernel)
set_option maxRecDepth 100000 in
theorem q_ok_95_60 : ∀ r ∈ (q_p95.drop 60).take 60, q_okr 95 r = true := List.all_eq_true.mp (by decide +kernel)
set_option maxRecDepth 100000 in
theorem q_ok_95 : ∀ r ∈ q_p95, q_okr 95 r = true := by
  have e : q_p95 = (q_p95.drop 0).take 60 ++ (q_p95.drop 60).take 60 := by decide +kernel
  intro r h
  rw [e] at h
  simp only [List.mem_append] at h
  rcases h with h | h
  · exact q_ok_95_0 r h
  · exact q_ok_95_60 r h
theorem q_cw_95 : lw_tbl[390]? = some (.code (q_mi 95).1 (q_mi 95).2.1 (q_mi 95).2.2.1 (q_mi 95).2.2.2.1) := by decide +kernel
set_option maxRecDepth 100000 in
theorem q_ok_96 : ∀ r ∈ q_p96, q_okr 96 r = true := List.all_eq_true.mp (by decide +kernel)
theorem q_cw_96 : lw_tbl[489]? = some (.code (q_mi 96).1 (q_mi 96).2.1 (q_mi 96).2.2.1 (q_mi 96).2.2.2.1) := by decide +kernel
set_option maxRecDepth 100000 in
theorem q_ok_97 : ∀ r ∈ q_p97, q_okr 97 r = true := List.all_eq_true.mp (by decide +kernel)
theorem q_cw_97 : lw_tbl[455]? = some (.code (q_mi 97).1 (q_mi 97).2.1 (q_mi 97).2.2.1 (q_mi 97).2.2.2.1) := by decide +kernel
set_option maxRecDepth 100000 in
theorem q_ok_98 : ∀ r ∈ q_p98, q_okr 98 r = true := List.all_eq_true.mp (by decide +kernel)
theorem q_cw_98 : lw_tbl[609]? = some (.code (q_mi 98).1 (q_mi 98).2.1 (q_mi 98).2.2.1 (q_mi 98).2.2.2.1) := by decide +kernel
set_option maxRecDepth 100000 in
theorem q_ok_99 : ∀ r ∈ q_p99, q_okr 99 r = true := List.all_eq_true.mp (by decide +kernel)
theorem q_cw_99 : lw_tbl[513]? = some (.code (q_mi 99).1 (q_mi 99).2.1 (q_mi 99).2.2.1 (q_mi 99).2.2.2.1) := by decide +kernel
set_option maxRecDepth 100000 in
theorem q_ok_100 : ∀ r ∈ q_p100, q_okr 100 r = true := List.all_eq_true.mp (by decide +kernel)
theorem q_cw_100 : lw_tbl[682]? = some (.code (q_mi 100).1 (q_mi 100).2.1 (q_mi 100).2.2.1 (q_mi 100).2.2.2.1) := by decide +kernel
set_option maxRecDepth 100000 in
theorem q_ok_101 : ∀ r ∈ q_p101, q_okr 101 r = true := List.all_eq_true.mp (by decide +kernel)
theorem q_cw_101 : lw_tbl[329]? = some (.code (q_mi 101).1 (q_mi 101).2.1 (q_mi 101).2.2.1 (q_mi 101).2.2.2.1) := by decide +kernel
set_option maxRecDepth 100000 in
theorem q_ok_102_0 : ∀ r ∈ (q_p102.drop 0).take 60, q_okr 102 r = true := List.all_eq_true.mp (by decide +kernel)
set_option maxRecDepth 100000 in
theorem q_ok_102_60 : ∀ r ∈ (q_p102.drop 60).take 60, q_okr 102 r = true := List.all_eq_true.mp (by decide +kernel)
set_option maxRecDepth 100000 in
theorem q_ok_102 : ∀ r ∈ q_p102, q_okr 102 r = true := by
  have e : q_p102 = (q_p102.drop 0).take 60 ++ (q_p102.drop 60).take 60 := by decide +kernel
  intro r h
  rw [e] at h
  simp only [List.mem_append] at h
  rcases h with h | h
  · exact q_ok_102_0 r h
  · exact q_ok_102_60 r h
theorem q_cw_102 : lw_tbl[644]? = some (.code (q_mi 102).1 (q_mi 102).2.1 (q_mi 102).2.2.1 (q_mi 102).2.2.2.1) := by decide +kernel
set_option maxRecDepth 100000 in
theorem q_ok_103 : ∀ r ∈ q_p103, q_okr 103 r = true := List.all_eq_true.mp (by decide +kernel)
theorem q_cw_103 : lw_tbl[631]? = some (.code (q_mi 103).1 (q_mi 103).2.1 (q_mi 103).2.2.1 (q_mi 103).2.2.2.1) := by decide +kernel
set_option maxRecDepth 100000 in
theorem q_ok_104 : ∀ r ∈ q_p104, q_okr 104 r = true := List.all_eq_true.mp (by decide +kernel)
theorem q_cw_104 : lw_tbl[622]? = some (.code (q_mi 104).1 (q_mi 104).2.1 (q_mi 104).2.2.1 (q_mi 104).2.2.2.1) := by decide +kernel
set_option maxRecDepth 100000 in
theorem q_ok_105 : ∀ r ∈ q_p105, q_okr 105 r = true := List.all_eq_true.mp (by decide +kernel)
theorem q_cw_105 : lw_tbl[362]? = some (.code (q_mi 105).1 (q_mi 105).2.1 (q_mi 105).2.2.1 (q_mi 105).2.2.2.1) := by decide +kernel
set_option maxRecDepth 100000 in
theorem q_ok_106 : ∀ r ∈ q_p106, q_okr 106 r = true := List.all_eq_true.mp (by decide +kernel)
theorem q_cw_106 : lw_tbl[536]? = some (.code (q_mi 106).1 (q_mi 106).2.1 (q_mi 106).2.2.1 (q_mi 106).2.2.2.1) := by decide +kernel
set_option maxRecDepth 100000 in
theorem q_ok_107_0 : ∀ r ∈ (q_p107.drop 0).take 60, q_okr 107 r = true := List.all_eq_true.mp (by decide +kernel)
set_option maxRecDepth 100000 in
theorem q_ok_107_60 : ∀ r ∈ (q_p107.drop 60).take 60, q_okr 107 r = true := List.all_eq_true.mp (by decide +kernel)
set_option maxRecDepth 100000 in
theorem q_ok_107 : ∀ r ∈ q_p107, q_okr 107 r = true := by
  have e : q_p107 = (q_p107.drop 0).take 60 ++ (q_p107.drop 60).take 60 := by decide +kernel
  intro r h
  rw [e] at h
  simp only [List.mem_append] at h
  rcases h with h | h
  · exact q_ok_107_0 r h
  · exact q_ok_107_60 r h
theorem q_cw_107 : lw_tbl[903]? = some (.code (q_mi 107).1 (q_mi 107).2.1 (q_mi 107).2.2.1 (q_mi 107).2.2.2.1) := by decide +kernel
set_option maxRecDepth 100000 in
theorem q_ok_108_0 : ∀ r ∈ (q_p108.drop 0).take 60, q_okr 108 r = true := List.all_eq_true.mp (by decide +kernel)
set_option maxRecDepth 100000 in
theorem q_ok_108_60 : ∀ r ∈ (q_p108.drop 60).take 60, q_okr 108 r = true := List.all_eq_true.mp (by decide +kernel)
set_option maxRecDepth 100000 in
theorem q_ok_108 : ∀ r ∈ q_p108, q_okr 108 r = true := by
  have e : q_p108 = (q_p108.drop 0).take 60 ++ (q_p108.drop 60).take 60 := by decide +kernel
  intro r h
  rw [e] at h
  simp only [List.mem_append] at h
  rcases h with h | h
  · exact q_ok_108_0 r h
  · exact q_ok_108_60 r h
theorem q_cw_108 : lw_tbl[820]? = some (.code (q_mi 108).1 (q_mi 108).2.1 (q_mi 108).2.2.1 (q_mi 108).2.2.2.1) := by decide +kernel
