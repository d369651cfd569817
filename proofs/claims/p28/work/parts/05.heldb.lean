set_option maxRecDepth 100000 in
theorem q_ok_59 : ∀ r ∈ q_p59, q_okr 59 r = true := List.all_eq_true.mp (by decide +kernel)
theorem q_cw_59 : lw_tbl[289]? = some (.code (q_mi 59).1 (q_mi 59).2.1 (q_mi 59).2.2.1 (q_mi 59).2.2.2.1) := by decide +kernel
set_option maxRecDepth 100000 in
theorem q_ok_60_0 : ∀ r ∈ (q_p60.drop 0).take 60, q_okr 60 r = true := List.all_eq_true.mp (by decide +kernel)
set_option maxRecDepth 100000 in
theorem q_ok_60_60 : ∀ r ∈ (q_p60.drop 60).take 60, q_okr 60 r = true := List.all_eq_true.mp (by decide +kernel)
set_option maxRecDepth 100000 in
theorem q_ok_60 : ∀ r ∈ q_p60, q_okr 60 r = true := by
  have e : q_p60 = (q_p60.drop 0).take 60 ++ (q_p60.drop 60).take 60 := by decide +kernel
  intro r h
  rw [e] at h
  simp only [List.mem_append] at h
  rcases h with h | h
  · exact q_ok_60_0 r h
  · exact q_ok_60_60 r h
theorem q_cw_60 : lw_tbl[565]? = some (.code (q_mi 60).1 (q_mi 60).2.1 (q_mi 60).2.2.1 (q_mi 60).2.2.2.1) := by decide +kernel
set_option maxRecDepth 100000 in
theorem q_ok_61 : ∀ r ∈ q_p61, q_okr 61 r = true := List.all_eq_true.mp (by decide +kernel)
theorem q_cw_61 : lw_tbl[322]? = some (.code (q_mi 61).1 (q_mi 61).2.1 (q_mi 61).2.2.1 (q_mi 61).2.2.2.1) := by decide +kernel
set_option maxRecDepth 100000 in
theorem q_ok_62 : ∀ r ∈ q_p62, q_okr 62 r = true := List.all_eq_true.mp (by decide +kernel)
theorem q_cw_62 : lw_tbl[496]? = some (.code (q_mi 62).1 (q_mi 62).2.1 (q_mi 62).2.2.1 (q_mi 62).2.2.2.1) := by decide +kernel
set_option maxRecDepth 100000 in
theorem q_ok_63 : ∀ r ∈ q_p63, q_okr 63 r = true := List.all_eq_true.mp (by decide +kernel)
theorem q_cw_63 : lw_tbl[535]? = some (.code (q_mi 63).1 (q_mi 63).2.1 (q_mi 63).2.2.1 (q_mi 63).2.2.2.1) := by decide +kernel
set_option maxRecDepth 100000 in
theorem q_ok_64 : ∀ r ∈ q_p64, q_okr 64 r = true := List.all_eq_true.mp (by decide +kernel)
theorem q_cw_64 : lw_tbl[511]? = some (.code (q_mi 64).1 (q_mi 64).2.1 (q_mi 64).2.2.1 (q_mi 64).2.2.2.1) := by decide +kernel
set_option maxRecDepth 100000 in
theorem q_ok_65 : ∀ r ∈ q_p65, q_okr 65 r = true := List.all_eq_true.mp (by decide +kernel)
theorem q_cw_65 : lw_tbl[272]? = some (.code (q_mi 65).1 (q_mi 65).2.1 (q_mi 65).2.2.1 (q_mi 65).2.2.2.1) := by decide +kernel
set_option maxRecDepth 100000 in
theorem q_ok_66 : ∀ r ∈ q_p66, q_okr 66 r = true := List.all_eq_true.mp (by decide +kernel)
theorem q_cw_66 : lw_tbl[469]? = some (.code (q_mi 66).1 (q_mi 66).2.1 (q_mi 66).2.2.1 (q_mi 66).2.2.2.1) := by decide +kernel
set_option maxRecDepth 100000 in
theorem q_ok_67 : ∀ r ∈ q_p67, q_okr 67 r = true := List.all_eq_true.mp (by decide +kernel)
theorem q_cw_67 : lw_tbl[407]? = some (.code (q_mi 67).1 (q_mi 67).2.1 (q_mi 67).2.2.1 (q_mi 67).2.2.2.1) := by decide +kernel
set_option maxRecDepth 100000 in
theorem q_ok_68 : ∀ r ∈ q_p68, q_okr 68 r = true := List.all_eq_true.mp (by decide +kernel)
theorem q_cw_68 : lw_tbl[20]? = some (.code (q_mi 68).1 (q_mi 68).2.1 (q_mi 68).2.2.1 (q_mi 68).2.2.2.1) := by decide +kernel
set_option maxRecDepth 100000 in
theorem q_ok_69_0 : ∀ r ∈ (q_p69.drop 0).take 60, q_okr 69 r = true := List.all_eq_true.mp (by decide +kernel)
set_option maxRecDepth 100000 in
theorem q_ok_69_60 : ∀ r ∈ (q_p69.drop 60).take 60, q_okr 69 r = true := List.all_eq_true.mp (by decide +kernel)
set_option maxRecDepth 100000 in
theorem q_ok_69 : ∀ r ∈ q_p69, q_okr 69 r = true := by
  have e : q_p69 = (q_p69.drop 0).take 60 ++ (q_p69.drop 60).take 60 := by decide +kernel
  intro r h
  rw [e] at h
  simp only [List.mem_append] at h
  rcases h with h | h
  · exact q_ok_69_0 r h
  · exact q_ok_69_60 r h
theorem q_cw_69 : lw_tbl[403]? = some (.code (q_mi 69).1 (q_mi 69).2.1 (q_mi 69).2.2.1 (q_mi 69).2.2.2.1) := by decide +kernel
set_option maxRecDepth 100000 in
theorem q_ok_70 : ∀ r ∈ q_p70, q_okr 70 r = true := List.all_eq_true.mp (by decide +kernel)
theorem q_cw_70 : lw_tbl[268]? = some (.code (q_mi 70).1 (q_mi 70).2.1 (q_mi 70).2.2.1 (q_mi 70).2.2.2.1) := by decide +kernel
set_option maxRecDepth 100000 in
theorem q_ok_71 : ∀ r ∈ q_p71, q_okr 71 r = true := List.all_eq_true.mp (by decide +kernel)
theorem q_cw_71 : lw_tbl[530]? = some (.code (q_mi 71).1 (q_mi 71).2.1 (q_mi 71).2.2.1 (q_mi 71).2.2.2.1) := by decide +kernel
set_option maxRecDepth 100000 in
theorem q_ok_72 : ∀ r ∈ q_p72, q_okr 72 r = true := List.all_eq_true.mp (by decide +kernel)
theorem q_cw_72 : lw_tbl[506]? = some (.code (q_mi 72).1 (q_mi 72).2.1 (q_mi 72).2.2.1 (q_mi 72).2.2.2.1) := by decide +kernel
set_option maxRecDepth 100000 in
theorem q_ok_73 : ∀ r ∈ q_p73, q_okr 73 r = true := List.all_eq_true.mp (by decide +kernel)
theorem q_cw_73 : lw_tbl[559]? = some (.code (q_mi 73).1 (q_mi 73).2.1 (q_mi 73).2.2.1 (q_mi 73).2.2.2.1) := by decide +kernel
set_option maxRecDepth 100000 in
theorem q_ok_74_0 : ∀ r ∈ (q_p74.drop 0).take 60, q_okr 74 r = true := List.all_eq_true.mp (by decide +kernel)
set_option maxRecDepth 100000 in
theorem q_ok_74_60 : ∀ r ∈ (q_p74.drop 60).take 60, q_okr 74 r = true := List.all_eq_true.mp (by decide +kernel)
set_option maxRecDepth 100000 in
theorem q_ok_74_120 : ∀ r ∈ (q_p74.drop 120).take 60, q_okr 74 r = true := List.all_eq_true.mp (by decide +kernel)
set_option maxRecDepth 100000 in
theorem q_ok_74_180 : ∀ r ∈ (q_p74.drop 180).take 60, q_okr 74 r = true := List.all_eq_true.mp (by decide +kernel)
set_option maxRecDepth 100000 in
theorem q_ok_74_240 : ∀ r ∈ (q_p74.drop 240).take 60, q_okr 74 r = true := List.all_eq_true.mp (by decide +kernel)
set_option maxRecDepth 100000 in
theorem q_ok_74 : ∀ r ∈ q_p74, q_okr 74 r = true := by
  have e : q_p74 = (q_p74.drop 0).take 60 ++ ((q_p74.drop 60).take 60 ++ ((q_p74.drop 120).take 60 ++ ((q_p74.drop 180).take 60 ++ (q_p74.drop 240).take 60))) := by decide +kernel
  intro r h
  rw [e] at h
  simp only [List.mem_append] at h
  rcases h with h | h | h | h | h
  · exact q_ok_74_0 r h
  · exact q_ok_74_60 r h
  · exact q_ok_74_120 r h
  · exact q_ok_74_180 r h
  · exact q_ok_74_240 r h
theorem q_cw_74 : lw_tbl[587]? = some (.code (q_mi 74).1 (q_mi 74).2.1 (q_mi 74).2.2.1 (q_mi 74).2.2.2.1) := by decide +kernel
set_option maxRecDepth 100000 in
theorem q_ok_75 : ∀ r ∈ q_p75, q_okr 75 r = true := List.all_eq_true.mp (by decide +kernel)
theorem q_cw_75 : lw_tbl[436]? = some (.code (q_mi 75).1 (q_mi 75).2.1 (q_mi 75).2.2.1 (q_mi 75).2.2.2.1) := by decide +kernel
set_option maxRecDepth 100000 in
theorem q_ok_76 : ∀ r ∈ q_p76, q_okr 76 r = true := List.all_eq_true.mp (by decide +kernel)
theorem q_cw_76 : lw_tbl[391]? = some (.code (q_mi 76).1 (q_mi 76).2.1 (q_mi 76).2.2.1 (q_mi 76).2.2.2.1) := by decide +kernel
set_option maxRecDepth 100000 in
theorem q_ok_77 : ∀ r ∈ q_p77, q_okr 77 r = true := List.all_eq_true.mp (by decide +kernel)
theorem q_cw_77 : lw_tbl[445]? = some (.code (q_mi 77).1 (q_mi 77).2.1 (q_mi 77).2.2.1 (q_mi 77).2.2.2.1) := by decide +kernel
set_option maxRecDepth 100000 in
theorem q_ok_78 : ∀ r ∈ q_p78, q_okr 78 r = true := List.all_eq_true.mp (by decide +kernel)
theorem q_cw_78 : lw_tbl[379]? = some (.code (q_mi 78).1 (q_mi 78).2.1 (q_mi 78).2.2.1 (q_mi 78).2.2.2.1) := by decide +kernel
set_option maxRecDepth 100000 in
theorem q_ok_79 : ∀ r ∈ q_p79, q_okr 79 r = true := List.all_eq_true.mp (by decide +kernel)
theorem q_cw_79 : lw_tbl[346]? = some (.code (q_mi 79).1 (q_mi 79).2.1 (q_mi 79).2.2.1 (q_mi 79).2.2.2.1) := by decide +kernel
set_option maxRecDepth 100000 in
theorem q_ok_80 : ∀ r ∈ q_p80, q_okr 80 r = true := List.all_eq_true.mp (by decide +kernel)
theorem q_cw_80 : lw_tbl[465]? = some (.code (q_mi 80).1 (q_mi 80).2.1 (q_mi 80).2.2.1 (q_mi 80).2.2.2.1) := by decide +kernel
set_option maxRecDepth 100000 in
theorem q_ok_81 : ∀ r ∈ q_p81, q_okr 81 r = true := List.all_eq_true.mp (by decide +kernel)
theorem q_cw_81 : lw_tbl[330]? = some (.code (q_mi 81).1 (q_mi 81).2.1 (q_mi 81).2.2.1 (q_mi 81).2.2.2.1) := by decide +kernel
set_option maxRecDepth 100000 in
theorem q_ok_82 : ∀ r ∈ q_p82, q_okr 82 r = true := List.all_eq_true.mp (by decide +kernel)
theorem q_cw_82 : lw_tbl[399]? = some (.code (q_mi 82).1 (q_mi 82).2.1 (q_mi 82).2.2.1 (q_mi 82).2.2.2.1) := by decide +kernel
set_option maxRecDepth 100000 in
theorem q_ok_83 : ∀ r ∈ q_p83, q_okr 83 r = true := List.all_eq_true.mp (by decide +kernel)
theorem q_cw_83 : lw_tbl[488]? = some (.code (q_mi 83).1 (q_mi 83).2.1 (q_mi 83).2.2.1 (q_mi 83).2.2.2.1) := by decide +kernel
set_option maxRecDepth 100000 in
theorem q_ok_84 : ∀ r ∈ q_p84, q_okr 84 r = true := List.all_eq_true.mp (by decide +kernel)
theorem q_cw_84 : lw_tbl[264]? = some (.code (q_mi 84).1 (q_mi 84).2.1 (q_mi 84).2.2.1 (q_mi 84).2.2.2.1) := by decide +kernel
set_option maxRecDepth 100000 in
theorem q_ok_85 : ∀ r ∈ q_p85, q_okr 85 r = true := List.all_eq_true.mp (by decide +kernel)
theorem q_cw_85 : lw_tbl[432]? = some (.code (q_mi 85).1 (q_mi 85).2.1 (q_mi 85).2.2.1 (q_mi 85).2.2.2.1) := by decide +kernel
set_option maxRecDepth 100000 in
theorem q_ok_86_0 : ∀ r ∈ (q_p86.drop 0).take 60, q_okr 86 r = true := List.all_eq_true.mp (by decide +kernel)
set_option maxRecDepth 100000 in
theorem q_ok_86_60 : ∀ r ∈ (q_p86.drop 60).take 60, q_okr 86 r = true := List.all_eq_true.mp (by decide +kernel)
set_option maxRecDepth 100000 in
theorem q_ok_86_120 : ∀ r ∈ (q_p86.drop 120).take 60, q_okr 86 r = true := List.all_eq_true.mp (by decide +kernel)
set_option maxRecDepth 100000 in
theorem q_ok_86_180 : ∀ r ∈ (q_p86.drop 180).take 60, q_okr 86 r = true := List.all_eq_true.mp (by decide +kernel)
set_option maxRecDepth 100000 in
theorem q_ok_86_240 : ∀ r ∈ (q_p86.drop 240).take 60, q_okr 86 r = true := List.all_eq_true.mp (by decide +kernel)
set_option maxRecDepth 100000 in
theorem q_ok_86_300 : ∀ r ∈ (q_p86.drop 300).take 60, q_okr 86 r = true := List.all_eq_true.mp (by decide +kernel)
set_option maxRecDepth 100000 in
theorem q_ok_86_360 : ∀ r ∈ (q_p86.drop 360).take 60, q_okr 86 r = true := List.all_eq_true.mp (by decide +kernel)
set_option maxRecDepth 100000 in
theorem q_ok_86_420 : ∀ r ∈ (q_p86.drop 420).take 60, q_okr 86 r = true := List.all_eq_true.mp (by decide +kernel)
set_option maxRecDepth 100000 in
theorem q_ok_86_480 : ∀ r ∈ (q_p86.drop 480).take 60, q_okr 86 r = true := List.all_eq_true.mp (by decide +kernel)
set_option maxRecDepth 100000 in
theorem q_ok_86_540 : ∀ r ∈ (q_p86.drop 540).take 60, q_okr 86 r = true := List.all_eq_true.mp (by decide +kernel)
set_option maxRecDepth 100000 in
theorem q_ok_86_600 : ∀ r ∈ (q_p86.drop 600).take 60, q_okr 86 r = true := List.all_eq_true.mp (by decide +kernel)
set_option maxRecDepth 100000 in
theorem q_ok_86_660 : ∀ r ∈ (q_p86.drop 660).take 60, q_okr 86 r = true := List.all_eq_true.mp (by decide +kernel)
set_option maxRecDepth 100000 in
theorem q_ok_86 : ∀ r ∈ q_p86, q_okr 86 r = true := by
  have e : q_p86 = (q_p86.drop 0).take 60 ++ ((q_p86.drop 60).take 60 ++ ((q_p86.drop 120).take 60 ++ ((q_p86.drop 180).take 60 ++ ((q_p86.drop 240).take 60 ++ ((q_p86.drop 300).take 60 ++ ((q_p86.drop 360).take 60 ++ ((q_p86.drop 420).take 60 ++ ((q_p86.drop 480).take 60 ++ ((q_p86.drop 540).take 60 ++ ((q_p86.drop 600).take 60 ++ (q_p86.drop 660).take 60)))))))))) := by decide +kernel
  intro r h
  rw [e] at h
  simp only [List.mem_append] at h
  rcases h with h | h | h | h | h | h | h | h | h | h | h | h
  · exact q_ok_86_0 r h
  · exact q_ok_86_60 r h
  · exact q_ok_86_120 r h
  · exact q_ok_86_180 r h
  · exact q_ok_86_240 r h
  · exact q_ok_86_300 r h
  · exact q_ok_86_360 r h
  · exact q_ok_86_420 r h
  · exact q_ok_86_480 r h
  · exact q_ok_86_540 r h
  · exact q_ok_86_600 r h
  · exact q_ok_86_660 r h
