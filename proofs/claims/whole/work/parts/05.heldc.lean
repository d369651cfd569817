set_option maxRecDepth 100000 in
theorem q_ok_109_0 : ∀ r ∈ (q_p109.drop 0).take 60, q_okr 109 r = true := List.all_eq_true.mp (by decide +kernel)
set_option maxRecDepth 100000 in
theorem q_ok_109_60 : ∀ r ∈ (q_p109.drop 60).take 60, q_okr 109 r = true := List.all_eq_true.mp (by decide +kernel)
set_option maxRecDepth 100000 in
theorem q_ok_109 : ∀ r ∈ q_p109, q_okr 109 r = true := by
  have e : q_p109 = (q_p109.drop 0).take 60 ++ (q_p109.drop 60).take 60 := by decide +kernel
  intro r h
  rw [e] at h
  simp only [List.mem_append] at h
  rcases h with h | h
  · exact q_ok_109_0 r h
  · exact q_ok_109_60 r h
theorem q_cw_109 : lw_tbl[807]? = some (.code (q_mi 109).1 (q_mi 109).2.1 (q_mi 109).2.2.1 (q_mi 109).2.2.2.1) := by decide +kernel
set_option maxRecDepth 100000 in
theorem q_ok_110_0 : ∀ r ∈ (q_p110.drop 0).take 60, q_okr 110 r = true := List.all_eq_true.mp (by decide +kernel)
set_option maxRecDepth 100000 in
theorem q_ok_110_60 : ∀ r ∈ (q_p110.drop 60).take 60, q_okr 110 r = true := List.all_eq_true.mp (by decide +kernel)
set_option maxRecDepth 100000 in
theorem q_ok_110 : ∀ r ∈ q_p110, q_okr 110 r = true := by
  have e : q_p110 = (q_p110.drop 0).take 60 ++ (q_p110.drop 60).take 60 := by decide +kernel
  intro r h
  rw [e] at h
  simp only [List.mem_append] at h
  rcases h with h | h
  · exact q_ok_110_0 r h
  · exact q_ok_110_60 r h
theorem q_cw_110 : lw_tbl[787]? = some (.code (q_mi 110).1 (q_mi 110).2.1 (q_mi 110).2.2.1 (q_mi 110).2.2.2.1) := by decide +kernel
set_option maxRecDepth 100000 in
theorem q_ok_111 : ∀ r ∈ q_p111, q_okr 111 r = true := List.all_eq_true.mp (by decide +kernel)
theorem q_cw_111 : lw_tbl[866]? = some (.code (q_mi 111).1 (q_mi 111).2.1 (q_mi 111).2.2.1 (q_mi 111).2.2.2.1) := by decide +kernel
set_option maxRecDepth 100000 in
theorem q_ok_112_0 : ∀ r ∈ (q_p112.drop 0).take 60, q_okr 112 r = true := List.all_eq_true.mp (by decide +kernel)
set_option maxRecDepth 100000 in
theorem q_ok_112_60 : ∀ r ∈ (q_p112.drop 60).take 60, q_okr 112 r = true := List.all_eq_true.mp (by decide +kernel)
set_option maxRecDepth 100000 in
theorem q_ok_112 : ∀ r ∈ q_p112, q_okr 112 r = true := by
  have e : q_p112 = (q_p112.drop 0).take 60 ++ (q_p112.drop 60).take 60 := by decide +kernel
  intro r h
  rw [e] at h
  simp only [List.mem_append] at h
  rcases h with h | h
  · exact q_ok_112_0 r h
  · exact q_ok_112_60 r h
theorem q_cw_112 : lw_tbl[854]? = some (.code (q_mi 112).1 (q_mi 112).2.1 (q_mi 112).2.2.1 (q_mi 112).2.2.2.1) := by decide +kernel
set_option maxRecDepth 100000 in
theorem q_ok_113_0 : ∀ r ∈ (q_p113.drop 0).take 60, q_okr 113 r = true := List.all_eq_true.mp (by decide +kernel)
set_option maxRecDepth 100000 in
theorem q_ok_113_60 : ∀ r ∈ (q_p113.drop 60).take 60, q_okr 113 r = true := List.all_eq_true.mp (by decide +kernel)
set_option maxRecDepth 100000 in
theorem q_ok_113 : ∀ r ∈ q_p113, q_okr 113 r = true := by
  have e : q_p113 = (q_p113.drop 0).take 60 ++ (q_p113.drop 60).take 60 := by decide +kernel
  intro r h
  rw [e] at h
  simp only [List.mem_append] at h
  rcases h with h | h
  · exact q_ok_113_0 r h
  · exact q_ok_113_60 r h
theorem q_cw_113 : lw_tbl[962]? = some (.code (q_mi 113).1 (q_mi 113).2.1 (q_mi 113).2.2.1 (q_mi 113).2.2.2.1) := by decide +kernel
set_option maxRecDepth 100000 in
theorem q_ok_114 : ∀ r ∈ q_p114, q_okr 114 r = true := List.all_eq_true.mp (by decide +kernel)
theorem q_cw_114 : lw_tbl[911]? = some (.code (q_mi 114).1 (q_mi 114).2.1 (q_mi 114).2.2.1 (q_mi 114).2.2.2.1) := by decide +kernel
set_option maxRecDepth 100000 in
theorem q_ok_115_0 : ∀ r ∈ (q_p115.drop 0).take 60, q_okr 115 r = true := List.all_eq_true.mp (by decide +kernel)
set_option maxRecDepth 100000 in
theorem q_ok_115_60 : ∀ r ∈ (q_p115.drop 60).take 60, q_okr 115 r = true := List.all_eq_true.mp (by decide +kernel)
set_option maxRecDepth 100000 in
theorem q_ok_115 : ∀ r ∈ q_p115, q_okr 115 r = true := by
  have e : q_p115 = (q_p115.drop 0).take 60 ++ (q_p115.drop 60).take 60 := by decide +kernel
  intro r h
  rw [e] at h
  simp only [List.mem_append] at h
  rcases h with h | h
  · exact q_ok_115_0 r h
  · exact q_ok_115_60 r h
theorem q_cw_115 : lw_tbl[891]? = some (.code (q_mi 115).1 (q_mi 115).2.1 (q_mi 115).2.2.1 (q_mi 115).2.2.2.1) := by decide +kernel
set_option maxRecDepth 100000 in
theorem q_ok_116 : ∀ r ∈ q_p116, q_okr 116 r = true := List.all_eq_true.mp (by decide +kernel)
theorem q_cw_116 : lw_tbl[907]? = some (.code (q_mi 116).1 (q_mi 116).2.1 (q_mi 116).2.2.1 (q_mi 116).2.2.2.1) := by decide +kernel
set_option maxRecDepth 100000 in
theorem q_ok_117 : ∀ r ∈ q_p117, q_okr 117 r = true := List.all_eq_true.mp (by decide +kernel)
theorem q_cw_117 : lw_tbl[775]? = some (.code (q_mi 117).1 (q_mi 117).2.1 (q_mi 117).2.2.1 (q_mi 117).2.2.2.1) := by decide +kernel
set_option maxRecDepth 100000 in
theorem q_ok_118 : ∀ r ∈ q_p118, q_okr 118 r = true := List.all_eq_true.mp (by decide +kernel)
theorem q_cw_118 : lw_tbl[874]? = some (.code (q_mi 118).1 (q_mi 118).2.1 (q_mi 118).2.2.1 (q_mi 118).2.2.2.1) := by decide +kernel
set_option maxRecDepth 100000 in
theorem q_ok_119_0 : ∀ r ∈ (q_p119.drop 0).take 60, q_okr 119 r = true := List.all_eq_true.mp (by decide +kernel)
set_option maxRecDepth 100000 in
theorem q_ok_119_60 : ∀ r ∈ (q_p119.drop 60).take 60, q_okr 119 r = true := List.all_eq_true.mp (by decide +kernel)
set_option maxRecDepth 100000 in
theorem q_ok_119 : ∀ r ∈ q_p119, q_okr 119 r = true := by
  have e : q_p119 = (q_p119.drop 0).take 60 ++ (q_p119.drop 60).take 60 := by decide +kernel
  intro r h
  rw [e] at h
  simp only [List.mem_append] at h
  rcases h with h | h
  · exact q_ok_119_0 r h
  · exact q_ok_119_60 r h
theorem q_cw_119 : lw_tbl[836]? = some (.code (q_mi 119).1 (q_mi 119).2.1 (q_mi 119).2.2.1 (q_mi 119).2.2.2.1) := by decide +kernel
set_option maxRecDepth 100000 in
theorem q_ok_120 : ∀ r ∈ q_p120, q_okr 120 r = true := List.all_eq_true.mp (by decide +kernel)
theorem q_cw_120 : lw_tbl[929]? = some (.code (q_mi 120).1 (q_mi 120).2.1 (q_mi 120).2.2.1 (q_mi 120).2.2.2.1) := by decide +kernel
set_option maxRecDepth 100000 in
theorem q_ok_121 : ∀ r ∈ q_p121, q_okr 121 r = true := List.all_eq_true.mp (by decide +kernel)
theorem q_cw_121 : lw_tbl[895]? = some (.code (q_mi 121).1 (q_mi 121).2.1 (q_mi 121).2.2.1 (q_mi 121).2.2.2.1) := by decide +kernel
set_option maxRecDepth 100000 in
theorem q_ok_122 : ∀ r ∈ q_p122, q_okr 122 r = true := List.all_eq_true.mp (by decide +kernel)
theorem q_cw_122 : lw_tbl[746]? = some (.code (q_mi 122).1 (q_mi 122).2.1 (q_mi 122).2.2.1 (q_mi 122).2.2.2.1) := by decide +kernel
set_option maxRecDepth 100000 in
theorem q_ok_123 : ∀ r ∈ q_p123, q_okr 123 r = true := List.all_eq_true.mp (by decide +kernel)
theorem q_cw_123 : lw_tbl[878]? = some (.code (q_mi 123).1 (q_mi 123).2.1 (q_mi 123).2.2.1 (q_mi 123).2.2.2.1) := by decide +kernel
set_option maxRecDepth 100000 in
theorem q_ok_124 : ∀ r ∈ q_p124, q_okr 124 r = true := List.all_eq_true.mp (by decide +kernel)
theorem q_cw_124 : lw_tbl[575]? = some (.code (q_mi 124).1 (q_mi 124).2.1 (q_mi 124).2.2.1 (q_mi 124).2.2.2.1) := by decide +kernel
set_option maxRecDepth 100000 in
theorem q_ok_125 : ∀ r ∈ q_p125, q_okr 125 r = true := List.all_eq_true.mp (by decide +kernel)
theorem q_cw_125 : lw_tbl[551]? = some (.code (q_mi 125).1 (q_mi 125).2.1 (q_mi 125).2.2.1 (q_mi 125).2.2.2.1) := by decide +kernel
set_option maxRecDepth 100000 in
theorem q_ok_126 : ∀ r ∈ q_p126, q_okr 126 r = true := List.all_eq_true.mp (by decide +kernel)
theorem q_cw_126 : lw_tbl[312]? = some (.code (q_mi 126).1 (q_mi 126).2.1 (q_mi 126).2.2.1 (q_mi 126).2.2.2.1) := by decide +kernel
set_option maxRecDepth 100000 in
theorem q_ok_127 : ∀ r ∈ q_p127, q_okr 127 r = true := List.all_eq_true.mp (by decide +kernel)
theorem q_cw_127 : lw_tbl[509]? = some (.code (q_mi 127).1 (q_mi 127).2.1 (q_mi 127).2.2.1 (q_mi 127).2.2.2.1) := by decide +kernel
set_option maxRecDepth 100000 in
theorem q_ok_128 : ∀ r ∈ q_p128, q_okr 128 r = true := List.all_eq_true.mp (by decide +kernel)
theorem q_cw_128 : lw_tbl[447]? = some (.code (q_mi 128).1 (q_mi 128).2.1 (q_mi 128).2.2.1 (q_mi 128).2.2.2.1) := by decide +kernel
set_option maxRecDepth 100000 in
theorem q_ok_129 : ∀ r ∈ q_p129, q_okr 129 r = true := List.all_eq_true.mp (by decide +kernel)
theorem q_cw_129 : lw_tbl[605]? = some (.code (q_mi 129).1 (q_mi 129).2.1 (q_mi 129).2.2.1 (q_mi 129).2.2.2.1) := by decide +kernel
set_option maxRecDepth 100000 in
theorem q_ok_130 : ∀ r ∈ q_p130, q_okr 130 r = true := List.all_eq_true.mp (by decide +kernel)
theorem q_cw_130 : lw_tbl[51]? = some (.code (q_mi 130).1 (q_mi 130).2.1 (q_mi 130).2.2.1 (q_mi 130).2.2.2.1) := by decide +kernel
set_option maxRecDepth 100000 in
theorem q_ok_131_0 : ∀ r ∈ (q_p131.drop 0).take 60, q_okr 131 r = true := List.all_eq_true.mp (by decide +kernel)
set_option maxRecDepth 100000 in
theorem q_ok_131_60 : ∀ r ∈ (q_p131.drop 60).take 60, q_okr 131 r = true := List.all_eq_true.mp (by decide +kernel)
set_option maxRecDepth 100000 in
theorem q_ok_131 : ∀ r ∈ q_p131, q_okr 131 r = true := by
  have e : q_p131 = (q_p131.drop 0).take 60 ++ (q_p131.drop 60).take 60 := by decide +kernel
  intro r h
  rw [e] at h
  simp only [List.mem_append] at h
  rcases h with h | h
  · exact q_ok_131_0 r h
  · exact q_ok_131_60 r h
theorem q_cw_131 : lw_tbl[925]? = some (.code (q_mi 131).1 (q_mi 131).2.1 (q_mi 131).2.2.1 (q_mi 131).2.2.2.1) := by decide +kernel
set_option maxRecDepth 100000 in
theorem q_ok_132 : ∀ r ∈ q_p132, q_okr 132 r = true := List.all_eq_true.mp (by decide +kernel)
theorem q_cw_132 : lw_tbl[803]? = some (.code (q_mi 132).1 (q_mi 132).2.1 (q_mi 132).2.2.1 (q_mi 132).2.2.2.1) := by decide +kernel
set_option maxRecDepth 100000 in
theorem q_ok_133 : ∀ r ∈ q_p133, q_okr 133 r = true := List.all_eq_true.mp (by decide +kernel)
theorem q_cw_133 : lw_tbl[783]? = some (.code (q_mi 133).1 (q_mi 133).2.1 (q_mi 133).2.2.1 (q_mi 133).2.2.2.1) := by decide +kernel
set_option maxRecDepth 100000 in
theorem q_ok_134 : ∀ r ∈ q_p134, q_okr 134 r = true := List.all_eq_true.mp (by decide +kernel)
theorem q_cw_134 : lw_tbl[862]? = some (.code (q_mi 134).1 (q_mi 134).2.1 (q_mi 134).2.2.1 (q_mi 134).2.2.2.1) := by decide +kernel
set_option maxRecDepth 100000 in
theorem q_ok_135_0 : ∀ r ∈ (q_p135.drop 0).take 60, q_okr 135 r = true := List.all_eq_true.mp (by decide +kernel)
set_option maxRecDepth 100000 in
theorem q_ok_135_60 : ∀ r ∈ (q_p135.drop 60).take 60, q_okr 135 r = true := List.all_eq_true.mp (by decide +kernel)
set_option maxRecDepth 100000 in
theorem q_ok_135 : ∀ r ∈ q_p135, q_okr 135 r = true := by
  have e : q_p135 = (q_p135.drop 0).take 60 ++ (q_p135.drop 60).take 60 := by decide +kernel
  intro r h
  rw [e] at h
  simp only [List.mem_append] at h
  rcases h with h | h
  · exact q_ok_135_0 r h
  · exact q_ok_135_60 r h
theorem q_cw_135 : lw_tbl[832]? = some (.code (q_mi 135).1 (q_mi 135).2.1 (q_mi 135).2.2.1 (q_mi 135).2.2.2.1) := by decide +kernel
set_option maxRecDepth 100000 in
theorem q_ok_136 : ∀ r ∈ q_p136, q_okr 136 r = true := List.all_eq_true.mp (by decide +kernel)
theorem q_cw_136 : lw_tbl[899]? = some (.code (q_mi 136).1 (q_mi 136).2.1 (q_mi 136).2.2.1 (q_mi 136).2.2.2.1) := by decide +kernel
set_option maxRecDepth 100000 in
theorem q_ok_137_0 : ∀ r ∈ (q_p137.drop 0).take 60, q_okr 137 r = true := List.all_eq_true.mp (by decide +kernel)
set_option maxRecDepth 100000 in
theorem q_ok_137_60 : ∀ r ∈ (q_p137.drop 60).take 60, q_okr 137 r = true := List.all_eq_true.mp (by decide +kernel)
set_option maxRecDepth 100000 in
theorem q_ok_137 : ∀ r ∈ q_p137, q_okr 137 r = true := by
  have e : q_p137 = (q_p137.drop 0).take 60 ++ (q_p137.drop 60).take 60 := by decide +kernel
  intro r h
  rw [e] at h
  simp only [List.mem_append] at h
  rcases h with h | h
  · exact q_ok_137_0 r h
  · exact q_ok_137_60 r h
theorem q_cw_137 : lw_tbl[443]? = some (.code (q_mi 137).1 (q_mi 137).2.1 (q_mi 137).2.2.1 (q_mi 137).2.2.2.1) := by decide +kernel
set_option maxRecDepth 100000 in
theorem q_ok_138 : ∀ r ∈ q_p138, q_okr 138 r = true := List.all_eq_true.mp (by decide +kernel)
theorem q_cw_138 : lw_tbl[308]? = some (.code (q_mi 138).1 (q_mi 138).2.1 (q_mi 138).2.2.1 (q_mi 138).2.2.2.1) := by decide +kernel
set_option maxRecDepth 100000 in
theorem q_ok_139 : ∀ r ∈ q_p139, q_okr 139 r = true := List.all_eq_true.mp (by decide +kernel)
theorem q_cw_139 : lw_tbl[570]? = some (.code (q_mi 139).1 (q_mi 139).2.1 (q_mi 139).2.2.1 (q_mi 139).2.2.2.1) := by decide +kernel
set_option maxRecDepth 100000 in
theorem q_ok_140 : ∀ r ∈ q_p140, q_okr 140 r = true := List.all_eq_true.mp (by decide +kernel)
theorem q_cw_140 : lw_tbl[546]? = some (.code (q_mi 140).1 (q_mi 140).2.1 (q_mi 140).2.2.1 (q_mi 140).2.2.2.1) := by decide +kernel
set_option maxRecDepth 100000 in
theorem q_ok_141 : ∀ r ∈ q_p141, q_okr 141 r = true := List.all_eq_true.mp (by decide +kernel)
theorem q_cw_141 : lw_tbl[599]? = some (.code (q_mi 141).1 (q_mi 141).2.1 (q_mi 141).2.2.1 (q_mi 141).2.2.2.1) := by decide +kernel
set_option maxRecDepth 100000 in
theorem q_ok_142 : ∀ r ∈ q_p142, q_okr 142 r = true := List.all_eq_true.mp (by decide +kernel)
theorem q_cw_142 : lw_tbl[828]? = some (.code (q_mi 142).1 (q_mi 142).2.1 (q_mi 142).2.2.1 (q_mi 142).2.2.2.1) := by decide +kernel
set_option maxRecDepth 100000 in
theorem q_ok_143 : ∀ r ∈ q_p143, q_okr 143 r = true := List.all_eq_true.mp (by decide +kernel)
theorem q_cw_143 : lw_tbl[847]? = some (.code (q_mi 143).1 (q_mi 143).2.1 (q_mi 143).2.2.1 (q_mi 143).2.2.2.1) := by decide +kernel
