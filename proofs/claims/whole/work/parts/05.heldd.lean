set_option maxRecDepth 100000 in
theorem q_ok_144 : ∀ r ∈ q_p144, q_okr 144 r = true := List.all_eq_true.mp (by decide +kernel)
theorem q_cw_144 : lw_tbl[697]? = some (.code (q_mi 144).1 (q_mi 144).2.1 (q_mi 144).2.2.1 (q_mi 144).2.2.2.1) := by decide +kernel
set_option maxRecDepth 100000 in
theorem q_ok_145 : ∀ r ∈ q_p145, q_okr 145 r = true := List.all_eq_true.mp (by decide +kernel)
theorem q_cw_145 : lw_tbl[476]? = some (.code (q_mi 145).1 (q_mi 145).2.1 (q_mi 145).2.2.1 (q_mi 145).2.2.2.1) := by decide +kernel
set_option maxRecDepth 100000 in
theorem q_ok_146 : ∀ r ∈ q_p146, q_okr 146 r = true := List.all_eq_true.mp (by decide +kernel)
theorem q_cw_146 : lw_tbl[431]? = some (.code (q_mi 146).1 (q_mi 146).2.1 (q_mi 146).2.2.1 (q_mi 146).2.2.2.1) := by decide +kernel
set_option maxRecDepth 100000 in
theorem q_ok_147 : ∀ r ∈ q_p147, q_okr 147 r = true := List.all_eq_true.mp (by decide +kernel)
theorem q_cw_147 : lw_tbl[485]? = some (.code (q_mi 147).1 (q_mi 147).2.1 (q_mi 147).2.2.1 (q_mi 147).2.2.2.1) := by decide +kernel
set_option maxRecDepth 100000 in
theorem q_ok_148 : ∀ r ∈ q_p148, q_okr 148 r = true := List.all_eq_true.mp (by decide +kernel)
theorem q_cw_148 : lw_tbl[419]? = some (.code (q_mi 148).1 (q_mi 148).2.1 (q_mi 148).2.2.1 (q_mi 148).2.2.2.1) := by decide +kernel
set_option maxRecDepth 100000 in
theorem q_ok_149 : ∀ r ∈ q_p149, q_okr 149 r = true := List.all_eq_true.mp (by decide +kernel)
theorem q_cw_149 : lw_tbl[386]? = some (.code (q_mi 149).1 (q_mi 149).2.1 (q_mi 149).2.2.1 (q_mi 149).2.2.2.1) := by decide +kernel
set_option maxRecDepth 100000 in
theorem q_ok_150 : ∀ r ∈ q_p150, q_okr 150 r = true := List.all_eq_true.mp (by decide +kernel)
theorem q_cw_150 : lw_tbl[505]? = some (.code (q_mi 150).1 (q_mi 150).2.1 (q_mi 150).2.2.1 (q_mi 150).2.2.2.1) := by decide +kernel
set_option maxRecDepth 100000 in
theorem q_ok_151 : ∀ r ∈ q_p151, q_okr 151 r = true := List.all_eq_true.mp (by decide +kernel)
theorem q_cw_151 : lw_tbl[370]? = some (.code (q_mi 151).1 (q_mi 151).2.1 (q_mi 151).2.2.1 (q_mi 151).2.2.2.1) := by decide +kernel
set_option maxRecDepth 100000 in
theorem q_ok_152 : ∀ r ∈ q_p152, q_okr 152 r = true := List.all_eq_true.mp (by decide +kernel)
theorem q_cw_152 : lw_tbl[439]? = some (.code (q_mi 152).1 (q_mi 152).2.1 (q_mi 152).2.2.1 (q_mi 152).2.2.2.1) := by decide +kernel
set_option maxRecDepth 100000 in
theorem q_ok_153 : ∀ r ∈ q_p153, q_okr 153 r = true := List.all_eq_true.mp (by decide +kernel)
theorem q_cw_153 : lw_tbl[528]? = some (.code (q_mi 153).1 (q_mi 153).2.1 (q_mi 153).2.2.1 (q_mi 153).2.2.2.1) := by decide +kernel
set_option maxRecDepth 100000 in
theorem q_ok_154 : ∀ r ∈ q_p154, q_okr 154 r = true := List.all_eq_true.mp (by decide +kernel)
theorem q_cw_154 : lw_tbl[304]? = some (.code (q_mi 154).1 (q_mi 154).2.1 (q_mi 154).2.2.1 (q_mi 154).2.2.2.1) := by decide +kernel
set_option maxRecDepth 100000 in
theorem q_ok_155 : ∀ r ∈ q_p155, q_okr 155 r = true := List.all_eq_true.mp (by decide +kernel)
theorem q_cw_155 : lw_tbl[974]? = some (.code (q_mi 155).1 (q_mi 155).2.1 (q_mi 155).2.2.1 (q_mi 155).2.2.2.1) := by decide +kernel
set_option maxRecDepth 100000 in
theorem q_ok_156 : ∀ r ∈ q_p156, q_okr 156 r = true := List.all_eq_true.mp (by decide +kernel)
theorem q_cw_156 : lw_tbl[824]? = some (.code (q_mi 156).1 (q_mi 156).2.1 (q_mi 156).2.2.1 (q_mi 156).2.2.2.1) := by decide +kernel
set_option maxRecDepth 100000 in
theorem q_ok_157_0 : ∀ r ∈ (q_p157.drop 0).take 60, q_okr 157 r = true := List.all_eq_true.mp (by decide +kernel)
set_option maxRecDepth 100000 in
theorem q_ok_157_60 : ∀ r ∈ (q_p157.drop 60).take 60, q_okr 157 r = true := List.all_eq_true.mp (by decide +kernel)
set_option maxRecDepth 100000 in
theorem q_ok_157 : ∀ r ∈ q_p157, q_okr 157 r = true := by
  have e : q_p157 = (q_p157.drop 0).take 60 ++ (q_p157.drop 60).take 60 := by decide +kernel
  intro r h
  rw [e] at h
  simp only [List.mem_append] at h
  rcases h with h | h
  · exact q_ok_157_0 r h
  · exact q_ok_157_60 r h
theorem q_cw_157 : lw_tbl[678]? = some (.code (q_mi 157).1 (q_mi 157).2.1 (q_mi 157).2.2.1 (q_mi 157).2.2.2.1) := by decide +kernel
set_option maxRecDepth 100000 in
theorem q_ok_158 : ∀ r ∈ q_p158, q_okr 158 r = true := List.all_eq_true.mp (by decide +kernel)
theorem q_cw_158 : lw_tbl[472]? = some (.code (q_mi 158).1 (q_mi 158).2.1 (q_mi 158).2.2.1 (q_mi 158).2.2.2.1) := by decide +kernel
set_option maxRecDepth 100000 in
theorem q_ok_159 : ∀ r ∈ q_p159, q_okr 159 r = true := List.all_eq_true.mp (by decide +kernel)
theorem q_cw_159 : lw_tbl[954]? = some (.code (q_mi 159).1 (q_mi 159).2.1 (q_mi 159).2.2.1 (q_mi 159).2.2.2.1) := by decide +kernel
set_option maxRecDepth 100000 in
theorem q_ok_160 : ∀ r ∈ q_p160, q_okr 160 r = true := List.all_eq_true.mp (by decide +kernel)
theorem q_cw_160 : lw_tbl[674]? = some (.code (q_mi 160).1 (q_mi 160).2.1 (q_mi 160).2.2.1 (q_mi 160).2.2.2.1) := by decide +kernel
set_option maxRecDepth 100000 in
theorem q_ok_161 : ∀ r ∈ q_p161, q_okr 161 r = true := List.all_eq_true.mp (by decide +kernel)
theorem q_cw_161 : lw_tbl[711]? = some (.code (q_mi 161).1 (q_mi 161).2.1 (q_mi 161).2.2.1 (q_mi 161).2.2.2.1) := by decide +kernel
set_option maxRecDepth 100000 in
theorem q_ok_162 : ∀ r ∈ q_p162, q_okr 162 r = true := List.all_eq_true.mp (by decide +kernel)
theorem q_cw_162 : lw_tbl[950]? = some (.code (q_mi 162).1 (q_mi 162).2.1 (q_mi 162).2.2.1 (q_mi 162).2.2.2.1) := by decide +kernel
set_option maxRecDepth 100000 in
theorem q_ok_163 : ∀ r ∈ q_p163, q_okr 163 r = true := List.all_eq_true.mp (by decide +kernel)
theorem q_cw_163 : lw_tbl[978]? = some (.code (q_mi 163).1 (q_mi 163).2.1 (q_mi 163).2.2.1 (q_mi 163).2.2.2.1) := by decide +kernel
set_option maxRecDepth 100000 in
theorem q_ok_164_0 : ∀ r ∈ (q_p164.drop 0).take 60, q_okr 164 r = true := List.all_eq_true.mp (by decide +kernel)
set_option maxRecDepth 100000 in
theorem q_ok_164_60 : ∀ r ∈ (q_p164.drop 60).take 60, q_okr 164 r = true := List.all_eq_true.mp (by decide +kernel)
set_option maxRecDepth 100000 in
theorem q_ok_164_120 : ∀ r ∈ (q_p164.drop 120).take 60, q_okr 164 r = true := List.all_eq_true.mp (by decide +kernel)
set_option maxRecDepth 100000 in
theorem q_ok_164_180 : ∀ r ∈ (q_p164.drop 180).take 60, q_okr 164 r = true := List.all_eq_true.mp (by decide +kernel)
set_option maxRecDepth 100000 in
theorem q_ok_164_240 : ∀ r ∈ (q_p164.drop 240).take 60, q_okr 164 r = true := List.all_eq_true.mp (by decide +kernel)
set_option maxRecDepth 100000 in
theorem q_ok_164_300 : ∀ r ∈ (q_p164.drop 300).take 60, q_okr 164 r = true := List.all_eq_true.mp (by decide +kernel)
set_option maxRecDepth 100000 in
theorem q_ok_164_360 : ∀ r ∈ (q_p164.drop 360).take 60, q_okr 164 r = true := List.all_eq_true.mp (by decide +kernel)
set_option maxRecDepth 100000 in
theorem q_ok_164_420 : ∀ r ∈ (q_p164.drop 420).take 60, q_okr 164 r = true := List.all_eq_true.mp (by decide +kernel)
set_option maxRecDepth 100000 in
theorem q_ok_164_480 : ∀ r ∈ (q_p164.drop 480).take 60, q_okr 164 r = true := List.all_eq_true.mp (by decide +kernel)
set_option maxRecDepth 100000 in
theorem q_ok_164_540 : ∀ r ∈ (q_p164.drop 540).take 60, q_okr 164 r = true := List.all_eq_true.mp (by decide +kernel)
set_option maxRecDepth 100000 in
theorem q_ok_164 : ∀ r ∈ q_p164, q_okr 164 r = true := by
  have e : q_p164 = (q_p164.drop 0).take 60 ++ ((q_p164.drop 60).take 60 ++ ((q_p164.drop 120).take 60 ++ ((q_p164.drop 180).take 60 ++ ((q_p164.drop 240).take 60 ++ ((q_p164.drop 300).take 60 ++ ((q_p164.drop 360).take 60 ++ ((q_p164.drop 420).take 60 ++ ((q_p164.drop 480).take 60 ++ (q_p164.drop 540).take 60)))))))) := by decide +kernel
  intro r h
  rw [e] at h
  simp only [List.mem_append] at h
  rcases h with h | h | h | h | h | h | h | h | h | h
  · exact q_ok_164_0 r h
  · exact q_ok_164_60 r h
  · exact q_ok_164_120 r h
  · exact q_ok_164_180 r h
  · exact q_ok_164_240 r h
  · exact q_ok_164_300 r h
  · exact q_ok_164_360 r h
  · exact q_ok_164_420 r h
  · exact q_ok_164_480 r h
  · exact q_ok_164_540 r h
