set_option maxRecDepth 100000 in
theorem q_ok_0 : ∀ r ∈ q_p0, q_okr 0 r = true := List.all_eq_true.mp (by decide +kernel)
theorem q_cw_0 : lw_tbl[543]? = some (.code (q_mi 0).1 (q_mi 0).2.1 (q_mi 0).2.2.1 (q_mi 0).2.2.2.1) := by decide +kernel
set_option maxRecDepth 100000 in
theorem q_ok_1 : ∀ r ∈ q_p1, q_okr 1 r = true := List.all_eq_true.mp (by decide +kernel)
theorem q_cw_1 : lw_tbl[484]? = some (.code (q_mi 1).1 (q_mi 1).2.1 (q_mi 1).2.2.1 (q_mi 1).2.2.2.1) := by decide +kernel
set_option maxRecDepth 100000 in
theorem q_ok_2 : ∀ r ∈ q_p2, q_okr 2 r = true := List.all_eq_true.mp (by decide +kernel)
theorem q_cw_2 : lw_tbl[282]? = some (.code (q_mi 2).1 (q_mi 2).2.1 (q_mi 2).2.2.1 (q_mi 2).2.2.2.1) := by decide +kernel
set_option maxRecDepth 100000 in
theorem q_ok_3 : ∀ r ∈ q_p3, q_okr 3 r = true := List.all_eq_true.mp (by decide +kernel)
theorem q_cw_3 : lw_tbl[582]? = some (.code (q_mi 3).1 (q_mi 3).2.1 (q_mi 3).2.2.1 (q_mi 3).2.2.2.1) := by decide +kernel
set_option maxRecDepth 100000 in
theorem q_ok_4 : ∀ r ∈ q_p4, q_okr 4 r = true := List.all_eq_true.mp (by decide +kernel)
theorem q_cw_4 : lw_tbl[342]? = some (.code (q_mi 4).1 (q_mi 4).2.1 (q_mi 4).2.2.1 (q_mi 4).2.2.2.1) := by decide +kernel
set_option maxRecDepth 100000 in
theorem q_ok_5 : ∀ r ∈ q_p5, q_okr 5 r = true := List.all_eq_true.mp (by decide +kernel)
theorem q_cw_5 : lw_tbl[366]? = some (.code (q_mi 5).1 (q_mi 5).2.1 (q_mi 5).2.2.1 (q_mi 5).2.2.2.1) := by decide +kernel
set_option maxRecDepth 100000 in
theorem q_ok_6 : ∀ r ∈ q_p6, q_okr 6 r = true := List.all_eq_true.mp (by decide +kernel)
theorem q_cw_6 : lw_tbl[477]? = some (.code (q_mi 6).1 (q_mi 6).2.1 (q_mi 6).2.2.1 (q_mi 6).2.2.2.1) := by decide +kernel
set_option maxRecDepth 100000 in
theorem q_ok_7 : ∀ r ∈ q_p7, q_okr 7 r = true := List.all_eq_true.mp (by decide +kernel)
theorem q_cw_7 : lw_tbl[358]? = some (.code (q_mi 7).1 (q_mi 7).2.1 (q_mi 7).2.2.1 (q_mi 7).2.2.2.1) := by decide +kernel
set_option maxRecDepth 100000 in
theorem q_ok_8 : ∀ r ∈ q_p8, q_okr 8 r = true := List.all_eq_true.mp (by decide +kernel)
theorem q_cw_8 : lw_tbl[375]? = some (.code (q_mi 8).1 (q_mi 8).2.1 (q_mi 8).2.2.1 (q_mi 8).2.2.2.1) := by decide +kernel
set_option maxRecDepth 100000 in
theorem q_ok_9 : ∀ r ∈ q_p9, q_okr 9 r = true := List.all_eq_true.mp (by decide +kernel)
theorem q_cw_9 : lw_tbl[441]? = some (.code (q_mi 9).1 (q_mi 9).2.1 (q_mi 9).2.2.1 (q_mi 9).2.2.2.1) := by decide +kernel
set_option maxRecDepth 100000 in
theorem q_ok_10 : ∀ r ∈ q_p10, q_okr 10 r = true := List.all_eq_true.mp (by decide +kernel)
theorem q_cw_10 : lw_tbl[555]? = some (.code (q_mi 10).1 (q_mi 10).2.1 (q_mi 10).2.2.1 (q_mi 10).2.2.2.1) := by decide +kernel
set_option maxRecDepth 100000 in
theorem q_ok_11 : ∀ r ∈ q_p11, q_okr 11 r = true := List.all_eq_true.mp (by decide +kernel)
theorem q_cw_11 : lw_tbl[457]? = some (.code (q_mi 11).1 (q_mi 11).2.1 (q_mi 11).2.2.1 (q_mi 11).2.2.2.1) := by decide +kernel
set_option maxRecDepth 100000 in
theorem q_ok_12 : ∀ r ∈ q_p12, q_okr 12 r = true := List.all_eq_true.mp (by decide +kernel)
theorem q_cw_12 : lw_tbl[411]? = some (.code (q_mi 12).1 (q_mi 12).2.1 (q_mi 12).2.2.1 (q_mi 12).2.2.2.1) := by decide +kernel
set_option maxRecDepth 100000 in
theorem q_ok_13 : ∀ r ∈ q_p13, q_okr 13 r = true := List.all_eq_true.mp (by decide +kernel)
theorem q_cw_13 : lw_tbl[461]? = some (.code (q_mi 13).1 (q_mi 13).2.1 (q_mi 13).2.2.1 (q_mi 13).2.2.2.1) := by decide +kernel
set_option maxRecDepth 100000 in
theorem q_ok_14 : ∀ r ∈ q_p14, q_okr 14 r = true := List.all_eq_true.mp (by decide +kernel)
theorem q_cw_14 : lw_tbl[526]? = some (.code (q_mi 14).1 (q_mi 14).2.1 (q_mi 14).2.2.1 (q_mi 14).2.2.2.1) := by decide +kernel
set_option maxRecDepth 100000 in
theorem q_ok_15 : ∀ r ∈ q_p15, q_okr 15 r = true := List.all_eq_true.mp (by decide +kernel)
theorem q_cw_15 : lw_tbl[354]? = some (.code (q_mi 15).1 (q_mi 15).2.1 (q_mi 15).2.2.1 (q_mi 15).2.2.2.1) := by decide +kernel
set_option maxRecDepth 100000 in
theorem q_ok_16 : ∀ r ∈ q_p16, q_okr 16 r = true := List.all_eq_true.mp (by decide +kernel)
theorem q_cw_16 : lw_tbl[426]? = some (.code (q_mi 16).1 (q_mi 16).2.1 (q_mi 16).2.2.1 (q_mi 16).2.2.2.1) := by decide +kernel
set_option maxRecDepth 100000 in
theorem q_ok_17 : ∀ r ∈ q_p17, q_okr 17 r = true := List.all_eq_true.mp (by decide +kernel)
theorem q_cw_17 : lw_tbl[315]? = some (.code (q_mi 17).1 (q_mi 17).2.1 (q_mi 17).2.2.1 (q_mi 17).2.2.2.1) := by decide +kernel
set_option maxRecDepth 100000 in
theorem q_ok_18 : ∀ r ∈ q_p18, q_okr 18 r = true := List.all_eq_true.mp (by decide +kernel)
theorem q_cw_18 : lw_tbl[568]? = some (.code (q_mi 18).1 (q_mi 18).2.1 (q_mi 18).2.2.1 (q_mi 18).2.2.2.1) := by decide +kernel
set_option maxRecDepth 100000 in
theorem q_ok_19 : ∀ r ∈ q_p19, q_okr 19 r = true := List.all_eq_true.mp (by decide +kernel)
theorem q_cw_19 : lw_tbl[578]? = some (.code (q_mi 19).1 (q_mi 19).2.1 (q_mi 19).2.2.1 (q_mi 19).2.2.2.1) := by decide +kernel
set_option maxRecDepth 100000 in
theorem q_ok_20 : ∀ r ∈ q_p20, q_okr 20 r = true := List.all_eq_true.mp (by decide +kernel)
theorem q_cw_20 : lw_tbl[34]? = some (.code (q_mi 20).1 (q_mi 20).2.1 (q_mi 20).2.2.1 (q_mi 20).2.2.2.1) := by decide +kernel
set_option maxRecDepth 100000 in
theorem q_ok_21 : ∀ r ∈ q_p21, q_okr 21 r = true := List.all_eq_true.mp (by decide +kernel)
theorem q_cw_21 : lw_tbl[338]? = some (.code (q_mi 21).1 (q_mi 21).2.1 (q_mi 21).2.2.1 (q_mi 21).2.2.2.1) := by decide +kernel
set_option maxRecDepth 100000 in
theorem q_ok_22 : ∀ r ∈ q_p22, q_okr 22 r = true := List.all_eq_true.mp (by decide +kernel)
theorem q_cw_22 : lw_tbl[370]? = some (.code (q_mi 22).1 (q_mi 22).2.1 (q_mi 22).2.2.1 (q_mi 22).2.2.2.1) := by decide +kernel
set_option maxRecDepth 100000 in
theorem q_ok_23 : ∀ r ∈ q_p23, q_okr 23 r = true := List.all_eq_true.mp (by decide +kernel)
theorem q_cw_23 : lw_tbl[133]? = some (.code (q_mi 23).1 (q_mi 23).2.1 (q_mi 23).2.2.1 (q_mi 23).2.2.2.1) := by decide +kernel
set_option maxRecDepth 100000 in
theorem q_ok_24 : ∀ r ∈ q_p24, q_okr 24 r = true := List.all_eq_true.mp (by decide +kernel)
theorem q_cw_24 : lw_tbl[481]? = some (.code (q_mi 24).1 (q_mi 24).2.1 (q_mi 24).2.2.1 (q_mi 24).2.2.2.1) := by decide +kernel
set_option maxRecDepth 100000 in
theorem q_ok_25 : ∀ r ∈ q_p25, q_okr 25 r = true := List.all_eq_true.mp (by decide +kernel)
theorem q_cw_25 : lw_tbl[102]? = some (.code (q_mi 25).1 (q_mi 25).2.1 (q_mi 25).2.2.1 (q_mi 25).2.2.2.1) := by decide +kernel
set_option maxRecDepth 100000 in
theorem q_ok_26 : ∀ r ∈ q_p26, q_okr 26 r = true := List.all_eq_true.mp (by decide +kernel)
theorem q_cw_26 : lw_tbl[573]? = some (.code (q_mi 26).1 (q_mi 26).2.1 (q_mi 26).2.2.1 (q_mi 26).2.2.2.1) := by decide +kernel
set_option maxRecDepth 100000 in
theorem q_ok_27 : ∀ r ∈ q_p27, q_okr 27 r = true := List.all_eq_true.mp (by decide +kernel)
theorem q_cw_27 : lw_tbl[423]? = some (.code (q_mi 27).1 (q_mi 27).2.1 (q_mi 27).2.2.1 (q_mi 27).2.2.2.1) := by decide +kernel
set_option maxRecDepth 100000 in
theorem q_ok_28 : ∀ r ∈ q_p28, q_okr 28 r = true := List.all_eq_true.mp (by decide +kernel)
theorem q_cw_28 : lw_tbl[112]? = some (.code (q_mi 28).1 (q_mi 28).2.1 (q_mi 28).2.2.1 (q_mi 28).2.2.2.1) := by decide +kernel
set_option maxRecDepth 100000 in
theorem q_ok_29 : ∀ r ∈ q_p29, q_okr 29 r = true := List.all_eq_true.mp (by decide +kernel)
theorem q_cw_29 : lw_tbl[218]? = some (.code (q_mi 29).1 (q_mi 29).2.1 (q_mi 29).2.2.1 (q_mi 29).2.2.2.1) := by decide +kernel
set_option maxRecDepth 100000 in
theorem q_ok_30 : ∀ r ∈ q_p30, q_okr 30 r = true := List.all_eq_true.mp (by decide +kernel)
theorem q_cw_30 : lw_tbl[502]? = some (.code (q_mi 30).1 (q_mi 30).2.1 (q_mi 30).2.2.1 (q_mi 30).2.2.2.1) := by decide +kernel
set_option maxRecDepth 100000 in
theorem q_ok_31 : ∀ r ∈ q_p31, q_okr 31 r = true := List.all_eq_true.mp (by decide +kernel)
theorem q_cw_31 : lw_tbl[492]? = some (.code (q_mi 31).1 (q_mi 31).2.1 (q_mi 31).2.2.1 (q_mi 31).2.2.2.1) := by decide +kernel
set_option maxRecDepth 100000 in
theorem q_ok_32 : ∀ r ∈ q_p32, q_okr 32 r = true := List.all_eq_true.mp (by decide +kernel)
theorem q_cw_32 : lw_tbl[419]? = some (.code (q_mi 32).1 (q_mi 32).2.1 (q_mi 32).2.2.1 (q_mi 32).2.2.2.1) := by decide +kernel
set_option maxRecDepth 100000 in
theorem q_ok_33 : ∀ r ∈ q_p33, q_okr 33 r = true := List.all_eq_true.mp (by decide +kernel)
theorem q_cw_33 : lw_tbl[362]? = some (.code (q_mi 33).1 (q_mi 33).2.1 (q_mi 33).2.2.1 (q_mi 33).2.2.2.1) := by decide +kernel
set_option maxRecDepth 100000 in
theorem q_ok_34 : ∀ r ∈ q_p34, q_okr 34 r = true := List.all_eq_true.mp (by decide +kernel)
theorem q_cw_34 : lw_tbl[453]? = some (.code (q_mi 34).1 (q_mi 34).2.1 (q_mi 34).2.2.1 (q_mi 34).2.2.2.1) := by decide +kernel
set_option maxRecDepth 100000 in
theorem q_ok_35 : ∀ r ∈ q_p35, q_okr 35 r = true := List.all_eq_true.mp (by decide +kernel)
theorem q_cw_35 : lw_tbl[194]? = some (.code (q_mi 35).1 (q_mi 35).2.1 (q_mi 35).2.2.1 (q_mi 35).2.2.2.1) := by decide +kernel
set_option maxRecDepth 100000 in
theorem q_ok_36 : ∀ r ∈ q_p36, q_okr 36 r = true := List.all_eq_true.mp (by decide +kernel)
theorem q_cw_36 : lw_tbl[55]? = some (.code (q_mi 36).1 (q_mi 36).2.1 (q_mi 36).2.2.1 (q_mi 36).2.2.2.1) := by decide +kernel
set_option maxRecDepth 100000 in
theorem q_ok_37 : ∀ r ∈ q_p37, q_okr 37 r = true := List.all_eq_true.mp (by decide +kernel)
theorem q_cw_37 : lw_tbl[279]? = some (.code (q_mi 37).1 (q_mi 37).2.1 (q_mi 37).2.2.1 (q_mi 37).2.2.2.1) := by decide +kernel
set_option maxRecDepth 100000 in
theorem q_ok_38 : ∀ r ∈ q_p38, q_okr 38 r = true := List.all_eq_true.mp (by decide +kernel)
theorem q_cw_38 : lw_tbl[312]? = some (.code (q_mi 38).1 (q_mi 38).2.1 (q_mi 38).2.2.1 (q_mi 38).2.2.2.1) := by decide +kernel
set_option maxRecDepth 100000 in
theorem q_ok_39 : ∀ r ∈ q_p39, q_okr 39 r = true := List.all_eq_true.mp (by decide +kernel)
theorem q_cw_39 : lw_tbl[386]? = some (.code (q_mi 39).1 (q_mi 39).2.1 (q_mi 39).2.2.1 (q_mi 39).2.2.2.1) := by decide +kernel
set_option maxRecDepth 100000 in
theorem q_ok_40 : ∀ r ∈ q_p40, q_okr 40 r = true := List.all_eq_true.mp (by decide +kernel)
theorem q_cw_40 : lw_tbl[326]? = some (.code (q_mi 40).1 (q_mi 40).2.1 (q_mi 40).2.2.1 (q_mi 40).2.2.2.1) := by decide +kernel
set_option maxRecDepth 100000 in
theorem q_ok_41 : ∀ r ∈ q_p41, q_okr 41 r = true := List.all_eq_true.mp (by decide +kernel)
theorem q_cw_41 : lw_tbl[522]? = some (.code (q_mi 41).1 (q_mi 41).2.1 (q_mi 41).2.2.1 (q_mi 41).2.2.2.1) := by decide +kernel
set_option maxRecDepth 100000 in
theorem q_ok_42 : ∀ r ∈ q_p42, q_okr 42 r = true := List.all_eq_true.mp (by decide +kernel)
theorem q_cw_42 : lw_tbl[551]? = some (.code (q_mi 42).1 (q_mi 42).2.1 (q_mi 42).2.2.1 (q_mi 42).2.2.2.1) := by decide +kernel
set_option maxRecDepth 100000 in
theorem q_ok_43 : ∀ r ∈ q_p43, q_okr 43 r = true := List.all_eq_true.mp (by decide +kernel)
theorem q_cw_43 : lw_tbl[276]? = some (.code (q_mi 43).1 (q_mi 43).2.1 (q_mi 43).2.2.1 (q_mi 43).2.2.2.1) := by decide +kernel
set_option maxRecDepth 100000 in
theorem q_ok_44 : ∀ r ∈ q_p44, q_okr 44 r = true := List.all_eq_true.mp (by decide +kernel)
theorem q_cw_44 : lw_tbl[547]? = some (.code (q_mi 44).1 (q_mi 44).2.1 (q_mi 44).2.2.1 (q_mi 44).2.2.2.1) := by decide +kernel
set_option maxRecDepth 100000 in
theorem q_ok_45 : ∀ r ∈ q_p45, q_okr 45 r = true := List.all_eq_true.mp (by decide +kernel)
theorem q_cw_45 : lw_tbl[540]? = some (.code (q_mi 45).1 (q_mi 45).2.1 (q_mi 45).2.2.1 (q_mi 45).2.2.2.1) := by decide +kernel
set_option maxRecDepth 100000 in
theorem q_ok_46 : ∀ r ∈ q_p46, q_okr 46 r = true := List.all_eq_true.mp (by decide +kernel)
theorem q_cw_46 : lw_tbl[304]? = some (.code (q_mi 46).1 (q_mi 46).2.1 (q_mi 46).2.2.1 (q_mi 46).2.2.2.1) := by decide +kernel
set_option maxRecDepth 100000 in
theorem q_ok_47 : ∀ r ∈ q_p47, q_okr 47 r = true := List.all_eq_true.mp (by decide +kernel)
theorem q_cw_47 : lw_tbl[294]? = some (.code (q_mi 47).1 (q_mi 47).2.1 (q_mi 47).2.2.1 (q_mi 47).2.2.2.1) := by decide +kernel
set_option maxRecDepth 100000 in
theorem q_ok_48 : ∀ r ∈ q_p48, q_okr 48 r = true := List.all_eq_true.mp (by decide +kernel)
theorem q_cw_48 : lw_tbl[299]? = some (.code (q_mi 48).1 (q_mi 48).2.1 (q_mi 48).2.2.1 (q_mi 48).2.2.2.1) := by decide +kernel
set_option maxRecDepth 100000 in
theorem q_ok_49 : ∀ r ∈ q_p49, q_okr 49 r = true := List.all_eq_true.mp (by decide +kernel)
theorem q_cw_49 : lw_tbl[309]? = some (.code (q_mi 49).1 (q_mi 49).2.1 (q_mi 49).2.2.1 (q_mi 49).2.2.2.1) := by decide +kernel
set_option maxRecDepth 100000 in
theorem q_ok_50 : ∀ r ∈ q_p50, q_okr 50 r = true := List.all_eq_true.mp (by decide +kernel)
theorem q_cw_50 : lw_tbl[517]? = some (.code (q_mi 50).1 (q_mi 50).2.1 (q_mi 50).2.2.1 (q_mi 50).2.2.2.1) := by decide +kernel
set_option maxRecDepth 100000 in
theorem q_ok_51 : ∀ r ∈ q_p51, q_okr 51 r = true := List.all_eq_true.mp (by decide +kernel)
theorem q_cw_51 : lw_tbl[334]? = some (.code (q_mi 51).1 (q_mi 51).2.1 (q_mi 51).2.2.1 (q_mi 51).2.2.2.1) := by decide +kernel
set_option maxRecDepth 100000 in
theorem q_ok_52 : ∀ r ∈ q_p52, q_okr 52 r = true := List.all_eq_true.mp (by decide +kernel)
theorem q_cw_52 : lw_tbl[395]? = some (.code (q_mi 52).1 (q_mi 52).2.1 (q_mi 52).2.2.1 (q_mi 52).2.2.2.1) := by decide +kernel
set_option maxRecDepth 100000 in
theorem q_ok_53 : ∀ r ∈ q_p53, q_okr 53 r = true := List.all_eq_true.mp (by decide +kernel)
theorem q_cw_53 : lw_tbl[28]? = some (.code (q_mi 53).1 (q_mi 53).2.1 (q_mi 53).2.2.1 (q_mi 53).2.2.2.1) := by decide +kernel
set_option maxRecDepth 100000 in
theorem q_ok_54_0 : ∀ r ∈ (q_p54.drop 0).take 60, q_okr 54 r = true := List.all_eq_true.mp (by decide +kernel)
set_option maxRecDepth 100000 in
theorem q_ok_54_60 : ∀ r ∈ (q_p54.drop 60).take 60, q_okr 54 r = true := List.all_eq_true.mp (by decide +kernel)
set_option maxRecDepth 100000 in
theorem q_ok_54 : ∀ r ∈ q_p54, q_okr 54 r = true := by
  have e : q_p54 = (q_p54.drop 0).take 60 ++ (q_p54.drop 60).take 60 := by decide +kernel
  intro r h
  rw [e] at h
  simp only [List.mem_append] at h
  rcases h with h | h
  · exact q_ok_54_0 r h
  · exact q_ok_54_60 r h
theorem q_cw_54 : lw_tbl[383]? = some (.code (q_mi 54).1 (q_mi 54).2.1 (q_mi 54).2.2.1 (q_mi 54).2.2.2.1) := by decide +kernel
set_option maxRecDepth 100000 in
theorem q_ok_55_0 : ∀ r ∈ (q_p55.drop 0).take 60, q_okr 55 r = true := List.all_eq_true.mp (by decide +kernel)
set_option maxRecDepth 100000 in
theorem q_ok_55_60 : ∀ r ∈ (q_p55.drop 60).take 60, q_okr 55 r = true := List.all_eq_true.mp (by decide +kernel)
set_option maxRecDepth 100000 in
theorem q_ok_55 : ∀ r ∈ q_p55, q_okr 55 r = true := by
  have e : q_p55 = (q_p55.drop 0).take 60 ++ (q_p55.drop 60).take 60 := by decide +kernel
  intro r h
  rw [e] at h
  simp only [List.mem_append] at h
  rcases h with h | h
  · exact q_ok_55_0 r h
  · exact q_ok_55_60 r h
theorem q_cw_55 : lw_tbl[350]? = some (.code (q_mi 55).1 (q_mi 55).2.1 (q_mi 55).2.2.1 (q_mi 55).2.2.2.1) := by decide +kernel
set_option maxRecDepth 100000 in
theorem q_ok_56 : ∀ r ∈ q_p56, q_okr 56 r = true := List.all_eq_true.mp (by decide +kernel)
theorem q_cw_56 : lw_tbl[449]? = some (.code (q_mi 56).1 (q_mi 56).2.1 (q_mi 56).2.2.1 (q_mi 56).2.2.2.1) := by decide +kernel
set_option maxRecDepth 100000 in
theorem q_ok_57 : ∀ r ∈ q_p57, q_okr 57 r = true := List.all_eq_true.mp (by decide +kernel)
theorem q_cw_57 : lw_tbl[415]? = some (.code (q_mi 57).1 (q_mi 57).2.1 (q_mi 57).2.2.1 (q_mi 57).2.2.2.1) := by decide +kernel
set_option maxRecDepth 100000 in
theorem q_ok_58 : ∀ r ∈ q_p58, q_okr 58 r = true := List.all_eq_true.mp (by decide +kernel)
theorem q_cw_58 : lw_tbl[473]? = some (.code (q_mi 58).1 (q_mi 58).2.1 (q_mi 58).2.2.1 (q_mi 58).2.2.2.1) := by decide +kernel
