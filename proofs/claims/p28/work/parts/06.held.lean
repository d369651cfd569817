theorem q_ka0 : ∀ i, i < 20 → ∀ r ∈ q_tab (20 * 0 + i), q_okr (20 * 0 + i) r = true := by
  intro i hi
  match i, hi with
  | 0, _ => exact q_ok_0
  | 1, _ => exact q_ok_1
  | 2, _ => exact q_ok_2
  | 3, _ => exact q_ok_3
  | 4, _ => exact q_ok_4
  | 5, _ => exact q_ok_5
  | 6, _ => exact q_ok_6
  | 7, _ => exact q_ok_7
  | 8, _ => exact q_ok_8
  | 9, _ => exact q_ok_9
  | 10, _ => exact q_ok_10
  | 11, _ => exact q_ok_11
  | 12, _ => exact q_ok_12
  | 13, _ => exact q_ok_13
  | 14, _ => exact q_ok_14
  | 15, _ => exact q_ok_15
  | 16, _ => exact q_ok_16
  | 17, _ => exact q_ok_17
  | 18, _ => exact q_ok_18
  | 19, _ => exact q_ok_19
  | i + 20, h => exact absurd h (by omega)
theorem q_ka1 : ∀ i, i < 20 → ∀ r ∈ q_tab (20 * 1 + i), q_okr (20 * 1 + i) r = true := by
  intro i hi
  match i, hi with
  | 0, _ => exact q_ok_20
  | 1, _ => exact q_ok_21
  | 2, _ => exact q_ok_22
  | 3, _ => exact q_ok_23
  | 4, _ => exact q_ok_24
  | 5, _ => exact q_ok_25
  | 6, _ => exact q_ok_26
  | 7, _ => exact q_ok_27
  | 8, _ => exact q_ok_28
  | 9, _ => exact q_ok_29
  | 10, _ => exact q_ok_30
  | 11, _ => exact q_ok_31
  | 12, _ => exact q_ok_32
  | 13, _ => exact q_ok_33
  | 14, _ => exact q_ok_34
  | 15, _ => exact q_ok_35
  | 16, _ => exact q_ok_36
  | 17, _ => exact q_ok_37
  | 18, _ => exact q_ok_38
  | 19, _ => exact q_ok_39
  | i + 20, h => exact absurd h (by omega)
theorem q_ka2 : ∀ i, i < 20 → ∀ r ∈ q_tab (20 * 2 + i), q_okr (20 * 2 + i) r = true := by
  intro i hi
  match i, hi with
  | 0, _ => exact q_ok_40
  | 1, _ => exact q_ok_41
  | 2, _ => exact q_ok_42
  | 3, _ => exact q_ok_43
  | 4, _ => exact q_ok_44
  | 5, _ => exact q_ok_45
  | 6, _ => exact q_ok_46
  | 7, _ => exact q_ok_47
  | 8, _ => exact q_ok_48
  | 9, _ => exact q_ok_49
  | 10, _ => exact q_ok_50
  | 11, _ => exact q_ok_51
  | 12, _ => exact q_ok_52
  | 13, _ => exact q_ok_53
  | 14, _ => exact q_ok_54
  | 15, _ => exact q_ok_55
  | 16, _ => exact q_ok_56
  | 17, _ => exact q_ok_57
  | 18, _ => exact q_ok_58
  | 19, _ => exact q_ok_59
  | i + 20, h => exact absurd h (by omega)
theorem q_ka3 : ∀ i, i < 20 → ∀ r ∈ q_tab (20 * 3 + i), q_okr (20 * 3 + i) r = true := by
  intro i hi
  match i, hi with
  | 0, _ => exact q_ok_60
  | 1, _ => exact q_ok_61
  | 2, _ => exact q_ok_62
  | 3, _ => exact q_ok_63
  | 4, _ => exact q_ok_64
  | 5, _ => exact q_ok_65
  | 6, _ => exact q_ok_66
  | 7, _ => exact q_ok_67
  | 8, _ => exact q_ok_68
  | 9, _ => exact q_ok_69
  | 10, _ => exact q_ok_70
  | 11, _ => exact q_ok_71
  | 12, _ => exact q_ok_72
  | 13, _ => exact q_ok_73
  | 14, _ => exact q_ok_74
  | 15, _ => exact q_ok_75
  | 16, _ => exact q_ok_76
  | 17, _ => exact q_ok_77
  | 18, _ => exact q_ok_78
  | 19, _ => exact q_ok_79
  | i + 20, h => exact absurd h (by omega)
theorem q_ka4 : ∀ i, i < 20 → ∀ r ∈ q_tab (20 * 4 + i), q_okr (20 * 4 + i) r = true := by
  intro i hi
  match i, hi with
  | 0, _ => exact q_ok_80
  | 1, _ => exact q_ok_81
  | 2, _ => exact q_ok_82
  | 3, _ => exact q_ok_83
  | 4, _ => exact q_ok_84
  | 5, _ => exact q_ok_85
  | 6, _ => exact q_ok_86
  | i + 7, _ => exact fun r h => absurd h (by
    have e : q_tab (20 * 4 + (i + 7)) = [] := by
      unfold q_tab
      rw [show (20 * 4 + (i + 7)) / 20 = 4 by omega, show (20 * 4 + (i + 7)) % 20 = i + 7 by omega]
      rfl
    rw [e]
    exact List.not_mem_nil)
theorem q_okf {k pc : Nat} {r : q_R} (h : q_P k pc = some r) : r.1 = pc ∧ q_okr k r = true := by
  unfold q_P at h
  refine ⟨by have := List.find?_some h; simpa using this, ?_⟩
  have hm : r ∈ q_tab k := List.mem_of_find?_eq_some h
  by_cases hk : k / 20 < 5
  · have key : ∀ j, (∀ i, i < 20 → ∀ r ∈ q_tab (20 * j + i), q_okr (20 * j + i) r = true) → k / 20 = j → q_okr k r = true := by
      intro j hj e
      have h1 := hj (k % 20) (by omega)
      rw [show 20 * j + k % 20 = k by omega] at h1
      exact h1 r hm
    have : k / 20 = 0 ∨ k / 20 = 1 ∨ k / 20 = 2 ∨ k / 20 = 3 ∨ k / 20 = 4 := by omega
    rcases this with e | e | e | e | e
    · exact key 0 q_ka0 e
    · exact key 1 q_ka1 e
    · exact key 2 q_ka2 e
    · exact key 3 q_ka3 e
    · exact key 4 q_ka4 e
  · exfalso
    unfold q_tab at hm
    split at hm <;> first | omega | exact List.not_mem_nil hm
theorem q_pf0 : ∀ i, i < 20 → plainFor (q_mi (20 * 0 + i)).1 = true ∧ (q_mi (20 * 0 + i)).2.2.1 ≤ 18 := by decide +kernel
theorem q_cd0 : ∀ i, i < 20 → Cond.code (q_mi (20 * 0 + i)).1 (q_mi (20 * 0 + i)).2.1 (q_mi (20 * 0 + i)).2.2.1 (q_mi (20 * 0 + i)).2.2.2.1 ∈ lw_tbl := by
  intro i hi
  match i, hi with
  | 0, _ => exact List.mem_of_getElem? q_cw_0
  | 1, _ => exact List.mem_of_getElem? q_cw_1
  | 2, _ => exact List.mem_of_getElem? q_cw_2
  | 3, _ => exact List.mem_of_getElem? q_cw_3
  | 4, _ => exact List.mem_of_getElem? q_cw_4
  | 5, _ => exact List.mem_of_getElem? q_cw_5
  | 6, _ => exact List.mem_of_getElem? q_cw_6
  | 7, _ => exact List.mem_of_getElem? q_cw_7
  | 8, _ => exact List.mem_of_getElem? q_cw_8
  | 9, _ => exact List.mem_of_getElem? q_cw_9
  | 10, _ => exact List.mem_of_getElem? q_cw_10
  | 11, _ => exact List.mem_of_getElem? q_cw_11
  | 12, _ => exact List.mem_of_getElem? q_cw_12
  | 13, _ => exact List.mem_of_getElem? q_cw_13
  | 14, _ => exact List.mem_of_getElem? q_cw_14
  | 15, _ => exact List.mem_of_getElem? q_cw_15
  | 16, _ => exact List.mem_of_getElem? q_cw_16
  | 17, _ => exact List.mem_of_getElem? q_cw_17
  | 18, _ => exact List.mem_of_getElem? q_cw_18
  | 19, _ => exact List.mem_of_getElem? q_cw_19
  | i + 20, h => exact absurd h (by omega)
theorem q_pf1 : ∀ i, i < 20 → plainFor (q_mi (20 * 1 + i)).1 = true ∧ (q_mi (20 * 1 + i)).2.2.1 ≤ 18 := by decide +kernel
theorem q_cd1 : ∀ i, i < 20 → Cond.code (q_mi (20 * 1 + i)).1 (q_mi (20 * 1 + i)).2.1 (q_mi (20 * 1 + i)).2.2.1 (q_mi (20 * 1 + i)).2.2.2.1 ∈ lw_tbl := by
  intro i hi
  match i, hi with
  | 0, _ => exact List.mem_of_getElem? q_cw_20
  | 1, _ => exact List.mem_of_getElem? q_cw_21
  | 2, _ => exact List.mem_of_getElem? q_cw_22
  | 3, _ => exact List.mem_of_getElem? q_cw_23
  | 4, _ => exact List.mem_of_getElem? q_cw_24
  | 5, _ => exact List.mem_of_getElem? q_cw_25
  | 6, _ => exact List.mem_of_getElem? q_cw_26
  | 7, _ => exact List.mem_of_getElem? q_cw_27
  | 8, _ => exact List.mem_of_getElem? q_cw_28
  | 9, _ => exact List.mem_of_getElem? q_cw_29
  | 10, _ => exact List.mem_of_getElem? q_cw_30
  | 11, _ => exact List.mem_of_getElem? q_cw_31
  | 12, _ => exact List.mem_of_getElem? q_cw_32
  | 13, _ => exact List.mem_of_getElem? q_cw_33
  | 14, _ => exact List.mem_of_getElem? q_cw_34
  | 15, _ => exact List.mem_of_getElem? q_cw_35
  | 16, _ => exact List.mem_of_getElem? q_cw_36
  | 17, _ => exact List.mem_of_getElem? q_cw_37
  | 18, _ => exact List.mem_of_getElem? q_cw_38
  | 19, _ => exact List.mem_of_getElem? q_cw_39
  | i + 20, h => exact absurd h (by omega)
theorem q_pf2 : ∀ i, i < 20 → plainFor (q_mi (20 * 2 + i)).1 = true ∧ (q_mi (20 * 2 + i)).2.2.1 ≤ 18 := by decide +kernel
theorem q_cd2 : ∀ i, i < 20 → Cond.code (q_mi (20 * 2 + i)).1 (q_mi (20 * 2 + i)).2.1 (q_mi (20 * 2 + i)).2.2.1 (q_mi (20 * 2 + i)).2.2.2.1 ∈ lw_tbl := by
  intro i hi
  match i, hi with
  | 0, _ => exact List.mem_of_getElem? q_cw_40
  | 1, _ => exact List.mem_of_getElem? q_cw_41
  | 2, _ => exact List.mem_of_getElem? q_cw_42
  | 3, _ => exact List.mem_of_getElem? q_cw_43
  | 4, _ => exact List.mem_of_getElem? q_cw_44
  | 5, _ => exact List.mem_of_getElem? q_cw_45
  | 6, _ => exact List.mem_of_getElem? q_cw_46
  | 7, _ => exact List.mem_of_getElem? q_cw_47
  | 8, _ => exact List.mem_of_getElem? q_cw_48
  | 9, _ => exact List.mem_of_getElem? q_cw_49
  | 10, _ => exact List.mem_of_getElem? q_cw_50
  | 11, _ => exact List.mem_of_getElem? q_cw_51
  | 12, _ => exact List.mem_of_getElem? q_cw_52
  | 13, _ => exact List.mem_of_getElem? q_cw_53
  | 14, _ => exact List.mem_of_getElem? q_cw_54
  | 15, _ => exact List.mem_of_getElem? q_cw_55
  | 16, _ => exact List.mem_of_getElem? q_cw_56
  | 17, _ => exact List.mem_of_getElem? q_cw_57
  | 18, _ => exact List.mem_of_getElem? q_cw_58
  | 19, _ => exact List.mem_of_getElem? q_cw_59
  | i + 20, h => exact absurd h (by omega)
theorem q_pf3 : ∀ i, i < 20 → plainFor (q_mi (20 * 3 + i)).1 = true ∧ (q_mi (20 * 3 + i)).2.2.1 ≤ 18 := by decide +kernel
theorem q_cd3 : ∀ i, i < 20 → Cond.code (q_mi (20 * 3 + i)).1 (q_mi (20 * 3 + i)).2.1 (q_mi (20 * 3 + i)).2.2.1 (q_mi (20 * 3 + i)).2.2.2.1 ∈ lw_tbl := by
  intro i hi
  match i, hi with
  | 0, _ => exact List.mem_of_getElem? q_cw_60
  | 1, _ => exact List.mem_of_getElem? q_cw_61
  | 2, _ => exact List.mem_of_getElem? q_cw_62
  | 3, _ => exact List.mem_of_getElem? q_cw_63
  | 4, _ => exact List.mem_of_getElem? q_cw_64
  | 5, _ => exact List.mem_of_getElem? q_cw_65
  | 6, _ => exact List.mem_of_getElem? q_cw_66
  | 7, _ => exact List.mem_of_getElem? q_cw_67
  | 8, _ => exact List.mem_of_getElem? q_cw_68
  | 9, _ => exact List.mem_of_getElem? q_cw_69
  | 10, _ => exact List.mem_of_getElem? q_cw_70
  | 11, _ => exact List.mem_of_getElem? q_cw_71
  | 12, _ => exact List.mem_of_getElem? q_cw_72
  | 13, _ => exact List.mem_of_getElem? q_cw_73
  | 14, _ => exact List.mem_of_getElem? q_cw_74
  | 15, _ => exact List.mem_of_getElem? q_cw_75
  | 16, _ => exact List.mem_of_getElem? q_cw_76
  | 17, _ => exact List.mem_of_getElem? q_cw_77
  | 18, _ => exact List.mem_of_getElem? q_cw_78
  | 19, _ => exact List.mem_of_getElem? q_cw_79
  | i + 20, h => exact absurd h (by omega)
theorem q_pf4 : ∀ i, i < 6 → plainFor (q_mi (20 * 4 + i)).1 = true ∧ (q_mi (20 * 4 + i)).2.2.1 ≤ 18 := by decide +kernel
theorem q_cd4 : ∀ i, i < 6 → Cond.code (q_mi (20 * 4 + i)).1 (q_mi (20 * 4 + i)).2.1 (q_mi (20 * 4 + i)).2.2.1 (q_mi (20 * 4 + i)).2.2.2.1 ∈ lw_tbl := by
  intro i hi
  match i, hi with
  | 0, _ => exact List.mem_of_getElem? q_cw_80
  | 1, _ => exact List.mem_of_getElem? q_cw_81
  | 2, _ => exact List.mem_of_getElem? q_cw_82
  | 3, _ => exact List.mem_of_getElem? q_cw_83
  | 4, _ => exact List.mem_of_getElem? q_cw_84
  | 5, _ => exact List.mem_of_getElem? q_cw_85
  | i + 6, h => exact absurd h (by omega)
theorem q_mif {k : Nat} (h : k < 86) : plainFor (q_mi k).1 = true ∧ (q_mi k).2.2.1 ≤ 18 ∧ Cond.code (q_mi k).1 (q_mi k).2.1 (q_mi k).2.2.1 (q_mi k).2.2.2.1 ∈ q_LW := by
  have key : ∀ j n, (∀ i, i < n → plainFor (q_mi (20 * j + i)).1 = true ∧ (q_mi (20 * j + i)).2.2.1 ≤ 18) → (∀ i, i < n → Cond.code (q_mi (20 * j + i)).1 (q_mi (20 * j + i)).2.1 (q_mi (20 * j + i)).2.2.1 (q_mi (20 * j + i)).2.2.2.1 ∈ lw_tbl) → k / 20 = j → k % 20 < n → plainFor (q_mi k).1 = true ∧ (q_mi k).2.2.1 ≤ 18 ∧ Cond.code (q_mi k).1 (q_mi k).2.1 (q_mi k).2.2.1 (q_mi k).2.2.2.1 ∈ q_LW := by
    intro j n h1 h2 e hn
    have a1 := h1 _ hn
    have a2 := h2 _ hn
    rw [show 20 * j + k % 20 = k by omega] at a1 a2
    exact ⟨a1.1, a1.2, List.mem_filter.mpr ⟨a2, rfl⟩⟩
  have : k / 20 = 0 ∨ k / 20 = 1 ∨ k / 20 = 2 ∨ k / 20 = 3 ∨ k / 20 = 4 := by omega
  rcases this with e | e | e | e | e
  · exact key 0 20 q_pf0 q_cd0 e (by omega)
  · exact key 1 20 q_pf1 q_cd1 e (by omega)
  · exact key 2 20 q_pf2 q_cd2 e (by omega)
  · exact key 3 20 q_pf3 q_cd3 e (by omega)
  · exact key 4 6 q_pf4 q_cd4 e (by omega)
