theorem k_t {i : Nat} {w : Cond} (h : tables_1[i]? = some w) (hg : goodWord w = true) : w ∈ k_tb := List.mem_filter.mpr ⟨List.mem_append_right _ (List.mem_of_getElem? h), hg⟩
theorem k_s {i : Nat} {w : Cond} (h : (k2_sels lw_privs)[i]? = some w) (hg : goodWord w = true) : w ∈ k_tb := List.mem_filter.mpr ⟨List.mem_append_left _ (List.mem_of_getElem? h), hg⟩
abbrev mX8_isShield : KI := (yX8_isShield, cX8_isShield, 1, (some .boolean), { frames := 0, cells := 0, slots := 0, locals := 0 })
abbrev mX8_isPlace : KI := (yX8_isPlace, cX8_isPlace, 1, (some .boolean), { frames := 0, cells := 0, slots := 0, locals := 0 })
abbrev mX8_isMark : KI := (yX8_isMark, cX8_isMark, 1, (some .boolean), { frames := 0, cells := 0, slots := 0, locals := 0 })
abbrev mX8_markAt : KI := (yX8_markAt, cX8_markAt, 4, (some .int), { frames := 0, cells := 0, slots := 0, locals := 0 })
abbrev mX8_weightOf : KI := (yX8_weightOf, cX8_weightOf, 3, (some .int), { frames := 0, cells := 0, slots := 0, locals := 0 })
abbrev mX8_withMark : KI := (yX8_withMark, cX8_withMark, 3, (some .int), { frames := 1, cells := 0, slots := 0, locals := 23 })
abbrev mX8_apart : KI := (yX8_apart, cX8_apart, 4, (some .int), { frames := 0, cells := 0, slots := 0, locals := 0 })
abbrev mX5_init : KI := (yX5_init, cX5_init, 1, none, { frames := 0, cells := 0, slots := 0, locals := 0 })
abbrev mX5_length : KI := (yX5_length, cX5_length, 1, (some .int), { frames := 0, cells := 0, slots := 0, locals := 0 })
abbrev mX5_isFull : KI := (yX5_isFull, cX5_isFull, 1, (some .boolean), { frames := 0, cells := 0, slots := 0, locals := 0 })
abbrev mX5_put : KI := (yX5_put, cX5_put, 2, none, { frames := 0, cells := 0, slots := 0, locals := 0 })
abbrev mX5_empty : KI := (yX5_empty, cX5_empty, 1, none, { frames := 0, cells := 0, slots := 0, locals := 0 })
abbrev mX5_signAt : KI := (yX5_signAt, cX5_signAt, 2, (some .int), { frames := 0, cells := 0, slots := 0, locals := 0 })
abbrev mX5_startsDeed : KI := (yX5_startsDeed, cX5_startsDeed, 2, (some .boolean), { frames := 1, cells := 0, slots := 0, locals := 21 })
abbrev mX5_digitAt : KI := (yX5_digitAt, cX5_digitAt, 2, (some .int), { frames := 1, cells := 0, slots := 0, locals := 21 })
abbrev mX5_afterNumber : KI := (yX5_afterNumber, cX5_afterNumber, 2, (some .int), { frames := 1, cells := 0, slots := 0, locals := 22 })
abbrev mX5_numberAt : KI := (yX5_numberAt, cX5_numberAt, 2, (some .int), { frames := 2, cells := 0, slots := 0, locals := 42 })
abbrev mX5_shieldAt : KI := (yX5_shieldAt, cX5_shieldAt, 4, (some .int), { frames := 2, cells := 0, slots := 0, locals := 42 })
abbrev mX5_firstFault : KI := (yX5_firstFault, cX5_firstFault, 3, (some .int), { frames := 3, cells := 0, slots := 0, locals := 65 })
abbrev mX5_stateAfter : KI := (yX5_stateAfter, cX5_stateAfter, 2, (some .int), { frames := 2, cells := 0, slots := 0, locals := 44 })
abbrev mX5_stateAfterLetter : KI := (yX5_stateAfterLetter, cX5_stateAfterLetter, 1, (some .int), { frames := 0, cells := 0, slots := 0, locals := 0 })
abbrev mX5_stateAfterFather : KI := (yX5_stateAfterFather, cX5_stateAfterFather, 1, (some .int), { frames := 0, cells := 0, slots := 0, locals := 0 })
abbrev mX5_stateAfterDeed : KI := (yX5_stateAfterDeed, cX5_stateAfterDeed, 1, (some .int), { frames := 0, cells := 0, slots := 0, locals := 0 })
abbrev mX5_stateAfterDigit : KI := (yX5_stateAfterDigit, cX5_stateAfterDigit, 3, (some .int), { frames := 1, cells := 0, slots := 0, locals := 22 })
abbrev mX5_isBetween : KI := (yX5_isBetween, cX5_isBetween, 3, (some .boolean), { frames := 0, cells := 0, slots := 0, locals := 0 })
abbrev mX6_init : KI := (yX6_init, cX6_init, 1, none, { frames := 0, cells := 0, slots := 0, locals := 0 })
abbrev mX6_copyFrom : KI := (yX6_copyFrom, cX6_copyFrom, 3, none, { frames := 0, cells := 0, slots := 0, locals := 0 })
abbrev mX6_size : KI := (yX6_size, cX6_size, 1, (some .int), { frames := 0, cells := 0, slots := 0, locals := 0 })
abbrev mX6_heirs : KI := (yX6_heirs, cX6_heirs, 1, (some .int), { frames := 0, cells := 0, slots := 0, locals := 0 })
abbrev mX6_refusals : KI := (yX6_refusals, cX6_refusals, 1, (some .int), { frames := 0, cells := 0, slots := 0, locals := 0 })
abbrev mX6_has : KI := (yX6_has, cX6_has, 2, (some .boolean), { frames := 0, cells := 0, slots := 0, locals := 0 })
abbrev mX6_shieldOf : KI := (yX6_shieldOf, cX6_shieldOf, 2, (some .int), { frames := 1, cells := 0, slots := 0, locals := 21 })
abbrev mX6_isAlive : KI := (yX6_isAlive, cX6_isAlive, 2, (some .boolean), { frames := 1, cells := 0, slots := 0, locals := 21 })
abbrev mX6_fatherOf : KI := (yX6_fatherOf, cX6_fatherOf, 2, (some .int), { frames := 1, cells := 0, slots := 0, locals := 21 })
abbrev mX6_birthPlaceOf : KI := (yX6_birthPlaceOf, cX6_birthPlaceOf, 2, (some .int), { frames := 1, cells := 0, slots := 0, locals := 21 })
abbrev mX6_birthMarkOf : KI := (yX6_birthMarkOf, cX6_birthMarkOf, 2, (some .int), { frames := 1, cells := 0, slots := 0, locals := 21 })
abbrev mX6_living : KI := (yX6_living, cX6_living, 3, (some .int), { frames := 2, cells := 0, slots := 0, locals := 42 })
abbrev mX6_livingWith : KI := (yX6_livingWith, cX6_livingWith, 3, (some .int), { frames := 0, cells := 0, slots := 0, locals := 0 })
abbrev mX6_sonsOf : KI := (yX6_sonsOf, cX6_sonsOf, 4, (some .int), { frames := 2, cells := 0, slots := 0, locals := 42 })
abbrev mX6_areBrothers : KI := (yX6_areBrothers, cX6_areBrothers, 3, (some .boolean), { frames := 1, cells := 0, slots := 0, locals := 21 })
abbrev mX6_founderComes : KI := (yX6_founderComes, cX6_founderComes, 2, (some .int), { frames := 1, cells := 0, slots := 0, locals := 25 })
abbrev mX6_sonComes : KI := (yX6_sonComes, cX6_sonComes, 5, (some .int), { frames := 4, cells := 0, slots := 0, locals := 89 })
abbrev mX6_goes : KI := (yX6_goes, cX6_goes, 2, (some .int), { frames := 3, cells := 0, slots := 0, locals := 64 })
abbrev mX6_becomesHeir : KI := (yX6_becomesHeir, cX6_becomesHeir, 4, (some .int), { frames := 3, cells := 0, slots := 0, locals := 66 })
abbrev mX6_refuse : KI := (yX6_refuse, cX6_refuse, 2, (some .int), { frames := 0, cells := 0, slots := 0, locals := 0 })
abbrev mX6_add : KI := (yX6_add, cX6_add, 6, (some .int), { frames := 0, cells := 0, slots := 0, locals := 0 })
abbrev mX6_reasonAgainstSon : KI := (yX6_reasonAgainstSon, cX6_reasonAgainstSon, 4, (some .int), { frames := 3, cells := 0, slots := 0, locals := 66 })
abbrev mX6_cousinChanged : KI := (yX6_cousinChanged, cX6_cousinChanged, 4, (some .boolean), { frames := 2, cells := 0, slots := 0, locals := 43 })
abbrev mX6_reasonAgainstHeir : KI := (yX6_reasonAgainstHeir, cX6_reasonAgainstHeir, 4, (some .int), { frames := 2, cells := 0, slots := 0, locals := 43 })
abbrev mX7_init : KI := (yX7_init, cX7_init, 1, none, { frames := 0, cells := 0, slots := 0, locals := 0 })
abbrev mX7_has : KI := (yX7_has, cX7_has, 2, (some .boolean), { frames := 1, cells := 0, slots := 0, locals := 20 })
abbrev mX7_add : KI := (yX7_add, cX7_add, 2, none, { frames := 1, cells := 0, slots := 0, locals := 20 })
abbrev mX7_empty : KI := (yX7_empty, cX7_empty, 2, none, { frames := 0, cells := 0, slots := 0, locals := 0 })
abbrev mX7_isWordEmpty : KI := (yX7_isWordEmpty, cX7_isWordEmpty, 2, (some .boolean), { frames := 0, cells := 0, slots := 0, locals := 0 })
abbrev mX1_leftByTrying : KI := (yX1_leftByTrying, cX1_leftByTrying, 5, (some .int), { frames := 4, cells := 0, slots := 0, locals := 89 })
abbrev mX1_leftByPlaces : KI := (yX1_leftByPlaces, cX1_leftByPlaces, 4, (some .int), { frames := 3, cells := 0, slots := 0, locals := 69 })
abbrev mX1_livingApartAt : KI := (yX1_livingApartAt, cX1_livingApartAt, 8, (some .int), { frames := 2, cells := 0, slots := 0, locals := 42 })
abbrev mX1_leftToAll : KI := (yX1_leftToAll, cX1_leftToAll, 3, (some .int), { frames := 4, cells := 0, slots := 0, locals := 92 })
abbrev mX1_farthest : KI := (yX1_farthest, cX1_farthest, 8, (some .int), { frames := 4, cells := 0, slots := 0, locals := 89 })
abbrev mX1_leastApart : KI := (yX1_leastApart, cX1_leastApart, 5, (some .int), { frames := 2, cells := 0, slots := 0, locals := 42 })
abbrev mX2_init : KI := (yX2_init, cX2_init, 2, none, { frames := 1, cells := 0, slots := 0, locals := 20 })
abbrev mX2_size : KI := (yX2_size, cX2_size, 1, (some .int), { frames := 0, cells := 0, slots := 0, locals := 0 })
abbrev mX2_stateAt : KI := (yX2_stateAt, cX2_stateAt, 2, (some (.object "SonMarks$Roll")), { frames := 0, cells := 0, slots := 0, locals := 0 })
abbrev mX2_note : KI := (yX2_note, cX2_note, 3, none, { frames := 1, cells := 0, slots := 0, locals := 22 })
abbrev mX2_keepNoted : KI := (yX2_keepNoted, cX2_keepNoted, 3, none, { frames := 0, cells := 0, slots := 0, locals := 0 })
abbrev mX2_takeBack : KI := (yX2_takeBack, cX2_takeBack, 3, none, { frames := 1, cells := 0, slots := 0, locals := 22 })
abbrev mX3_livingSons : KI := (yX3_livingSons, cX3_livingSons, 4, (some .int), { frames := 2, cells := 0, slots := 0, locals := 42 })
abbrev mX3_livingBrothers : KI := (yX3_livingBrothers, cX3_livingBrothers, 4, (some .int), { frames := 2, cells := 0, slots := 0, locals := 43 })
abbrev mX3_livingCousins : KI := (yX3_livingCousins, cX3_livingCousins, 4, (some .int), { frames := 2, cells := 0, slots := 0, locals := 43 })
abbrev mX3_descendants : KI := (yX3_descendants, cX3_descendants, 4, (some .int), { frames := 3, cells := 0, slots := 0, locals := 66 })
abbrev mX3_comesFrom : KI := (yX3_comesFrom, cX3_comesFrom, 5, (some .boolean), { frames := 2, cells := 0, slots := 0, locals := 42 })
abbrev mX3_stepsFromFounder : KI := (yX3_stepsFromFounder, cX3_stepsFromFounder, 4, (some .int), { frames := 2, cells := 0, slots := 0, locals := 42 })
abbrev mX3_placesFromFather : KI := (yX3_placesFromFather, cX3_placesFromFather, 3, (some .int), { frames := 2, cells := 0, slots := 0, locals := 42 })
abbrev mX3_nearness : KI := (yX3_nearness, cX3_nearness, 4, (some .int), { frames := 2, cells := 0, slots := 0, locals := 42 })
abbrev mX3_heirOf : KI := (yX3_heirOf, cX3_heirOf, 3, (some .int), { frames := 3, cells := 0, slots := 0, locals := 66 })
abbrev mX4_init : KI := (yX4_init, cX4_init, 1, none, { frames := 1, cells := 0, slots := 0, locals := 20 })
abbrev mX4_fewest : KI := (yX4_fewest, cX4_fewest, 6, (some .int), { frames := 5, cells := 0, slots := 0, locals := 122 })
abbrev mX4_reaches : KI := (yX4_reaches, cX4_reaches, 7, (some .boolean), { frames := 4, cells := 0, slots := 0, locals := 96 })
abbrev mX4_goOn : KI := (yX4_goOn, cX4_goOn, 6, none, { frames := 3, cells := 0, slots := 0, locals := 71 })
abbrev mX4_goOnFrom : KI := (yX4_goOnFrom, cX4_goOnFrom, 7, none, { frames := 2, cells := 0, slots := 0, locals := 45 })
abbrev mX0_founders : KI := (yX0_founders, cX0_founders, 3, (some .int), { frames := 2, cells := 0, slots := 0, locals := 42 })
abbrev mX0_confusedPairs : KI := (yX0_confusedPairs, cX0_confusedPairs, 4, (some .int), { frames := 3, cells := 0, slots := 0, locals := 64 })
abbrev mX0_areConfused : KI := (yX0_areConfused, cX0_areConfused, 3, (some .boolean), { frames := 2, cells := 0, slots := 0, locals := 42 })
abbrev mX0_mostStepsFromFounder : KI := (yX0_mostStepsFromFounder, cX0_mostStepsFromFounder, 3, (some .int), { frames := 3, cells := 0, slots := 0, locals := 65 })
abbrev mX0_differentShields : KI := (yX0_differentShields, cX0_differentShields, 3, (some .int), { frames := 3, cells := 0, slots := 0, locals := 64 })
abbrev mX0_isFirstWithItsShield : KI := (yX0_isFirstWithItsShield, cX0_isFirstWithItsShield, 3, (some .boolean), { frames := 2, cells := 0, slots := 0, locals := 42 })
abbrev mX0_farFromFather : KI := (yX0_farFromFather, cX0_farFromFather, 3, (some .int), { frames := 3, cells := 0, slots := 0, locals := 64 })
abbrev mX0_livingSonless : KI := (yX0_livingSonless, cX0_livingSonless, 3, (some .int), { frames := 3, cells := 0, slots := 0, locals := 65 })
abbrev mX0_livingWithMark : KI := (yX0_livingWithMark, cX0_livingWithMark, 5, (some .int), { frames := 2, cells := 0, slots := 0, locals := 42 })
abbrev mX0_meanApart : KI := (yX0_meanApart, cX0_meanApart, 5, (some .double), { frames := 2, cells := 0, slots := 0, locals := 42 })
abbrev mX9_init : KI := (yX9_init, cX9_init, 1, none, { frames := 2, cells := 0, slots := 0, locals := 41 })
abbrev mX9_found : KI := (yX9_found, cX9_found, 2, (some .int), { frames := 2, cells := 0, slots := 0, locals := 46 })
abbrev mX9_bear : KI := (yX9_bear, cX9_bear, 4, (some .int), { frames := 5, cells := 0, slots := 0, locals := 113 })
abbrev mX9_die : KI := (yX9_die, cX9_die, 2, (some .int), { frames := 4, cells := 0, slots := 0, locals := 85 })
abbrev mX9_inherit : KI := (yX9_inherit, cX9_inherit, 2, (some .int), { frames := 4, cells := 0, slots := 0, locals := 89 })
abbrev mX9_keepIfChanged : KI := (yX9_keepIfChanged, cX9_keepIfChanged, 2, (some .int), { frames := 1, cells := 0, slots := 0, locals := 22 })
abbrev mX9_append : KI := (yX9_append, cX9_append, 2, (some .int), { frames := 1, cells := 0, slots := 0, locals := 21 })
abbrev mX9_clear : KI := (yX9_clear, cX9_clear, 2, (some .int), { frames := 1, cells := 0, slots := 0, locals := 20 })
abbrev mX9_fault : KI := (yX9_fault, cX9_fault, 1, (some .int), { frames := 4, cells := 0, slots := 0, locals := 87 })
abbrev mX9_enrol : KI := (yX9_enrol, cX9_enrol, 4, (some .int), { frames := 6, cells := 0, slots := 0, locals := 135 })
abbrev mX9_enrolDeed : KI := (yX9_enrolDeed, cX9_enrolDeed, 3, (some .int), { frames := 5, cells := 0, slots := 0, locals := 113 })
abbrev mX9_why : KI := (yX9_why, cX9_why, 2, (some .int), { frames := 0, cells := 0, slots := 0, locals := 0 })
abbrev mX9_person : KI := (yX9_person, cX9_person, 3, (some .int), { frames := 4, cells := 0, slots := 0, locals := 89 })
abbrev mX9_orNotFound : KI := (yX9_orNotFound, cX9_orNotFound, 1, (some .int), { frames := 0, cells := 0, slots := 0, locals := 0 })
abbrev mX9_mark : KI := (yX9_mark, cX9_mark, 3, (some .int), { frames := 2, cells := 0, slots := 0, locals := 42 })
abbrev mX9_whyNot : KI := (yX9_whyNot, cX9_whyNot, 4, (some .int), { frames := 4, cells := 0, slots := 0, locals := 89 })
abbrev mX9_choices : KI := (yX9_choices, cX9_choices, 3, (some .int), { frames := 5, cells := 0, slots := 0, locals := 113 })
abbrev mX9_best : KI := (yX9_best, cX9_best, 2, (some .int), { frames := 5, cells := 0, slots := 0, locals := 116 })
abbrev mX9_differs : KI := (yX9_differs, cX9_differs, 3, (some .int), { frames := 2, cells := 0, slots := 0, locals := 42 })
abbrev mX9_kin : KI := (yX9_kin, cX9_kin, 3, (some .int), { frames := 3, cells := 0, slots := 0, locals := 65 })
abbrev mX9_bearer : KI := (yX9_bearer, cX9_bearer, 2, (some .int), { frames := 1, cells := 0, slots := 0, locals := 22 })
abbrev mX9_line : KI := (yX9_line, cX9_line, 5, (some .int), { frames := 6, cells := 0, slots := 0, locals := 147 })
abbrev mX9_isWay : KI := (yX9_isWay, cX9_isWay, 1, (some .boolean), { frames := 0, cells := 0, slots := 0, locals := 0 })
abbrev mX9_count : KI := (yX9_count, cX9_count, 2, (some .int), { frames := 4, cells := 0, slots := 0, locals := 87 })
abbrev mX9_borne : KI := (yX9_borne, cX9_borne, 3, (some .int), { frames := 3, cells := 0, slots := 0, locals := 66 })
abbrev mX9_unlike : KI := (yX9_unlike, cX9_unlike, 1, (some .double), { frames := 3, cells := 0, slots := 0, locals := 66 })
abbrev mX9_ifDead : KI := (yX9_ifDead, cX9_ifDead, 3, (some .int), { frames := 5, cells := 0, slots := 0, locals := 114 })
abbrev mX9_undo : KI := (yX9_undo, cX9_undo, 1, (some .int), { frames := 2, cells := 0, slots := 0, locals := 44 })
abbrev mX9_save : KI := (yX9_save, cX9_save, 1, (some .int), { frames := 3, cells := 0, slots := 0, locals := 64 })
abbrev mX9_restore : KI := (yX9_restore, cX9_restore, 1, (some .int), { frames := 3, cells := 0, slots := 0, locals := 64 })
abbrev mL_cell : KI := (yL_cell, cL_cell, 2, (some .int), { frames := 0, cells := 0, slots := 0, locals := 0 })
abbrev mL_seen : KI := (yL_seen, cL_seen, 5, (some .long), { frames := 5, cells := 0, slots := 0, locals := 111 })
abbrev mL_arePersons : KI := (yL_arePersons, cL_arePersons, 11, (some .boolean), { frames := 5, cells := 0, slots := 0, locals := 111 })
abbrev mL_arePairs : KI := (yL_arePairs, cL_arePairs, 9, (some .boolean), { frames := 5, cells := 0, slots := 0, locals := 111 })
abbrev mL_isLine : KI := (yL_isLine, cL_isLine, 7, (some .boolean), { frames := 7, cells := 0, slots := 0, locals := 171 })
abbrev mL_refusesAny : KI := (yL_refusesAny, cL_refusesAny, 8, (some .boolean), { frames := 7, cells := 0, slots := 0, locals := 171 })
abbrev mL_refuses : KI := (yL_refuses, cL_refuses, 5, (some .boolean), { frames := 8, cells := 0, slots := 0, locals := 198 })
abbrev mL_act : KI := (yL_act, cL_act, 15, (some .int), { frames := 6, cells := 0, slots := 0, locals := 136 })
abbrev mL_law : KI := (x, code, 18, ret, room_1)
theorem vX8_isShield : KCS mX8_isShield 1 := ⟨⟨k_t (i := 330) (by decide +kernel) rfl, k_t (i := 8) (by decide +kernel) rfl, (by decide +kernel), rfl, rfl⟩, k_t (i := 329) (by decide +kernel) rfl⟩
theorem vX8_isPlace : KCS mX8_isPlace 1 := ⟨⟨k_t (i := 353) (by decide +kernel) rfl, k_t (i := 8) (by decide +kernel) rfl, (by decide +kernel), rfl, rfl⟩, k_t (i := 352) (by decide +kernel) rfl⟩
theorem vX8_isMark : KCS mX8_isMark 1 := ⟨⟨k_t (i := 356) (by decide +kernel) rfl, k_t (i := 8) (by decide +kernel) rfl, (by decide +kernel), rfl, rfl⟩, k_t (i := 355) (by decide +kernel) rfl⟩
theorem vX8_markAt : KCS mX8_markAt 2 := ⟨⟨k_t (i := 362) (by decide +kernel) rfl, k_t (i := 8) (by decide +kernel) rfl, (by decide +kernel), rfl, rfl⟩, k_t (i := 361) (by decide +kernel) rfl⟩
theorem vX8_weightOf : KCS mX8_weightOf 1 := ⟨⟨k_t (i := 424) (by decide +kernel) rfl, k_t (i := 8) (by decide +kernel) rfl, (by decide +kernel), rfl, rfl⟩, k_t (i := 423) (by decide +kernel) rfl⟩
theorem vX8_withMark : KCS mX8_withMark 3 := ⟨⟨k_t (i := 420) (by decide +kernel) rfl, k_t (i := 8) (by decide +kernel) rfl, (by decide +kernel), rfl, rfl⟩, k_t (i := 419) (by decide +kernel) rfl⟩
theorem vX8_apart : KCS mX8_apart 2 := ⟨⟨k_t (i := 185) (by decide +kernel) rfl, k_t (i := 8) (by decide +kernel) rfl, (by decide +kernel), rfl, rfl⟩, k_t (i := 184) (by decide +kernel) rfl⟩
theorem vX5_length : KCV mX5_length 0 := ⟨⟨k_t (i := 229) (by decide +kernel) rfl, k_t (i := 4) (by decide +kernel) rfl, (by decide +kernel), rfl, rfl⟩, k_t (i := 227) (by decide +kernel) rfl, k_t (i := 228) (by decide +kernel) rfl⟩
theorem vX5_isFull : KCV mX5_isFull 0 := ⟨⟨k_t (i := 564) (by decide +kernel) rfl, k_t (i := 4) (by decide +kernel) rfl, (by decide +kernel), rfl, rfl⟩, k_t (i := 562) (by decide +kernel) rfl, k_t (i := 563) (by decide +kernel) rfl⟩
theorem vX5_put : KCV mX5_put 1 := ⟨⟨k_t (i := 568) (by decide +kernel) rfl, k_t (i := 4) (by decide +kernel) rfl, (by decide +kernel), rfl, rfl⟩, k_t (i := 566) (by decide +kernel) rfl, k_t (i := 567) (by decide +kernel) rfl⟩
theorem vX5_empty : KCV mX5_empty 0 := ⟨⟨k_t (i := 576) (by decide +kernel) rfl, k_t (i := 4) (by decide +kernel) rfl, (by decide +kernel), rfl, rfl⟩, k_t (i := 574) (by decide +kernel) rfl, k_t (i := 575) (by decide +kernel) rfl⟩
theorem vX5_signAt : KCV mX5_signAt 1 := ⟨⟨k_t (i := 588) (by decide +kernel) rfl, k_t (i := 4) (by decide +kernel) rfl, (by decide +kernel), rfl, rfl⟩, k_t (i := 586) (by decide +kernel) rfl, k_t (i := 587) (by decide +kernel) rfl⟩
theorem vX5_startsDeed : KCV mX5_startsDeed 1 := ⟨⟨k_t (i := 610) (by decide +kernel) rfl, k_t (i := 4) (by decide +kernel) rfl, (by decide +kernel), rfl, rfl⟩, k_t (i := 608) (by decide +kernel) rfl, k_t (i := 609) (by decide +kernel) rfl⟩
theorem vX5_digitAt : KCV mX5_digitAt 1 := ⟨⟨k_t (i := 623) (by decide +kernel) rfl, k_t (i := 4) (by decide +kernel) rfl, (by decide +kernel), rfl, rfl⟩, k_t (i := 621) (by decide +kernel) rfl, k_t (i := 622) (by decide +kernel) rfl⟩
theorem vX5_afterNumber : KCV mX5_afterNumber 1 := ⟨⟨k_t (i := 628) (by decide +kernel) rfl, k_t (i := 4) (by decide +kernel) rfl, (by decide +kernel), rfl, rfl⟩, k_t (i := 626) (by decide +kernel) rfl, k_t (i := 627) (by decide +kernel) rfl⟩
theorem vX5_numberAt : KCV mX5_numberAt 1 := ⟨⟨k_t (i := 632) (by decide +kernel) rfl, k_t (i := 4) (by decide +kernel) rfl, (by decide +kernel), rfl, rfl⟩, k_t (i := 630) (by decide +kernel) rfl, k_t (i := 631) (by decide +kernel) rfl⟩
theorem vX5_shieldAt : KCV mX5_shieldAt 1 := ⟨⟨k_t (i := 619) (by decide +kernel) rfl, k_t (i := 4) (by decide +kernel) rfl, (by decide +kernel), rfl, rfl⟩, k_t (i := 617) (by decide +kernel) rfl, k_t (i := 618) (by decide +kernel) rfl⟩
theorem vX5_firstFault : KCV mX5_firstFault 0 := ⟨⟨k_t (i := 584) (by decide +kernel) rfl, k_t (i := 4) (by decide +kernel) rfl, (by decide +kernel), rfl, rfl⟩, k_t (i := 582) (by decide +kernel) rfl, k_t (i := 583) (by decide +kernel) rfl⟩
theorem vX5_stateAfter : KCS mX5_stateAfter 2 := ⟨⟨k_t (i := 591) (by decide +kernel) rfl, k_t (i := 4) (by decide +kernel) rfl, (by decide +kernel), rfl, rfl⟩, k_t (i := 590) (by decide +kernel) rfl⟩
theorem vX5_stateAfterLetter : KCS mX5_stateAfterLetter 1 := ⟨⟨k_t (i := 597) (by decide +kernel) rfl, k_t (i := 4) (by decide +kernel) rfl, (by decide +kernel), rfl, rfl⟩, k_t (i := 596) (by decide +kernel) rfl⟩
theorem vX5_stateAfterFather : KCS mX5_stateAfterFather 1 := ⟨⟨k_t (i := 606) (by decide +kernel) rfl, k_t (i := 4) (by decide +kernel) rfl, (by decide +kernel), rfl, rfl⟩, k_t (i := 605) (by decide +kernel) rfl⟩
theorem vX5_stateAfterDeed : KCS mX5_stateAfterDeed 1 := ⟨⟨k_t (i := 594) (by decide +kernel) rfl, k_t (i := 4) (by decide +kernel) rfl, (by decide +kernel), rfl, rfl⟩, k_t (i := 593) (by decide +kernel) rfl⟩
theorem vX5_stateAfterDigit : KCS mX5_stateAfterDigit 3 := ⟨⟨k_t (i := 600) (by decide +kernel) rfl, k_t (i := 4) (by decide +kernel) rfl, (by decide +kernel), rfl, rfl⟩, k_t (i := 599) (by decide +kernel) rfl⟩
theorem vX5_isBetween : KCS mX5_isBetween 3 := ⟨⟨k_t (i := 603) (by decide +kernel) rfl, k_t (i := 4) (by decide +kernel) rfl, (by decide +kernel), rfl, rfl⟩, k_t (i := 602) (by decide +kernel) rfl⟩
theorem vX6_copyFrom : KCV mX6_copyFrom 1 := ⟨⟨k_t (i := 249) (by decide +kernel) rfl, k_t (i := 2) (by decide +kernel) rfl, (by decide +kernel), rfl, rfl⟩, k_t (i := 247) (by decide +kernel) rfl, k_t (i := 248) (by decide +kernel) rfl⟩
theorem vX6_size : KCV mX6_size 0 := ⟨⟨k_t (i := 151) (by decide +kernel) rfl, k_t (i := 2) (by decide +kernel) rfl, (by decide +kernel), rfl, rfl⟩, k_t (i := 149) (by decide +kernel) rfl, k_t (i := 150) (by decide +kernel) rfl⟩
theorem vX6_heirs : KCV mX6_heirs 0 := ⟨⟨k_t (i := 221) (by decide +kernel) rfl, k_t (i := 2) (by decide +kernel) rfl, (by decide +kernel), rfl, rfl⟩, k_t (i := 219) (by decide +kernel) rfl, k_t (i := 220) (by decide +kernel) rfl⟩
theorem vX6_refusals : KCV mX6_refusals 0 := ⟨⟨k_t (i := 225) (by decide +kernel) rfl, k_t (i := 2) (by decide +kernel) rfl, (by decide +kernel), rfl, rfl⟩, k_t (i := 223) (by decide +kernel) rfl, k_t (i := 224) (by decide +kernel) rfl⟩
theorem vX6_has : KCV mX6_has 1 := ⟨⟨k_t (i := 163) (by decide +kernel) rfl, k_t (i := 2) (by decide +kernel) rfl, (by decide +kernel), rfl, rfl⟩, k_t (i := 161) (by decide +kernel) rfl, k_t (i := 162) (by decide +kernel) rfl⟩
theorem vX6_shieldOf : KCV mX6_shieldOf 1 := ⟨⟨k_t (i := 182) (by decide +kernel) rfl, k_t (i := 2) (by decide +kernel) rfl, (by decide +kernel), rfl, rfl⟩, k_t (i := 180) (by decide +kernel) rfl, k_t (i := 181) (by decide +kernel) rfl⟩
theorem vX6_isAlive : KCV mX6_isAlive 1 := ⟨⟨k_t (i := 159) (by decide +kernel) rfl, k_t (i := 2) (by decide +kernel) rfl, (by decide +kernel), rfl, rfl⟩, k_t (i := 157) (by decide +kernel) rfl, k_t (i := 158) (by decide +kernel) rfl⟩
theorem vX6_fatherOf : KCV mX6_fatherOf 1 := ⟨⟨k_t (i := 171) (by decide +kernel) rfl, k_t (i := 2) (by decide +kernel) rfl, (by decide +kernel), rfl, rfl⟩, k_t (i := 169) (by decide +kernel) rfl, k_t (i := 170) (by decide +kernel) rfl⟩
theorem vX6_birthPlaceOf : KCV mX6_birthPlaceOf 1 := ⟨⟨k_t (i := 292) (by decide +kernel) rfl, k_t (i := 2) (by decide +kernel) rfl, (by decide +kernel), rfl, rfl⟩, k_t (i := 290) (by decide +kernel) rfl, k_t (i := 291) (by decide +kernel) rfl⟩
theorem vX6_birthMarkOf : KCV mX6_birthMarkOf 1 := ⟨⟨k_t (i := 296) (by decide +kernel) rfl, k_t (i := 2) (by decide +kernel) rfl, (by decide +kernel), rfl, rfl⟩, k_t (i := 294) (by decide +kernel) rfl, k_t (i := 295) (by decide +kernel) rfl⟩
theorem vX6_living : KCV mX6_living 0 := ⟨⟨k_t (i := 155) (by decide +kernel) rfl, k_t (i := 2) (by decide +kernel) rfl, (by decide +kernel), rfl, rfl⟩, k_t (i := 153) (by decide +kernel) rfl, k_t (i := 154) (by decide +kernel) rfl⟩
theorem vX6_livingWith : KCV mX6_livingWith 1 := ⟨⟨k_t (i := 334) (by decide +kernel) rfl, k_t (i := 2) (by decide +kernel) rfl, (by decide +kernel), rfl, rfl⟩, k_t (i := 332) (by decide +kernel) rfl, k_t (i := 333) (by decide +kernel) rfl⟩
theorem vX6_sonsOf : KCV mX6_sonsOf 1 := ⟨⟨k_t (i := 216) (by decide +kernel) rfl, k_t (i := 2) (by decide +kernel) rfl, (by decide +kernel), rfl, rfl⟩, k_t (i := 214) (by decide +kernel) rfl, k_t (i := 215) (by decide +kernel) rfl⟩
theorem vX6_areBrothers : KCV mX6_areBrothers 2 := ⟨⟨k_t (i := 309) (by decide +kernel) rfl, k_t (i := 2) (by decide +kernel) rfl, (by decide +kernel), rfl, rfl⟩, k_t (i := 307) (by decide +kernel) rfl, k_t (i := 308) (by decide +kernel) rfl⟩
theorem vX6_founderComes : KCV mX6_founderComes 1 := ⟨⟨k_t (i := 444) (by decide +kernel) rfl, k_t (i := 2) (by decide +kernel) rfl, (by decide +kernel), rfl, rfl⟩, k_t (i := 442) (by decide +kernel) rfl, k_t (i := 443) (by decide +kernel) rfl⟩
theorem vX6_sonComes : KCV mX6_sonComes 3 := ⟨⟨k_t (i := 466) (by decide +kernel) rfl, k_t (i := 2) (by decide +kernel) rfl, (by decide +kernel), rfl, rfl⟩, k_t (i := 464) (by decide +kernel) rfl, k_t (i := 465) (by decide +kernel) rfl⟩
theorem vX6_goes : KCV mX6_goes 1 := ⟨⟨k_t (i := 490) (by decide +kernel) rfl, k_t (i := 2) (by decide +kernel) rfl, (by decide +kernel), rfl, rfl⟩, k_t (i := 488) (by decide +kernel) rfl, k_t (i := 489) (by decide +kernel) rfl⟩
theorem vX6_becomesHeir : KCV mX6_becomesHeir 1 := ⟨⟨k_t (i := 499) (by decide +kernel) rfl, k_t (i := 2) (by decide +kernel) rfl, (by decide +kernel), rfl, rfl⟩, k_t (i := 497) (by decide +kernel) rfl, k_t (i := 498) (by decide +kernel) rfl⟩
theorem vX6_refuse : KCV mX6_refuse 1 := ⟨⟨k_t (i := 450) (by decide +kernel) rfl, k_t (i := 2) (by decide +kernel) rfl, (by decide +kernel), rfl, rfl⟩, k_t (i := 449) (by decide +kernel) rfl, k_s (i := 4) (by decide +kernel) rfl⟩
theorem vX6_add : KCV mX6_add 4 := ⟨⟨k_t (i := 454) (by decide +kernel) rfl, k_t (i := 2) (by decide +kernel) rfl, (by decide +kernel), rfl, rfl⟩, k_t (i := 453) (by decide +kernel) rfl, k_s (i := 5) (by decide +kernel) rfl⟩
theorem vX6_reasonAgainstSon : KCV mX6_reasonAgainstSon 3 := ⟨⟨k_t (i := 472) (by decide +kernel) rfl, k_t (i := 2) (by decide +kernel) rfl, (by decide +kernel), rfl, rfl⟩, k_t (i := 470) (by decide +kernel) rfl, k_t (i := 471) (by decide +kernel) rfl⟩
theorem vX6_cousinChanged : KCV mX6_cousinChanged 2 := ⟨⟨k_t (i := 479) (by decide +kernel) rfl, k_t (i := 2) (by decide +kernel) rfl, (by decide +kernel), rfl, rfl⟩, k_t (i := 477) (by decide +kernel) rfl, k_t (i := 478) (by decide +kernel) rfl⟩
theorem vX6_reasonAgainstHeir : KCV mX6_reasonAgainstHeir 1 := ⟨⟨k_t (i := 503) (by decide +kernel) rfl, k_t (i := 2) (by decide +kernel) rfl, (by decide +kernel), rfl, rfl⟩, k_t (i := 501) (by decide +kernel) rfl, k_t (i := 502) (by decide +kernel) rfl⟩
theorem vX7_has : KCV mX7_has 1 := ⟨⟨k_t (i := 413) (by decide +kernel) rfl, k_t (i := 6) (by decide +kernel) rfl, (by decide +kernel), rfl, rfl⟩, k_t (i := 411) (by decide +kernel) rfl, k_t (i := 412) (by decide +kernel) rfl⟩
theorem vX7_add : KCV mX7_add 1 := ⟨⟨k_t (i := 400) (by decide +kernel) rfl, k_t (i := 6) (by decide +kernel) rfl, (by decide +kernel), rfl, rfl⟩, k_t (i := 398) (by decide +kernel) rfl, k_t (i := 399) (by decide +kernel) rfl⟩
theorem vX7_empty : KCV mX7_empty 0 := ⟨⟨k_t (i := 396) (by decide +kernel) rfl, k_t (i := 6) (by decide +kernel) rfl, (by decide +kernel), rfl, rfl⟩, k_t (i := 394) (by decide +kernel) rfl, k_t (i := 395) (by decide +kernel) rfl⟩
theorem vX7_isWordEmpty : KCV mX7_isWordEmpty 1 := ⟨⟨k_t (i := 409) (by decide +kernel) rfl, k_t (i := 6) (by decide +kernel) rfl, (by decide +kernel), rfl, rfl⟩, k_t (i := 407) (by decide +kernel) rfl, k_t (i := 408) (by decide +kernel) rfl⟩
theorem vX1_leftByTrying : KCS mX1_leftByTrying 2 := ⟨⟨k_t (i := 516) (by decide +kernel) rfl, k_t (i := 11) (by decide +kernel) rfl, (by decide +kernel), rfl, rfl⟩, k_t (i := 515) (by decide +kernel) rfl⟩
theorem vX1_leftByPlaces : KCS mX1_leftByPlaces 2 := ⟨⟨k_t (i := 520) (by decide +kernel) rfl, k_t (i := 11) (by decide +kernel) rfl, (by decide +kernel), rfl, rfl⟩, k_t (i := 519) (by decide +kernel) rfl⟩
theorem vX1_livingApartAt : KCS mX1_livingApartAt 3 := ⟨⟨k_t (i := 526) (by decide +kernel) rfl, k_t (i := 11) (by decide +kernel) rfl, (by decide +kernel), rfl, rfl⟩, k_t (i := 525) (by decide +kernel) rfl⟩
theorem vX1_leftToAll : KCS mX1_leftToAll 1 := ⟨⟨k_t (i := 541) (by decide +kernel) rfl, k_t (i := 11) (by decide +kernel) rfl, (by decide +kernel), rfl, rfl⟩, k_t (i := 540) (by decide +kernel) rfl⟩
theorem vX1_farthest : KCS mX1_farthest 2 := ⟨⟨k_t (i := 549) (by decide +kernel) rfl, k_t (i := 11) (by decide +kernel) rfl, (by decide +kernel), rfl, rfl⟩, k_t (i := 548) (by decide +kernel) rfl⟩
theorem vX1_leastApart : KCS mX1_leastApart 3 := ⟨⟨k_t (i := 553) (by decide +kernel) rfl, k_t (i := 11) (by decide +kernel) rfl, (by decide +kernel), rfl, rfl⟩, k_t (i := 552) (by decide +kernel) rfl⟩
theorem vX2_size : KCV mX2_size 0 := ⟨⟨k_t (i := 233) (by decide +kernel) rfl, k_t (i := 3) (by decide +kernel) rfl, (by decide +kernel), rfl, rfl⟩, k_t (i := 231) (by decide +kernel) rfl, k_t (i := 232) (by decide +kernel) rfl⟩
theorem vX2_stateAt : KCV mX2_stateAt 1 := ⟨⟨k_t (i := 245) (by decide +kernel) rfl, k_t (i := 3) (by decide +kernel) rfl, (by decide +kernel), rfl, rfl⟩, k_t (i := 244) (by decide +kernel) rfl, k_s (i := 0) (by decide +kernel) rfl⟩
theorem vX2_note : KCV mX2_note 1 := ⟨⟨k_t (i := 262) (by decide +kernel) rfl, k_t (i := 3) (by decide +kernel) rfl, (by decide +kernel), rfl, rfl⟩, k_t (i := 260) (by decide +kernel) rfl, k_t (i := 261) (by decide +kernel) rfl⟩
theorem vX2_keepNoted : KCV mX2_keepNoted 0 := ⟨⟨k_t (i := 266) (by decide +kernel) rfl, k_t (i := 3) (by decide +kernel) rfl, (by decide +kernel), rfl, rfl⟩, k_t (i := 264) (by decide +kernel) rfl, k_t (i := 265) (by decide +kernel) rfl⟩
theorem vX2_takeBack : KCV mX2_takeBack 1 := ⟨⟨k_t (i := 241) (by decide +kernel) rfl, k_t (i := 3) (by decide +kernel) rfl, (by decide +kernel), rfl, rfl⟩, k_t (i := 239) (by decide +kernel) rfl, k_t (i := 240) (by decide +kernel) rfl⟩
theorem vX3_livingSons : KCS mX3_livingSons 2 := ⟨⟨k_t (i := 300) (by decide +kernel) rfl, k_t (i := 9) (by decide +kernel) rfl, (by decide +kernel), rfl, rfl⟩, k_t (i := 299) (by decide +kernel) rfl⟩
theorem vX3_livingBrothers : KCS mX3_livingBrothers 2 := ⟨⟨k_t (i := 305) (by decide +kernel) rfl, k_t (i := 9) (by decide +kernel) rfl, (by decide +kernel), rfl, rfl⟩, k_t (i := 304) (by decide +kernel) rfl⟩
theorem vX3_livingCousins : KCS mX3_livingCousins 2 := ⟨⟨k_t (i := 312) (by decide +kernel) rfl, k_t (i := 9) (by decide +kernel) rfl, (by decide +kernel), rfl, rfl⟩, k_t (i := 311) (by decide +kernel) rfl⟩
theorem vX3_descendants : KCS mX3_descendants 2 := ⟨⟨k_t (i := 315) (by decide +kernel) rfl, k_t (i := 9) (by decide +kernel) rfl, (by decide +kernel), rfl, rfl⟩, k_t (i := 314) (by decide +kernel) rfl⟩
theorem vX3_comesFrom : KCS mX3_comesFrom 3 := ⟨⟨k_t (i := 318) (by decide +kernel) rfl, k_t (i := 9) (by decide +kernel) rfl, (by decide +kernel), rfl, rfl⟩, k_t (i := 317) (by decide +kernel) rfl⟩
theorem vX3_stepsFromFounder : KCS mX3_stepsFromFounder 2 := ⟨⟨k_t (i := 191) (by decide +kernel) rfl, k_t (i := 9) (by decide +kernel) rfl, (by decide +kernel), rfl, rfl⟩, k_t (i := 190) (by decide +kernel) rfl⟩
theorem vX3_placesFromFather : KCS mX3_placesFromFather 2 := ⟨⟨k_t (i := 207) (by decide +kernel) rfl, k_t (i := 9) (by decide +kernel) rfl, (by decide +kernel), rfl, rfl⟩, k_t (i := 206) (by decide +kernel) rfl⟩
theorem vX3_nearness : KCS mX3_nearness 3 := ⟨⟨k_t (i := 341) (by decide +kernel) rfl, k_t (i := 9) (by decide +kernel) rfl, (by decide +kernel), rfl, rfl⟩, k_t (i := 340) (by decide +kernel) rfl⟩
theorem vX3_heirOf : KCS mX3_heirOf 2 := ⟨⟨k_t (i := 537) (by decide +kernel) rfl, k_t (i := 9) (by decide +kernel) rfl, (by decide +kernel), rfl, rfl⟩, k_t (i := 536) (by decide +kernel) rfl⟩
theorem vX4_fewest : KCV mX4_fewest 3 := ⟨⟨k_t (i := 387) (by decide +kernel) rfl, k_t (i := 5) (by decide +kernel) rfl, (by decide +kernel), rfl, rfl⟩, k_t (i := 385) (by decide +kernel) rfl, k_t (i := 386) (by decide +kernel) rfl⟩
theorem vX4_reaches : KCV mX4_reaches 4 := ⟨⟨k_t (i := 392) (by decide +kernel) rfl, k_t (i := 5) (by decide +kernel) rfl, (by decide +kernel), rfl, rfl⟩, k_t (i := 391) (by decide +kernel) rfl, k_s (i := 1) (by decide +kernel) rfl⟩
theorem vX4_goOn : KCV mX4_goOn 3 := ⟨⟨k_t (i := 405) (by decide +kernel) rfl, k_t (i := 5) (by decide +kernel) rfl, (by decide +kernel), rfl, rfl⟩, k_t (i := 404) (by decide +kernel) rfl, k_s (i := 2) (by decide +kernel) rfl⟩
theorem vX4_goOnFrom : KCV mX4_goOnFrom 4 := ⟨⟨k_t (i := 417) (by decide +kernel) rfl, k_t (i := 5) (by decide +kernel) rfl, (by decide +kernel), rfl, rfl⟩, k_t (i := 416) (by decide +kernel) rfl, k_s (i := 3) (by decide +kernel) rfl⟩
theorem vX0_founders : KCS mX0_founders 1 := ⟨⟨k_t (i := 166) (by decide +kernel) rfl, k_t (i := 7) (by decide +kernel) rfl, (by decide +kernel), rfl, rfl⟩, k_t (i := 165) (by decide +kernel) rfl⟩
theorem vX0_confusedPairs : KCS mX0_confusedPairs 1 := ⟨⟨k_t (i := 174) (by decide +kernel) rfl, k_t (i := 7) (by decide +kernel) rfl, (by decide +kernel), rfl, rfl⟩, k_t (i := 173) (by decide +kernel) rfl⟩
theorem vX0_areConfused : KCS mX0_areConfused 3 := ⟨⟨k_t (i := 177) (by decide +kernel) rfl, k_t (i := 7) (by decide +kernel) rfl, (by decide +kernel), rfl, rfl⟩, k_t (i := 176) (by decide +kernel) rfl⟩
theorem vX0_mostStepsFromFounder : KCS mX0_mostStepsFromFounder 1 := ⟨⟨k_t (i := 188) (by decide +kernel) rfl, k_t (i := 7) (by decide +kernel) rfl, (by decide +kernel), rfl, rfl⟩, k_t (i := 187) (by decide +kernel) rfl⟩
theorem vX0_differentShields : KCS mX0_differentShields 1 := ⟨⟨k_t (i := 198) (by decide +kernel) rfl, k_t (i := 7) (by decide +kernel) rfl, (by decide +kernel), rfl, rfl⟩, k_t (i := 197) (by decide +kernel) rfl⟩
theorem vX0_isFirstWithItsShield : KCS mX0_isFirstWithItsShield 2 := ⟨⟨k_t (i := 201) (by decide +kernel) rfl, k_t (i := 7) (by decide +kernel) rfl, (by decide +kernel), rfl, rfl⟩, k_t (i := 200) (by decide +kernel) rfl⟩
theorem vX0_farFromFather : KCS mX0_farFromFather 1 := ⟨⟨k_t (i := 204) (by decide +kernel) rfl, k_t (i := 7) (by decide +kernel) rfl, (by decide +kernel), rfl, rfl⟩, k_t (i := 203) (by decide +kernel) rfl⟩
theorem vX0_livingSonless : KCS mX0_livingSonless 1 := ⟨⟨k_t (i := 212) (by decide +kernel) rfl, k_t (i := 7) (by decide +kernel) rfl, (by decide +kernel), rfl, rfl⟩, k_t (i := 211) (by decide +kernel) rfl⟩
theorem vX0_livingWithMark : KCS mX0_livingWithMark 3 := ⟨⟨k_t (i := 359) (by decide +kernel) rfl, k_t (i := 7) (by decide +kernel) rfl, (by decide +kernel), rfl, rfl⟩, k_t (i := 358) (by decide +kernel) rfl⟩
theorem vX0_meanApart : KCS mX0_meanApart 1 := ⟨⟨k_t (i := 369) (by decide +kernel) rfl, k_t (i := 7) (by decide +kernel) rfl, (by decide +kernel), rfl, rfl⟩, k_t (i := 368) (by decide +kernel) rfl⟩
theorem vX9_found : KCV mX9_found 1 := ⟨⟨k_t (i := 440) (by decide +kernel) rfl, k_t (i := 1) (by decide +kernel) rfl, (by decide +kernel), rfl, rfl⟩, k_t (i := 438) (by decide +kernel) rfl, k_t (i := 439) (by decide +kernel) rfl⟩
theorem vX9_bear : KCV mX9_bear 3 := ⟨⟨k_t (i := 462) (by decide +kernel) rfl, k_t (i := 1) (by decide +kernel) rfl, (by decide +kernel), rfl, rfl⟩, k_t (i := 460) (by decide +kernel) rfl, k_t (i := 461) (by decide +kernel) rfl⟩
theorem vX9_die : KCV mX9_die 1 := ⟨⟨k_t (i := 486) (by decide +kernel) rfl, k_t (i := 1) (by decide +kernel) rfl, (by decide +kernel), rfl, rfl⟩, k_t (i := 484) (by decide +kernel) rfl, k_t (i := 485) (by decide +kernel) rfl⟩
theorem vX9_inherit : KCV mX9_inherit 1 := ⟨⟨k_t (i := 495) (by decide +kernel) rfl, k_t (i := 1) (by decide +kernel) rfl, (by decide +kernel), rfl, rfl⟩, k_t (i := 493) (by decide +kernel) rfl, k_t (i := 494) (by decide +kernel) rfl⟩
theorem vX9_keepIfChanged : KCV mX9_keepIfChanged 1 := ⟨⟨k_t (i := 458) (by decide +kernel) rfl, k_t (i := 1) (by decide +kernel) rfl, (by decide +kernel), rfl, rfl⟩, k_t (i := 457) (by decide +kernel) rfl, k_s (i := 6) (by decide +kernel) rfl⟩
theorem vX9_append : KCV mX9_append 1 := ⟨⟨k_t (i := 560) (by decide +kernel) rfl, k_t (i := 1) (by decide +kernel) rfl, (by decide +kernel), rfl, rfl⟩, k_t (i := 558) (by decide +kernel) rfl, k_t (i := 559) (by decide +kernel) rfl⟩
theorem vX9_clear : KCV mX9_clear 0 := ⟨⟨k_t (i := 572) (by decide +kernel) rfl, k_t (i := 1) (by decide +kernel) rfl, (by decide +kernel), rfl, rfl⟩, k_t (i := 570) (by decide +kernel) rfl, k_t (i := 571) (by decide +kernel) rfl⟩
theorem vX9_fault : KCV mX9_fault 0 := ⟨⟨k_t (i := 637) (by decide +kernel) rfl, k_t (i := 1) (by decide +kernel) rfl, (by decide +kernel), rfl, rfl⟩, k_t (i := 635) (by decide +kernel) rfl, k_t (i := 636) (by decide +kernel) rfl⟩
theorem vX9_enrol : KCV mX9_enrol 0 := ⟨⟨k_t (i := 580) (by decide +kernel) rfl, k_t (i := 1) (by decide +kernel) rfl, (by decide +kernel), rfl, rfl⟩, k_t (i := 578) (by decide +kernel) rfl, k_t (i := 579) (by decide +kernel) rfl⟩
theorem vX9_enrolDeed : KCV mX9_enrolDeed 1 := ⟨⟨k_t (i := 614) (by decide +kernel) rfl, k_t (i := 1) (by decide +kernel) rfl, (by decide +kernel), rfl, rfl⟩, k_t (i := 613) (by decide +kernel) rfl, k_s (i := 7) (by decide +kernel) rfl⟩
theorem vX9_why : KCV mX9_why 1 := ⟨⟨k_t (i := 143) (by decide +kernel) rfl, k_t (i := 1) (by decide +kernel) rfl, (by decide +kernel), rfl, rfl⟩, k_t (i := 141) (by decide +kernel) rfl, k_t (i := 142) (by decide +kernel) rfl⟩
theorem vX9_person : KCV mX9_person 2 := ⟨⟨k_t (i := 281) (by decide +kernel) rfl, k_t (i := 1) (by decide +kernel) rfl, (by decide +kernel), rfl, rfl⟩, k_t (i := 279) (by decide +kernel) rfl, k_t (i := 280) (by decide +kernel) rfl⟩
theorem vX9_orNotFound : KCS mX9_orNotFound 1 := ⟨⟨k_t (i := 288) (by decide +kernel) rfl, k_t (i := 1) (by decide +kernel) rfl, (by decide +kernel), rfl, rfl⟩, k_t (i := 287) (by decide +kernel) rfl⟩
theorem vX9_mark : KCV mX9_mark 2 := ⟨⟨k_t (i := 429) (by decide +kernel) rfl, k_t (i := 1) (by decide +kernel) rfl, (by decide +kernel), rfl, rfl⟩, k_t (i := 427) (by decide +kernel) rfl, k_t (i := 428) (by decide +kernel) rfl⟩
theorem vX9_whyNot : KCV mX9_whyNot 3 := ⟨⟨k_t (i := 508) (by decide +kernel) rfl, k_t (i := 1) (by decide +kernel) rfl, (by decide +kernel), rfl, rfl⟩, k_t (i := 506) (by decide +kernel) rfl, k_t (i := 507) (by decide +kernel) rfl⟩
theorem vX9_choices : KCV mX9_choices 2 := ⟨⟨k_t (i := 513) (by decide +kernel) rfl, k_t (i := 1) (by decide +kernel) rfl, (by decide +kernel), rfl, rfl⟩, k_t (i := 511) (by decide +kernel) rfl, k_t (i := 512) (by decide +kernel) rfl⟩
theorem vX9_best : KCV mX9_best 1 := ⟨⟨k_t (i := 546) (by decide +kernel) rfl, k_t (i := 1) (by decide +kernel) rfl, (by decide +kernel), rfl, rfl⟩, k_t (i := 544) (by decide +kernel) rfl, k_t (i := 545) (by decide +kernel) rfl⟩
theorem vX9_differs : KCV mX9_differs 2 := ⟨⟨k_t (i := 345) (by decide +kernel) rfl, k_t (i := 1) (by decide +kernel) rfl, (by decide +kernel), rfl, rfl⟩, k_t (i := 343) (by decide +kernel) rfl, k_t (i := 344) (by decide +kernel) rfl⟩
theorem vX9_kin : KCV mX9_kin 2 := ⟨⟨k_t (i := 338) (by decide +kernel) rfl, k_t (i := 1) (by decide +kernel) rfl, (by decide +kernel), rfl, rfl⟩, k_t (i := 336) (by decide +kernel) rfl, k_t (i := 337) (by decide +kernel) rfl⟩
theorem vX9_bearer : KCV mX9_bearer 1 := ⟨⟨k_t (i := 327) (by decide +kernel) rfl, k_t (i := 1) (by decide +kernel) rfl, (by decide +kernel), rfl, rfl⟩, k_t (i := 325) (by decide +kernel) rfl, k_t (i := 326) (by decide +kernel) rfl⟩
theorem vX9_line : KCV mX9_line 3 := ⟨⟨k_t (i := 380) (by decide +kernel) rfl, k_t (i := 1) (by decide +kernel) rfl, (by decide +kernel), rfl, rfl⟩, k_t (i := 378) (by decide +kernel) rfl, k_t (i := 379) (by decide +kernel) rfl⟩
theorem vX9_isWay : KCS mX9_isWay 1 := ⟨⟨k_t (i := 383) (by decide +kernel) rfl, k_t (i := 1) (by decide +kernel) rfl, (by decide +kernel), rfl, rfl⟩, k_t (i := 382) (by decide +kernel) rfl⟩
theorem vX9_count : KCV mX9_count 1 := ⟨⟨k_t (i := 147) (by decide +kernel) rfl, k_t (i := 1) (by decide +kernel) rfl, (by decide +kernel), rfl, rfl⟩, k_t (i := 145) (by decide +kernel) rfl, k_t (i := 146) (by decide +kernel) rfl⟩
theorem vX9_borne : KCV mX9_borne 2 := ⟨⟨k_t (i := 350) (by decide +kernel) rfl, k_t (i := 1) (by decide +kernel) rfl, (by decide +kernel), rfl, rfl⟩, k_t (i := 348) (by decide +kernel) rfl, k_t (i := 349) (by decide +kernel) rfl⟩
theorem vX9_unlike : KCV mX9_unlike 0 := ⟨⟨k_t (i := 366) (by decide +kernel) rfl, k_t (i := 1) (by decide +kernel) rfl, (by decide +kernel), rfl, rfl⟩, k_t (i := 364) (by decide +kernel) rfl, k_t (i := 365) (by decide +kernel) rfl⟩
theorem vX9_ifDead : KCV mX9_ifDead 2 := ⟨⟨k_t (i := 534) (by decide +kernel) rfl, k_t (i := 1) (by decide +kernel) rfl, (by decide +kernel), rfl, rfl⟩, k_t (i := 532) (by decide +kernel) rfl, k_t (i := 533) (by decide +kernel) rfl⟩
theorem vX9_undo : KCV mX9_undo 0 := ⟨⟨k_t (i := 237) (by decide +kernel) rfl, k_t (i := 1) (by decide +kernel) rfl, (by decide +kernel), rfl, rfl⟩, k_t (i := 235) (by decide +kernel) rfl, k_t (i := 236) (by decide +kernel) rfl⟩
theorem vX9_save : KCV mX9_save 0 := ⟨⟨k_t (i := 253) (by decide +kernel) rfl, k_t (i := 1) (by decide +kernel) rfl, (by decide +kernel), rfl, rfl⟩, k_t (i := 251) (by decide +kernel) rfl, k_t (i := 252) (by decide +kernel) rfl⟩
theorem vX9_restore : KCV mX9_restore 0 := ⟨⟨k_t (i := 258) (by decide +kernel) rfl, k_t (i := 1) (by decide +kernel) rfl, (by decide +kernel), rfl, rfl⟩, k_t (i := 256) (by decide +kernel) rfl, k_t (i := 257) (by decide +kernel) rfl⟩
theorem vL_cell : KCS mL_cell 2 := ⟨⟨k_t (i := 269) (by decide +kernel) rfl, k_t (i := 0) (by decide +kernel) rfl, (by decide +kernel), rfl, rfl⟩, k_t (i := 268) (by decide +kernel) rfl⟩
theorem vL_seen : KCS mL_seen 1 := ⟨⟨k_t (i := 275) (by decide +kernel) rfl, k_t (i := 0) (by decide +kernel) rfl, (by decide +kernel), rfl, rfl⟩, k_t (i := 274) (by decide +kernel) rfl⟩
set_option maxRecDepth 100000 in
theorem vL_arePersons : KCS mL_arePersons 1 := ⟨⟨k_t (i := 323) (by rfl) rfl, k_t (i := 0) (by decide +kernel) rfl, (by decide +kernel), rfl, rfl⟩, k_t (i := 322) (by decide +kernel) rfl⟩
theorem vL_arePairs : KCS mL_arePairs 4 := ⟨⟨k_t (i := 373) (by decide +kernel) rfl, k_t (i := 0) (by decide +kernel) rfl, (by decide +kernel), rfl, rfl⟩, k_t (i := 372) (by decide +kernel) rfl⟩
theorem vL_isLine : KCS mL_isLine 3 := ⟨⟨k_t (i := 376) (by decide +kernel) rfl, k_t (i := 0) (by decide +kernel) rfl, (by decide +kernel), rfl, rfl⟩, k_t (i := 375) (by decide +kernel) rfl⟩
set_option maxRecDepth 100000 in
theorem vL_refusesAny : KCS mL_refusesAny 2 := ⟨⟨k_t (i := 436) (by rfl) rfl, k_t (i := 0) (by decide +kernel) rfl, (by decide +kernel), rfl, rfl⟩, k_t (i := 435) (by decide +kernel) rfl⟩
theorem vL_refuses : KCS mL_refuses 2 := ⟨⟨k_t (i := 433) (by decide +kernel) rfl, k_t (i := 0) (by decide +kernel) rfl, (by decide +kernel), rfl, rfl⟩, k_t (i := 432) (by decide +kernel) rfl⟩
set_option maxRecDepth 100000 in
theorem vL_act : KCS mL_act 2 := ⟨⟨k_t (i := 640) (by rfl) rfl, k_t (i := 0) (by decide +kernel) rfl, (by decide +kernel), rfl, rfl⟩, k_t (i := 639) (by decide +kernel) rfl⟩
theorem lRL_75 : Cond.methodLink RL 75 yX9_why ∈ k_tb := k_t (i := 140) (by decide +kernel) rfl
theorem lRL_14 : Cond.methodLink RL 14 yX9_count ∈ k_tb := k_t (i := 144) (by decide +kernel) rfl
theorem lRX9_211 : Cond.methodLink RX9 211 yX6_size ∈ k_tb := k_t (i := 148) (by decide +kernel) rfl
theorem lRX9_214 : Cond.methodLink RX9 214 yX6_living ∈ k_tb := k_t (i := 152) (by decide +kernel) rfl
theorem lRX6_42 : Cond.methodLink RX6 42 yX6_isAlive ∈ k_tb := k_t (i := 156) (by decide +kernel) rfl
theorem lRX6_38 : Cond.methodLink RX6 38 yX6_has ∈ k_tb := k_t (i := 160) (by decide +kernel) rfl
theorem lRX9_217 : Cond.methodLink RX9 217 yX0_founders ∈ k_tb := k_t (i := 164) (by decide +kernel) rfl
theorem lRX0_9 : Cond.methodLink RX0 9 yX6_size ∈ k_tb := k_t (i := 167) (by decide +kernel) rfl
theorem lRX0_15 : Cond.methodLink RX0 15 yX6_fatherOf ∈ k_tb := k_t (i := 168) (by decide +kernel) rfl
theorem lRX9_223 : Cond.methodLink RX9 223 yX0_confusedPairs ∈ k_tb := k_t (i := 172) (by decide +kernel) rfl
theorem lRX0_19 : Cond.methodLink RX0 19 yX0_areConfused ∈ k_tb := k_t (i := 175) (by decide +kernel) rfl
theorem lRX0_25 : Cond.methodLink RX0 25 yX6_isAlive ∈ k_tb := k_t (i := 178) (by decide +kernel) rfl
theorem lRX0_29 : Cond.methodLink RX0 29 yX6_shieldOf ∈ k_tb := k_t (i := 179) (by decide +kernel) rfl
theorem lRX0_32 : Cond.methodLink RX0 32 yX8_apart ∈ k_tb := k_t (i := 183) (by decide +kernel) rfl
theorem lRX9_226 : Cond.methodLink RX9 226 yX0_mostStepsFromFounder ∈ k_tb := k_t (i := 186) (by decide +kernel) rfl
theorem lRX0_38 : Cond.methodLink RX0 38 yX3_stepsFromFounder ∈ k_tb := k_t (i := 189) (by decide +kernel) rfl
theorem lRX3_19 : Cond.methodLink RX3 19 yX6_fatherOf ∈ k_tb := k_t (i := 192) (by decide +kernel) rfl
theorem lRX0_44 : Cond.methodLink RX0 44 Lib.Math.max.name ∈ k_tb := k_t (i := 193) (by decide +kernel) rfl
theorem lRX9_229 : Cond.methodLink RX9 229 yX0_differentShields ∈ k_tb := k_t (i := 196) (by decide +kernel) rfl
theorem lRX0_49 : Cond.methodLink RX0 49 yX0_isFirstWithItsShield ∈ k_tb := k_t (i := 199) (by decide +kernel) rfl
theorem lRX9_232 : Cond.methodLink RX9 232 yX0_farFromFather ∈ k_tb := k_t (i := 202) (by decide +kernel) rfl
theorem lRX0_53 : Cond.methodLink RX0 53 yX3_placesFromFather ∈ k_tb := k_t (i := 205) (by decide +kernel) rfl
theorem lRX3_33 : Cond.methodLink RX3 33 yX6_shieldOf ∈ k_tb := k_t (i := 208) (by decide +kernel) rfl
theorem lRX3_36 : Cond.methodLink RX3 36 yX8_apart ∈ k_tb := k_t (i := 209) (by decide +kernel) rfl
theorem lRX9_235 : Cond.methodLink RX9 235 yX0_livingSonless ∈ k_tb := k_t (i := 210) (by decide +kernel) rfl
theorem lRX0_56 : Cond.methodLink RX0 56 yX6_sonsOf ∈ k_tb := k_t (i := 213) (by decide +kernel) rfl
theorem lRX6_45 : Cond.methodLink RX6 45 yX6_fatherOf ∈ k_tb := k_t (i := 217) (by decide +kernel) rfl
theorem lRX9_238 : Cond.methodLink RX9 238 yX6_heirs ∈ k_tb := k_t (i := 218) (by decide +kernel) rfl
theorem lRX9_241 : Cond.methodLink RX9 241 yX6_refusals ∈ k_tb := k_t (i := 222) (by decide +kernel) rfl
theorem lRX9_89 : Cond.methodLink RX9 89 yX5_length ∈ k_tb := k_t (i := 226) (by decide +kernel) rfl
theorem lRX9_244 : Cond.methodLink RX9 244 yX2_size ∈ k_tb := k_t (i := 230) (by decide +kernel) rfl
theorem lRL_100 : Cond.methodLink RL 100 yX9_undo ∈ k_tb := k_t (i := 234) (by decide +kernel) rfl
theorem lRX9_261 : Cond.methodLink RX9 261 yX2_takeBack ∈ k_tb := k_t (i := 238) (by decide +kernel) rfl
theorem lRX2_22 : Cond.methodLink RX2 22 yX2_stateAt ∈ k_tb := k_t (i := 242) (by decide +kernel) rfl
theorem lRX2_26 : Cond.methodLink RX2 26 yX6_copyFrom ∈ k_tb := k_t (i := 246) (by decide +kernel) rfl
theorem lRL_109 : Cond.methodLink RL 109 yX9_save ∈ k_tb := k_t (i := 250) (by decide +kernel) rfl
theorem lRX9_252 : Cond.methodLink RX9 252 yX6_copyFrom ∈ k_tb := k_t (i := 254) (by decide +kernel) rfl
theorem lRL_103 : Cond.methodLink RL 103 yX9_restore ∈ k_tb := k_t (i := 255) (by decide +kernel) rfl
theorem lRX9_57 : Cond.methodLink RX9 57 yX2_note ∈ k_tb := k_t (i := 259) (by decide +kernel) rfl
theorem lRX9_78 : Cond.methodLink RX9 78 yX2_keepNoted ∈ k_tb := k_t (i := 263) (by decide +kernel) rfl
theorem lRL_112 : Cond.methodLink RL 112 yL_cell ∈ k_tb := k_t (i := 267) (by decide +kernel) rfl
theorem lRL_91 : Cond.methodLink RL 91 yL_seen ∈ k_tb := k_t (i := 273) (by decide +kernel) rfl
theorem lRL_20 : Cond.methodLink RL 20 yX9_person ∈ k_tb := k_t (i := 278) (by decide +kernel) rfl
theorem lRX9_121 : Cond.methodLink RX9 121 yX6_has ∈ k_tb := k_t (i := 282) (by decide +kernel) rfl
theorem lRX9_124 : Cond.methodLink RX9 124 yX6_shieldOf ∈ k_tb := k_t (i := 283) (by decide +kernel) rfl
theorem lRX9_127 : Cond.methodLink RX9 127 yX6_isAlive ∈ k_tb := k_t (i := 284) (by decide +kernel) rfl
theorem lRX9_130 : Cond.methodLink RX9 130 yX6_fatherOf ∈ k_tb := k_t (i := 285) (by decide +kernel) rfl
theorem lRX9_133 : Cond.methodLink RX9 133 yX9_orNotFound ∈ k_tb := k_t (i := 286) (by decide +kernel) rfl
theorem lRX9_136 : Cond.methodLink RX9 136 yX6_birthPlaceOf ∈ k_tb := k_t (i := 289) (by decide +kernel) rfl
theorem lRX9_139 : Cond.methodLink RX9 139 yX6_birthMarkOf ∈ k_tb := k_t (i := 293) (by decide +kernel) rfl
theorem lRX9_142 : Cond.methodLink RX9 142 yX6_sonsOf ∈ k_tb := k_t (i := 297) (by decide +kernel) rfl
theorem lRX9_145 : Cond.methodLink RX9 145 yX3_livingSons ∈ k_tb := k_t (i := 298) (by decide +kernel) rfl
theorem lRX3_9 : Cond.methodLink RX3 9 yX6_size ∈ k_tb := k_t (i := 301) (by decide +kernel) rfl
theorem lRX3_15 : Cond.methodLink RX3 15 yX6_isAlive ∈ k_tb := k_t (i := 302) (by decide +kernel) rfl
theorem lRX9_151 : Cond.methodLink RX9 151 yX3_livingBrothers ∈ k_tb := k_t (i := 303) (by decide +kernel) rfl
theorem lRX3_23 : Cond.methodLink RX3 23 yX6_areBrothers ∈ k_tb := k_t (i := 306) (by decide +kernel) rfl
theorem lRX9_154 : Cond.methodLink RX9 154 yX3_livingCousins ∈ k_tb := k_t (i := 310) (by decide +kernel) rfl
theorem lRX9_157 : Cond.methodLink RX9 157 yX3_descendants ∈ k_tb := k_t (i := 313) (by decide +kernel) rfl
theorem lRX3_27 : Cond.methodLink RX3 27 yX3_comesFrom ∈ k_tb := k_t (i := 316) (by decide +kernel) rfl
theorem lRX9_160 : Cond.methodLink RX9 160 yX3_stepsFromFounder ∈ k_tb := k_t (i := 319) (by decide +kernel) rfl
theorem lRX9_163 : Cond.methodLink RX9 163 yX3_placesFromFather ∈ k_tb := k_t (i := 320) (by decide +kernel) rfl
theorem lRL_120 : Cond.methodLink RL 120 yL_arePersons ∈ k_tb := k_t (i := 321) (by decide +kernel) rfl
theorem lRL_26 : Cond.methodLink RL 26 yX9_bearer ∈ k_tb := k_t (i := 324) (by decide +kernel) rfl
theorem lRX9_202 : Cond.methodLink RX9 202 yX8_isShield ∈ k_tb := k_t (i := 328) (by decide +kernel) rfl
theorem lRX9_205 : Cond.methodLink RX9 205 yX6_livingWith ∈ k_tb := k_t (i := 331) (by decide +kernel) rfl
theorem lRL_29 : Cond.methodLink RL 29 yX9_kin ∈ k_tb := k_t (i := 335) (by decide +kernel) rfl
theorem lRX9_198 : Cond.methodLink RX9 198 yX3_nearness ∈ k_tb := k_t (i := 339) (by decide +kernel) rfl
theorem lRL_32 : Cond.methodLink RL 32 yX9_differs ∈ k_tb := k_t (i := 342) (by decide +kernel) rfl
theorem lRX9_195 : Cond.methodLink RX9 195 yX8_apart ∈ k_tb := k_t (i := 346) (by decide +kernel) rfl
theorem lRL_35 : Cond.methodLink RL 35 yX9_borne ∈ k_tb := k_t (i := 347) (by decide +kernel) rfl
theorem lRX9_166 : Cond.methodLink RX9 166 yX8_isPlace ∈ k_tb := k_t (i := 351) (by decide +kernel) rfl
theorem lRX9_175 : Cond.methodLink RX9 175 yX8_isMark ∈ k_tb := k_t (i := 354) (by decide +kernel) rfl
theorem lRX9_245 : Cond.methodLink RX9 245 yX0_livingWithMark ∈ k_tb := k_t (i := 357) (by decide +kernel) rfl
theorem lRX0_59 : Cond.methodLink RX0 59 yX8_markAt ∈ k_tb := k_t (i := 360) (by decide +kernel) rfl
theorem lRL_38 : Cond.methodLink RL 38 yX9_unlike ∈ k_tb := k_t (i := 363) (by decide +kernel) rfl
theorem lRX9_248 : Cond.methodLink RX9 248 yX0_meanApart ∈ k_tb := k_t (i := 367) (by decide +kernel) rfl
theorem lRL_124 : Cond.methodLink RL 124 yL_arePairs ∈ k_tb := k_t (i := 371) (by decide +kernel) rfl
theorem lRL_128 : Cond.methodLink RL 128 yL_isLine ∈ k_tb := k_t (i := 374) (by decide +kernel) rfl
theorem lRL_44 : Cond.methodLink RL 44 yX9_line ∈ k_tb := k_t (i := 377) (by decide +kernel) rfl
theorem lRX9_181 : Cond.methodLink RX9 181 yX9_isWay ∈ k_tb := k_t (i := 381) (by decide +kernel) rfl
theorem lRX9_208 : Cond.methodLink RX9 208 yX4_fewest ∈ k_tb := k_t (i := 384) (by decide +kernel) rfl
theorem lRX4_24 : Cond.methodLink RX4 24 yX8_apart ∈ k_tb := k_t (i := 388) (by decide +kernel) rfl
theorem lRX4_30 : Cond.methodLink RX4 30 yX4_reaches ∈ k_tb := k_t (i := 389) (by decide +kernel) rfl
theorem lRX4_34 : Cond.methodLink RX4 34 yX7_empty ∈ k_tb := k_t (i := 393) (by decide +kernel) rfl
theorem lRX4_37 : Cond.methodLink RX4 37 yX7_add ∈ k_tb := k_t (i := 397) (by decide +kernel) rfl
theorem lRX7_15 : Cond.methodLink RX7 15 yX8_isShield ∈ k_tb := k_t (i := 401) (by decide +kernel) rfl
theorem lRX4_41 : Cond.methodLink RX4 41 yX4_goOn ∈ k_tb := k_t (i := 402) (by decide +kernel) rfl
theorem lRX4_49 : Cond.methodLink RX4 49 yX7_isWordEmpty ∈ k_tb := k_t (i := 406) (by decide +kernel) rfl
theorem lRX4_45 : Cond.methodLink RX4 45 yX7_has ∈ k_tb := k_t (i := 410) (by decide +kernel) rfl
theorem lRX4_52 : Cond.methodLink RX4 52 yX4_goOnFrom ∈ k_tb := k_t (i := 414) (by decide +kernel) rfl
theorem lRX4_56 : Cond.methodLink RX4 56 yX8_withMark ∈ k_tb := k_t (i := 418) (by decide +kernel) rfl
theorem lRX8_9 : Cond.methodLink RX8 9 yX8_markAt ∈ k_tb := k_t (i := 421) (by decide +kernel) rfl
theorem lRX8_15 : Cond.methodLink RX8 15 yX8_weightOf ∈ k_tb := k_t (i := 422) (by decide +kernel) rfl
theorem lRX4_60 : Cond.methodLink RX4 60 yX6_livingWith ∈ k_tb := k_t (i := 425) (by decide +kernel) rfl
theorem lRL_48 : Cond.methodLink RL 48 yX9_mark ∈ k_tb := k_t (i := 426) (by decide +kernel) rfl
theorem lRX9_171 : Cond.methodLink RX9 171 yX8_markAt ∈ k_tb := k_t (i := 430) (by decide +kernel) rfl
theorem lRL_106 : Cond.methodLink RL 106 yL_refuses ∈ k_tb := k_t (i := 431) (by decide +kernel) rfl
theorem lRL_95 : Cond.methodLink RL 95 yL_refusesAny ∈ k_tb := k_t (i := 434) (by decide +kernel) rfl
theorem lRL_51 : Cond.methodLink RL 51 yX9_found ∈ k_tb := k_t (i := 437) (by decide +kernel) rfl
theorem lRX9_61 : Cond.methodLink RX9 61 yX6_founderComes ∈ k_tb := k_t (i := 441) (by decide +kernel) rfl
theorem lRX6_49 : Cond.methodLink RX6 49 yX8_isShield ∈ k_tb := k_t (i := 445) (by decide +kernel) rfl
theorem lRX6_54 : Cond.methodLink RX6 54 yX6_livingWith ∈ k_tb := k_t (i := 446) (by decide +kernel) rfl
theorem lRX6_57 : Cond.methodLink RX6 57 yX6_refuse ∈ k_tb := k_t (i := 447) (by decide +kernel) rfl
theorem lRX6_60 : Cond.methodLink RX6 60 yX6_add ∈ k_tb := k_t (i := 451) (by decide +kernel) rfl
theorem lRX9_65 : Cond.methodLink RX9 65 yX9_keepIfChanged ∈ k_tb := k_t (i := 455) (by decide +kernel) rfl
theorem lRL_54 : Cond.methodLink RL 54 yX9_bear ∈ k_tb := k_t (i := 459) (by decide +kernel) rfl
theorem lRX9_68 : Cond.methodLink RX9 68 yX6_sonComes ∈ k_tb := k_t (i := 463) (by decide +kernel) rfl
theorem lRX6_64 : Cond.methodLink RX6 64 yX8_isPlace ∈ k_tb := k_t (i := 467) (by decide +kernel) rfl
theorem lRX6_67 : Cond.methodLink RX6 67 yX8_isMark ∈ k_tb := k_t (i := 468) (by decide +kernel) rfl
theorem lRX6_70 : Cond.methodLink RX6 70 yX6_reasonAgainstSon ∈ k_tb := k_t (i := 469) (by decide +kernel) rfl
theorem lRX6_74 : Cond.methodLink RX6 74 yX6_shieldOf ∈ k_tb := k_t (i := 473) (by decide +kernel) rfl
theorem lRX6_91 : Cond.methodLink RX6 91 yX8_markAt ∈ k_tb := k_t (i := 474) (by decide +kernel) rfl
theorem lRX6_77 : Cond.methodLink RX6 77 yX8_withMark ∈ k_tb := k_t (i := 475) (by decide +kernel) rfl
theorem lRX6_94 : Cond.methodLink RX6 94 yX6_cousinChanged ∈ k_tb := k_t (i := 476) (by decide +kernel) rfl
theorem lRX6_101 : Cond.methodLink RX6 101 yX6_birthPlaceOf ∈ k_tb := k_t (i := 480) (by decide +kernel) rfl
theorem lRX6_104 : Cond.methodLink RX6 104 yX6_areBrothers ∈ k_tb := k_t (i := 481) (by decide +kernel) rfl
theorem lRX6_98 : Cond.methodLink RX6 98 yX6_sonsOf ∈ k_tb := k_t (i := 482) (by decide +kernel) rfl
theorem lRL_57 : Cond.methodLink RL 57 yX9_die ∈ k_tb := k_t (i := 483) (by decide +kernel) rfl
theorem lRX9_72 : Cond.methodLink RX9 72 yX6_goes ∈ k_tb := k_t (i := 487) (by decide +kernel) rfl
theorem lRX6_80 : Cond.methodLink RX6 80 yX6_living ∈ k_tb := k_t (i := 491) (by decide +kernel) rfl
theorem lRL_60 : Cond.methodLink RL 60 yX9_inherit ∈ k_tb := k_t (i := 492) (by decide +kernel) rfl
theorem lRX9_75 : Cond.methodLink RX9 75 yX6_becomesHeir ∈ k_tb := k_t (i := 496) (by decide +kernel) rfl
theorem lRX6_84 : Cond.methodLink RX6 84 yX6_reasonAgainstHeir ∈ k_tb := k_t (i := 500) (by decide +kernel) rfl
theorem lRX6_87 : Cond.methodLink RX6 87 yX8_apart ∈ k_tb := k_t (i := 504) (by decide +kernel) rfl
theorem lRL_63 : Cond.methodLink RL 63 yX9_whyNot ∈ k_tb := k_t (i := 505) (by decide +kernel) rfl
theorem lRX9_178 : Cond.methodLink RX9 178 yX6_reasonAgainstSon ∈ k_tb := k_t (i := 509) (by decide +kernel) rfl
theorem lRL_66 : Cond.methodLink RL 66 yX9_choices ∈ k_tb := k_t (i := 510) (by decide +kernel) rfl
theorem lRX9_184 : Cond.methodLink RX9 184 yX1_leftByTrying ∈ k_tb := k_t (i := 514) (by decide +kernel) rfl
theorem lRX1_9 : Cond.methodLink RX1 9 yX6_reasonAgainstSon ∈ k_tb := k_t (i := 517) (by decide +kernel) rfl
theorem lRX9_189 : Cond.methodLink RX9 189 yX1_leftByPlaces ∈ k_tb := k_t (i := 518) (by decide +kernel) rfl
theorem lRX1_15 : Cond.methodLink RX1 15 yX6_isAlive ∈ k_tb := k_t (i := 521) (by decide +kernel) rfl
theorem lRX1_19 : Cond.methodLink RX1 19 yX6_sonsOf ∈ k_tb := k_t (i := 522) (by decide +kernel) rfl
theorem lRX1_23 : Cond.methodLink RX1 23 yX6_cousinChanged ∈ k_tb := k_t (i := 523) (by decide +kernel) rfl
theorem lRX1_27 : Cond.methodLink RX1 27 yX1_livingApartAt ∈ k_tb := k_t (i := 524) (by decide +kernel) rfl
theorem lRX1_33 : Cond.methodLink RX1 33 yX6_shieldOf ∈ k_tb := k_t (i := 527) (by decide +kernel) rfl
theorem lRX1_36 : Cond.methodLink RX1 36 yX8_markAt ∈ k_tb := k_t (i := 528) (by decide +kernel) rfl
theorem lRX1_42 : Cond.methodLink RX1 42 yX6_size ∈ k_tb := k_t (i := 529) (by decide +kernel) rfl
theorem lRX1_46 : Cond.methodLink RX1 46 yX8_apart ∈ k_tb := k_t (i := 530) (by decide +kernel) rfl
theorem lRL_69 : Cond.methodLink RL 69 yX9_ifDead ∈ k_tb := k_t (i := 531) (by decide +kernel) rfl
theorem lRX9_255 : Cond.methodLink RX9 255 yX3_heirOf ∈ k_tb := k_t (i := 535) (by decide +kernel) rfl
theorem lRX3_42 : Cond.methodLink RX3 42 yX6_reasonAgainstHeir ∈ k_tb := k_t (i := 538) (by decide +kernel) rfl
theorem lRX9_258 : Cond.methodLink RX9 258 yX1_leftToAll ∈ k_tb := k_t (i := 539) (by decide +kernel) rfl
theorem lRX1_49 : Cond.methodLink RX1 49 yX1_leftByPlaces ∈ k_tb := k_t (i := 542) (by decide +kernel) rfl
theorem lRL_72 : Cond.methodLink RL 72 yX9_best ∈ k_tb := k_t (i := 543) (by decide +kernel) rfl
theorem lRX9_192 : Cond.methodLink RX9 192 yX1_farthest ∈ k_tb := k_t (i := 547) (by decide +kernel) rfl
theorem lRX1_53 : Cond.methodLink RX1 53 yX8_withMark ∈ k_tb := k_t (i := 550) (by decide +kernel) rfl
theorem lRX1_56 : Cond.methodLink RX1 56 yX1_leastApart ∈ k_tb := k_t (i := 551) (by decide +kernel) rfl
theorem lRX1_59 : Cond.methodLink RX1 59 Lib.Math.min.name ∈ k_tb := k_t (i := 554) (by decide +kernel) rfl
theorem lRL_78 : Cond.methodLink RL 78 yX9_append ∈ k_tb := k_t (i := 557) (by decide +kernel) rfl
theorem lRX9_81 : Cond.methodLink RX9 81 yX5_isFull ∈ k_tb := k_t (i := 561) (by decide +kernel) rfl
theorem lRX9_85 : Cond.methodLink RX9 85 yX5_put ∈ k_tb := k_t (i := 565) (by decide +kernel) rfl
theorem lRL_81 : Cond.methodLink RL 81 yX9_clear ∈ k_tb := k_t (i := 569) (by decide +kernel) rfl
theorem lRX9_93 : Cond.methodLink RX9 93 yX5_empty ∈ k_tb := k_t (i := 573) (by decide +kernel) rfl
theorem lRL_85 : Cond.methodLink RL 85 yX9_enrol ∈ k_tb := k_t (i := 577) (by decide +kernel) rfl
theorem lRX9_96 : Cond.methodLink RX9 96 yX5_firstFault ∈ k_tb := k_t (i := 581) (by decide +kernel) rfl
theorem lRX5_19 : Cond.methodLink RX5 19 yX5_signAt ∈ k_tb := k_t (i := 585) (by decide +kernel) rfl
theorem lRX5_35 : Cond.methodLink RX5 35 yX5_stateAfter ∈ k_tb := k_t (i := 589) (by decide +kernel) rfl
theorem lRX5_39 : Cond.methodLink RX5 39 yX5_stateAfterDeed ∈ k_tb := k_t (i := 592) (by decide +kernel) rfl
theorem lRX5_42 : Cond.methodLink RX5 42 yX5_stateAfterLetter ∈ k_tb := k_t (i := 595) (by decide +kernel) rfl
theorem lRX5_45 : Cond.methodLink RX5 45 yX5_stateAfterDigit ∈ k_tb := k_t (i := 598) (by decide +kernel) rfl
theorem lRX5_23 : Cond.methodLink RX5 23 yX5_isBetween ∈ k_tb := k_t (i := 601) (by decide +kernel) rfl
theorem lRX5_49 : Cond.methodLink RX5 49 yX5_stateAfterFather ∈ k_tb := k_t (i := 604) (by decide +kernel) rfl
theorem lRX9_99 : Cond.methodLink RX9 99 yX5_startsDeed ∈ k_tb := k_t (i := 607) (by decide +kernel) rfl
theorem lRX9_103 : Cond.methodLink RX9 103 yX9_enrolDeed ∈ k_tb := k_t (i := 611) (by decide +kernel) rfl
theorem lRX9_106 : Cond.methodLink RX9 106 yX5_signAt ∈ k_tb := k_t (i := 615) (by decide +kernel) rfl
theorem lRX9_109 : Cond.methodLink RX9 109 yX5_shieldAt ∈ k_tb := k_t (i := 616) (by decide +kernel) rfl
theorem lRX5_27 : Cond.methodLink RX5 27 yX5_digitAt ∈ k_tb := k_t (i := 620) (by decide +kernel) rfl
theorem lRX5_30 : Cond.methodLink RX5 30 yX8_weightOf ∈ k_tb := k_t (i := 624) (by decide +kernel) rfl
theorem lRX9_112 : Cond.methodLink RX9 112 yX5_afterNumber ∈ k_tb := k_t (i := 625) (by decide +kernel) rfl
theorem lRX9_115 : Cond.methodLink RX9 115 yX5_numberAt ∈ k_tb := k_t (i := 629) (by decide +kernel) rfl
theorem lRX9_118 : Cond.methodLink RX9 118 yX5_digitAt ∈ k_tb := k_t (i := 633) (by decide +kernel) rfl
theorem lRL_88 : Cond.methodLink RL 88 yX9_fault ∈ k_tb := k_t (i := 634) (by decide +kernel) rfl
theorem lRL_116 : Cond.methodLink RL 116 yL_act ∈ k_tb := k_t (i := 638) (by decide +kernel) rfl
theorem lM_max : Cond.static Lib.Math.max.name ∈ k_tb ∧ Cond.initialized "java/lang/Math" ∈ k_tb ∧ Cond.code Lib.Math.max.name Lib.Math.max.code 2 (some .int) ∈ k_tb := ⟨k_t (i := 194) (by decide +kernel) rfl, k_t (i := 10) (by decide +kernel) rfl, k_t (i := 195) (by decide +kernel) rfl⟩
theorem lM_min : Cond.static Lib.Math.min.name ∈ k_tb ∧ Cond.initialized "java/lang/Math" ∈ k_tb ∧ Cond.code Lib.Math.min.name Lib.Math.min.code 2 (some .int) ∈ k_tb := ⟨k_t (i := 555) (by decide +kernel) rfl, k_t (i := 10) (by decide +kernel) rfl, k_t (i := 556) (by decide +kernel) rfl⟩
theorem kcRL_7 : Cond.constant RL 7 (1955562223 : Int32) ∈ k_tb := k_t (i := 270) (by decide +kernel) rfl
theorem kcRL_8 : Cond.constant RL 8 (68023 : Int32) ∈ k_tb := k_t (i := 271) (by decide +kernel) rfl
theorem kcRL_9 : Cond.constant RL 9 (2147483647 : Int32) ∈ k_tb := k_t (i := 272) (by decide +kernel) rfl
theorem kcRL_10 : Cond.constantLong RL 10 (179 : Int64) ∈ k_tb := k_t (i := 276) (by decide +kernel) rfl
theorem kcRL_12 : Cond.constantLong RL 12 (31 : Int64) ∈ k_tb := k_t (i := 277) (by decide +kernel) rfl
theorem kcRL_42 : Cond.constantDouble RL 42 (4618441417868443648 : UInt64) ∈ k_tb := k_t (i := 370) (by decide +kernel) rfl
theorem kwRX2 : ∀ w ∈ u_ws RX2 TX2 2, w ∈ k_tb := by decide +kernel
theorem kwRX4 : ∀ w ∈ u_ws RX4 TX4 3, w ∈ k_tb := by decide +kernel
theorem kwRX5 : ∀ w ∈ u_ws RX5 TX5 2, w ∈ k_tb := by decide +kernel
theorem kwRX6 : ∀ w ∈ u_ws RX6 TX6 8, w ∈ k_tb := by decide +kernel
theorem kwRX7 : ∀ w ∈ u_ws RX7 TX7 1, w ∈ k_tb := by decide +kernel
theorem kwRX9 : ∀ w ∈ u_ws RX9 TX9 10, w ∈ k_tb := by decide +kernel
theorem fRX6_9 : KF RX6 9 3 0 := ⟨RX6, TX6, 8, rfl, by decide, kwRX6, k_t (i := 26) (by decide +kernel) rfl⟩
theorem fRX6_15 : KF RX6 15 3 1 := ⟨RX6, TX6, 8, rfl, by decide, kwRX6, k_t (i := 27) (by decide +kernel) rfl⟩
theorem fRX6_19 : KF RX6 19 3 2 := ⟨RX6, TX6, 8, rfl, by decide, kwRX6, k_t (i := 28) (by decide +kernel) rfl⟩
theorem fRX6_22 : KF RX6 22 3 3 := ⟨RX6, TX6, 8, rfl, by decide, kwRX6, k_t (i := 29) (by decide +kernel) rfl⟩
theorem fRX6_25 : KF RX6 25 3 4 := ⟨RX6, TX6, 8, rfl, by decide, kwRX6, k_t (i := 30) (by decide +kernel) rfl⟩
theorem fRX6_28 : KF RX6 28 3 5 := ⟨RX6, TX6, 8, rfl, by decide, kwRX6, k_t (i := 31) (by decide +kernel) rfl⟩
theorem pRX6_28 : KP RX6 28 3 5 .int := ⟨RX6, TX6, 8, tyX6, rfl, by decide, kwRX6, k_t (i := 31) (by decide +kernel) rfl, tyX6_ok, nmX6, rfl, by decide +kernel⟩
theorem fRX6_32 : KF RX6 32 3 6 := ⟨RX6, TX6, 8, rfl, by decide, kwRX6, k_t (i := 32) (by decide +kernel) rfl⟩
theorem pRX6_32 : KP RX6 32 3 6 .int := ⟨RX6, TX6, 8, tyX6, rfl, by decide, kwRX6, k_t (i := 32) (by decide +kernel) rfl, tyX6_ok, nmX6, rfl, by decide +kernel⟩
theorem fRX6_35 : KF RX6 35 3 7 := ⟨RX6, TX6, 8, rfl, by decide, kwRX6, k_t (i := 33) (by decide +kernel) rfl⟩
theorem pRX6_35 : KP RX6 35 3 7 .int := ⟨RX6, TX6, 8, tyX6, rfl, by decide, kwRX6, k_t (i := 33) (by decide +kernel) rfl, tyX6_ok, nmX6, rfl, by decide +kernel⟩
theorem fRX2_11 : KF RX2 11 0 0 := ⟨RX2, TX2, 2, rfl, by decide, kwRX2, k_t (i := 62) (by decide +kernel) rfl⟩
theorem fRX2_17 : KF RX2 17 0 1 := ⟨RX2, TX2, 2, rfl, by decide, kwRX2, k_t (i := 63) (by decide +kernel) rfl⟩
theorem pRX2_17 : KP RX2 17 0 1 .int := ⟨RX2, TX2, 2, tyX2, rfl, by decide, kwRX2, k_t (i := 63) (by decide +kernel) rfl, tyX2_ok, nmX2, rfl, by decide +kernel⟩
theorem fRX5_11 : KF RX5 11 2 0 := ⟨RX5, TX5, 2, rfl, by decide, kwRX5, k_t (i := 75) (by decide +kernel) rfl⟩
theorem fRX5_15 : KF RX5 15 2 1 := ⟨RX5, TX5, 2, rfl, by decide, kwRX5, k_t (i := 76) (by decide +kernel) rfl⟩
theorem pRX5_15 : KP RX5 15 2 1 .int := ⟨RX5, TX5, 2, tyX5, rfl, by decide, kwRX5, k_t (i := 76) (by decide +kernel) rfl, tyX5_ok, nmX5, rfl, by decide +kernel⟩
theorem fRX7_11 : KF RX7 11 4 0 := ⟨RX7, TX7, 1, rfl, by decide, kwRX7, k_t (i := 94) (by decide +kernel) rfl⟩
theorem fRX4_12 : KF RX4 12 1 0 := ⟨RX4, TX4, 3, rfl, by decide, kwRX4, k_t (i := 99) (by decide +kernel) rfl⟩
theorem fRX4_18 : KF RX4 18 1 1 := ⟨RX4, TX4, 3, rfl, by decide, kwRX4, k_t (i := 100) (by decide +kernel) rfl⟩
theorem pRX4_18 : KP RX4 18 1 1 (.object RX7) := ⟨RX4, TX4, 3, tyX4, rfl, by decide, kwRX4, k_t (i := 100) (by decide +kernel) rfl, tyX4_ok, nmX4, rfl, by decide +kernel⟩
theorem fRX4_21 : KF RX4 21 1 2 := ⟨RX4, TX4, 3, rfl, by decide, kwRX4, k_t (i := 101) (by decide +kernel) rfl⟩
theorem pRX4_21 : KP RX4 21 1 2 (.object RX7) := ⟨RX4, TX4, 3, tyX4, rfl, by decide, kwRX4, k_t (i := 101) (by decide +kernel) rfl, tyX4_ok, nmX4, rfl, by decide +kernel⟩
theorem fRX9_10 : KF RX9 10 5 0 := ⟨RX9, TX9, 10, rfl, by decide, kwRX9, k_t (i := 109) (by decide +kernel) rfl⟩
theorem fRX9_16 : KF RX9 16 5 1 := ⟨RX9, TX9, 10, rfl, by decide, kwRX9, k_t (i := 110) (by decide +kernel) rfl⟩
theorem fRX9_19 : KF RX9 19 5 2 := ⟨RX9, TX9, 10, rfl, by decide, kwRX9, k_t (i := 111) (by decide +kernel) rfl⟩
theorem fRX9_25 : KF RX9 25 5 3 := ⟨RX9, TX9, 10, rfl, by decide, kwRX9, k_t (i := 112) (by decide +kernel) rfl⟩
theorem fRX9_32 : KF RX9 32 5 4 := ⟨RX9, TX9, 10, rfl, by decide, kwRX9, k_t (i := 113) (by decide +kernel) rfl⟩
theorem fRX9_39 : KF RX9 39 5 5 := ⟨RX9, TX9, 10, rfl, by decide, kwRX9, k_t (i := 114) (by decide +kernel) rfl⟩
theorem fRX9_43 : KF RX9 43 5 6 := ⟨RX9, TX9, 10, rfl, by decide, kwRX9, k_t (i := 115) (by decide +kernel) rfl⟩
theorem pRX9_43 : KP RX9 43 5 6 .boolean := ⟨RX9, TX9, 10, tyX9, rfl, by decide, kwRX9, k_t (i := 115) (by decide +kernel) rfl, tyX9_ok, nmX9, rfl, by decide +kernel⟩
theorem fRX9_47 : KF RX9 47 5 7 := ⟨RX9, TX9, 10, rfl, by decide, kwRX9, k_t (i := 116) (by decide +kernel) rfl⟩
theorem pRX9_47 : KP RX9 47 5 7 .int := ⟨RX9, TX9, 10, tyX9, rfl, by decide, kwRX9, k_t (i := 116) (by decide +kernel) rfl, tyX9_ok, nmX9, rfl, by decide +kernel⟩
theorem fRX9_51 : KF RX9 51 5 8 := ⟨RX9, TX9, 10, rfl, by decide, kwRX9, k_t (i := 117) (by decide +kernel) rfl⟩
theorem pRX9_51 : KP RX9 51 5 8 .int := ⟨RX9, TX9, 10, tyX9, rfl, by decide, kwRX9, k_t (i := 117) (by decide +kernel) rfl, tyX9_ok, nmX9, rfl, by decide +kernel⟩
theorem fRX9_54 : KF RX9 54 5 9 := ⟨RX9, TX9, 10, rfl, by decide, kwRX9, k_t (i := 118) (by decide +kernel) rfl⟩
theorem pRX9_54 : KP RX9 54 5 9 .int := ⟨RX9, TX9, 10, tyX9, rfl, by decide, kwRX9, k_t (i := 118) (by decide +kernel) rfl, tyX9_ok, nmX9, rfl, by decide +kernel⟩
