abbrev mX11_init : Md := (yX11_init, cX11_init, 2, none)
abbrev mX9_init : Md := (yX9_init, cX9_init, 1, none)
abbrev mX6_init : Md := (yX6_init, cX6_init, 1, none)
abbrev mX10_init : Md := (yX10_init, cX10_init, 2, none)
abbrev mX0_init : Md := (yX0_init, cX0_init, 2, none)
abbrev mX3_init : Md := (yX3_init, cX3_init, 1, none)
abbrev mX5_init : Md := (yX5_init, cX5_init, 2, none)
abbrev mX7_init : Md := (yX7_init, cX7_init, 2, none)
abbrev mJ9_max_7cf53 : Md := (yJ9_max_7cf53, cJ9_max_7cf53, 2, (some FieldType.int))
abbrev mX1_init : Md := (yX1_init, cX1_init, 2, none)
abbrev mX2_init : Md := (yX2_init, cX2_init, 2, none)
abbrev mX6_begin : Md := (yX6_begin, cX6_begin, 2, none)
abbrev mX10_become : Md := (yX10_become, cX10_become, 3, none)
abbrev mX5_begin : Md := (yX5_begin, cX5_begin, 2, none)
abbrev mX1_begin : Md := (yX1_begin, cX1_begin, 4, none)
abbrev mX11_say : Md := (yX11_say, cX11_say, 3, (some FieldType.int))
abbrev mX9_take : Md := (yX9_take, cX9_take, 5, (some FieldType.int))
abbrev mX11_net : Md := (yX11_net, cX11_net, 1, (some FieldType.int))
abbrev mX6_readAll : Md := (yX6_readAll, cX6_readAll, 3, none)
abbrev mX6_step : Md := (yX6_step, cX6_step, 2, none)
abbrev mX9_byteAt : Md := (yX9_byteAt, cX9_byteAt, 2, (some FieldType.int))
abbrev mX6_isBlank : Md := (yX6_isBlank, cX6_isBlank, 1, (some FieldType.boolean))
abbrev mX6_isLetter : Md := (yX6_isLetter, cX6_isLetter, 1, (some FieldType.boolean))
abbrev mX6_isDigit : Md := (yX6_isDigit, cX6_isDigit, 1, (some FieldType.boolean))
abbrev mX6_readClause : Md := (yX6_readClause, cX6_readClause, 4, none)
abbrev mX6_findWord : Md := (yX6_findWord, cX6_findWord, 4, (some FieldType.int))
abbrev mJ0_charAt_5068e : Md := (yJ0_charAt_5068e, cJ0_charAt_5068e, 2, (some FieldType.char))
abbrev mJ0_isLatin1_aae02 : Md := (yJ0_isLatin1_aae02, cJ0_isLatin1_aae02, 1, (some FieldType.boolean))
abbrev mJ1_charAt_3b067 : Md := (yJ1_charAt_3b067, cJ1_charAt_3b067, 2, (some FieldType.char))
abbrev mJ0_checkIndex_df160 : Md := (yJ0_checkIndex_df160, cJ0_checkIndex_df160, 2, none)
abbrev mJ3_checkIndex_8e157 : Md := (yJ3_checkIndex_8e157, cJ3_checkIndex_8e157, 3, (some FieldType.int))
abbrev mJ2_charAt_3b067 : Md := (yJ2_charAt_3b067, cJ2_charAt_3b067, 2, (some FieldType.char))
abbrev mJ2_checkIndex_2214a : Md := (yJ2_checkIndex_2214a, cJ2_checkIndex_2214a, 2, none)
abbrev mJ2_length_9d52b : Md := (yJ2_length_9d52b, cJ2_length_9d52b, 1, (some FieldType.int))
abbrev mJ2_getChar_3b067 : Md := (yJ2_getChar_3b067, cJ2_getChar_3b067, 2, (some FieldType.char))
abbrev mX6_fail : Md := (yX6_fail, cX6_fail, 3, none)
abbrev mX6_readNumber : Md := (yX6_readNumber, cX6_readNumber, 8, (some FieldType.int))
abbrev mX6_tell : Md := (yX6_tell, cX6_tell, 4, none)
abbrev mX4_both : Md := (yX4_both, cX4_both, 2, (some FieldType.long))
abbrev mX11_fault : Md := (yX11_fault, cX11_fault, 2, (some FieldType.int))
abbrev mX11_send : Md := (yX11_send, cX11_send, 3, (some FieldType.int))
abbrev mX10_bring : Md := (yX10_bring, cX10_bring, 4, (some FieldType.int))
abbrev mX10_areTwo : Md := (yX10_areTwo, cX10_areTwo, 3, (some FieldType.boolean))
abbrev mX10_isNode : Md := (yX10_isNode, cX10_isNode, 2, (some FieldType.boolean))
abbrev mX10_datum : Md := (yX10_datum, cX10_datum, 2, (some (FieldType.object "SourceRoutes$Data")))
abbrev mX2_begin : Md := (yX2_begin, cX2_begin, 4, none)
abbrev mX8_with : Md := (yX8_with, cX8_with, 4, (some FieldType.long))
abbrev mX8_length : Md := (yX8_length, cX8_length, 3, (some FieldType.int))
abbrev mX10_serve : Md := (yX10_serve, cX10_serve, 5, none)
abbrev mX10_post : Md := (yX10_post, cX10_post, 2, (some (FieldType.object "SourceRoutes$Post")))
abbrev mX1_wayTo : Md := (yX1_wayTo, cX1_wayTo, 7, (some FieldType.long))
abbrev mX1_links : Md := (yX1_links, cX1_links, 4, (some FieldType.long))
abbrev mX7_get : Md := (yX7_get, cX7_get, 2, (some FieldType.long))
abbrev mX4_along : Md := (yX4_along, cX4_along, 5, (some FieldType.long))
abbrev mX8_at : Md := (yX8_at, cX8_at, 3, (some FieldType.int))
abbrev mX4_leastRow : Md := (yX4_leastRow, cX4_leastRow, 13, (some FieldType.long))
abbrev mX4_levels : Md := (yX4_levels, cX4_levels, 10, (some FieldType.long))
abbrev mX4_levelOf : Md := (yX4_levelOf, cX4_levelOf, 4, (some FieldType.int))
abbrev mX4_near : Md := (yX4_near, cX4_near, 3, (some FieldType.int))
abbrev mJ6_bitCount_0f7a4 : Md := (yJ6_bitCount_0f7a4, cJ6_bitCount_0f7a4, 1, (some FieldType.int))
abbrev mX8_indexOf : Md := (yX8_indexOf, cX8_indexOf, 4, (some FieldType.int))
abbrev mX8_first : Md := (yX8_first, cX8_first, 3, (some FieldType.long))
abbrev mX10_emitData : Md := (yX10_emitData, cX10_emitData, 4, none)
abbrev mX2_stand : Md := (yX2_stand, cX2_stand, 4, none)
abbrev mX10_emit : Md := (yX10_emit, cX10_emit, 8, (some (FieldType.object "SourceRoutes$Frame")))
abbrev mX0_add : Md := (yX0_add, cX0_add, 1, (some (FieldType.object "SourceRoutes$Frame")))
abbrev mX3_begin : Md := (yX3_begin, cX3_begin, 7, none)
abbrev mX10_finish : Md := (yX10_finish, cX10_finish, 4, none)
abbrev mX10_ask : Md := (yX10_ask, cX10_ask, 4, none)
abbrev mX10_emitRequest : Md := (yX10_emitRequest, cX10_emitRequest, 8, none)
abbrev mX11_turn : Md := (yX11_turn, cX11_turn, 4, (some FieldType.boolean))
abbrev mX4_hold : Md := (yX4_hold, cX4_hold, 4, (some FieldType.boolean))
abbrev mX11_ticks : Md := (yX11_ticks, cX11_ticks, 3, (some FieldType.int))
abbrev mX10_tick : Md := (yX10_tick, cX10_tick, 5, none)
abbrev mX0_take : Md := (yX0_take, cX0_take, 2, (some (FieldType.object "SourceRoutes$Frame")))
abbrev mX10_requestArrives : Md := (yX10_requestArrives, cX10_requestArrives, 3, none)
abbrev mX1_forget : Md := (yX1_forget, cX1_forget, 6, none)
abbrev mX1_cut : Md := (yX1_cut, cX1_cut, 6, (some FieldType.long))
abbrev mJ9_abs_0f7a4 : Md := (yJ9_abs_0f7a4, cJ9_abs_0f7a4, 1, (some FieldType.int))
abbrev mX7_holds : Md := (yX7_holds, cX7_holds, 3, (some FieldType.boolean))
abbrev mX7_indexOf : Md := (yX7_indexOf, cX7_indexOf, 4, (some FieldType.int))
abbrev mX10_isNew : Md := (yX10_isNew, cX10_isNew, 6, (some FieldType.boolean))
abbrev mX8_holds : Md := (yX8_holds, cX8_holds, 3, (some FieldType.boolean))
abbrev mX7_touch : Md := (yX7_touch, cX7_touch, 6, none)
abbrev mJ9_min_7cf53 : Md := (yJ9_min_7cf53, cJ9_min_7cf53, 2, (some FieldType.int))
abbrev mX10_answer : Md := (yX10_answer, cX10_answer, 10, none)
abbrev mX8_reversed : Md := (yX8_reversed, cX8_reversed, 5, (some FieldType.long))
abbrev mX8_behind : Md := (yX8_behind, cX8_behind, 3, (some FieldType.long))
abbrev mX1_learn : Md := (yX1_learn, cX1_learn, 9, none)
abbrev mX10_emitReply : Md := (yX10_emitReply, cX10_emitReply, 5, none)
abbrev mX8_joined : Md := (yX8_joined, cX8_joined, 4, (some FieldType.long))
abbrev mX8_nodes : Md := (yX8_nodes, cX8_nodes, 4, (some FieldType.int))
abbrev mX10_meetDown : Md := (yX10_meetDown, cX10_meetDown, 10, none)
abbrev mX4_told : Md := (yX4_told, cX4_told, 2, (some FieldType.int))
abbrev mX10_dataArrives : Md := (yX10_dataArrives, cX10_dataArrives, 7, none)
abbrev mX8_from : Md := (yX8_from, cX8_from, 3, (some FieldType.long))
abbrev mX10_overhears : Md := (yX10_overhears, cX10_overhears, 3, (some FieldType.boolean))
abbrev mX10_shorten : Md := (yX10_shorten, cX10_shorten, 6, none)
abbrev mX10_replyArrives : Md := (yX10_replyArrives, cX10_replyArrives, 7, none)
abbrev mX10_errorArrives : Md := (yX10_errorArrives, cX10_errorArrives, 5, none)
abbrev mX10_drain : Md := (yX10_drain, cX10_drain, 8, none)
abbrev mX10_askOn : Md := (yX10_askOn, cX10_askOn, 4, none)
abbrev mX10_isNeeded : Md := (yX10_isNeeded, cX10_isNeeded, 4, (some FieldType.boolean))
abbrev mX11_has : Md := (yX11_has, cX11_has, 2, (some FieldType.int))
abbrev mX11_node : Md := (yX11_node, cX11_node, 3, (some FieldType.int))
abbrev mX10_tellNode : Md := (yX10_tellNode, cX10_tellNode, 4, (some FieldType.int))
abbrev mX10_reached : Md := (yX10_reached, cX10_reached, 4, (some FieldType.int))
abbrev mX10_wayOf : Md := (yX10_wayOf, cX10_wayOf, 3, (some FieldType.long))
abbrev mX11_kept : Md := (yX11_kept, cX11_kept, 4, (some FieldType.int))
abbrev mX11_seen : Md := (yX11_seen, cX11_seen, 3, (some FieldType.int))
abbrev mX11_waits : Md := (yX11_waits, cX11_waits, 3, (some FieldType.int))
abbrev mX5_waitingAt : Md := (yX5_waitingAt, cX5_waitingAt, 2, (some FieldType.int))
abbrev mX11_way : Md := (yX11_way, cX11_way, 4, (some FieldType.int))
abbrev mX11_hops : Md := (yX11_hops, cX11_hops, 5, (some FieldType.int))
abbrev mX11_data : Md := (yX11_data, cX11_data, 3, (some FieldType.int))
abbrev mX10_tellData : Md := (yX10_tellData, cX10_tellData, 4, (some FieldType.int))
abbrev mX11_trail : Md := (yX11_trail, cX11_trail, 5, (some FieldType.int))
abbrev mX11_air : Md := (yX11_air, cX11_air, 4, (some FieldType.int))
abbrev mX0_frameAt : Md := (yX0_frameAt, cX0_frameAt, 2, (some (FieldType.object "SourceRoutes$Frame")))
abbrev mX11_row : Md := (yX11_row, cX11_row, 4, (some FieldType.int))
abbrev mX11_tally : Md := (yX11_tally, cX11_tally, 2, (some FieldType.int))
abbrev mX11_far : Md := (yX11_far, cX11_far, 3, (some FieldType.int))
abbrev mX4_distance : Md := (yX4_distance, cX4_distance, 4, (some FieldType.int))
abbrev mX11_holders : Md := (yX11_holders, cX11_holders, 5, (some FieldType.int))
abbrev mX11_stale : Md := (yX11_stale, cX11_stale, 2, (some FieldType.int))
abbrev mX4_count : Md := (yX4_count, cX4_count, 2, (some FieldType.int))
abbrev mJ13_bitCount_95d88 : Md := (yJ13_bitCount_95d88, cJ13_bitCount_95d88, 2, (some FieldType.int))
abbrev mX11_sound : Md := (yX11_sound, cX11_sound, 5, (some FieldType.boolean))
abbrev mX11_mapped : Md := (yX11_mapped, cX11_mapped, 4, (some FieldType.int))
abbrev mX11_bridges : Md := (yX11_bridges, cX11_bridges, 6, (some FieldType.int))
abbrev mX11_ahead : Md := (yX11_ahead, cX11_ahead, 4, (some FieldType.int))
abbrev mX11_mayGoBy : Md := (yX11_mayGoBy, cX11_mayGoBy, 1, (some FieldType.boolean))
abbrev mX10_copyFrom : Md := (yX10_copyFrom, cX10_copyFrom, 3, none)
abbrev mX0_copyFrom : Md := (yX0_copyFrom, cX0_copyFrom, 3, none)
abbrev mX3_copyFrom : Md := (yX3_copyFrom, cX3_copyFrom, 2, none)
abbrev mX5_copyFrom : Md := (yX5_copyFrom, cX5_copyFrom, 2, none)
abbrev mX1_copyFrom : Md := (yX1_copyFrom, cX1_copyFrom, 2, none)
abbrev mX7_copyFrom : Md := (yX7_copyFrom, cX7_copyFrom, 2, none)
abbrev mX2_copyFrom : Md := (yX2_copyFrom, cX2_copyFrom, 2, none)
abbrev mX10_tellCount : Md := (yX10_tellCount, cX10_tellCount, 2, (some FieldType.int))
abbrev mX10_buffered : Md := (yX10_buffered, cX10_buffered, 3, (some FieldType.int))
abbrev mX11_turned : Md := (yX11_turned, cX11_turned, 6, (some FieldType.int))
abbrev mX11_sent : Md := (yX11_sent, cX11_sent, 7, (some FieldType.int))
abbrev mX11_flood : Md := (yX11_flood, cX11_flood, 5, (some FieldType.int))
abbrev mX0_hasKind : Md := (yX0_hasKind, cX0_hasKind, 3, (some FieldType.boolean))
abbrev mX11_quiet : Md := (yX11_quiet, cX11_quiet, 2, (some FieldType.int))
abbrev mX10_isQuiet : Md := (yX10_isQuiet, cX10_isQuiet, 1, (some FieldType.boolean))
abbrev mX11_image : Md := (yX11_image, cX11_image, 2, (some FieldType.boolean))
abbrev mX9_copyFrom : Md := (yX9_copyFrom, cX9_copyFrom, 2, none)
abbrev mX11_again : Md := (yX11_again, cX11_again, 2, (some FieldType.boolean))
abbrev mX12_init : Md := (yX12_init, cX12_init, 1, none)
abbrev mX12_startsAll : Md := (yX12_startsAll, cX12_startsAll, 1, none)
abbrev mX12_atFirst : Md := (yX12_atFirst, cX12_atFirst, 2, none)
abbrev mX12_taken : Md := (yX12_taken, cX12_taken, 6, none)
abbrev mX12_has : Md := (yX12_has, cX12_has, 2, (some FieldType.boolean))
abbrev mX12_lay : Md := (yX12_lay, cX12_lay, 4, none)
abbrev mX12_say : Md := (yX12_say, cX12_say, 5, (some FieldType.int))
abbrev mX12_net : Md := (yX12_net, cX12_net, 3, (some FieldType.int))
abbrev mX12_token : Md := (yX12_token, cX12_token, 3, none)
abbrev mX12_see : Md := (yX12_see, cX12_see, 1, (some FieldType.int))
abbrev mX12_in : Md := (yX12_in, cX12_in, 3, (some FieldType.boolean))
abbrev mX12_allLines : Md := (yX12_allLines, cX12_allLines, 2, (some FieldType.boolean))
abbrev mX12_line : Md := (yX12_line, cX12_line, 5, (some FieldType.boolean))
abbrev mX12_settingBy : Md := (yX12_settingBy, cX12_settingBy, 2, (some FieldType.int))
abbrev mX12_fails : Md := (yX12_fails, cX12_fails, 1, (some FieldType.boolean))
abbrev mX12_leastOf : Md := (yX12_leastOf, cX12_leastOf, 1, (some FieldType.int))
abbrev mX12_mostOf : Md := (yX12_mostOf, cX12_mostOf, 1, (some FieldType.int))
abbrev mX12_takes : Md := (yX12_takes, cX12_takes, 4, (some FieldType.boolean))
abbrev mX12_takesNode : Md := (yX12_takesNode, cX12_takesNode, 3, (some FieldType.boolean))
abbrev mX12_missing : Md := (yX12_missing, cX12_missing, 3, (some FieldType.int))
abbrev mX12_fault : Md := (yX12_fault, cX12_fault, 2, (some FieldType.int))
abbrev mX12_send : Md := (yX12_send, cX12_send, 3, (some FieldType.int))
abbrev mX12_areTwo : Md := (yX12_areTwo, cX12_areTwo, 3, (some FieldType.boolean))
abbrev mX12_isNode : Md := (yX12_isNode, cX12_isNode, 2, (some FieldType.boolean))
abbrev mX12_comes : Md := (yX12_comes, cX12_comes, 5, (some FieldType.int))
abbrev mX12_layData : Md := (yX12_layData, cX12_layData, 4, none)
abbrev mX12_serves : Md := (yX12_serves, cX12_serves, 5, none)
abbrev mX12_ofData : Md := (yX12_ofData, cX12_ofData, 3, (some FieldType.int))
abbrev mX12_finds : Md := (yX12_finds, cX12_finds, 3, (some FieldType.boolean))
abbrev mX12_of : Md := (yX12_of, cX12_of, 3, (some FieldType.int))
abbrev mX12_findsByMap : Md := (yX12_findsByMap, cX12_findsByMap, 6, none)
abbrev mX12_laysKnown : Md := (yX12_laysKnown, cX12_laysKnown, 4, none)
abbrev mX12_knows : Md := (yX12_knows, cX12_knows, 3, none)
abbrev mX12_pathMany : Md := (yX12_pathMany, cX12_pathMany, 3, (some FieldType.int))
abbrev mX12_pathAt : Md := (yX12_pathAt, cX12_pathAt, 4, (some FieldType.int))
abbrev mX12_laysFar : Md := (yX12_laysFar, cX12_laysFar, 4, none)
abbrev mX12_lesser : Md := (yX12_lesser, cX12_lesser, 2, (some FieldType.int))
abbrev mX12_findsByPaths : Md := (yX12_findsByPaths, cX12_findsByPaths, 6, none)
abbrev mX12_fliesByWay : Md := (yX12_fliesByWay, cX12_fliesByWay, 3, none)
abbrev mX12_fliesOn : Md := (yX12_fliesOn, cX12_fliesOn, 3, none)
abbrev mX12_beginsFrame : Md := (yX12_beginsFrame, cX12_beginsFrame, 8, none)
abbrev mX12_sends : Md := (yX12_sends, cX12_sends, 3, (some FieldType.boolean))
abbrev mX12_tally : Md := (yX12_tally, cX12_tally, 3, none)
abbrev mX12_isDone : Md := (yX12_isDone, cX12_isDone, 3, none)
abbrev mX12_asks : Md := (yX12_asks, cX12_asks, 4, none)
abbrev mX12_addsFrame : Md := (yX12_addsFrame, cX12_addsFrame, 2, none)
abbrev mX12_turn : Md := (yX12_turn, cX12_turn, 4, (some FieldType.boolean))
abbrev mX12_isUp : Md := (yX12_isUp, cX12_isUp, 3, (some FieldType.boolean))
abbrev mX12_layUp : Md := (yX12_layUp, cX12_layUp, 4, none)
abbrev mX12_ticks : Md := (yX12_ticks, cX12_ticks, 3, (some FieldType.int))
abbrev mX12_tick : Md := (yX12_tick, cX12_tick, 2, none)
abbrev mX12_arriveAll : Md := (yX12_arriveAll, cX12_arriveAll, 3, none)
abbrev mX12_arrives : Md := (yX12_arrives, cX12_arrives, 2, none)
abbrev mX12_dataComes : Md := (yX12_dataComes, cX12_dataComes, 5, none)
abbrev mX12_breaks : Md := (yX12_breaks, cX12_breaks, 5, none)
abbrev mX12_forgets : Md := (yX12_forgets, cX12_forgets, 5, none)
abbrev mX12_forgetsPaths : Md := (yX12_forgetsPaths, cX12_forgetsPaths, 8, none)
abbrev mX12_isVain : Md := (yX12_isVain, cX12_isVain, 5, (some FieldType.boolean))
abbrev mX12_isLesson : Md := (yX12_isLesson, cX12_isLesson, 5, (some FieldType.boolean))
abbrev mX12_dropsKept : Md := (yX12_dropsKept, cX12_dropsKept, 5, none)
abbrev mX12_linkKept : Md := (yX12_linkKept, cX12_linkKept, 5, (some FieldType.int))
abbrev mX12_greater : Md := (yX12_greater, cX12_greater, 2, (some FieldType.int))
abbrev mX12_linkOf : Md := (yX12_linkOf, cX12_linkOf, 2, (some FieldType.int))
abbrev mX12_trailAt : Md := (yX12_trailAt, cX12_trailAt, 3, (some FieldType.int))
abbrev mX12_isClear : Md := (yX12_isClear, cX12_isClear, 3, (some FieldType.boolean))
abbrev mX12_isInTrail : Md := (yX12_isInTrail, cX12_isInTrail, 5, (some FieldType.boolean))
abbrev mX12_movesOn : Md := (yX12_movesOn, cX12_movesOn, 6, none)
abbrev mX12_addsLesson : Md := (yX12_addsLesson, cX12_addsLesson, 2, none)
abbrev mX12_learns : Md := (yX12_learns, cX12_learns, 3, none)
abbrev mX12_learnsPath : Md := (yX12_learnsPath, cX12_learnsPath, 3, none)
abbrev mX12_opens : Md := (yX12_opens, cX12_opens, 5, none)
abbrev mX12_learnsLink : Md := (yX12_learnsLink, cX12_learnsLink, 5, none)
abbrev mX12_addsTrail : Md := (yX12_addsTrail, cX12_addsTrail, 4, none)
abbrev mX12_isNear : Md := (yX12_isNear, cX12_isNear, 3, (some FieldType.boolean))
abbrev mX12_beginsLesson : Md := (yX12_beginsLesson, cX12_beginsLesson, 2, none)
abbrev mX12_shortens : Md := (yX12_shortens, cX12_shortens, 7, none)
abbrev mX12_requestComes : Md := (yX12_requestComes, cX12_requestComes, 4, none)
abbrev mX12_forgetsLink : Md := (yX12_forgetsLink, cX12_forgetsLink, 3, none)
abbrev mX12_isInRow : Md := (yX12_isInRow, cX12_isInRow, 4, (some FieldType.boolean))
abbrev mX12_rowAt : Md := (yX12_rowAt, cX12_rowAt, 2, (some FieldType.int))
abbrev mX12_hasSeen : Md := (yX12_hasSeen, cX12_hasSeen, 5, (some FieldType.boolean))
abbrev mX12_sees : Md := (yX12_sees, cX12_sees, 6, none)
abbrev mX12_answers : Md := (yX12_answers, cX12_answers, 5, none)
abbrev mX12_isRoute : Md := (yX12_isRoute, cX12_isRoute, 3, (some FieldType.boolean))
abbrev mX12_replyComes : Md := (yX12_replyComes, cX12_replyComes, 5, none)
abbrev mX12_placeOf : Md := (yX12_placeOf, cX12_placeOf, 3, (some FieldType.int))
abbrev mX12_learnsRow : Md := (yX12_learnsRow, cX12_learnsRow, 3, none)
abbrev mX12_errorComes : Md := (yX12_errorComes, cX12_errorComes, 4, none)
abbrev mX12_drains : Md := (yX12_drains, cX12_drains, 4, none)
abbrev mX12_leaves : Md := (yX12_leaves, cX12_leaves, 4, none)
abbrev mX12_asksAgain : Md := (yX12_asksAgain, cX12_asksAgain, 4, none)
abbrev mX12_waitsFor : Md := (yX12_waitsFor, cX12_waitsFor, 4, (some FieldType.boolean))
abbrev mX12_has_ : Md := (yX12_has_, cX12_has_, 2, (some FieldType.int))
abbrev mX12_node : Md := (yX12_node, cX12_node, 3, (some FieldType.int))
abbrev mX12_asksFor : Md := (yX12_asksFor, cX12_asksFor, 4, (some FieldType.int))
abbrev mX12_waysOf : Md := (yX12_waysOf, cX12_waysOf, 4, (some FieldType.int))
abbrev mX12_upOf : Md := (yX12_upOf, cX12_upOf, 4, (some FieldType.int))
abbrev mX12_kept : Md := (yX12_kept, cX12_kept, 4, (some FieldType.int))
abbrev mX12_seen : Md := (yX12_seen, cX12_seen, 3, (some FieldType.int))
abbrev mX12_waits : Md := (yX12_waits, cX12_waits, 3, (some FieldType.int))
abbrev mX12_way : Md := (yX12_way, cX12_way, 4, (some FieldType.int))
abbrev mX12_hops : Md := (yX12_hops, cX12_hops, 3, (some FieldType.int))
abbrev mX12_data : Md := (yX12_data, cX12_data, 3, (some FieldType.int))
abbrev mX12_ofDatum : Md := (yX12_ofDatum, cX12_ofDatum, 3, (some FieldType.int))
abbrev mX12_trail : Md := (yX12_trail, cX12_trail, 4, (some FieldType.int))
abbrev mX12_air : Md := (yX12_air, cX12_air, 3, (some FieldType.int))
abbrev mX12_frameAt : Md := (yX12_frameAt, cX12_frameAt, 3, (some FieldType.int))
abbrev mX12_whomOf : Md := (yX12_whomOf, cX12_whomOf, 5, (some FieldType.int))
abbrev mX12_whatOf : Md := (yX12_whatOf, cX12_whatOf, 3, (some FieldType.int))
abbrev mX12_row : Md := (yX12_row, cX12_row, 3, (some FieldType.int))
abbrev mX12_tally_ : Md := (yX12_tally_, cX12_tally_, 2, (some FieldType.int))
abbrev mX12_far : Md := (yX12_far, cX12_far, 3, (some FieldType.int))
abbrev mX12_laysUp : Md := (yX12_laysUp, cX12_laysUp, 2, none)
abbrev mX12_holders : Md := (yX12_holders, cX12_holders, 5, (some FieldType.int))
abbrev mX12_stale : Md := (yX12_stale, cX12_stale, 4, (some FieldType.int))
abbrev mX12_sound : Md := (yX12_sound, cX12_sound, 5, (some FieldType.boolean))
abbrev mX12_mapped : Md := (yX12_mapped, cX12_mapped, 3, (some FieldType.int))
abbrev mX12_bridges : Md := (yX12_bridges, cX12_bridges, 6, (some FieldType.int))
abbrev mX12_ahead : Md := (yX12_ahead, cX12_ahead, 3, (some FieldType.int))
abbrev mX12_copies : Md := (yX12_copies, cX12_copies, 4, none)
abbrev mX12_goesOn : Md := (yX12_goesOn, cX12_goesOn, 3, none)
abbrev mX12_asAhead : Md := (yX12_asAhead, cX12_asAhead, 4, (some FieldType.int))
abbrev mX12_back : Md := (yX12_back, cX12_back, 2, (some FieldType.int))
abbrev mX12_turned : Md := (yX12_turned, cX12_turned, 5, (some FieldType.int))
abbrev mX12_sent : Md := (yX12_sent, cX12_sent, 6, (some FieldType.int))
abbrev mX12_flood : Md := (yX12_flood, cX12_flood, 7, (some FieldType.int))
abbrev mX12_isRequested : Md := (yX12_isRequested, cX12_isRequested, 2, (some FieldType.boolean))
abbrev mX12_quiet : Md := (yX12_quiet, cX12_quiet, 2, (some FieldType.int))
abbrev mX12_isQuiet : Md := (yX12_isQuiet, cX12_isQuiet, 1, (some FieldType.boolean))
abbrev mX12_image : Md := (yX12_image, cX12_image, 2, (some FieldType.boolean))
abbrev mX12_copiesText : Md := (yX12_copiesText, cX12_copiesText, 4, none)
abbrev mX12_again : Md := (yX12_again, cX12_again, 2, (some FieldType.boolean))
set_option maxRecDepth 100000 in
theorem kX7_7 : kS RX7 7 mJ9_max_7cf53 2 := ⟨gdm (List.mem_of_getElem? (i := 308) (by decide +kernel)) (by decide +kernel), gdm (List.mem_of_getElem? (i := 309) (by decide +kernel)) (by decide +kernel), gdm (List.mem_of_getElem? (i := 128) (by decide +kernel)) (by decide +kernel), gdm (List.mem_of_getElem? (i := 310) (by decide +kernel)) (by decide +kernel), by decide +kernel, by decide +kernel, by decide +kernel⟩
set_option maxRecDepth 100000 in
theorem kX11_41 : kV RX11 41 mX6_begin 0 := ⟨gdm (List.mem_of_getElem? (i := 475) (by decide +kernel)) (by decide +kernel), ⟨gdm (List.mem_of_getElem? (i := 476) (by decide +kernel)) (by decide +kernel), gdm (List.mem_of_getElem? (i := 477) (by decide +kernel)) (by decide +kernel)⟩, gdm (List.mem_of_getElem? (i := 122) (by decide +kernel)) (by decide +kernel), gdm (List.mem_of_getElem? (i := 478) (by decide +kernel)) (by decide +kernel), by decide +kernel, by decide +kernel, by decide +kernel⟩
set_option maxRecDepth 100000 in
theorem kX11_44 : kV RX11 44 mX10_become 1 := ⟨gdm (List.mem_of_getElem? (i := 484) (by decide +kernel)) (by decide +kernel), ⟨gdm (List.mem_of_getElem? (i := 485) (by decide +kernel)) (by decide +kernel), gdm (List.mem_of_getElem? (i := 486) (by decide +kernel)) (by decide +kernel)⟩, gdm (List.mem_of_getElem? (i := 123) (by decide +kernel)) (by decide +kernel), gdm (List.mem_of_getElem? (i := 487) (by decide +kernel)) (by decide +kernel), by decide +kernel, by decide +kernel, by decide +kernel⟩
set_option maxRecDepth 100000 in
theorem kX10_68 : kV RX10 68 mX5_begin 1 := ⟨gdm (List.mem_of_getElem? (i := 489) (by decide +kernel)) (by decide +kernel), ⟨gdm (List.mem_of_getElem? (i := 490) (by decide +kernel)) (by decide +kernel), gdm (List.mem_of_getElem? (i := 491) (by decide +kernel)) (by decide +kernel)⟩, gdm (List.mem_of_getElem? (i := 126) (by decide +kernel)) (by decide +kernel), gdm (List.mem_of_getElem? (i := 492) (by decide +kernel)) (by decide +kernel), by decide +kernel, by decide +kernel, by decide +kernel⟩
set_option maxRecDepth 100000 in
theorem kX10_79 : kV RX10 79 mX1_begin 3 := ⟨gdm (List.mem_of_getElem? (i := 493) (by decide +kernel)) (by decide +kernel), ⟨gdm (List.mem_of_getElem? (i := 494) (by decide +kernel)) (by decide +kernel), gdm (List.mem_of_getElem? (i := 495) (by decide +kernel)) (by decide +kernel)⟩, gdm (List.mem_of_getElem? (i := 129) (by decide +kernel)) (by decide +kernel), gdm (List.mem_of_getElem? (i := 496) (by decide +kernel)) (by decide +kernel), by decide +kernel, by decide +kernel, by decide +kernel⟩
set_option maxRecDepth 100000 in
theorem kL_15 : kV RL 15 mX11_say 1 := ⟨gdm (List.mem_of_getElem? (i := 519) (by decide +kernel)) (by decide +kernel), ⟨gdm (List.mem_of_getElem? (i := 520) (by decide +kernel)) (by decide +kernel), gdm (List.mem_of_getElem? (i := 521) (by decide +kernel)) (by decide +kernel)⟩, gdm (List.mem_of_getElem? (i := 120) (by decide +kernel)) (by decide +kernel), gdm (List.mem_of_getElem? (i := 522) (by decide +kernel)) (by decide +kernel), by decide +kernel, by decide +kernel, by decide +kernel⟩
set_option maxRecDepth 100000 in
theorem kX11_48 : kV RX11 48 mX9_take 1 := ⟨gdm (List.mem_of_getElem? (i := 523) (by decide +kernel)) (by decide +kernel), ⟨gdm (List.mem_of_getElem? (i := 524) (by decide +kernel)) (by decide +kernel), gdm (List.mem_of_getElem? (i := 525) (by decide +kernel)) (by decide +kernel)⟩, gdm (List.mem_of_getElem? (i := 121) (by decide +kernel)) (by decide +kernel), gdm (List.mem_of_getElem? (i := 526) (by decide +kernel)) (by decide +kernel), by decide +kernel, by decide +kernel, by decide +kernel⟩
set_option maxRecDepth 100000 in
theorem kL_20 : kV RL 20 mX11_net 0 := ⟨gdm (List.mem_of_getElem? (i := 528) (by decide +kernel)) (by decide +kernel), ⟨gdm (List.mem_of_getElem? (i := 529) (by decide +kernel)) (by decide +kernel), gdm (List.mem_of_getElem? (i := 530) (by decide +kernel)) (by decide +kernel)⟩, gdm (List.mem_of_getElem? (i := 120) (by decide +kernel)) (by decide +kernel), gdm (List.mem_of_getElem? (i := 531) (by decide +kernel)) (by decide +kernel), by decide +kernel, by decide +kernel, by decide +kernel⟩
set_option maxRecDepth 100000 in
theorem kX11_52 : kV RX11 52 mX6_readAll 1 := ⟨gdm (List.mem_of_getElem? (i := 532) (by decide +kernel)) (by decide +kernel), ⟨gdm (List.mem_of_getElem? (i := 533) (by decide +kernel)) (by decide +kernel), gdm (List.mem_of_getElem? (i := 534) (by decide +kernel)) (by decide +kernel)⟩, gdm (List.mem_of_getElem? (i := 122) (by decide +kernel)) (by decide +kernel), gdm (List.mem_of_getElem? (i := 535) (by decide +kernel)) (by decide +kernel), by decide +kernel, by decide +kernel, by decide +kernel⟩
set_option maxRecDepth 100000 in
theorem kX6_47 : kV RX6 47 mX6_begin 0 := ⟨gdm (List.mem_of_getElem? (i := 536) (by decide +kernel)) (by decide +kernel), ⟨gdm (List.mem_of_getElem? (i := 476) (by decide +kernel)) (by decide +kernel), gdm (List.mem_of_getElem? (i := 477) (by decide +kernel)) (by decide +kernel)⟩, gdm (List.mem_of_getElem? (i := 122) (by decide +kernel)) (by decide +kernel), gdm (List.mem_of_getElem? (i := 478) (by decide +kernel)) (by decide +kernel), by decide +kernel, by decide +kernel, by decide +kernel⟩
set_option maxRecDepth 100000 in
theorem kX6_57 : kV RX6 57 mX6_step 0 := ⟨gdm (List.mem_of_getElem? (i := 537) (by decide +kernel)) (by decide +kernel), ⟨gdm (List.mem_of_getElem? (i := 539) (by decide +kernel)) (by decide +kernel), gdm (List.mem_of_getElem? (i := 0) (by decide +kernel)) (by decide +kernel)⟩, gdm (List.mem_of_getElem? (i := 122) (by decide +kernel)) (by decide +kernel), gdm (List.mem_of_getElem? (i := 540) (by decide +kernel)) (by decide +kernel), by decide +kernel, by decide +kernel, by decide +kernel⟩
set_option maxRecDepth 100000 in
theorem kX6_75 : kV RX6 75 mX9_byteAt 1 := ⟨gdm (List.mem_of_getElem? (i := 541) (by decide +kernel)) (by decide +kernel), ⟨gdm (List.mem_of_getElem? (i := 542) (by decide +kernel)) (by decide +kernel), gdm (List.mem_of_getElem? (i := 543) (by decide +kernel)) (by decide +kernel)⟩, gdm (List.mem_of_getElem? (i := 121) (by decide +kernel)) (by decide +kernel), gdm (List.mem_of_getElem? (i := 544) (by decide +kernel)) (by decide +kernel), by decide +kernel, by decide +kernel, by decide +kernel⟩
set_option maxRecDepth 100000 in
theorem kX6_79 : kS RX6 79 mX6_isBlank 1 := ⟨gdm (List.mem_of_getElem? (i := 545) (by decide +kernel)) (by decide +kernel), gdm (List.mem_of_getElem? (i := 546) (by decide +kernel)) (by decide +kernel), gdm (List.mem_of_getElem? (i := 122) (by decide +kernel)) (by decide +kernel), gdm (List.mem_of_getElem? (i := 547) (by decide +kernel)) (by decide +kernel), by decide +kernel, by decide +kernel, by decide +kernel⟩
set_option maxRecDepth 100000 in
theorem kX6_83 : kS RX6 83 mX6_isLetter 1 := ⟨gdm (List.mem_of_getElem? (i := 548) (by decide +kernel)) (by decide +kernel), gdm (List.mem_of_getElem? (i := 549) (by decide +kernel)) (by decide +kernel), gdm (List.mem_of_getElem? (i := 122) (by decide +kernel)) (by decide +kernel), gdm (List.mem_of_getElem? (i := 550) (by decide +kernel)) (by decide +kernel), by decide +kernel, by decide +kernel, by decide +kernel⟩
set_option maxRecDepth 100000 in
theorem kX6_86 : kS RX6 86 mX6_isDigit 1 := ⟨gdm (List.mem_of_getElem? (i := 551) (by decide +kernel)) (by decide +kernel), gdm (List.mem_of_getElem? (i := 552) (by decide +kernel)) (by decide +kernel), gdm (List.mem_of_getElem? (i := 122) (by decide +kernel)) (by decide +kernel), gdm (List.mem_of_getElem? (i := 553) (by decide +kernel)) (by decide +kernel), by decide +kernel, by decide +kernel, by decide +kernel⟩
set_option maxRecDepth 100000 in
theorem kX6_65 : kV RX6 65 mX6_readClause 0 := ⟨gdm (List.mem_of_getElem? (i := 554) (by decide +kernel)) (by decide +kernel), ⟨gdm (List.mem_of_getElem? (i := 556) (by decide +kernel)) (by decide +kernel), gdm (List.mem_of_getElem? (i := 1) (by decide +kernel)) (by decide +kernel)⟩, gdm (List.mem_of_getElem? (i := 122) (by decide +kernel)) (by decide +kernel), gdm (List.mem_of_getElem? (i := 557) (by decide +kernel)) (by decide +kernel), by decide +kernel, by decide +kernel, by decide +kernel⟩
set_option maxRecDepth 100000 in
theorem kX6_89 : kV RX6 89 mX6_findWord 0 := ⟨gdm (List.mem_of_getElem? (i := 558) (by decide +kernel)) (by decide +kernel), ⟨gdm (List.mem_of_getElem? (i := 560) (by decide +kernel)) (by decide +kernel), gdm (List.mem_of_getElem? (i := 2) (by decide +kernel)) (by decide +kernel)⟩, gdm (List.mem_of_getElem? (i := 122) (by decide +kernel)) (by decide +kernel), gdm (List.mem_of_getElem? (i := 561) (by decide +kernel)) (by decide +kernel), by decide +kernel, by decide +kernel, by decide +kernel⟩
set_option maxRecDepth 100000 in
theorem kX6_103 : kV RX6 103 mJ0_charAt_5068e 1 := ⟨gdm (List.mem_of_getElem? (i := 563) (by decide +kernel)) (by decide +kernel), ⟨gdm (List.mem_of_getElem? (i := 564) (by decide +kernel)) (by decide +kernel), gdm (List.mem_of_getElem? (i := 565) (by decide +kernel)) (by decide +kernel)⟩, gdm (List.mem_of_getElem? (i := 133) (by decide +kernel)) (by decide +kernel), gdm (List.mem_of_getElem? (i := 566) (by decide +kernel)) (by decide +kernel), by decide +kernel, by decide +kernel, by decide +kernel⟩
set_option maxRecDepth 100000 in
theorem kJ0_492 : kV RJ0 492 mJ0_isLatin1_aae02 0 := ⟨gdm (List.mem_of_getElem? (i := 567) (by decide +kernel)) (by decide +kernel), ⟨gdm (List.mem_of_getElem? (i := 568) (by decide +kernel)) (by decide +kernel), gdm (List.mem_of_getElem? (i := 569) (by decide +kernel)) (by decide +kernel)⟩, gdm (List.mem_of_getElem? (i := 133) (by decide +kernel)) (by decide +kernel), gdm (List.mem_of_getElem? (i := 570) (by decide +kernel)) (by decide +kernel), by decide +kernel, by decide +kernel, by decide +kernel⟩
set_option maxRecDepth 100000 in
theorem kJ0_495 : kS RJ0 495 mJ1_charAt_3b067 2 := ⟨gdm (List.mem_of_getElem? (i := 573) (by decide +kernel)) (by decide +kernel), gdm (List.mem_of_getElem? (i := 574) (by decide +kernel)) (by decide +kernel), gdm (List.mem_of_getElem? (i := 134) (by decide +kernel)) (by decide +kernel), gdm (List.mem_of_getElem? (i := 575) (by decide +kernel)) (by decide +kernel), by decide +kernel, by decide +kernel, by decide +kernel⟩
set_option maxRecDepth 100000 in
theorem kJ1_9 : kS RJ1 9 mJ0_checkIndex_df160 2 := ⟨gdm (List.mem_of_getElem? (i := 576) (by decide +kernel)) (by decide +kernel), gdm (List.mem_of_getElem? (i := 577) (by decide +kernel)) (by decide +kernel), gdm (List.mem_of_getElem? (i := 133) (by decide +kernel)) (by decide +kernel), gdm (List.mem_of_getElem? (i := 578) (by decide +kernel)) (by decide +kernel), by decide +kernel, by decide +kernel, by decide +kernel⟩
set_option maxRecDepth 100000 in
theorem kJ0_1059 : kS RJ0 1059 mJ3_checkIndex_8e157 3 := ⟨gdm (List.mem_of_getElem? (i := 581) (by decide +kernel)) (by decide +kernel), gdm (List.mem_of_getElem? (i := 582) (by decide +kernel)) (by decide +kernel), gdm (List.mem_of_getElem? (i := 135) (by decide +kernel)) (by decide +kernel), gdm (List.mem_of_getElem? (i := 583) (by decide +kernel)) (by decide +kernel), by decide +kernel, by decide +kernel, by decide +kernel⟩
set_option maxRecDepth 100000 in
theorem kJ0_498 : kS RJ0 498 mJ2_charAt_3b067 2 := ⟨gdm (List.mem_of_getElem? (i := 584) (by decide +kernel)) (by decide +kernel), gdm (List.mem_of_getElem? (i := 585) (by decide +kernel)) (by decide +kernel), gdm (List.mem_of_getElem? (i := 136) (by decide +kernel)) (by decide +kernel), gdm (List.mem_of_getElem? (i := 586) (by decide +kernel)) (by decide +kernel), by decide +kernel, by decide +kernel, by decide +kernel⟩
set_option maxRecDepth 100000 in
theorem kJ2_67 : kS RJ2 67 mJ2_checkIndex_2214a 2 := ⟨gdm (List.mem_of_getElem? (i := 587) (by decide +kernel)) (by decide +kernel), gdm (List.mem_of_getElem? (i := 588) (by decide +kernel)) (by decide +kernel), gdm (List.mem_of_getElem? (i := 136) (by decide +kernel)) (by decide +kernel), gdm (List.mem_of_getElem? (i := 589) (by decide +kernel)) (by decide +kernel), by decide +kernel, by decide +kernel, by decide +kernel⟩
set_option maxRecDepth 100000 in
theorem kJ2_48 : kS RJ2 48 mJ2_length_9d52b 1 := ⟨gdm (List.mem_of_getElem? (i := 590) (by decide +kernel)) (by decide +kernel), gdm (List.mem_of_getElem? (i := 591) (by decide +kernel)) (by decide +kernel), gdm (List.mem_of_getElem? (i := 136) (by decide +kernel)) (by decide +kernel), gdm (List.mem_of_getElem? (i := 592) (by decide +kernel)) (by decide +kernel), by decide +kernel, by decide +kernel, by decide +kernel⟩
set_option maxRecDepth 100000 in
theorem kJ2_414 : kS RJ2 414 mJ0_checkIndex_df160 2 := ⟨gdm (List.mem_of_getElem? (i := 593) (by decide +kernel)) (by decide +kernel), gdm (List.mem_of_getElem? (i := 577) (by decide +kernel)) (by decide +kernel), gdm (List.mem_of_getElem? (i := 133) (by decide +kernel)) (by decide +kernel), gdm (List.mem_of_getElem? (i := 578) (by decide +kernel)) (by decide +kernel), by decide +kernel, by decide +kernel, by decide +kernel⟩
set_option maxRecDepth 100000 in
theorem kJ2_71 : kS RJ2 71 mJ2_getChar_3b067 2 := ⟨gdm (List.mem_of_getElem? (i := 594) (by decide +kernel)) (by decide +kernel), gdm (List.mem_of_getElem? (i := 595) (by decide +kernel)) (by decide +kernel), gdm (List.mem_of_getElem? (i := 136) (by decide +kernel)) (by decide +kernel), gdm (List.mem_of_getElem? (i := 596) (by decide +kernel)) (by decide +kernel), by decide +kernel, by decide +kernel, by decide +kernel⟩
set_option maxRecDepth 100000 in
theorem kX6_68 : kV RX6 68 mX6_fail 2 := ⟨gdm (List.mem_of_getElem? (i := 603) (by decide +kernel)) (by decide +kernel), ⟨gdm (List.mem_of_getElem? (i := 605) (by decide +kernel)) (by decide +kernel), gdm (List.mem_of_getElem? (i := 3) (by decide +kernel)) (by decide +kernel)⟩, gdm (List.mem_of_getElem? (i := 122) (by decide +kernel)) (by decide +kernel), gdm (List.mem_of_getElem? (i := 606) (by decide +kernel)) (by decide +kernel), by decide +kernel, by decide +kernel, by decide +kernel⟩
set_option maxRecDepth 100000 in
theorem kX6_93 : kV RX6 93 mX6_readNumber 2 := ⟨gdm (List.mem_of_getElem? (i := 607) (by decide +kernel)) (by decide +kernel), ⟨gdm (List.mem_of_getElem? (i := 609) (by decide +kernel)) (by decide +kernel), gdm (List.mem_of_getElem? (i := 4) (by decide +kernel)) (by decide +kernel)⟩, gdm (List.mem_of_getElem? (i := 122) (by decide +kernel)) (by decide +kernel), gdm (List.mem_of_getElem? (i := 610) (by decide +kernel)) (by decide +kernel), by decide +kernel, by decide +kernel, by decide +kernel⟩
set_option maxRecDepth 100000 in
theorem kX6_97 : kV RX6 97 mX6_tell 3 := ⟨gdm (List.mem_of_getElem? (i := 615) (by decide +kernel)) (by decide +kernel), ⟨gdm (List.mem_of_getElem? (i := 617) (by decide +kernel)) (by decide +kernel), gdm (List.mem_of_getElem? (i := 5) (by decide +kernel)) (by decide +kernel)⟩, gdm (List.mem_of_getElem? (i := 122) (by decide +kernel)) (by decide +kernel), gdm (List.mem_of_getElem? (i := 618) (by decide +kernel)) (by decide +kernel), by decide +kernel, by decide +kernel, by decide +kernel⟩
set_option maxRecDepth 100000 in
theorem kX6_115 : kS RX6 115 mX4_both 2 := ⟨gdm (List.mem_of_getElem? (i := 619) (by decide +kernel)) (by decide +kernel), gdm (List.mem_of_getElem? (i := 620) (by decide +kernel)) (by decide +kernel), gdm (List.mem_of_getElem? (i := 137) (by decide +kernel)) (by decide +kernel), gdm (List.mem_of_getElem? (i := 621) (by decide +kernel)) (by decide +kernel), by decide +kernel, by decide +kernel, by decide +kernel⟩
set_option maxRecDepth 100000 in
theorem kL_25 : kV RL 25 mX11_fault 1 := ⟨gdm (List.mem_of_getElem? (i := 622) (by decide +kernel)) (by decide +kernel), ⟨gdm (List.mem_of_getElem? (i := 623) (by decide +kernel)) (by decide +kernel), gdm (List.mem_of_getElem? (i := 624) (by decide +kernel)) (by decide +kernel)⟩, gdm (List.mem_of_getElem? (i := 120) (by decide +kernel)) (by decide +kernel), gdm (List.mem_of_getElem? (i := 625) (by decide +kernel)) (by decide +kernel), by decide +kernel, by decide +kernel, by decide +kernel⟩
set_option maxRecDepth 100000 in
theorem kL_30 : kV RL 30 mX11_send 2 := ⟨gdm (List.mem_of_getElem? (i := 626) (by decide +kernel)) (by decide +kernel), ⟨gdm (List.mem_of_getElem? (i := 627) (by decide +kernel)) (by decide +kernel), gdm (List.mem_of_getElem? (i := 628) (by decide +kernel)) (by decide +kernel)⟩, gdm (List.mem_of_getElem? (i := 120) (by decide +kernel)) (by decide +kernel), gdm (List.mem_of_getElem? (i := 629) (by decide +kernel)) (by decide +kernel), by decide +kernel, by decide +kernel, by decide +kernel⟩
set_option maxRecDepth 100000 in
theorem kX11_72 : kV RX11 72 mX10_bring 2 := ⟨gdm (List.mem_of_getElem? (i := 630) (by decide +kernel)) (by decide +kernel), ⟨gdm (List.mem_of_getElem? (i := 631) (by decide +kernel)) (by decide +kernel), gdm (List.mem_of_getElem? (i := 632) (by decide +kernel)) (by decide +kernel)⟩, gdm (List.mem_of_getElem? (i := 123) (by decide +kernel)) (by decide +kernel), gdm (List.mem_of_getElem? (i := 633) (by decide +kernel)) (by decide +kernel), by decide +kernel, by decide +kernel, by decide +kernel⟩
set_option maxRecDepth 100000 in
theorem kX10_98 : kV RX10 98 mX10_areTwo 2 := ⟨gdm (List.mem_of_getElem? (i := 634) (by decide +kernel)) (by decide +kernel), ⟨gdm (List.mem_of_getElem? (i := 635) (by decide +kernel)) (by decide +kernel), gdm (List.mem_of_getElem? (i := 636) (by decide +kernel)) (by decide +kernel)⟩, gdm (List.mem_of_getElem? (i := 123) (by decide +kernel)) (by decide +kernel), gdm (List.mem_of_getElem? (i := 637) (by decide +kernel)) (by decide +kernel), by decide +kernel, by decide +kernel, by decide +kernel⟩
set_option maxRecDepth 100000 in
theorem kX10_94 : kV RX10 94 mX10_isNode 1 := ⟨gdm (List.mem_of_getElem? (i := 638) (by decide +kernel)) (by decide +kernel), ⟨gdm (List.mem_of_getElem? (i := 639) (by decide +kernel)) (by decide +kernel), gdm (List.mem_of_getElem? (i := 640) (by decide +kernel)) (by decide +kernel)⟩, gdm (List.mem_of_getElem? (i := 123) (by decide +kernel)) (by decide +kernel), gdm (List.mem_of_getElem? (i := 641) (by decide +kernel)) (by decide +kernel), by decide +kernel, by decide +kernel, by decide +kernel⟩
set_option maxRecDepth 100000 in
theorem kX10_155 : kV RX10 155 mX10_datum 1 := ⟨gdm (List.mem_of_getElem? (i := 642) (by decide +kernel)) (by decide +kernel), ⟨gdm (List.mem_of_getElem? (i := 643) (by decide +kernel)) (by decide +kernel), gdm (List.mem_of_getElem? (i := 644) (by decide +kernel)) (by decide +kernel)⟩, gdm (List.mem_of_getElem? (i := 123) (by decide +kernel)) (by decide +kernel), gdm (List.mem_of_getElem? (i := 645) (by decide +kernel)) (by decide +kernel), by decide +kernel, by decide +kernel, by decide +kernel⟩
set_option maxRecDepth 100000 in
theorem kX10_194 : kV RX10 194 mX2_begin 3 := ⟨gdm (List.mem_of_getElem? (i := 646) (by decide +kernel)) (by decide +kernel), ⟨gdm (List.mem_of_getElem? (i := 647) (by decide +kernel)) (by decide +kernel), gdm (List.mem_of_getElem? (i := 648) (by decide +kernel)) (by decide +kernel)⟩, gdm (List.mem_of_getElem? (i := 130) (by decide +kernel)) (by decide +kernel), gdm (List.mem_of_getElem? (i := 649) (by decide +kernel)) (by decide +kernel), by decide +kernel, by decide +kernel, by decide +kernel⟩
set_option maxRecDepth 100000 in
theorem kX2_33 : kS RX2 33 mX8_with 2 := ⟨gdm (List.mem_of_getElem? (i := 650) (by decide +kernel)) (by decide +kernel), gdm (List.mem_of_getElem? (i := 651) (by decide +kernel)) (by decide +kernel), gdm (List.mem_of_getElem? (i := 138) (by decide +kernel)) (by decide +kernel), gdm (List.mem_of_getElem? (i := 652) (by decide +kernel)) (by decide +kernel), by decide +kernel, by decide +kernel, by decide +kernel⟩
set_option maxRecDepth 100000 in
theorem kX8_17 : kS RX8 17 mX8_length 1 := ⟨gdm (List.mem_of_getElem? (i := 653) (by decide +kernel)) (by decide +kernel), gdm (List.mem_of_getElem? (i := 654) (by decide +kernel)) (by decide +kernel), gdm (List.mem_of_getElem? (i := 138) (by decide +kernel)) (by decide +kernel), gdm (List.mem_of_getElem? (i := 655) (by decide +kernel)) (by decide +kernel), by decide +kernel, by decide +kernel, by decide +kernel⟩
set_option maxRecDepth 100000 in
theorem kX10_197 : kV RX10 197 mX10_serve 1 := ⟨gdm (List.mem_of_getElem? (i := 656) (by decide +kernel)) (by decide +kernel), ⟨gdm (List.mem_of_getElem? (i := 658) (by decide +kernel)) (by decide +kernel), gdm (List.mem_of_getElem? (i := 6) (by decide +kernel)) (by decide +kernel)⟩, gdm (List.mem_of_getElem? (i := 123) (by decide +kernel)) (by decide +kernel), gdm (List.mem_of_getElem? (i := 659) (by decide +kernel)) (by decide +kernel), by decide +kernel, by decide +kernel, by decide +kernel⟩
set_option maxRecDepth 100000 in
theorem kX10_102 : kV RX10 102 mX10_post 1 := ⟨gdm (List.mem_of_getElem? (i := 660) (by decide +kernel)) (by decide +kernel), ⟨gdm (List.mem_of_getElem? (i := 661) (by decide +kernel)) (by decide +kernel), gdm (List.mem_of_getElem? (i := 662) (by decide +kernel)) (by decide +kernel)⟩, gdm (List.mem_of_getElem? (i := 123) (by decide +kernel)) (by decide +kernel), gdm (List.mem_of_getElem? (i := 663) (by decide +kernel)) (by decide +kernel), by decide +kernel, by decide +kernel, by decide +kernel⟩
set_option maxRecDepth 100000 in
theorem kX10_106 : kV RX10 106 mX1_wayTo 1 := ⟨gdm (List.mem_of_getElem? (i := 664) (by decide +kernel)) (by decide +kernel), ⟨gdm (List.mem_of_getElem? (i := 665) (by decide +kernel)) (by decide +kernel), gdm (List.mem_of_getElem? (i := 666) (by decide +kernel)) (by decide +kernel)⟩, gdm (List.mem_of_getElem? (i := 129) (by decide +kernel)) (by decide +kernel), gdm (List.mem_of_getElem? (i := 667) (by decide +kernel)) (by decide +kernel), by decide +kernel, by decide +kernel, by decide +kernel⟩
set_option maxRecDepth 100000 in
theorem kX1_83 : kV RX1 83 mX1_links 0 := ⟨gdm (List.mem_of_getElem? (i := 668) (by decide +kernel)) (by decide +kernel), ⟨gdm (List.mem_of_getElem? (i := 669) (by decide +kernel)) (by decide +kernel), gdm (List.mem_of_getElem? (i := 670) (by decide +kernel)) (by decide +kernel)⟩, gdm (List.mem_of_getElem? (i := 129) (by decide +kernel)) (by decide +kernel), gdm (List.mem_of_getElem? (i := 671) (by decide +kernel)) (by decide +kernel), by decide +kernel, by decide +kernel, by decide +kernel⟩
set_option maxRecDepth 100000 in
theorem kX1_93 : kV RX1 93 mX7_get 1 := ⟨gdm (List.mem_of_getElem? (i := 672) (by decide +kernel)) (by decide +kernel), ⟨gdm (List.mem_of_getElem? (i := 673) (by decide +kernel)) (by decide +kernel), gdm (List.mem_of_getElem? (i := 674) (by decide +kernel)) (by decide +kernel)⟩, gdm (List.mem_of_getElem? (i := 127) (by decide +kernel)) (by decide +kernel), gdm (List.mem_of_getElem? (i := 675) (by decide +kernel)) (by decide +kernel), by decide +kernel, by decide +kernel, by decide +kernel⟩
set_option maxRecDepth 100000 in
theorem kX1_97 : kS RX1 97 mX4_along 1 := ⟨gdm (List.mem_of_getElem? (i := 676) (by decide +kernel)) (by decide +kernel), gdm (List.mem_of_getElem? (i := 677) (by decide +kernel)) (by decide +kernel), gdm (List.mem_of_getElem? (i := 137) (by decide +kernel)) (by decide +kernel), gdm (List.mem_of_getElem? (i := 678) (by decide +kernel)) (by decide +kernel), by decide +kernel, by decide +kernel, by decide +kernel⟩
set_option maxRecDepth 100000 in
theorem kX4_30 : kS RX4 30 mX8_at 2 := ⟨gdm (List.mem_of_getElem? (i := 679) (by decide +kernel)) (by decide +kernel), gdm (List.mem_of_getElem? (i := 680) (by decide +kernel)) (by decide +kernel), gdm (List.mem_of_getElem? (i := 138) (by decide +kernel)) (by decide +kernel), gdm (List.mem_of_getElem? (i := 681) (by decide +kernel)) (by decide +kernel), by decide +kernel, by decide +kernel, by decide +kernel⟩
set_option maxRecDepth 100000 in
theorem kX4_9 : kS RX4 9 mX4_both 2 := ⟨gdm (List.mem_of_getElem? (i := 683) (by decide +kernel)) (by decide +kernel), gdm (List.mem_of_getElem? (i := 620) (by decide +kernel)) (by decide +kernel), gdm (List.mem_of_getElem? (i := 137) (by decide +kernel)) (by decide +kernel), gdm (List.mem_of_getElem? (i := 621) (by decide +kernel)) (by decide +kernel), by decide +kernel, by decide +kernel, by decide +kernel⟩
set_option maxRecDepth 100000 in
theorem kX1_87 : kS RX1 87 mX4_leastRow 4 := ⟨gdm (List.mem_of_getElem? (i := 684) (by decide +kernel)) (by decide +kernel), gdm (List.mem_of_getElem? (i := 685) (by decide +kernel)) (by decide +kernel), gdm (List.mem_of_getElem? (i := 137) (by decide +kernel)) (by decide +kernel), gdm (List.mem_of_getElem? (i := 686) (by decide +kernel)) (by decide +kernel), by decide +kernel, by decide +kernel, by decide +kernel⟩
set_option maxRecDepth 100000 in
theorem kX4_36 : kS RX4 36 mX4_levels 2 := ⟨gdm (List.mem_of_getElem? (i := 687) (by decide +kernel)) (by decide +kernel), gdm (List.mem_of_getElem? (i := 688) (by decide +kernel)) (by decide +kernel), gdm (List.mem_of_getElem? (i := 137) (by decide +kernel)) (by decide +kernel), gdm (List.mem_of_getElem? (i := 689) (by decide +kernel)) (by decide +kernel), by decide +kernel, by decide +kernel, by decide +kernel⟩
set_option maxRecDepth 100000 in
theorem kX4_40 : kS RX4 40 mX4_levelOf 2 := ⟨gdm (List.mem_of_getElem? (i := 690) (by decide +kernel)) (by decide +kernel), gdm (List.mem_of_getElem? (i := 691) (by decide +kernel)) (by decide +kernel), gdm (List.mem_of_getElem? (i := 137) (by decide +kernel)) (by decide +kernel), gdm (List.mem_of_getElem? (i := 692) (by decide +kernel)) (by decide +kernel), by decide +kernel, by decide +kernel, by decide +kernel⟩
set_option maxRecDepth 100000 in
theorem kX4_43 : kS RX4 43 mX4_near 2 := ⟨gdm (List.mem_of_getElem? (i := 693) (by decide +kernel)) (by decide +kernel), gdm (List.mem_of_getElem? (i := 694) (by decide +kernel)) (by decide +kernel), gdm (List.mem_of_getElem? (i := 137) (by decide +kernel)) (by decide +kernel), gdm (List.mem_of_getElem? (i := 695) (by decide +kernel)) (by decide +kernel), by decide +kernel, by decide +kernel, by decide +kernel⟩
set_option maxRecDepth 100000 in
theorem kX4_46 : kS RX4 46 mJ6_bitCount_0f7a4 1 := ⟨gdm (List.mem_of_getElem? (i := 696) (by decide +kernel)) (by decide +kernel), gdm (List.mem_of_getElem? (i := 697) (by decide +kernel)) (by decide +kernel), gdm (List.mem_of_getElem? (i := 139) (by decide +kernel)) (by decide +kernel), gdm (List.mem_of_getElem? (i := 698) (by decide +kernel)) (by decide +kernel), by decide +kernel, by decide +kernel, by decide +kernel⟩
set_option maxRecDepth 100000 in
theorem kX4_51 : kS RX4 51 mX8_with 2 := ⟨gdm (List.mem_of_getElem? (i := 702) (by decide +kernel)) (by decide +kernel), gdm (List.mem_of_getElem? (i := 651) (by decide +kernel)) (by decide +kernel), gdm (List.mem_of_getElem? (i := 138) (by decide +kernel)) (by decide +kernel), gdm (List.mem_of_getElem? (i := 652) (by decide +kernel)) (by decide +kernel), by decide +kernel, by decide +kernel, by decide +kernel⟩
set_option maxRecDepth 100000 in
theorem kX1_76 : kS RX1 76 mX8_indexOf 2 := ⟨gdm (List.mem_of_getElem? (i := 703) (by decide +kernel)) (by decide +kernel), gdm (List.mem_of_getElem? (i := 704) (by decide +kernel)) (by decide +kernel), gdm (List.mem_of_getElem? (i := 138) (by decide +kernel)) (by decide +kernel), gdm (List.mem_of_getElem? (i := 705) (by decide +kernel)) (by decide +kernel), by decide +kernel, by decide +kernel, by decide +kernel⟩
set_option maxRecDepth 100000 in
theorem kX1_37 : kS RX1 37 mX8_first 2 := ⟨gdm (List.mem_of_getElem? (i := 706) (by decide +kernel)) (by decide +kernel), gdm (List.mem_of_getElem? (i := 707) (by decide +kernel)) (by decide +kernel), gdm (List.mem_of_getElem? (i := 138) (by decide +kernel)) (by decide +kernel), gdm (List.mem_of_getElem? (i := 708) (by decide +kernel)) (by decide +kernel), by decide +kernel, by decide +kernel, by decide +kernel⟩
set_option maxRecDepth 100000 in
theorem kX10_270 : kV RX10 270 mX10_emitData 2 := ⟨gdm (List.mem_of_getElem? (i := 709) (by decide +kernel)) (by decide +kernel), ⟨gdm (List.mem_of_getElem? (i := 711) (by decide +kernel)) (by decide +kernel), gdm (List.mem_of_getElem? (i := 7) (by decide +kernel)) (by decide +kernel)⟩, gdm (List.mem_of_getElem? (i := 123) (by decide +kernel)) (by decide +kernel), gdm (List.mem_of_getElem? (i := 712) (by decide +kernel)) (by decide +kernel), by decide +kernel, by decide +kernel, by decide +kernel⟩
set_option maxRecDepth 100000 in
theorem kX10_262 : kV RX10 262 mX2_stand 2 := ⟨gdm (List.mem_of_getElem? (i := 713) (by decide +kernel)) (by decide +kernel), ⟨gdm (List.mem_of_getElem? (i := 714) (by decide +kernel)) (by decide +kernel), gdm (List.mem_of_getElem? (i := 715) (by decide +kernel)) (by decide +kernel)⟩, gdm (List.mem_of_getElem? (i := 130) (by decide +kernel)) (by decide +kernel), gdm (List.mem_of_getElem? (i := 716) (by decide +kernel)) (by decide +kernel), by decide +kernel, by decide +kernel, by decide +kernel⟩
set_option maxRecDepth 100000 in
theorem kX10_259 : kS RX10 259 mX8_at 2 := ⟨gdm (List.mem_of_getElem? (i := 717) (by decide +kernel)) (by decide +kernel), gdm (List.mem_of_getElem? (i := 680) (by decide +kernel)) (by decide +kernel), gdm (List.mem_of_getElem? (i := 138) (by decide +kernel)) (by decide +kernel), gdm (List.mem_of_getElem? (i := 681) (by decide +kernel)) (by decide +kernel), by decide +kernel, by decide +kernel, by decide +kernel⟩
set_option maxRecDepth 100000 in
theorem kX10_250 : kV RX10 250 mX10_emit 5 := ⟨gdm (List.mem_of_getElem? (i := 718) (by decide +kernel)) (by decide +kernel), ⟨gdm (List.mem_of_getElem? (i := 720) (by decide +kernel)) (by decide +kernel), gdm (List.mem_of_getElem? (i := 8) (by decide +kernel)) (by decide +kernel)⟩, gdm (List.mem_of_getElem? (i := 123) (by decide +kernel)) (by decide +kernel), gdm (List.mem_of_getElem? (i := 721) (by decide +kernel)) (by decide +kernel), by decide +kernel, by decide +kernel, by decide +kernel⟩
set_option maxRecDepth 100000 in
theorem kX10_244 : kV RX10 244 mX0_add 0 := ⟨gdm (List.mem_of_getElem? (i := 722) (by decide +kernel)) (by decide +kernel), ⟨gdm (List.mem_of_getElem? (i := 723) (by decide +kernel)) (by decide +kernel), gdm (List.mem_of_getElem? (i := 724) (by decide +kernel)) (by decide +kernel)⟩, gdm (List.mem_of_getElem? (i := 124) (by decide +kernel)) (by decide +kernel), gdm (List.mem_of_getElem? (i := 725) (by decide +kernel)) (by decide +kernel), by decide +kernel, by decide +kernel, by decide +kernel⟩
set_option maxRecDepth 100000 in
theorem kX10_247 : kV RX10 247 mX3_begin 5 := ⟨gdm (List.mem_of_getElem? (i := 726) (by decide +kernel)) (by decide +kernel), ⟨gdm (List.mem_of_getElem? (i := 727) (by decide +kernel)) (by decide +kernel), gdm (List.mem_of_getElem? (i := 728) (by decide +kernel)) (by decide +kernel)⟩, gdm (List.mem_of_getElem? (i := 125) (by decide +kernel)) (by decide +kernel), gdm (List.mem_of_getElem? (i := 729) (by decide +kernel)) (by decide +kernel), by decide +kernel, by decide +kernel, by decide +kernel⟩
set_option maxRecDepth 100000 in
theorem kX10_266 : kV RX10 266 mX10_finish 3 := ⟨gdm (List.mem_of_getElem? (i := 730) (by decide +kernel)) (by decide +kernel), ⟨gdm (List.mem_of_getElem? (i := 732) (by decide +kernel)) (by decide +kernel), gdm (List.mem_of_getElem? (i := 9) (by decide +kernel)) (by decide +kernel)⟩, gdm (List.mem_of_getElem? (i := 123) (by decide +kernel)) (by decide +kernel), gdm (List.mem_of_getElem? (i := 733) (by decide +kernel)) (by decide +kernel), by decide +kernel, by decide +kernel, by decide +kernel⟩
set_option maxRecDepth 100000 in
theorem kX10_280 : kV RX10 280 mX10_ask 2 := ⟨gdm (List.mem_of_getElem? (i := 734) (by decide +kernel)) (by decide +kernel), ⟨gdm (List.mem_of_getElem? (i := 735) (by decide +kernel)) (by decide +kernel), gdm (List.mem_of_getElem? (i := 736) (by decide +kernel)) (by decide +kernel)⟩, gdm (List.mem_of_getElem? (i := 123) (by decide +kernel)) (by decide +kernel), gdm (List.mem_of_getElem? (i := 737) (by decide +kernel)) (by decide +kernel), by decide +kernel, by decide +kernel, by decide +kernel⟩
set_option maxRecDepth 100000 in
theorem kX10_287 : kS RX10 287 mX8_with 2 := ⟨gdm (List.mem_of_getElem? (i := 738) (by decide +kernel)) (by decide +kernel), gdm (List.mem_of_getElem? (i := 651) (by decide +kernel)) (by decide +kernel), gdm (List.mem_of_getElem? (i := 138) (by decide +kernel)) (by decide +kernel), gdm (List.mem_of_getElem? (i := 652) (by decide +kernel)) (by decide +kernel), by decide +kernel, by decide +kernel, by decide +kernel⟩
set_option maxRecDepth 100000 in
theorem kX10_291 : kV RX10 291 mX10_emitRequest 5 := ⟨gdm (List.mem_of_getElem? (i := 739) (by decide +kernel)) (by decide +kernel), ⟨gdm (List.mem_of_getElem? (i := 741) (by decide +kernel)) (by decide +kernel), gdm (List.mem_of_getElem? (i := 10) (by decide +kernel)) (by decide +kernel)⟩, gdm (List.mem_of_getElem? (i := 123) (by decide +kernel)) (by decide +kernel), gdm (List.mem_of_getElem? (i := 742) (by decide +kernel)) (by decide +kernel), by decide +kernel, by decide +kernel, by decide +kernel⟩
set_option maxRecDepth 100000 in
theorem kL_35 : kV RL 35 mX11_turn 3 := ⟨gdm (List.mem_of_getElem? (i := 743) (by decide +kernel)) (by decide +kernel), ⟨gdm (List.mem_of_getElem? (i := 744) (by decide +kernel)) (by decide +kernel), gdm (List.mem_of_getElem? (i := 745) (by decide +kernel)) (by decide +kernel)⟩, gdm (List.mem_of_getElem? (i := 120) (by decide +kernel)) (by decide +kernel), gdm (List.mem_of_getElem? (i := 746) (by decide +kernel)) (by decide +kernel), by decide +kernel, by decide +kernel, by decide +kernel⟩
set_option maxRecDepth 100000 in
theorem kX11_76 : kV RX11 76 mX10_areTwo 2 := ⟨gdm (List.mem_of_getElem? (i := 747) (by decide +kernel)) (by decide +kernel), ⟨gdm (List.mem_of_getElem? (i := 635) (by decide +kernel)) (by decide +kernel), gdm (List.mem_of_getElem? (i := 636) (by decide +kernel)) (by decide +kernel)⟩, gdm (List.mem_of_getElem? (i := 123) (by decide +kernel)) (by decide +kernel), gdm (List.mem_of_getElem? (i := 637) (by decide +kernel)) (by decide +kernel), by decide +kernel, by decide +kernel, by decide +kernel⟩
set_option maxRecDepth 100000 in
theorem kX11_84 : kS RX11 84 mX4_hold 3 := ⟨gdm (List.mem_of_getElem? (i := 748) (by decide +kernel)) (by decide +kernel), gdm (List.mem_of_getElem? (i := 749) (by decide +kernel)) (by decide +kernel), gdm (List.mem_of_getElem? (i := 137) (by decide +kernel)) (by decide +kernel), gdm (List.mem_of_getElem? (i := 750) (by decide +kernel)) (by decide +kernel), by decide +kernel, by decide +kernel, by decide +kernel⟩
set_option maxRecDepth 100000 in
theorem kX11_90 : kS RX11 90 mX4_both 2 := ⟨gdm (List.mem_of_getElem? (i := 751) (by decide +kernel)) (by decide +kernel), gdm (List.mem_of_getElem? (i := 620) (by decide +kernel)) (by decide +kernel), gdm (List.mem_of_getElem? (i := 137) (by decide +kernel)) (by decide +kernel), gdm (List.mem_of_getElem? (i := 621) (by decide +kernel)) (by decide +kernel), by decide +kernel, by decide +kernel, by decide +kernel⟩
set_option maxRecDepth 100000 in
theorem kL_40 : kV RL 40 mX11_ticks 1 := ⟨gdm (List.mem_of_getElem? (i := 752) (by decide +kernel)) (by decide +kernel), ⟨gdm (List.mem_of_getElem? (i := 753) (by decide +kernel)) (by decide +kernel), gdm (List.mem_of_getElem? (i := 754) (by decide +kernel)) (by decide +kernel)⟩, gdm (List.mem_of_getElem? (i := 120) (by decide +kernel)) (by decide +kernel), gdm (List.mem_of_getElem? (i := 755) (by decide +kernel)) (by decide +kernel), by decide +kernel, by decide +kernel, by decide +kernel⟩
set_option maxRecDepth 100000 in
theorem kX11_97 : kV RX11 97 mX10_tick 1 := ⟨gdm (List.mem_of_getElem? (i := 756) (by decide +kernel)) (by decide +kernel), ⟨gdm (List.mem_of_getElem? (i := 757) (by decide +kernel)) (by decide +kernel), gdm (List.mem_of_getElem? (i := 758) (by decide +kernel)) (by decide +kernel)⟩, gdm (List.mem_of_getElem? (i := 123) (by decide +kernel)) (by decide +kernel), gdm (List.mem_of_getElem? (i := 759) (by decide +kernel)) (by decide +kernel), by decide +kernel, by decide +kernel, by decide +kernel⟩
set_option maxRecDepth 100000 in
theorem kX10_203 : kV RX10 203 mX0_take 0 := ⟨gdm (List.mem_of_getElem? (i := 760) (by decide +kernel)) (by decide +kernel), ⟨gdm (List.mem_of_getElem? (i := 761) (by decide +kernel)) (by decide +kernel), gdm (List.mem_of_getElem? (i := 762) (by decide +kernel)) (by decide +kernel)⟩, gdm (List.mem_of_getElem? (i := 124) (by decide +kernel)) (by decide +kernel), gdm (List.mem_of_getElem? (i := 763) (by decide +kernel)) (by decide +kernel), by decide +kernel, by decide +kernel, by decide +kernel⟩
set_option maxRecDepth 100000 in
theorem kX10_212 : kV RX10 212 mX10_requestArrives 1 := ⟨gdm (List.mem_of_getElem? (i := 764) (by decide +kernel)) (by decide +kernel), ⟨gdm (List.mem_of_getElem? (i := 766) (by decide +kernel)) (by decide +kernel), gdm (List.mem_of_getElem? (i := 11) (by decide +kernel)) (by decide +kernel)⟩, gdm (List.mem_of_getElem? (i := 123) (by decide +kernel)) (by decide +kernel), gdm (List.mem_of_getElem? (i := 767) (by decide +kernel)) (by decide +kernel), by decide +kernel, by decide +kernel, by decide +kernel⟩
set_option maxRecDepth 100000 in
theorem kX10_222 : kS RX10 222 mX4_hold 3 := ⟨gdm (List.mem_of_getElem? (i := 768) (by decide +kernel)) (by decide +kernel), gdm (List.mem_of_getElem? (i := 749) (by decide +kernel)) (by decide +kernel), gdm (List.mem_of_getElem? (i := 137) (by decide +kernel)) (by decide +kernel), gdm (List.mem_of_getElem? (i := 750) (by decide +kernel)) (by decide +kernel), by decide +kernel, by decide +kernel, by decide +kernel⟩
set_option maxRecDepth 100000 in
theorem kX10_298 : kV RX10 298 mX1_forget 1 := ⟨gdm (List.mem_of_getElem? (i := 769) (by decide +kernel)) (by decide +kernel), ⟨gdm (List.mem_of_getElem? (i := 770) (by decide +kernel)) (by decide +kernel), gdm (List.mem_of_getElem? (i := 771) (by decide +kernel)) (by decide +kernel)⟩, gdm (List.mem_of_getElem? (i := 129) (by decide +kernel)) (by decide +kernel), gdm (List.mem_of_getElem? (i := 772) (by decide +kernel)) (by decide +kernel), by decide +kernel, by decide +kernel, by decide +kernel⟩
set_option maxRecDepth 100000 in
theorem kX1_68 : kS RX1 68 mX1_cut 3 := ⟨gdm (List.mem_of_getElem? (i := 773) (by decide +kernel)) (by decide +kernel), gdm (List.mem_of_getElem? (i := 774) (by decide +kernel)) (by decide +kernel), gdm (List.mem_of_getElem? (i := 129) (by decide +kernel)) (by decide +kernel), gdm (List.mem_of_getElem? (i := 775) (by decide +kernel)) (by decide +kernel), by decide +kernel, by decide +kernel, by decide +kernel⟩
set_option maxRecDepth 100000 in
theorem kX1_79 : kS RX1 79 mJ9_abs_0f7a4 1 := ⟨gdm (List.mem_of_getElem? (i := 776) (by decide +kernel)) (by decide +kernel), gdm (List.mem_of_getElem? (i := 777) (by decide +kernel)) (by decide +kernel), gdm (List.mem_of_getElem? (i := 128) (by decide +kernel)) (by decide +kernel), gdm (List.mem_of_getElem? (i := 778) (by decide +kernel)) (by decide +kernel), by decide +kernel, by decide +kernel, by decide +kernel⟩
set_option maxRecDepth 100000 in
theorem kX1_61 : kS RX1 61 mJ9_max_7cf53 2 := ⟨gdm (List.mem_of_getElem? (i := 779) (by decide +kernel)) (by decide +kernel), gdm (List.mem_of_getElem? (i := 309) (by decide +kernel)) (by decide +kernel), gdm (List.mem_of_getElem? (i := 128) (by decide +kernel)) (by decide +kernel), gdm (List.mem_of_getElem? (i := 310) (by decide +kernel)) (by decide +kernel), by decide +kernel, by decide +kernel, by decide +kernel⟩
set_option maxRecDepth 100000 in
theorem kX1_43 : kS RX1 43 mX8_length 1 := ⟨gdm (List.mem_of_getElem? (i := 780) (by decide +kernel)) (by decide +kernel), gdm (List.mem_of_getElem? (i := 654) (by decide +kernel)) (by decide +kernel), gdm (List.mem_of_getElem? (i := 138) (by decide +kernel)) (by decide +kernel), gdm (List.mem_of_getElem? (i := 655) (by decide +kernel)) (by decide +kernel), by decide +kernel, by decide +kernel, by decide +kernel⟩
set_option maxRecDepth 100000 in
theorem kX1_72 : kV RX1 72 mX7_holds 1 := ⟨gdm (List.mem_of_getElem? (i := 781) (by decide +kernel)) (by decide +kernel), ⟨gdm (List.mem_of_getElem? (i := 782) (by decide +kernel)) (by decide +kernel), gdm (List.mem_of_getElem? (i := 783) (by decide +kernel)) (by decide +kernel)⟩, gdm (List.mem_of_getElem? (i := 127) (by decide +kernel)) (by decide +kernel), gdm (List.mem_of_getElem? (i := 784) (by decide +kernel)) (by decide +kernel), by decide +kernel, by decide +kernel, by decide +kernel⟩
set_option maxRecDepth 100000 in
theorem kX7_23 : kV RX7 23 mX7_indexOf 1 := ⟨gdm (List.mem_of_getElem? (i := 785) (by decide +kernel)) (by decide +kernel), ⟨gdm (List.mem_of_getElem? (i := 787) (by decide +kernel)) (by decide +kernel), gdm (List.mem_of_getElem? (i := 12) (by decide +kernel)) (by decide +kernel)⟩, gdm (List.mem_of_getElem? (i := 127) (by decide +kernel)) (by decide +kernel), gdm (List.mem_of_getElem? (i := 788) (by decide +kernel)) (by decide +kernel), by decide +kernel, by decide +kernel, by decide +kernel⟩
set_option maxRecDepth 100000 in
theorem kX10_345 : kV RX10 345 mX10_isNew 2 := ⟨gdm (List.mem_of_getElem? (i := 789) (by decide +kernel)) (by decide +kernel), ⟨gdm (List.mem_of_getElem? (i := 791) (by decide +kernel)) (by decide +kernel), gdm (List.mem_of_getElem? (i := 13) (by decide +kernel)) (by decide +kernel)⟩, gdm (List.mem_of_getElem? (i := 123) (by decide +kernel)) (by decide +kernel), gdm (List.mem_of_getElem? (i := 792) (by decide +kernel)) (by decide +kernel), by decide +kernel, by decide +kernel, by decide +kernel⟩
set_option maxRecDepth 100000 in
theorem kX10_323 : kS RX10 323 mX8_holds 2 := ⟨gdm (List.mem_of_getElem? (i := 794) (by decide +kernel)) (by decide +kernel), gdm (List.mem_of_getElem? (i := 795) (by decide +kernel)) (by decide +kernel), gdm (List.mem_of_getElem? (i := 138) (by decide +kernel)) (by decide +kernel), gdm (List.mem_of_getElem? (i := 796) (by decide +kernel)) (by decide +kernel), by decide +kernel, by decide +kernel, by decide +kernel⟩
set_option maxRecDepth 100000 in
theorem kX8_11 : kS RX8 11 mX8_indexOf 2 := ⟨gdm (List.mem_of_getElem? (i := 797) (by decide +kernel)) (by decide +kernel), gdm (List.mem_of_getElem? (i := 704) (by decide +kernel)) (by decide +kernel), gdm (List.mem_of_getElem? (i := 138) (by decide +kernel)) (by decide +kernel), gdm (List.mem_of_getElem? (i := 705) (by decide +kernel)) (by decide +kernel), by decide +kernel, by decide +kernel, by decide +kernel⟩
set_option maxRecDepth 100000 in
theorem kX10_355 : kV RX10 355 mX7_holds 1 := ⟨gdm (List.mem_of_getElem? (i := 798) (by decide +kernel)) (by decide +kernel), ⟨gdm (List.mem_of_getElem? (i := 782) (by decide +kernel)) (by decide +kernel), gdm (List.mem_of_getElem? (i := 783) (by decide +kernel)) (by decide +kernel)⟩, gdm (List.mem_of_getElem? (i := 127) (by decide +kernel)) (by decide +kernel), gdm (List.mem_of_getElem? (i := 784) (by decide +kernel)) (by decide +kernel), by decide +kernel, by decide +kernel, by decide +kernel⟩
set_option maxRecDepth 100000 in
theorem kX10_358 : kV RX10 358 mX7_touch 2 := ⟨gdm (List.mem_of_getElem? (i := 799) (by decide +kernel)) (by decide +kernel), ⟨gdm (List.mem_of_getElem? (i := 800) (by decide +kernel)) (by decide +kernel), gdm (List.mem_of_getElem? (i := 801) (by decide +kernel)) (by decide +kernel)⟩, gdm (List.mem_of_getElem? (i := 127) (by decide +kernel)) (by decide +kernel), gdm (List.mem_of_getElem? (i := 802) (by decide +kernel)) (by decide +kernel), by decide +kernel, by decide +kernel, by decide +kernel⟩
set_option maxRecDepth 100000 in
theorem kX7_27 : kS RX7 27 mJ9_min_7cf53 2 := ⟨gdm (List.mem_of_getElem? (i := 803) (by decide +kernel)) (by decide +kernel), gdm (List.mem_of_getElem? (i := 804) (by decide +kernel)) (by decide +kernel), gdm (List.mem_of_getElem? (i := 128) (by decide +kernel)) (by decide +kernel), gdm (List.mem_of_getElem? (i := 805) (by decide +kernel)) (by decide +kernel), by decide +kernel, by decide +kernel, by decide +kernel⟩
set_option maxRecDepth 100000 in
theorem kX10_349 : kV RX10 349 mX10_answer 2 := ⟨gdm (List.mem_of_getElem? (i := 806) (by decide +kernel)) (by decide +kernel), ⟨gdm (List.mem_of_getElem? (i := 808) (by decide +kernel)) (by decide +kernel), gdm (List.mem_of_getElem? (i := 14) (by decide +kernel)) (by decide +kernel)⟩, gdm (List.mem_of_getElem? (i := 123) (by decide +kernel)) (by decide +kernel), gdm (List.mem_of_getElem? (i := 809) (by decide +kernel)) (by decide +kernel), by decide +kernel, by decide +kernel, by decide +kernel⟩
set_option maxRecDepth 100000 in
theorem kX10_304 : kS RX10 304 mX8_reversed 1 := ⟨gdm (List.mem_of_getElem? (i := 810) (by decide +kernel)) (by decide +kernel), gdm (List.mem_of_getElem? (i := 811) (by decide +kernel)) (by decide +kernel), gdm (List.mem_of_getElem? (i := 138) (by decide +kernel)) (by decide +kernel), gdm (List.mem_of_getElem? (i := 812) (by decide +kernel)) (by decide +kernel), by decide +kernel, by decide +kernel, by decide +kernel⟩
set_option maxRecDepth 100000 in
theorem kX10_327 : kS RX10 327 mX8_behind 2 := ⟨gdm (List.mem_of_getElem? (i := 813) (by decide +kernel)) (by decide +kernel), gdm (List.mem_of_getElem? (i := 814) (by decide +kernel)) (by decide +kernel), gdm (List.mem_of_getElem? (i := 138) (by decide +kernel)) (by decide +kernel), gdm (List.mem_of_getElem? (i := 815) (by decide +kernel)) (by decide +kernel), by decide +kernel, by decide +kernel, by decide +kernel⟩
set_option maxRecDepth 100000 in
theorem kX8_21 : kS RX8 21 mX8_first 2 := ⟨gdm (List.mem_of_getElem? (i := 816) (by decide +kernel)) (by decide +kernel), gdm (List.mem_of_getElem? (i := 707) (by decide +kernel)) (by decide +kernel), gdm (List.mem_of_getElem? (i := 138) (by decide +kernel)) (by decide +kernel), gdm (List.mem_of_getElem? (i := 708) (by decide +kernel)) (by decide +kernel), by decide +kernel, by decide +kernel, by decide +kernel⟩
set_option maxRecDepth 100000 in
theorem kX10_316 : kV RX10 316 mX1_learn 1 := ⟨gdm (List.mem_of_getElem? (i := 817) (by decide +kernel)) (by decide +kernel), ⟨gdm (List.mem_of_getElem? (i := 818) (by decide +kernel)) (by decide +kernel), gdm (List.mem_of_getElem? (i := 819) (by decide +kernel)) (by decide +kernel)⟩, gdm (List.mem_of_getElem? (i := 129) (by decide +kernel)) (by decide +kernel), gdm (List.mem_of_getElem? (i := 820) (by decide +kernel)) (by decide +kernel), by decide +kernel, by decide +kernel, by decide +kernel⟩
set_option maxRecDepth 100000 in
theorem kX1_47 : kV RX1 47 mX7_touch 2 := ⟨gdm (List.mem_of_getElem? (i := 821) (by decide +kernel)) (by decide +kernel), ⟨gdm (List.mem_of_getElem? (i := 800) (by decide +kernel)) (by decide +kernel), gdm (List.mem_of_getElem? (i := 801) (by decide +kernel)) (by decide +kernel)⟩, gdm (List.mem_of_getElem? (i := 127) (by decide +kernel)) (by decide +kernel), gdm (List.mem_of_getElem? (i := 802) (by decide +kernel)) (by decide +kernel), by decide +kernel, by decide +kernel, by decide +kernel⟩
set_option maxRecDepth 100000 in
theorem kX1_51 : kS RX1 51 mX8_at 2 := ⟨gdm (List.mem_of_getElem? (i := 822) (by decide +kernel)) (by decide +kernel), gdm (List.mem_of_getElem? (i := 680) (by decide +kernel)) (by decide +kernel), gdm (List.mem_of_getElem? (i := 138) (by decide +kernel)) (by decide +kernel), gdm (List.mem_of_getElem? (i := 681) (by decide +kernel)) (by decide +kernel), by decide +kernel, by decide +kernel, by decide +kernel⟩
set_option maxRecDepth 100000 in
theorem kX1_55 : kS RX1 55 mJ9_min_7cf53 2 := ⟨gdm (List.mem_of_getElem? (i := 823) (by decide +kernel)) (by decide +kernel), gdm (List.mem_of_getElem? (i := 804) (by decide +kernel)) (by decide +kernel), gdm (List.mem_of_getElem? (i := 128) (by decide +kernel)) (by decide +kernel), gdm (List.mem_of_getElem? (i := 805) (by decide +kernel)) (by decide +kernel), by decide +kernel, by decide +kernel, by decide +kernel⟩
set_option maxRecDepth 100000 in
theorem kX10_342 : kV RX10 342 mX10_emitReply 2 := ⟨gdm (List.mem_of_getElem? (i := 824) (by decide +kernel)) (by decide +kernel), ⟨gdm (List.mem_of_getElem? (i := 826) (by decide +kernel)) (by decide +kernel), gdm (List.mem_of_getElem? (i := 15) (by decide +kernel)) (by decide +kernel)⟩, gdm (List.mem_of_getElem? (i := 123) (by decide +kernel)) (by decide +kernel), gdm (List.mem_of_getElem? (i := 827) (by decide +kernel)) (by decide +kernel), by decide +kernel, by decide +kernel, by decide +kernel⟩
set_option maxRecDepth 100000 in
theorem kX10_256 : kS RX10 256 mX8_indexOf 2 := ⟨gdm (List.mem_of_getElem? (i := 828) (by decide +kernel)) (by decide +kernel), gdm (List.mem_of_getElem? (i := 704) (by decide +kernel)) (by decide +kernel), gdm (List.mem_of_getElem? (i := 138) (by decide +kernel)) (by decide +kernel), gdm (List.mem_of_getElem? (i := 705) (by decide +kernel)) (by decide +kernel), by decide +kernel, by decide +kernel, by decide +kernel⟩
set_option maxRecDepth 100000 in
theorem kX10_174 : kS RX10 174 mX8_length 1 := ⟨gdm (List.mem_of_getElem? (i := 829) (by decide +kernel)) (by decide +kernel), gdm (List.mem_of_getElem? (i := 654) (by decide +kernel)) (by decide +kernel), gdm (List.mem_of_getElem? (i := 138) (by decide +kernel)) (by decide +kernel), gdm (List.mem_of_getElem? (i := 655) (by decide +kernel)) (by decide +kernel), by decide +kernel, by decide +kernel, by decide +kernel⟩
set_option maxRecDepth 100000 in
theorem kX10_338 : kS RX10 338 mX8_joined 2 := ⟨gdm (List.mem_of_getElem? (i := 830) (by decide +kernel)) (by decide +kernel), gdm (List.mem_of_getElem? (i := 831) (by decide +kernel)) (by decide +kernel), gdm (List.mem_of_getElem? (i := 138) (by decide +kernel)) (by decide +kernel), gdm (List.mem_of_getElem? (i := 832) (by decide +kernel)) (by decide +kernel), by decide +kernel, by decide +kernel, by decide +kernel⟩
set_option maxRecDepth 100000 in
theorem kX8_25 : kS RX8 25 mX8_nodes 1 := ⟨gdm (List.mem_of_getElem? (i := 833) (by decide +kernel)) (by decide +kernel), gdm (List.mem_of_getElem? (i := 834) (by decide +kernel)) (by decide +kernel), gdm (List.mem_of_getElem? (i := 138) (by decide +kernel)) (by decide +kernel), gdm (List.mem_of_getElem? (i := 835) (by decide +kernel)) (by decide +kernel), by decide +kernel, by decide +kernel, by decide +kernel⟩
set_option maxRecDepth 100000 in
theorem kX10_226 : kV RX10 226 mX10_meetDown 1 := ⟨gdm (List.mem_of_getElem? (i := 836) (by decide +kernel)) (by decide +kernel), ⟨gdm (List.mem_of_getElem? (i := 838) (by decide +kernel)) (by decide +kernel), gdm (List.mem_of_getElem? (i := 16) (by decide +kernel)) (by decide +kernel)⟩, gdm (List.mem_of_getElem? (i := 123) (by decide +kernel)) (by decide +kernel), gdm (List.mem_of_getElem? (i := 839) (by decide +kernel)) (by decide +kernel), by decide +kernel, by decide +kernel, by decide +kernel⟩
set_option maxRecDepth 100000 in
theorem kX10_294 : kS RX10 294 mX4_told 2 := ⟨gdm (List.mem_of_getElem? (i := 840) (by decide +kernel)) (by decide +kernel), gdm (List.mem_of_getElem? (i := 841) (by decide +kernel)) (by decide +kernel), gdm (List.mem_of_getElem? (i := 137) (by decide +kernel)) (by decide +kernel), gdm (List.mem_of_getElem? (i := 842) (by decide +kernel)) (by decide +kernel), by decide +kernel, by decide +kernel, by decide +kernel⟩
set_option maxRecDepth 100000 in
theorem kX4_21 : kS RX4 21 mJ9_min_7cf53 2 := ⟨gdm (List.mem_of_getElem? (i := 843) (by decide +kernel)) (by decide +kernel), gdm (List.mem_of_getElem? (i := 804) (by decide +kernel)) (by decide +kernel), gdm (List.mem_of_getElem? (i := 128) (by decide +kernel)) (by decide +kernel), gdm (List.mem_of_getElem? (i := 805) (by decide +kernel)) (by decide +kernel), by decide +kernel, by decide +kernel, by decide +kernel⟩
set_option maxRecDepth 100000 in
theorem kX4_27 : kS RX4 27 mJ9_max_7cf53 2 := ⟨gdm (List.mem_of_getElem? (i := 844) (by decide +kernel)) (by decide +kernel), gdm (List.mem_of_getElem? (i := 309) (by decide +kernel)) (by decide +kernel), gdm (List.mem_of_getElem? (i := 128) (by decide +kernel)) (by decide +kernel), gdm (List.mem_of_getElem? (i := 310) (by decide +kernel)) (by decide +kernel), by decide +kernel, by decide +kernel, by decide +kernel⟩
set_option maxRecDepth 100000 in
theorem kX10_308 : kS RX10 308 mX8_nodes 1 := ⟨gdm (List.mem_of_getElem? (i := 845) (by decide +kernel)) (by decide +kernel), gdm (List.mem_of_getElem? (i := 834) (by decide +kernel)) (by decide +kernel), gdm (List.mem_of_getElem? (i := 138) (by decide +kernel)) (by decide +kernel), gdm (List.mem_of_getElem? (i := 835) (by decide +kernel)) (by decide +kernel), by decide +kernel, by decide +kernel, by decide +kernel⟩
set_option maxRecDepth 100000 in
theorem kX10_229 : kV RX10 229 mX10_dataArrives 1 := ⟨gdm (List.mem_of_getElem? (i := 846) (by decide +kernel)) (by decide +kernel), ⟨gdm (List.mem_of_getElem? (i := 848) (by decide +kernel)) (by decide +kernel), gdm (List.mem_of_getElem? (i := 17) (by decide +kernel)) (by decide +kernel)⟩, gdm (List.mem_of_getElem? (i := 123) (by decide +kernel)) (by decide +kernel), gdm (List.mem_of_getElem? (i := 849) (by decide +kernel)) (by decide +kernel), by decide +kernel, by decide +kernel, by decide +kernel⟩
set_option maxRecDepth 100000 in
theorem kX10_314 : kS RX10 314 mX8_from 2 := ⟨gdm (List.mem_of_getElem? (i := 850) (by decide +kernel)) (by decide +kernel), gdm (List.mem_of_getElem? (i := 851) (by decide +kernel)) (by decide +kernel), gdm (List.mem_of_getElem? (i := 138) (by decide +kernel)) (by decide +kernel), gdm (List.mem_of_getElem? (i := 852) (by decide +kernel)) (by decide +kernel), by decide +kernel, by decide +kernel, by decide +kernel⟩
set_option maxRecDepth 100000 in
theorem kX10_320 : kV RX10 320 mX10_overhears 2 := ⟨gdm (List.mem_of_getElem? (i := 853) (by decide +kernel)) (by decide +kernel), ⟨gdm (List.mem_of_getElem? (i := 855) (by decide +kernel)) (by decide +kernel), gdm (List.mem_of_getElem? (i := 18) (by decide +kernel)) (by decide +kernel)⟩, gdm (List.mem_of_getElem? (i := 123) (by decide +kernel)) (by decide +kernel), gdm (List.mem_of_getElem? (i := 856) (by decide +kernel)) (by decide +kernel), by decide +kernel, by decide +kernel, by decide +kernel⟩
set_option maxRecDepth 100000 in
theorem kX10_331 : kV RX10 331 mX10_shorten 2 := ⟨gdm (List.mem_of_getElem? (i := 857) (by decide +kernel)) (by decide +kernel), ⟨gdm (List.mem_of_getElem? (i := 859) (by decide +kernel)) (by decide +kernel), gdm (List.mem_of_getElem? (i := 19) (by decide +kernel)) (by decide +kernel)⟩, gdm (List.mem_of_getElem? (i := 123) (by decide +kernel)) (by decide +kernel), gdm (List.mem_of_getElem? (i := 860) (by decide +kernel)) (by decide +kernel), by decide +kernel, by decide +kernel, by decide +kernel⟩
set_option maxRecDepth 100000 in
theorem kX10_335 : kS RX10 335 mX8_first 2 := ⟨gdm (List.mem_of_getElem? (i := 861) (by decide +kernel)) (by decide +kernel), gdm (List.mem_of_getElem? (i := 707) (by decide +kernel)) (by decide +kernel), gdm (List.mem_of_getElem? (i := 138) (by decide +kernel)) (by decide +kernel), gdm (List.mem_of_getElem? (i := 708) (by decide +kernel)) (by decide +kernel), by decide +kernel, by decide +kernel, by decide +kernel⟩
set_option maxRecDepth 100000 in
theorem kX10_232 : kV RX10 232 mX10_replyArrives 1 := ⟨gdm (List.mem_of_getElem? (i := 862) (by decide +kernel)) (by decide +kernel), ⟨gdm (List.mem_of_getElem? (i := 864) (by decide +kernel)) (by decide +kernel), gdm (List.mem_of_getElem? (i := 20) (by decide +kernel)) (by decide +kernel)⟩, gdm (List.mem_of_getElem? (i := 123) (by decide +kernel)) (by decide +kernel), gdm (List.mem_of_getElem? (i := 865) (by decide +kernel)) (by decide +kernel), by decide +kernel, by decide +kernel, by decide +kernel⟩
set_option maxRecDepth 100000 in
theorem kX10_235 : kV RX10 235 mX10_errorArrives 1 := ⟨gdm (List.mem_of_getElem? (i := 866) (by decide +kernel)) (by decide +kernel), ⟨gdm (List.mem_of_getElem? (i := 868) (by decide +kernel)) (by decide +kernel), gdm (List.mem_of_getElem? (i := 21) (by decide +kernel)) (by decide +kernel)⟩, gdm (List.mem_of_getElem? (i := 123) (by decide +kernel)) (by decide +kernel), gdm (List.mem_of_getElem? (i := 869) (by decide +kernel)) (by decide +kernel), by decide +kernel, by decide +kernel, by decide +kernel⟩
set_option maxRecDepth 100000 in
theorem kX10_238 : kV RX10 238 mX10_drain 1 := ⟨gdm (List.mem_of_getElem? (i := 870) (by decide +kernel)) (by decide +kernel), ⟨gdm (List.mem_of_getElem? (i := 872) (by decide +kernel)) (by decide +kernel), gdm (List.mem_of_getElem? (i := 22) (by decide +kernel)) (by decide +kernel)⟩, gdm (List.mem_of_getElem? (i := 123) (by decide +kernel)) (by decide +kernel), gdm (List.mem_of_getElem? (i := 873) (by decide +kernel)) (by decide +kernel), by decide +kernel, by decide +kernel, by decide +kernel⟩
set_option maxRecDepth 100000 in
theorem kX10_241 : kV RX10 241 mX10_askOn 1 := ⟨gdm (List.mem_of_getElem? (i := 874) (by decide +kernel)) (by decide +kernel), ⟨gdm (List.mem_of_getElem? (i := 876) (by decide +kernel)) (by decide +kernel), gdm (List.mem_of_getElem? (i := 23) (by decide +kernel)) (by decide +kernel)⟩, gdm (List.mem_of_getElem? (i := 123) (by decide +kernel)) (by decide +kernel), gdm (List.mem_of_getElem? (i := 877) (by decide +kernel)) (by decide +kernel), by decide +kernel, by decide +kernel, by decide +kernel⟩
set_option maxRecDepth 100000 in
theorem kX10_362 : kV RX10 362 mX10_isNeeded 2 := ⟨gdm (List.mem_of_getElem? (i := 878) (by decide +kernel)) (by decide +kernel), ⟨gdm (List.mem_of_getElem? (i := 880) (by decide +kernel)) (by decide +kernel), gdm (List.mem_of_getElem? (i := 24) (by decide +kernel)) (by decide +kernel)⟩, gdm (List.mem_of_getElem? (i := 123) (by decide +kernel)) (by decide +kernel), gdm (List.mem_of_getElem? (i := 881) (by decide +kernel)) (by decide +kernel), by decide +kernel, by decide +kernel, by decide +kernel⟩
set_option maxRecDepth 100000 in
theorem kL_45 : kV RL 45 mX11_has 1 := ⟨gdm (List.mem_of_getElem? (i := 882) (by decide +kernel)) (by decide +kernel), ⟨gdm (List.mem_of_getElem? (i := 883) (by decide +kernel)) (by decide +kernel), gdm (List.mem_of_getElem? (i := 884) (by decide +kernel)) (by decide +kernel)⟩, gdm (List.mem_of_getElem? (i := 120) (by decide +kernel)) (by decide +kernel), gdm (List.mem_of_getElem? (i := 885) (by decide +kernel)) (by decide +kernel), by decide +kernel, by decide +kernel, by decide +kernel⟩
set_option maxRecDepth 100000 in
theorem kL_49 : kV RL 49 mX11_node 2 := ⟨gdm (List.mem_of_getElem? (i := 886) (by decide +kernel)) (by decide +kernel), ⟨gdm (List.mem_of_getElem? (i := 887) (by decide +kernel)) (by decide +kernel), gdm (List.mem_of_getElem? (i := 888) (by decide +kernel)) (by decide +kernel)⟩, gdm (List.mem_of_getElem? (i := 120) (by decide +kernel)) (by decide +kernel), gdm (List.mem_of_getElem? (i := 889) (by decide +kernel)) (by decide +kernel), by decide +kernel, by decide +kernel, by decide +kernel⟩
set_option maxRecDepth 100000 in
theorem kX11_111 : kV RX11 111 mX10_isNode 1 := ⟨gdm (List.mem_of_getElem? (i := 890) (by decide +kernel)) (by decide +kernel), ⟨gdm (List.mem_of_getElem? (i := 639) (by decide +kernel)) (by decide +kernel), gdm (List.mem_of_getElem? (i := 640) (by decide +kernel)) (by decide +kernel)⟩, gdm (List.mem_of_getElem? (i := 123) (by decide +kernel)) (by decide +kernel), gdm (List.mem_of_getElem? (i := 641) (by decide +kernel)) (by decide +kernel), by decide +kernel, by decide +kernel, by decide +kernel⟩
set_option maxRecDepth 100000 in
theorem kX11_115 : kV RX11 115 mX10_tellNode 2 := ⟨gdm (List.mem_of_getElem? (i := 891) (by decide +kernel)) (by decide +kernel), ⟨gdm (List.mem_of_getElem? (i := 892) (by decide +kernel)) (by decide +kernel), gdm (List.mem_of_getElem? (i := 893) (by decide +kernel)) (by decide +kernel)⟩, gdm (List.mem_of_getElem? (i := 123) (by decide +kernel)) (by decide +kernel), gdm (List.mem_of_getElem? (i := 894) (by decide +kernel)) (by decide +kernel), by decide +kernel, by decide +kernel, by decide +kernel⟩
set_option maxRecDepth 100000 in
theorem kX10_141 : kV RX10 141 mX10_reached 1 := ⟨gdm (List.mem_of_getElem? (i := 895) (by decide +kernel)) (by decide +kernel), ⟨gdm (List.mem_of_getElem? (i := 897) (by decide +kernel)) (by decide +kernel), gdm (List.mem_of_getElem? (i := 25) (by decide +kernel)) (by decide +kernel)⟩, gdm (List.mem_of_getElem? (i := 123) (by decide +kernel)) (by decide +kernel), gdm (List.mem_of_getElem? (i := 898) (by decide +kernel)) (by decide +kernel), by decide +kernel, by decide +kernel, by decide +kernel⟩
set_option maxRecDepth 100000 in
theorem kX10_151 : kV RX10 151 mX10_wayOf 2 := ⟨gdm (List.mem_of_getElem? (i := 899) (by decide +kernel)) (by decide +kernel), ⟨gdm (List.mem_of_getElem? (i := 900) (by decide +kernel)) (by decide +kernel), gdm (List.mem_of_getElem? (i := 901) (by decide +kernel)) (by decide +kernel)⟩, gdm (List.mem_of_getElem? (i := 123) (by decide +kernel)) (by decide +kernel), gdm (List.mem_of_getElem? (i := 902) (by decide +kernel)) (by decide +kernel), by decide +kernel, by decide +kernel, by decide +kernel⟩
set_option maxRecDepth 100000 in
theorem kX10_145 : kS RX10 145 mX4_near 2 := ⟨gdm (List.mem_of_getElem? (i := 903) (by decide +kernel)) (by decide +kernel), gdm (List.mem_of_getElem? (i := 694) (by decide +kernel)) (by decide +kernel), gdm (List.mem_of_getElem? (i := 137) (by decide +kernel)) (by decide +kernel), gdm (List.mem_of_getElem? (i := 695) (by decide +kernel)) (by decide +kernel), by decide +kernel, by decide +kernel, by decide +kernel⟩
set_option maxRecDepth 100000 in
theorem kL_53 : kV RL 53 mX11_kept 3 := ⟨gdm (List.mem_of_getElem? (i := 904) (by decide +kernel)) (by decide +kernel), ⟨gdm (List.mem_of_getElem? (i := 905) (by decide +kernel)) (by decide +kernel), gdm (List.mem_of_getElem? (i := 906) (by decide +kernel)) (by decide +kernel)⟩, gdm (List.mem_of_getElem? (i := 120) (by decide +kernel)) (by decide +kernel), gdm (List.mem_of_getElem? (i := 907) (by decide +kernel)) (by decide +kernel), by decide +kernel, by decide +kernel, by decide +kernel⟩
set_option maxRecDepth 100000 in
theorem kX11_118 : kV RX11 118 mX10_post 1 := ⟨gdm (List.mem_of_getElem? (i := 908) (by decide +kernel)) (by decide +kernel), ⟨gdm (List.mem_of_getElem? (i := 661) (by decide +kernel)) (by decide +kernel), gdm (List.mem_of_getElem? (i := 662) (by decide +kernel)) (by decide +kernel)⟩, gdm (List.mem_of_getElem? (i := 123) (by decide +kernel)) (by decide +kernel), gdm (List.mem_of_getElem? (i := 663) (by decide +kernel)) (by decide +kernel), by decide +kernel, by decide +kernel, by decide +kernel⟩
set_option maxRecDepth 100000 in
theorem kX11_134 : kV RX11 134 mX7_get 1 := ⟨gdm (List.mem_of_getElem? (i := 909) (by decide +kernel)) (by decide +kernel), ⟨gdm (List.mem_of_getElem? (i := 673) (by decide +kernel)) (by decide +kernel), gdm (List.mem_of_getElem? (i := 674) (by decide +kernel)) (by decide +kernel)⟩, gdm (List.mem_of_getElem? (i := 127) (by decide +kernel)) (by decide +kernel), gdm (List.mem_of_getElem? (i := 675) (by decide +kernel)) (by decide +kernel), by decide +kernel, by decide +kernel, by decide +kernel⟩
set_option maxRecDepth 100000 in
theorem kX11_140 : kS RX11 140 mX8_at 2 := ⟨gdm (List.mem_of_getElem? (i := 910) (by decide +kernel)) (by decide +kernel), gdm (List.mem_of_getElem? (i := 680) (by decide +kernel)) (by decide +kernel), gdm (List.mem_of_getElem? (i := 138) (by decide +kernel)) (by decide +kernel), gdm (List.mem_of_getElem? (i := 681) (by decide +kernel)) (by decide +kernel), by decide +kernel, by decide +kernel, by decide +kernel⟩
set_option maxRecDepth 100000 in
theorem kL_58 : kV RL 58 mX11_seen 2 := ⟨gdm (List.mem_of_getElem? (i := 911) (by decide +kernel)) (by decide +kernel), ⟨gdm (List.mem_of_getElem? (i := 912) (by decide +kernel)) (by decide +kernel), gdm (List.mem_of_getElem? (i := 913) (by decide +kernel)) (by decide +kernel)⟩, gdm (List.mem_of_getElem? (i := 120) (by decide +kernel)) (by decide +kernel), gdm (List.mem_of_getElem? (i := 914) (by decide +kernel)) (by decide +kernel), by decide +kernel, by decide +kernel, by decide +kernel⟩
set_option maxRecDepth 100000 in
theorem kL_62 : kV RL 62 mX11_waits 2 := ⟨gdm (List.mem_of_getElem? (i := 915) (by decide +kernel)) (by decide +kernel), ⟨gdm (List.mem_of_getElem? (i := 916) (by decide +kernel)) (by decide +kernel), gdm (List.mem_of_getElem? (i := 917) (by decide +kernel)) (by decide +kernel)⟩, gdm (List.mem_of_getElem? (i := 120) (by decide +kernel)) (by decide +kernel), gdm (List.mem_of_getElem? (i := 918) (by decide +kernel)) (by decide +kernel), by decide +kernel, by decide +kernel, by decide +kernel⟩
set_option maxRecDepth 100000 in
theorem kX11_150 : kV RX11 150 mX5_waitingAt 1 := ⟨gdm (List.mem_of_getElem? (i := 919) (by decide +kernel)) (by decide +kernel), ⟨gdm (List.mem_of_getElem? (i := 920) (by decide +kernel)) (by decide +kernel), gdm (List.mem_of_getElem? (i := 921) (by decide +kernel)) (by decide +kernel)⟩, gdm (List.mem_of_getElem? (i := 126) (by decide +kernel)) (by decide +kernel), gdm (List.mem_of_getElem? (i := 922) (by decide +kernel)) (by decide +kernel), by decide +kernel, by decide +kernel, by decide +kernel⟩
set_option maxRecDepth 100000 in
theorem kL_66 : kV RL 66 mX11_way 3 := ⟨gdm (List.mem_of_getElem? (i := 923) (by decide +kernel)) (by decide +kernel), ⟨gdm (List.mem_of_getElem? (i := 924) (by decide +kernel)) (by decide +kernel), gdm (List.mem_of_getElem? (i := 925) (by decide +kernel)) (by decide +kernel)⟩, gdm (List.mem_of_getElem? (i := 120) (by decide +kernel)) (by decide +kernel), gdm (List.mem_of_getElem? (i := 926) (by decide +kernel)) (by decide +kernel), by decide +kernel, by decide +kernel, by decide +kernel⟩
set_option maxRecDepth 100000 in
theorem kX11_154 : kV RX11 154 mX10_wayOf 2 := ⟨gdm (List.mem_of_getElem? (i := 927) (by decide +kernel)) (by decide +kernel), ⟨gdm (List.mem_of_getElem? (i := 900) (by decide +kernel)) (by decide +kernel), gdm (List.mem_of_getElem? (i := 901) (by decide +kernel)) (by decide +kernel)⟩, gdm (List.mem_of_getElem? (i := 123) (by decide +kernel)) (by decide +kernel), gdm (List.mem_of_getElem? (i := 902) (by decide +kernel)) (by decide +kernel), by decide +kernel, by decide +kernel, by decide +kernel⟩
set_option maxRecDepth 100000 in
theorem kL_70 : kV RL 70 mX11_hops 2 := ⟨gdm (List.mem_of_getElem? (i := 928) (by decide +kernel)) (by decide +kernel), ⟨gdm (List.mem_of_getElem? (i := 929) (by decide +kernel)) (by decide +kernel), gdm (List.mem_of_getElem? (i := 930) (by decide +kernel)) (by decide +kernel)⟩, gdm (List.mem_of_getElem? (i := 120) (by decide +kernel)) (by decide +kernel), gdm (List.mem_of_getElem? (i := 931) (by decide +kernel)) (by decide +kernel), by decide +kernel, by decide +kernel, by decide +kernel⟩
set_option maxRecDepth 100000 in
theorem kX11_157 : kS RX11 157 mX8_length 1 := ⟨gdm (List.mem_of_getElem? (i := 932) (by decide +kernel)) (by decide +kernel), gdm (List.mem_of_getElem? (i := 654) (by decide +kernel)) (by decide +kernel), gdm (List.mem_of_getElem? (i := 138) (by decide +kernel)) (by decide +kernel), gdm (List.mem_of_getElem? (i := 655) (by decide +kernel)) (by decide +kernel), by decide +kernel, by decide +kernel, by decide +kernel⟩
set_option maxRecDepth 100000 in
theorem kL_74 : kV RL 74 mX11_data 2 := ⟨gdm (List.mem_of_getElem? (i := 933) (by decide +kernel)) (by decide +kernel), ⟨gdm (List.mem_of_getElem? (i := 934) (by decide +kernel)) (by decide +kernel), gdm (List.mem_of_getElem? (i := 935) (by decide +kernel)) (by decide +kernel)⟩, gdm (List.mem_of_getElem? (i := 120) (by decide +kernel)) (by decide +kernel), gdm (List.mem_of_getElem? (i := 936) (by decide +kernel)) (by decide +kernel), by decide +kernel, by decide +kernel, by decide +kernel⟩
set_option maxRecDepth 100000 in
theorem kX11_160 : kV RX11 160 mX10_tellData 2 := ⟨gdm (List.mem_of_getElem? (i := 937) (by decide +kernel)) (by decide +kernel), ⟨gdm (List.mem_of_getElem? (i := 938) (by decide +kernel)) (by decide +kernel), gdm (List.mem_of_getElem? (i := 939) (by decide +kernel)) (by decide +kernel)⟩, gdm (List.mem_of_getElem? (i := 123) (by decide +kernel)) (by decide +kernel), gdm (List.mem_of_getElem? (i := 940) (by decide +kernel)) (by decide +kernel), by decide +kernel, by decide +kernel, by decide +kernel⟩
set_option maxRecDepth 100000 in
theorem kL_78 : kV RL 78 mX11_trail 3 := ⟨gdm (List.mem_of_getElem? (i := 941) (by decide +kernel)) (by decide +kernel), ⟨gdm (List.mem_of_getElem? (i := 942) (by decide +kernel)) (by decide +kernel), gdm (List.mem_of_getElem? (i := 943) (by decide +kernel)) (by decide +kernel)⟩, gdm (List.mem_of_getElem? (i := 120) (by decide +kernel)) (by decide +kernel), gdm (List.mem_of_getElem? (i := 944) (by decide +kernel)) (by decide +kernel), by decide +kernel, by decide +kernel, by decide +kernel⟩
set_option maxRecDepth 100000 in
theorem kX11_163 : kV RX11 163 mX10_datum 1 := ⟨gdm (List.mem_of_getElem? (i := 945) (by decide +kernel)) (by decide +kernel), ⟨gdm (List.mem_of_getElem? (i := 643) (by decide +kernel)) (by decide +kernel), gdm (List.mem_of_getElem? (i := 644) (by decide +kernel)) (by decide +kernel)⟩, gdm (List.mem_of_getElem? (i := 123) (by decide +kernel)) (by decide +kernel), gdm (List.mem_of_getElem? (i := 645) (by decide +kernel)) (by decide +kernel), by decide +kernel, by decide +kernel, by decide +kernel⟩
set_option maxRecDepth 100000 in
theorem kL_83 : kV RL 83 mX11_air 2 := ⟨gdm (List.mem_of_getElem? (i := 946) (by decide +kernel)) (by decide +kernel), ⟨gdm (List.mem_of_getElem? (i := 947) (by decide +kernel)) (by decide +kernel), gdm (List.mem_of_getElem? (i := 948) (by decide +kernel)) (by decide +kernel)⟩, gdm (List.mem_of_getElem? (i := 120) (by decide +kernel)) (by decide +kernel), gdm (List.mem_of_getElem? (i := 949) (by decide +kernel)) (by decide +kernel), by decide +kernel, by decide +kernel, by decide +kernel⟩
set_option maxRecDepth 100000 in
theorem kX11_175 : kV RX11 175 mX0_frameAt 1 := ⟨gdm (List.mem_of_getElem? (i := 950) (by decide +kernel)) (by decide +kernel), ⟨gdm (List.mem_of_getElem? (i := 951) (by decide +kernel)) (by decide +kernel), gdm (List.mem_of_getElem? (i := 952) (by decide +kernel)) (by decide +kernel)⟩, gdm (List.mem_of_getElem? (i := 124) (by decide +kernel)) (by decide +kernel), gdm (List.mem_of_getElem? (i := 953) (by decide +kernel)) (by decide +kernel), by decide +kernel, by decide +kernel, by decide +kernel⟩
set_option maxRecDepth 100000 in
theorem kL_87 : kV RL 87 mX11_row 2 := ⟨gdm (List.mem_of_getElem? (i := 954) (by decide +kernel)) (by decide +kernel), ⟨gdm (List.mem_of_getElem? (i := 955) (by decide +kernel)) (by decide +kernel), gdm (List.mem_of_getElem? (i := 956) (by decide +kernel)) (by decide +kernel)⟩, gdm (List.mem_of_getElem? (i := 120) (by decide +kernel)) (by decide +kernel), gdm (List.mem_of_getElem? (i := 957) (by decide +kernel)) (by decide +kernel), by decide +kernel, by decide +kernel, by decide +kernel⟩
set_option maxRecDepth 100000 in
theorem kL_91 : kV RL 91 mX11_tally 1 := ⟨gdm (List.mem_of_getElem? (i := 958) (by decide +kernel)) (by decide +kernel), ⟨gdm (List.mem_of_getElem? (i := 959) (by decide +kernel)) (by decide +kernel), gdm (List.mem_of_getElem? (i := 960) (by decide +kernel)) (by decide +kernel)⟩, gdm (List.mem_of_getElem? (i := 120) (by decide +kernel)) (by decide +kernel), gdm (List.mem_of_getElem? (i := 961) (by decide +kernel)) (by decide +kernel), by decide +kernel, by decide +kernel, by decide +kernel⟩
set_option maxRecDepth 100000 in
theorem kL_95 : kV RL 95 mX11_far 2 := ⟨gdm (List.mem_of_getElem? (i := 962) (by decide +kernel)) (by decide +kernel), ⟨gdm (List.mem_of_getElem? (i := 963) (by decide +kernel)) (by decide +kernel), gdm (List.mem_of_getElem? (i := 964) (by decide +kernel)) (by decide +kernel)⟩, gdm (List.mem_of_getElem? (i := 120) (by decide +kernel)) (by decide +kernel), gdm (List.mem_of_getElem? (i := 965) (by decide +kernel)) (by decide +kernel), by decide +kernel, by decide +kernel, by decide +kernel⟩
set_option maxRecDepth 100000 in
theorem kX11_205 : kS RX11 205 mX4_distance 3 := ⟨gdm (List.mem_of_getElem? (i := 966) (by decide +kernel)) (by decide +kernel), gdm (List.mem_of_getElem? (i := 967) (by decide +kernel)) (by decide +kernel), gdm (List.mem_of_getElem? (i := 137) (by decide +kernel)) (by decide +kernel), gdm (List.mem_of_getElem? (i := 968) (by decide +kernel)) (by decide +kernel), by decide +kernel, by decide +kernel, by decide +kernel⟩
set_option maxRecDepth 100000 in
theorem kL_99 : kV RL 99 mX11_holders 2 := ⟨gdm (List.mem_of_getElem? (i := 969) (by decide +kernel)) (by decide +kernel), ⟨gdm (List.mem_of_getElem? (i := 970) (by decide +kernel)) (by decide +kernel), gdm (List.mem_of_getElem? (i := 971) (by decide +kernel)) (by decide +kernel)⟩, gdm (List.mem_of_getElem? (i := 120) (by decide +kernel)) (by decide +kernel), gdm (List.mem_of_getElem? (i := 972) (by decide +kernel)) (by decide +kernel), by decide +kernel, by decide +kernel, by decide +kernel⟩
set_option maxRecDepth 100000 in
theorem kX11_209 : kV RX11 209 mX1_links 0 := ⟨gdm (List.mem_of_getElem? (i := 973) (by decide +kernel)) (by decide +kernel), ⟨gdm (List.mem_of_getElem? (i := 669) (by decide +kernel)) (by decide +kernel), gdm (List.mem_of_getElem? (i := 670) (by decide +kernel)) (by decide +kernel)⟩, gdm (List.mem_of_getElem? (i := 129) (by decide +kernel)) (by decide +kernel), gdm (List.mem_of_getElem? (i := 671) (by decide +kernel)) (by decide +kernel), by decide +kernel, by decide +kernel, by decide +kernel⟩
set_option maxRecDepth 100000 in
theorem kL_103 : kV RL 103 mX11_stale 1 := ⟨gdm (List.mem_of_getElem? (i := 974) (by decide +kernel)) (by decide +kernel), ⟨gdm (List.mem_of_getElem? (i := 975) (by decide +kernel)) (by decide +kernel), gdm (List.mem_of_getElem? (i := 976) (by decide +kernel)) (by decide +kernel)⟩, gdm (List.mem_of_getElem? (i := 120) (by decide +kernel)) (by decide +kernel), gdm (List.mem_of_getElem? (i := 977) (by decide +kernel)) (by decide +kernel), by decide +kernel, by decide +kernel, by decide +kernel⟩
set_option maxRecDepth 100000 in
theorem kX11_215 : kS RX11 215 mX4_count 1 := ⟨gdm (List.mem_of_getElem? (i := 979) (by decide +kernel)) (by decide +kernel), gdm (List.mem_of_getElem? (i := 980) (by decide +kernel)) (by decide +kernel), gdm (List.mem_of_getElem? (i := 137) (by decide +kernel)) (by decide +kernel), gdm (List.mem_of_getElem? (i := 981) (by decide +kernel)) (by decide +kernel), by decide +kernel, by decide +kernel, by decide +kernel⟩
set_option maxRecDepth 100000 in
theorem kX4_15 : kS RX4 15 mJ13_bitCount_95d88 1 := ⟨gdm (List.mem_of_getElem? (i := 982) (by decide +kernel)) (by decide +kernel), gdm (List.mem_of_getElem? (i := 983) (by decide +kernel)) (by decide +kernel), gdm (List.mem_of_getElem? (i := 140) (by decide +kernel)) (by decide +kernel), gdm (List.mem_of_getElem? (i := 984) (by decide +kernel)) (by decide +kernel), by decide +kernel, by decide +kernel, by decide +kernel⟩
set_option maxRecDepth 100000 in
theorem kL_107 : kV RL 107 mX11_sound 2 := ⟨gdm (List.mem_of_getElem? (i := 988) (by decide +kernel)) (by decide +kernel), ⟨gdm (List.mem_of_getElem? (i := 989) (by decide +kernel)) (by decide +kernel), gdm (List.mem_of_getElem? (i := 990) (by decide +kernel)) (by decide +kernel)⟩, gdm (List.mem_of_getElem? (i := 120) (by decide +kernel)) (by decide +kernel), gdm (List.mem_of_getElem? (i := 991) (by decide +kernel)) (by decide +kernel), by decide +kernel, by decide +kernel, by decide +kernel⟩
set_option maxRecDepth 100000 in
theorem kX11_217 : kS RX11 217 mX4_along 1 := ⟨gdm (List.mem_of_getElem? (i := 992) (by decide +kernel)) (by decide +kernel), gdm (List.mem_of_getElem? (i := 677) (by decide +kernel)) (by decide +kernel), gdm (List.mem_of_getElem? (i := 137) (by decide +kernel)) (by decide +kernel), gdm (List.mem_of_getElem? (i := 678) (by decide +kernel)) (by decide +kernel), by decide +kernel, by decide +kernel, by decide +kernel⟩
set_option maxRecDepth 100000 in
theorem kL_112 : kV RL 112 mX11_mapped 2 := ⟨gdm (List.mem_of_getElem? (i := 993) (by decide +kernel)) (by decide +kernel), ⟨gdm (List.mem_of_getElem? (i := 994) (by decide +kernel)) (by decide +kernel), gdm (List.mem_of_getElem? (i := 995) (by decide +kernel)) (by decide +kernel)⟩, gdm (List.mem_of_getElem? (i := 120) (by decide +kernel)) (by decide +kernel), gdm (List.mem_of_getElem? (i := 996) (by decide +kernel)) (by decide +kernel), by decide +kernel, by decide +kernel, by decide +kernel⟩
set_option maxRecDepth 100000 in
theorem kL_116 : kV RL 116 mX11_bridges 2 := ⟨gdm (List.mem_of_getElem? (i := 997) (by decide +kernel)) (by decide +kernel), ⟨gdm (List.mem_of_getElem? (i := 998) (by decide +kernel)) (by decide +kernel), gdm (List.mem_of_getElem? (i := 999) (by decide +kernel)) (by decide +kernel)⟩, gdm (List.mem_of_getElem? (i := 120) (by decide +kernel)) (by decide +kernel), gdm (List.mem_of_getElem? (i := 1000) (by decide +kernel)) (by decide +kernel), by decide +kernel, by decide +kernel, by decide +kernel⟩
set_option maxRecDepth 100000 in
theorem kL_120 : kV RL 120 mX11_ahead 2 := ⟨gdm (List.mem_of_getElem? (i := 1001) (by decide +kernel)) (by decide +kernel), ⟨gdm (List.mem_of_getElem? (i := 1002) (by decide +kernel)) (by decide +kernel), gdm (List.mem_of_getElem? (i := 1003) (by decide +kernel)) (by decide +kernel)⟩, gdm (List.mem_of_getElem? (i := 120) (by decide +kernel)) (by decide +kernel), gdm (List.mem_of_getElem? (i := 1004) (by decide +kernel)) (by decide +kernel), by decide +kernel, by decide +kernel, by decide +kernel⟩
set_option maxRecDepth 100000 in
theorem kX11_221 : kS RX11 221 mX11_mayGoBy 1 := ⟨gdm (List.mem_of_getElem? (i := 1005) (by decide +kernel)) (by decide +kernel), gdm (List.mem_of_getElem? (i := 1006) (by decide +kernel)) (by decide +kernel), gdm (List.mem_of_getElem? (i := 120) (by decide +kernel)) (by decide +kernel), gdm (List.mem_of_getElem? (i := 1007) (by decide +kernel)) (by decide +kernel), by decide +kernel, by decide +kernel, by decide +kernel⟩
set_option maxRecDepth 100000 in
theorem kX11_224 : kV RX11 224 mX10_copyFrom 1 := ⟨gdm (List.mem_of_getElem? (i := 1008) (by decide +kernel)) (by decide +kernel), ⟨gdm (List.mem_of_getElem? (i := 1009) (by decide +kernel)) (by decide +kernel), gdm (List.mem_of_getElem? (i := 1010) (by decide +kernel)) (by decide +kernel)⟩, gdm (List.mem_of_getElem? (i := 123) (by decide +kernel)) (by decide +kernel), gdm (List.mem_of_getElem? (i := 1011) (by decide +kernel)) (by decide +kernel), by decide +kernel, by decide +kernel, by decide +kernel⟩
set_option maxRecDepth 100000 in
theorem kX10_84 : kV RX10 84 mX0_copyFrom 1 := ⟨gdm (List.mem_of_getElem? (i := 1012) (by decide +kernel)) (by decide +kernel), ⟨gdm (List.mem_of_getElem? (i := 1013) (by decide +kernel)) (by decide +kernel), gdm (List.mem_of_getElem? (i := 1014) (by decide +kernel)) (by decide +kernel)⟩, gdm (List.mem_of_getElem? (i := 124) (by decide +kernel)) (by decide +kernel), gdm (List.mem_of_getElem? (i := 1015) (by decide +kernel)) (by decide +kernel), by decide +kernel, by decide +kernel, by decide +kernel⟩
set_option maxRecDepth 100000 in
theorem kX0_30 : kV RX0 30 mX3_copyFrom 1 := ⟨gdm (List.mem_of_getElem? (i := 1016) (by decide +kernel)) (by decide +kernel), ⟨gdm (List.mem_of_getElem? (i := 1017) (by decide +kernel)) (by decide +kernel), gdm (List.mem_of_getElem? (i := 1018) (by decide +kernel)) (by decide +kernel)⟩, gdm (List.mem_of_getElem? (i := 125) (by decide +kernel)) (by decide +kernel), gdm (List.mem_of_getElem? (i := 1019) (by decide +kernel)) (by decide +kernel), by decide +kernel, by decide +kernel, by decide +kernel⟩
set_option maxRecDepth 100000 in
theorem kX3_34 : kV RX3 34 mX3_begin 5 := ⟨gdm (List.mem_of_getElem? (i := 1020) (by decide +kernel)) (by decide +kernel), ⟨gdm (List.mem_of_getElem? (i := 727) (by decide +kernel)) (by decide +kernel), gdm (List.mem_of_getElem? (i := 728) (by decide +kernel)) (by decide +kernel)⟩, gdm (List.mem_of_getElem? (i := 125) (by decide +kernel)) (by decide +kernel), gdm (List.mem_of_getElem? (i := 729) (by decide +kernel)) (by decide +kernel), by decide +kernel, by decide +kernel, by decide +kernel⟩
set_option maxRecDepth 100000 in
theorem kX10_88 : kV RX10 88 mX5_copyFrom 1 := ⟨gdm (List.mem_of_getElem? (i := 1021) (by decide +kernel)) (by decide +kernel), ⟨gdm (List.mem_of_getElem? (i := 1022) (by decide +kernel)) (by decide +kernel), gdm (List.mem_of_getElem? (i := 1023) (by decide +kernel)) (by decide +kernel)⟩, gdm (List.mem_of_getElem? (i := 126) (by decide +kernel)) (by decide +kernel), gdm (List.mem_of_getElem? (i := 1024) (by decide +kernel)) (by decide +kernel), by decide +kernel, by decide +kernel, by decide +kernel⟩
set_option maxRecDepth 100000 in
theorem kX5_54 : kV RX5 54 mX1_copyFrom 1 := ⟨gdm (List.mem_of_getElem? (i := 1025) (by decide +kernel)) (by decide +kernel), ⟨gdm (List.mem_of_getElem? (i := 1026) (by decide +kernel)) (by decide +kernel), gdm (List.mem_of_getElem? (i := 1027) (by decide +kernel)) (by decide +kernel)⟩, gdm (List.mem_of_getElem? (i := 129) (by decide +kernel)) (by decide +kernel), gdm (List.mem_of_getElem? (i := 1028) (by decide +kernel)) (by decide +kernel), by decide +kernel, by decide +kernel, by decide +kernel⟩
set_option maxRecDepth 100000 in
theorem kX1_101 : kV RX1 101 mX7_copyFrom 1 := ⟨gdm (List.mem_of_getElem? (i := 1029) (by decide +kernel)) (by decide +kernel), ⟨gdm (List.mem_of_getElem? (i := 1030) (by decide +kernel)) (by decide +kernel), gdm (List.mem_of_getElem? (i := 1031) (by decide +kernel)) (by decide +kernel)⟩, gdm (List.mem_of_getElem? (i := 127) (by decide +kernel)) (by decide +kernel), gdm (List.mem_of_getElem? (i := 1032) (by decide +kernel)) (by decide +kernel), by decide +kernel, by decide +kernel, by decide +kernel⟩
set_option maxRecDepth 100000 in
theorem kX5_58 : kV RX5 58 mX7_copyFrom 1 := ⟨gdm (List.mem_of_getElem? (i := 1034) (by decide +kernel)) (by decide +kernel), ⟨gdm (List.mem_of_getElem? (i := 1030) (by decide +kernel)) (by decide +kernel), gdm (List.mem_of_getElem? (i := 1031) (by decide +kernel)) (by decide +kernel)⟩, gdm (List.mem_of_getElem? (i := 127) (by decide +kernel)) (by decide +kernel), gdm (List.mem_of_getElem? (i := 1032) (by decide +kernel)) (by decide +kernel), by decide +kernel, by decide +kernel, by decide +kernel⟩
set_option maxRecDepth 100000 in
theorem kX10_91 : kV RX10 91 mX2_copyFrom 1 := ⟨gdm (List.mem_of_getElem? (i := 1036) (by decide +kernel)) (by decide +kernel), ⟨gdm (List.mem_of_getElem? (i := 1037) (by decide +kernel)) (by decide +kernel), gdm (List.mem_of_getElem? (i := 1038) (by decide +kernel)) (by decide +kernel)⟩, gdm (List.mem_of_getElem? (i := 130) (by decide +kernel)) (by decide +kernel), gdm (List.mem_of_getElem? (i := 1039) (by decide +kernel)) (by decide +kernel), by decide +kernel, by decide +kernel, by decide +kernel⟩
set_option maxRecDepth 100000 in
theorem kX2_52 : kV RX2 52 mX2_begin 3 := ⟨gdm (List.mem_of_getElem? (i := 1040) (by decide +kernel)) (by decide +kernel), ⟨gdm (List.mem_of_getElem? (i := 647) (by decide +kernel)) (by decide +kernel), gdm (List.mem_of_getElem? (i := 648) (by decide +kernel)) (by decide +kernel)⟩, gdm (List.mem_of_getElem? (i := 130) (by decide +kernel)) (by decide +kernel), gdm (List.mem_of_getElem? (i := 649) (by decide +kernel)) (by decide +kernel), by decide +kernel, by decide +kernel, by decide +kernel⟩
set_option maxRecDepth 100000 in
theorem kX2_56 : kV RX2 56 mX2_stand 2 := ⟨gdm (List.mem_of_getElem? (i := 1041) (by decide +kernel)) (by decide +kernel), ⟨gdm (List.mem_of_getElem? (i := 714) (by decide +kernel)) (by decide +kernel), gdm (List.mem_of_getElem? (i := 715) (by decide +kernel)) (by decide +kernel)⟩, gdm (List.mem_of_getElem? (i := 130) (by decide +kernel)) (by decide +kernel), gdm (List.mem_of_getElem? (i := 716) (by decide +kernel)) (by decide +kernel), by decide +kernel, by decide +kernel, by decide +kernel⟩
set_option maxRecDepth 100000 in
theorem kX11_228 : kV RX11 228 mX10_tellCount 1 := ⟨gdm (List.mem_of_getElem? (i := 1042) (by decide +kernel)) (by decide +kernel), ⟨gdm (List.mem_of_getElem? (i := 1043) (by decide +kernel)) (by decide +kernel), gdm (List.mem_of_getElem? (i := 1044) (by decide +kernel)) (by decide +kernel)⟩, gdm (List.mem_of_getElem? (i := 123) (by decide +kernel)) (by decide +kernel), gdm (List.mem_of_getElem? (i := 1045) (by decide +kernel)) (by decide +kernel), by decide +kernel, by decide +kernel, by decide +kernel⟩
set_option maxRecDepth 100000 in
theorem kX10_190 : kV RX10 190 mX10_buffered 0 := ⟨gdm (List.mem_of_getElem? (i := 1046) (by decide +kernel)) (by decide +kernel), ⟨gdm (List.mem_of_getElem? (i := 1048) (by decide +kernel)) (by decide +kernel), gdm (List.mem_of_getElem? (i := 26) (by decide +kernel)) (by decide +kernel)⟩, gdm (List.mem_of_getElem? (i := 123) (by decide +kernel)) (by decide +kernel), gdm (List.mem_of_getElem? (i := 1049) (by decide +kernel)) (by decide +kernel), by decide +kernel, by decide +kernel, by decide +kernel⟩
set_option maxRecDepth 100000 in
theorem kL_124 : kV RL 124 mX11_turned 4 := ⟨gdm (List.mem_of_getElem? (i := 1050) (by decide +kernel)) (by decide +kernel), ⟨gdm (List.mem_of_getElem? (i := 1051) (by decide +kernel)) (by decide +kernel), gdm (List.mem_of_getElem? (i := 1052) (by decide +kernel)) (by decide +kernel)⟩, gdm (List.mem_of_getElem? (i := 120) (by decide +kernel)) (by decide +kernel), gdm (List.mem_of_getElem? (i := 1053) (by decide +kernel)) (by decide +kernel), by decide +kernel, by decide +kernel, by decide +kernel⟩
set_option maxRecDepth 100000 in
theorem kL_129 : kV RL 129 mX11_sent 4 := ⟨gdm (List.mem_of_getElem? (i := 1054) (by decide +kernel)) (by decide +kernel), ⟨gdm (List.mem_of_getElem? (i := 1055) (by decide +kernel)) (by decide +kernel), gdm (List.mem_of_getElem? (i := 1056) (by decide +kernel)) (by decide +kernel)⟩, gdm (List.mem_of_getElem? (i := 120) (by decide +kernel)) (by decide +kernel), gdm (List.mem_of_getElem? (i := 1057) (by decide +kernel)) (by decide +kernel), by decide +kernel, by decide +kernel, by decide +kernel⟩
set_option maxRecDepth 100000 in
theorem kL_133 : kV RL 133 mX11_flood 3 := ⟨gdm (List.mem_of_getElem? (i := 1058) (by decide +kernel)) (by decide +kernel), ⟨gdm (List.mem_of_getElem? (i := 1059) (by decide +kernel)) (by decide +kernel), gdm (List.mem_of_getElem? (i := 1060) (by decide +kernel)) (by decide +kernel)⟩, gdm (List.mem_of_getElem? (i := 120) (by decide +kernel)) (by decide +kernel), gdm (List.mem_of_getElem? (i := 1061) (by decide +kernel)) (by decide +kernel), by decide +kernel, by decide +kernel, by decide +kernel⟩
set_option maxRecDepth 100000 in
theorem kX11_231 : kV RX11 231 mX10_ask 2 := ⟨gdm (List.mem_of_getElem? (i := 1062) (by decide +kernel)) (by decide +kernel), ⟨gdm (List.mem_of_getElem? (i := 735) (by decide +kernel)) (by decide +kernel), gdm (List.mem_of_getElem? (i := 736) (by decide +kernel)) (by decide +kernel)⟩, gdm (List.mem_of_getElem? (i := 123) (by decide +kernel)) (by decide +kernel), gdm (List.mem_of_getElem? (i := 737) (by decide +kernel)) (by decide +kernel), by decide +kernel, by decide +kernel, by decide +kernel⟩
set_option maxRecDepth 100000 in
theorem kX11_235 : kV RX11 235 mX0_hasKind 1 := ⟨gdm (List.mem_of_getElem? (i := 1063) (by decide +kernel)) (by decide +kernel), ⟨gdm (List.mem_of_getElem? (i := 1064) (by decide +kernel)) (by decide +kernel), gdm (List.mem_of_getElem? (i := 1065) (by decide +kernel)) (by decide +kernel)⟩, gdm (List.mem_of_getElem? (i := 124) (by decide +kernel)) (by decide +kernel), gdm (List.mem_of_getElem? (i := 1066) (by decide +kernel)) (by decide +kernel), by decide +kernel, by decide +kernel, by decide +kernel⟩
set_option maxRecDepth 100000 in
theorem kL_137 : kV RL 137 mX11_quiet 0 := ⟨gdm (List.mem_of_getElem? (i := 1067) (by decide +kernel)) (by decide +kernel), ⟨gdm (List.mem_of_getElem? (i := 1068) (by decide +kernel)) (by decide +kernel), gdm (List.mem_of_getElem? (i := 1069) (by decide +kernel)) (by decide +kernel)⟩, gdm (List.mem_of_getElem? (i := 120) (by decide +kernel)) (by decide +kernel), gdm (List.mem_of_getElem? (i := 1070) (by decide +kernel)) (by decide +kernel), by decide +kernel, by decide +kernel, by decide +kernel⟩
set_option maxRecDepth 100000 in
theorem kX11_238 : kV RX11 238 mX10_isQuiet 0 := ⟨gdm (List.mem_of_getElem? (i := 1071) (by decide +kernel)) (by decide +kernel), ⟨gdm (List.mem_of_getElem? (i := 1072) (by decide +kernel)) (by decide +kernel), gdm (List.mem_of_getElem? (i := 1073) (by decide +kernel)) (by decide +kernel)⟩, gdm (List.mem_of_getElem? (i := 123) (by decide +kernel)) (by decide +kernel), gdm (List.mem_of_getElem? (i := 1074) (by decide +kernel)) (by decide +kernel), by decide +kernel, by decide +kernel, by decide +kernel⟩
set_option maxRecDepth 100000 in
theorem kL_141 : kV RL 141 mX11_image 1 := ⟨gdm (List.mem_of_getElem? (i := 1075) (by decide +kernel)) (by decide +kernel), ⟨gdm (List.mem_of_getElem? (i := 1076) (by decide +kernel)) (by decide +kernel), gdm (List.mem_of_getElem? (i := 1077) (by decide +kernel)) (by decide +kernel)⟩, gdm (List.mem_of_getElem? (i := 120) (by decide +kernel)) (by decide +kernel), gdm (List.mem_of_getElem? (i := 1078) (by decide +kernel)) (by decide +kernel), by decide +kernel, by decide +kernel, by decide +kernel⟩
set_option maxRecDepth 100000 in
theorem kX11_245 : kV RX11 245 mX9_copyFrom 1 := ⟨gdm (List.mem_of_getElem? (i := 1079) (by decide +kernel)) (by decide +kernel), ⟨gdm (List.mem_of_getElem? (i := 1080) (by decide +kernel)) (by decide +kernel), gdm (List.mem_of_getElem? (i := 1081) (by decide +kernel)) (by decide +kernel)⟩, gdm (List.mem_of_getElem? (i := 121) (by decide +kernel)) (by decide +kernel), gdm (List.mem_of_getElem? (i := 1082) (by decide +kernel)) (by decide +kernel), by decide +kernel, by decide +kernel, by decide +kernel⟩
set_option maxRecDepth 100000 in
theorem kL_146 : kV RL 146 mX11_again 1 := ⟨gdm (List.mem_of_getElem? (i := 1084) (by decide +kernel)) (by decide +kernel), ⟨gdm (List.mem_of_getElem? (i := 1085) (by decide +kernel)) (by decide +kernel), gdm (List.mem_of_getElem? (i := 1086) (by decide +kernel)) (by decide +kernel)⟩, gdm (List.mem_of_getElem? (i := 120) (by decide +kernel)) (by decide +kernel), gdm (List.mem_of_getElem? (i := 1087) (by decide +kernel)) (by decide +kernel), by decide +kernel, by decide +kernel, by decide +kernel⟩
set_option maxRecDepth 100000 in
theorem kX12_48 : kV RX12 48 mX12_startsAll 0 := ⟨gdm (List.mem_of_getElem? (i := 1094) (by decide +kernel)) (by decide +kernel), ⟨gdm (List.mem_of_getElem? (i := 1096) (by decide +kernel)) (by decide +kernel), gdm (List.mem_of_getElem? (i := 27) (by decide +kernel)) (by decide +kernel)⟩, gdm (List.mem_of_getElem? (i := 132) (by decide +kernel)) (by decide +kernel), gdm (List.mem_of_getElem? (i := 1097) (by decide +kernel)) (by decide +kernel), by decide +kernel, by decide +kernel, by decide +kernel⟩
set_option maxRecDepth 100000 in
theorem kX12_160 : kV RX12 160 mX12_atFirst 0 := ⟨gdm (List.mem_of_getElem? (i := 1098) (by decide +kernel)) (by decide +kernel), ⟨gdm (List.mem_of_getElem? (i := 1100) (by decide +kernel)) (by decide +kernel), gdm (List.mem_of_getElem? (i := 28) (by decide +kernel)) (by decide +kernel)⟩, gdm (List.mem_of_getElem? (i := 132) (by decide +kernel)) (by decide +kernel), gdm (List.mem_of_getElem? (i := 1101) (by decide +kernel)) (by decide +kernel), by decide +kernel, by decide +kernel, by decide +kernel⟩
set_option maxRecDepth 100000 in
theorem kX12_163 : kV RX12 163 mX12_taken 0 := ⟨gdm (List.mem_of_getElem? (i := 1102) (by decide +kernel)) (by decide +kernel), ⟨gdm (List.mem_of_getElem? (i := 1104) (by decide +kernel)) (by decide +kernel), gdm (List.mem_of_getElem? (i := 29) (by decide +kernel)) (by decide +kernel)⟩, gdm (List.mem_of_getElem? (i := 132) (by decide +kernel)) (by decide +kernel), gdm (List.mem_of_getElem? (i := 1105) (by decide +kernel)) (by decide +kernel), by decide +kernel, by decide +kernel, by decide +kernel⟩
set_option maxRecDepth 100000 in
theorem kX12_166 : kS RX12 166 mX12_has 2 := ⟨gdm (List.mem_of_getElem? (i := 1106) (by decide +kernel)) (by decide +kernel), gdm (List.mem_of_getElem? (i := 1107) (by decide +kernel)) (by decide +kernel), gdm (List.mem_of_getElem? (i := 132) (by decide +kernel)) (by decide +kernel), gdm (List.mem_of_getElem? (i := 1108) (by decide +kernel)) (by decide +kernel), by decide +kernel, by decide +kernel, by decide +kernel⟩
set_option maxRecDepth 100000 in
theorem kX12_170 : kV RX12 170 mX12_lay 3 := ⟨gdm (List.mem_of_getElem? (i := 1109) (by decide +kernel)) (by decide +kernel), ⟨gdm (List.mem_of_getElem? (i := 1111) (by decide +kernel)) (by decide +kernel), gdm (List.mem_of_getElem? (i := 30) (by decide +kernel)) (by decide +kernel)⟩, gdm (List.mem_of_getElem? (i := 132) (by decide +kernel)) (by decide +kernel), gdm (List.mem_of_getElem? (i := 1112) (by decide +kernel)) (by decide +kernel), by decide +kernel, by decide +kernel, by decide +kernel⟩
set_option maxRecDepth 100000 in
theorem kL_19 : kV RL 19 mX12_say 1 := ⟨gdm (List.mem_of_getElem? (i := 1195) (by decide +kernel)) (by decide +kernel), ⟨gdm (List.mem_of_getElem? (i := 1196) (by decide +kernel)) (by decide +kernel), gdm (List.mem_of_getElem? (i := 1197) (by decide +kernel)) (by decide +kernel)⟩, gdm (List.mem_of_getElem? (i := 132) (by decide +kernel)) (by decide +kernel), gdm (List.mem_of_getElem? (i := 1198) (by decide +kernel)) (by decide +kernel), by decide +kernel, by decide +kernel, by decide +kernel⟩
set_option maxRecDepth 100000 in
theorem kL_24 : kV RL 24 mX12_net 0 := ⟨gdm (List.mem_of_getElem? (i := 1200) (by decide +kernel)) (by decide +kernel), ⟨gdm (List.mem_of_getElem? (i := 1201) (by decide +kernel)) (by decide +kernel), gdm (List.mem_of_getElem? (i := 1202) (by decide +kernel)) (by decide +kernel)⟩, gdm (List.mem_of_getElem? (i := 132) (by decide +kernel)) (by decide +kernel), gdm (List.mem_of_getElem? (i := 1203) (by decide +kernel)) (by decide +kernel), by decide +kernel, by decide +kernel, by decide +kernel⟩
set_option maxRecDepth 100000 in
theorem kX12_124 : kV RX12 124 mX12_token 0 := ⟨gdm (List.mem_of_getElem? (i := 1204) (by decide +kernel)) (by decide +kernel), ⟨gdm (List.mem_of_getElem? (i := 1206) (by decide +kernel)) (by decide +kernel), gdm (List.mem_of_getElem? (i := 31) (by decide +kernel)) (by decide +kernel)⟩, gdm (List.mem_of_getElem? (i := 132) (by decide +kernel)) (by decide +kernel), gdm (List.mem_of_getElem? (i := 1207) (by decide +kernel)) (by decide +kernel), by decide +kernel, by decide +kernel, by decide +kernel⟩
set_option maxRecDepth 100000 in
theorem kX12_78 : kV RX12 78 mX12_see 0 := ⟨gdm (List.mem_of_getElem? (i := 1208) (by decide +kernel)) (by decide +kernel), ⟨gdm (List.mem_of_getElem? (i := 1210) (by decide +kernel)) (by decide +kernel), gdm (List.mem_of_getElem? (i := 32) (by decide +kernel)) (by decide +kernel)⟩, gdm (List.mem_of_getElem? (i := 132) (by decide +kernel)) (by decide +kernel), gdm (List.mem_of_getElem? (i := 1211) (by decide +kernel)) (by decide +kernel), by decide +kernel, by decide +kernel, by decide +kernel⟩
set_option maxRecDepth 100000 in
theorem kX12_55 : kS RX12 55 mX12_in 3 := ⟨gdm (List.mem_of_getElem? (i := 1212) (by decide +kernel)) (by decide +kernel), gdm (List.mem_of_getElem? (i := 1213) (by decide +kernel)) (by decide +kernel), gdm (List.mem_of_getElem? (i := 132) (by decide +kernel)) (by decide +kernel), gdm (List.mem_of_getElem? (i := 1214) (by decide +kernel)) (by decide +kernel), by decide +kernel, by decide +kernel, by decide +kernel⟩
set_option maxRecDepth 100000 in
theorem kX12_174 : kV RX12 174 mX12_allLines 0 := ⟨gdm (List.mem_of_getElem? (i := 1215) (by decide +kernel)) (by decide +kernel), ⟨gdm (List.mem_of_getElem? (i := 1217) (by decide +kernel)) (by decide +kernel), gdm (List.mem_of_getElem? (i := 33) (by decide +kernel)) (by decide +kernel)⟩, gdm (List.mem_of_getElem? (i := 132) (by decide +kernel)) (by decide +kernel), gdm (List.mem_of_getElem? (i := 1218) (by decide +kernel)) (by decide +kernel), by decide +kernel, by decide +kernel, by decide +kernel⟩
set_option maxRecDepth 100000 in
theorem kX12_156 : kV RX12 156 mX12_line 1 := ⟨gdm (List.mem_of_getElem? (i := 1219) (by decide +kernel)) (by decide +kernel), ⟨gdm (List.mem_of_getElem? (i := 1221) (by decide +kernel)) (by decide +kernel), gdm (List.mem_of_getElem? (i := 34) (by decide +kernel)) (by decide +kernel)⟩, gdm (List.mem_of_getElem? (i := 132) (by decide +kernel)) (by decide +kernel), gdm (List.mem_of_getElem? (i := 1222) (by decide +kernel)) (by decide +kernel), by decide +kernel, by decide +kernel, by decide +kernel⟩
set_option maxRecDepth 100000 in
theorem kX12_130 : kS RX12 130 mX12_settingBy 1 := ⟨gdm (List.mem_of_getElem? (i := 1223) (by decide +kernel)) (by decide +kernel), gdm (List.mem_of_getElem? (i := 1224) (by decide +kernel)) (by decide +kernel), gdm (List.mem_of_getElem? (i := 132) (by decide +kernel)) (by decide +kernel), gdm (List.mem_of_getElem? (i := 1225) (by decide +kernel)) (by decide +kernel), by decide +kernel, by decide +kernel, by decide +kernel⟩
set_option maxRecDepth 100000 in
theorem kX12_114 : kV RX12 114 mX12_fails 0 := ⟨gdm (List.mem_of_getElem? (i := 1237) (by decide +kernel)) (by decide +kernel), ⟨gdm (List.mem_of_getElem? (i := 1239) (by decide +kernel)) (by decide +kernel), gdm (List.mem_of_getElem? (i := 35) (by decide +kernel)) (by decide +kernel)⟩, gdm (List.mem_of_getElem? (i := 132) (by decide +kernel)) (by decide +kernel), gdm (List.mem_of_getElem? (i := 1240) (by decide +kernel)) (by decide +kernel), by decide +kernel, by decide +kernel, by decide +kernel⟩
set_option maxRecDepth 100000 in
theorem kX12_140 : kS RX12 140 mX12_leastOf 1 := ⟨gdm (List.mem_of_getElem? (i := 1241) (by decide +kernel)) (by decide +kernel), gdm (List.mem_of_getElem? (i := 1242) (by decide +kernel)) (by decide +kernel), gdm (List.mem_of_getElem? (i := 132) (by decide +kernel)) (by decide +kernel), gdm (List.mem_of_getElem? (i := 1243) (by decide +kernel)) (by decide +kernel), by decide +kernel, by decide +kernel, by decide +kernel⟩
set_option maxRecDepth 100000 in
theorem kX12_144 : kS RX12 144 mX12_mostOf 1 := ⟨gdm (List.mem_of_getElem? (i := 1244) (by decide +kernel)) (by decide +kernel), gdm (List.mem_of_getElem? (i := 1245) (by decide +kernel)) (by decide +kernel), gdm (List.mem_of_getElem? (i := 132) (by decide +kernel)) (by decide +kernel), gdm (List.mem_of_getElem? (i := 1246) (by decide +kernel)) (by decide +kernel), by decide +kernel, by decide +kernel, by decide +kernel⟩
set_option maxRecDepth 100000 in
theorem kX12_127 : kV RX12 127 mX12_takes 3 := ⟨gdm (List.mem_of_getElem? (i := 1247) (by decide +kernel)) (by decide +kernel), ⟨gdm (List.mem_of_getElem? (i := 1249) (by decide +kernel)) (by decide +kernel), gdm (List.mem_of_getElem? (i := 36) (by decide +kernel)) (by decide +kernel)⟩, gdm (List.mem_of_getElem? (i := 132) (by decide +kernel)) (by decide +kernel), gdm (List.mem_of_getElem? (i := 1250) (by decide +kernel)) (by decide +kernel), by decide +kernel, by decide +kernel, by decide +kernel⟩
set_option maxRecDepth 100000 in
theorem kX12_147 : kV RX12 147 mX12_takesNode 1 := ⟨gdm (List.mem_of_getElem? (i := 1251) (by decide +kernel)) (by decide +kernel), ⟨gdm (List.mem_of_getElem? (i := 1253) (by decide +kernel)) (by decide +kernel), gdm (List.mem_of_getElem? (i := 37) (by decide +kernel)) (by decide +kernel)⟩, gdm (List.mem_of_getElem? (i := 132) (by decide +kernel)) (by decide +kernel), gdm (List.mem_of_getElem? (i := 1254) (by decide +kernel)) (by decide +kernel), by decide +kernel, by decide +kernel, by decide +kernel⟩
set_option maxRecDepth 100000 in
theorem kX12_177 : kV RX12 177 mX12_missing 0 := ⟨gdm (List.mem_of_getElem? (i := 1255) (by decide +kernel)) (by decide +kernel), ⟨gdm (List.mem_of_getElem? (i := 1257) (by decide +kernel)) (by decide +kernel), gdm (List.mem_of_getElem? (i := 38) (by decide +kernel)) (by decide +kernel)⟩, gdm (List.mem_of_getElem? (i := 132) (by decide +kernel)) (by decide +kernel), gdm (List.mem_of_getElem? (i := 1258) (by decide +kernel)) (by decide +kernel), by decide +kernel, by decide +kernel, by decide +kernel⟩
set_option maxRecDepth 100000 in
theorem kL_29 : kV RL 29 mX12_fault 1 := ⟨gdm (List.mem_of_getElem? (i := 1259) (by decide +kernel)) (by decide +kernel), ⟨gdm (List.mem_of_getElem? (i := 1260) (by decide +kernel)) (by decide +kernel), gdm (List.mem_of_getElem? (i := 1261) (by decide +kernel)) (by decide +kernel)⟩, gdm (List.mem_of_getElem? (i := 132) (by decide +kernel)) (by decide +kernel), gdm (List.mem_of_getElem? (i := 1262) (by decide +kernel)) (by decide +kernel), by decide +kernel, by decide +kernel, by decide +kernel⟩
set_option maxRecDepth 100000 in
theorem kL_34 : kV RL 34 mX12_send 2 := ⟨gdm (List.mem_of_getElem? (i := 1263) (by decide +kernel)) (by decide +kernel), ⟨gdm (List.mem_of_getElem? (i := 1264) (by decide +kernel)) (by decide +kernel), gdm (List.mem_of_getElem? (i := 1265) (by decide +kernel)) (by decide +kernel)⟩, gdm (List.mem_of_getElem? (i := 132) (by decide +kernel)) (by decide +kernel), gdm (List.mem_of_getElem? (i := 1266) (by decide +kernel)) (by decide +kernel), by decide +kernel, by decide +kernel, by decide +kernel⟩
set_option maxRecDepth 100000 in
theorem kX12_373 : kV RX12 373 mX12_areTwo 2 := ⟨gdm (List.mem_of_getElem? (i := 1267) (by decide +kernel)) (by decide +kernel), ⟨gdm (List.mem_of_getElem? (i := 1269) (by decide +kernel)) (by decide +kernel), gdm (List.mem_of_getElem? (i := 39) (by decide +kernel)) (by decide +kernel)⟩, gdm (List.mem_of_getElem? (i := 132) (by decide +kernel)) (by decide +kernel), gdm (List.mem_of_getElem? (i := 1270) (by decide +kernel)) (by decide +kernel), by decide +kernel, by decide +kernel, by decide +kernel⟩
set_option maxRecDepth 100000 in
theorem kX12_59 : kV RX12 59 mX12_isNode 1 := ⟨gdm (List.mem_of_getElem? (i := 1271) (by decide +kernel)) (by decide +kernel), ⟨gdm (List.mem_of_getElem? (i := 1273) (by decide +kernel)) (by decide +kernel), gdm (List.mem_of_getElem? (i := 40) (by decide +kernel)) (by decide +kernel)⟩, gdm (List.mem_of_getElem? (i := 132) (by decide +kernel)) (by decide +kernel), gdm (List.mem_of_getElem? (i := 1274) (by decide +kernel)) (by decide +kernel), by decide +kernel, by decide +kernel, by decide +kernel⟩
set_option maxRecDepth 100000 in
theorem kX12_376 : kV RX12 376 mX12_comes 2 := ⟨gdm (List.mem_of_getElem? (i := 1275) (by decide +kernel)) (by decide +kernel), ⟨gdm (List.mem_of_getElem? (i := 1277) (by decide +kernel)) (by decide +kernel), gdm (List.mem_of_getElem? (i := 41) (by decide +kernel)) (by decide +kernel)⟩, gdm (List.mem_of_getElem? (i := 132) (by decide +kernel)) (by decide +kernel), gdm (List.mem_of_getElem? (i := 1278) (by decide +kernel)) (by decide +kernel), by decide +kernel, by decide +kernel, by decide +kernel⟩
set_option maxRecDepth 100000 in
theorem kX12_243 : kV RX12 243 mX12_layData 3 := ⟨gdm (List.mem_of_getElem? (i := 1279) (by decide +kernel)) (by decide +kernel), ⟨gdm (List.mem_of_getElem? (i := 1281) (by decide +kernel)) (by decide +kernel), gdm (List.mem_of_getElem? (i := 42) (by decide +kernel)) (by decide +kernel)⟩, gdm (List.mem_of_getElem? (i := 132) (by decide +kernel)) (by decide +kernel), gdm (List.mem_of_getElem? (i := 1282) (by decide +kernel)) (by decide +kernel), by decide +kernel, by decide +kernel, by decide +kernel⟩
set_option maxRecDepth 100000 in
theorem kX12_289 : kV RX12 289 mX12_serves 1 := ⟨gdm (List.mem_of_getElem? (i := 1283) (by decide +kernel)) (by decide +kernel), ⟨gdm (List.mem_of_getElem? (i := 1285) (by decide +kernel)) (by decide +kernel), gdm (List.mem_of_getElem? (i := 43) (by decide +kernel)) (by decide +kernel)⟩, gdm (List.mem_of_getElem? (i := 132) (by decide +kernel)) (by decide +kernel), gdm (List.mem_of_getElem? (i := 1286) (by decide +kernel)) (by decide +kernel), by decide +kernel, by decide +kernel, by decide +kernel⟩
set_option maxRecDepth 100000 in
theorem kX12_246 : kV RX12 246 mX12_ofData 2 := ⟨gdm (List.mem_of_getElem? (i := 1287) (by decide +kernel)) (by decide +kernel), ⟨gdm (List.mem_of_getElem? (i := 1289) (by decide +kernel)) (by decide +kernel), gdm (List.mem_of_getElem? (i := 44) (by decide +kernel)) (by decide +kernel)⟩, gdm (List.mem_of_getElem? (i := 132) (by decide +kernel)) (by decide +kernel), gdm (List.mem_of_getElem? (i := 1290) (by decide +kernel)) (by decide +kernel), by decide +kernel, by decide +kernel, by decide +kernel⟩
set_option maxRecDepth 100000 in
theorem kX12_265 : kV RX12 265 mX12_finds 2 := ⟨gdm (List.mem_of_getElem? (i := 1291) (by decide +kernel)) (by decide +kernel), ⟨gdm (List.mem_of_getElem? (i := 1293) (by decide +kernel)) (by decide +kernel), gdm (List.mem_of_getElem? (i := 45) (by decide +kernel)) (by decide +kernel)⟩, gdm (List.mem_of_getElem? (i := 132) (by decide +kernel)) (by decide +kernel), gdm (List.mem_of_getElem? (i := 1294) (by decide +kernel)) (by decide +kernel), by decide +kernel, by decide +kernel, by decide +kernel⟩
set_option maxRecDepth 100000 in
theorem kX12_180 : kV RX12 180 mX12_of 2 := ⟨gdm (List.mem_of_getElem? (i := 1295) (by decide +kernel)) (by decide +kernel), ⟨gdm (List.mem_of_getElem? (i := 1297) (by decide +kernel)) (by decide +kernel), gdm (List.mem_of_getElem? (i := 46) (by decide +kernel)) (by decide +kernel)⟩, gdm (List.mem_of_getElem? (i := 132) (by decide +kernel)) (by decide +kernel), gdm (List.mem_of_getElem? (i := 1298) (by decide +kernel)) (by decide +kernel), by decide +kernel, by decide +kernel, by decide +kernel⟩
set_option maxRecDepth 100000 in
theorem kX12_234 : kV RX12 234 mX12_findsByMap 2 := ⟨gdm (List.mem_of_getElem? (i := 1299) (by decide +kernel)) (by decide +kernel), ⟨gdm (List.mem_of_getElem? (i := 1301) (by decide +kernel)) (by decide +kernel), gdm (List.mem_of_getElem? (i := 47) (by decide +kernel)) (by decide +kernel)⟩, gdm (List.mem_of_getElem? (i := 132) (by decide +kernel)) (by decide +kernel), gdm (List.mem_of_getElem? (i := 1302) (by decide +kernel)) (by decide +kernel), by decide +kernel, by decide +kernel, by decide +kernel⟩
set_option maxRecDepth 100000 in
theorem kX12_225 : kV RX12 225 mX12_laysKnown 1 := ⟨gdm (List.mem_of_getElem? (i := 1303) (by decide +kernel)) (by decide +kernel), ⟨gdm (List.mem_of_getElem? (i := 1305) (by decide +kernel)) (by decide +kernel), gdm (List.mem_of_getElem? (i := 48) (by decide +kernel)) (by decide +kernel)⟩, gdm (List.mem_of_getElem? (i := 132) (by decide +kernel)) (by decide +kernel), gdm (List.mem_of_getElem? (i := 1306) (by decide +kernel)) (by decide +kernel), by decide +kernel, by decide +kernel, by decide +kernel⟩
set_option maxRecDepth 100000 in
theorem kX12_221 : kV RX12 221 mX12_knows 2 := ⟨gdm (List.mem_of_getElem? (i := 1307) (by decide +kernel)) (by decide +kernel), ⟨gdm (List.mem_of_getElem? (i := 1309) (by decide +kernel)) (by decide +kernel), gdm (List.mem_of_getElem? (i := 49) (by decide +kernel)) (by decide +kernel)⟩, gdm (List.mem_of_getElem? (i := 132) (by decide +kernel)) (by decide +kernel), gdm (List.mem_of_getElem? (i := 1310) (by decide +kernel)) (by decide +kernel), by decide +kernel, by decide +kernel, by decide +kernel⟩
set_option maxRecDepth 100000 in
theorem kX12_183 : kV RX12 183 mX12_pathMany 2 := ⟨gdm (List.mem_of_getElem? (i := 1311) (by decide +kernel)) (by decide +kernel), ⟨gdm (List.mem_of_getElem? (i := 1313) (by decide +kernel)) (by decide +kernel), gdm (List.mem_of_getElem? (i := 50) (by decide +kernel)) (by decide +kernel)⟩, gdm (List.mem_of_getElem? (i := 132) (by decide +kernel)) (by decide +kernel), gdm (List.mem_of_getElem? (i := 1314) (by decide +kernel)) (by decide +kernel), by decide +kernel, by decide +kernel, by decide +kernel⟩
set_option maxRecDepth 100000 in
theorem kX12_189 : kV RX12 189 mX12_pathAt 3 := ⟨gdm (List.mem_of_getElem? (i := 1315) (by decide +kernel)) (by decide +kernel), ⟨gdm (List.mem_of_getElem? (i := 1317) (by decide +kernel)) (by decide +kernel), gdm (List.mem_of_getElem? (i := 51) (by decide +kernel)) (by decide +kernel)⟩, gdm (List.mem_of_getElem? (i := 132) (by decide +kernel)) (by decide +kernel), gdm (List.mem_of_getElem? (i := 1318) (by decide +kernel)) (by decide +kernel), by decide +kernel, by decide +kernel, by decide +kernel⟩
set_option maxRecDepth 100000 in
theorem kX12_228 : kV RX12 228 mX12_laysFar 1 := ⟨gdm (List.mem_of_getElem? (i := 1319) (by decide +kernel)) (by decide +kernel), ⟨gdm (List.mem_of_getElem? (i := 1321) (by decide +kernel)) (by decide +kernel), gdm (List.mem_of_getElem? (i := 52) (by decide +kernel)) (by decide +kernel)⟩, gdm (List.mem_of_getElem? (i := 132) (by decide +kernel)) (by decide +kernel), gdm (List.mem_of_getElem? (i := 1322) (by decide +kernel)) (by decide +kernel), by decide +kernel, by decide +kernel, by decide +kernel⟩
set_option maxRecDepth 100000 in
theorem kX12_63 : kS RX12 63 mX12_lesser 2 := ⟨gdm (List.mem_of_getElem? (i := 1323) (by decide +kernel)) (by decide +kernel), gdm (List.mem_of_getElem? (i := 1324) (by decide +kernel)) (by decide +kernel), gdm (List.mem_of_getElem? (i := 132) (by decide +kernel)) (by decide +kernel), gdm (List.mem_of_getElem? (i := 1325) (by decide +kernel)) (by decide +kernel), by decide +kernel, by decide +kernel, by decide +kernel⟩
set_option maxRecDepth 100000 in
theorem kX12_237 : kV RX12 237 mX12_findsByPaths 2 := ⟨gdm (List.mem_of_getElem? (i := 1326) (by decide +kernel)) (by decide +kernel), ⟨gdm (List.mem_of_getElem? (i := 1328) (by decide +kernel)) (by decide +kernel), gdm (List.mem_of_getElem? (i := 53) (by decide +kernel)) (by decide +kernel)⟩, gdm (List.mem_of_getElem? (i := 132) (by decide +kernel)) (by decide +kernel), gdm (List.mem_of_getElem? (i := 1329) (by decide +kernel)) (by decide +kernel), by decide +kernel, by decide +kernel, by decide +kernel⟩
set_option maxRecDepth 100000 in
theorem kX12_268 : kV RX12 268 mX12_fliesByWay 1 := ⟨gdm (List.mem_of_getElem? (i := 1330) (by decide +kernel)) (by decide +kernel), ⟨gdm (List.mem_of_getElem? (i := 1332) (by decide +kernel)) (by decide +kernel), gdm (List.mem_of_getElem? (i := 54) (by decide +kernel)) (by decide +kernel)⟩, gdm (List.mem_of_getElem? (i := 132) (by decide +kernel)) (by decide +kernel), gdm (List.mem_of_getElem? (i := 1333) (by decide +kernel)) (by decide +kernel), by decide +kernel, by decide +kernel, by decide +kernel⟩
set_option maxRecDepth 100000 in
theorem kX12_259 : kV RX12 259 mX12_fliesOn 1 := ⟨gdm (List.mem_of_getElem? (i := 1334) (by decide +kernel)) (by decide +kernel), ⟨gdm (List.mem_of_getElem? (i := 1336) (by decide +kernel)) (by decide +kernel), gdm (List.mem_of_getElem? (i := 55) (by decide +kernel)) (by decide +kernel)⟩, gdm (List.mem_of_getElem? (i := 132) (by decide +kernel)) (by decide +kernel), gdm (List.mem_of_getElem? (i := 1337) (by decide +kernel)) (by decide +kernel), by decide +kernel, by decide +kernel, by decide +kernel⟩
set_option maxRecDepth 100000 in
theorem kX12_249 : kV RX12 249 mX12_beginsFrame 6 := ⟨gdm (List.mem_of_getElem? (i := 1338) (by decide +kernel)) (by decide +kernel), ⟨gdm (List.mem_of_getElem? (i := 1340) (by decide +kernel)) (by decide +kernel), gdm (List.mem_of_getElem? (i := 56) (by decide +kernel)) (by decide +kernel)⟩, gdm (List.mem_of_getElem? (i := 132) (by decide +kernel)) (by decide +kernel), gdm (List.mem_of_getElem? (i := 1341) (by decide +kernel)) (by decide +kernel), by decide +kernel, by decide +kernel, by decide +kernel⟩
set_option maxRecDepth 100000 in
theorem kX12_253 : kV RX12 253 mX12_sends 0 := ⟨gdm (List.mem_of_getElem? (i := 1342) (by decide +kernel)) (by decide +kernel), ⟨gdm (List.mem_of_getElem? (i := 1344) (by decide +kernel)) (by decide +kernel), gdm (List.mem_of_getElem? (i := 57) (by decide +kernel)) (by decide +kernel)⟩, gdm (List.mem_of_getElem? (i := 132) (by decide +kernel)) (by decide +kernel), gdm (List.mem_of_getElem? (i := 1345) (by decide +kernel)) (by decide +kernel), by decide +kernel, by decide +kernel, by decide +kernel⟩
set_option maxRecDepth 100000 in
theorem kX12_240 : kV RX12 240 mX12_tally 2 := ⟨gdm (List.mem_of_getElem? (i := 1346) (by decide +kernel)) (by decide +kernel), ⟨gdm (List.mem_of_getElem? (i := 1348) (by decide +kernel)) (by decide +kernel), gdm (List.mem_of_getElem? (i := 58) (by decide +kernel)) (by decide +kernel)⟩, gdm (List.mem_of_getElem? (i := 132) (by decide +kernel)) (by decide +kernel), gdm (List.mem_of_getElem? (i := 1349) (by decide +kernel)) (by decide +kernel), by decide +kernel, by decide +kernel, by decide +kernel⟩
set_option maxRecDepth 100000 in
theorem kX12_256 : kV RX12 256 mX12_isDone 2 := ⟨gdm (List.mem_of_getElem? (i := 1350) (by decide +kernel)) (by decide +kernel), ⟨gdm (List.mem_of_getElem? (i := 1352) (by decide +kernel)) (by decide +kernel), gdm (List.mem_of_getElem? (i := 59) (by decide +kernel)) (by decide +kernel)⟩, gdm (List.mem_of_getElem? (i := 132) (by decide +kernel)) (by decide +kernel), gdm (List.mem_of_getElem? (i := 1353) (by decide +kernel)) (by decide +kernel), by decide +kernel, by decide +kernel, by decide +kernel⟩
set_option maxRecDepth 100000 in
theorem kX12_271 : kV RX12 271 mX12_asks 2 := ⟨gdm (List.mem_of_getElem? (i := 1354) (by decide +kernel)) (by decide +kernel), ⟨gdm (List.mem_of_getElem? (i := 1356) (by decide +kernel)) (by decide +kernel), gdm (List.mem_of_getElem? (i := 60) (by decide +kernel)) (by decide +kernel)⟩, gdm (List.mem_of_getElem? (i := 132) (by decide +kernel)) (by decide +kernel), gdm (List.mem_of_getElem? (i := 1357) (by decide +kernel)) (by decide +kernel), by decide +kernel, by decide +kernel, by decide +kernel⟩
set_option maxRecDepth 100000 in
theorem kX12_262 : kV RX12 262 mX12_addsFrame 1 := ⟨gdm (List.mem_of_getElem? (i := 1358) (by decide +kernel)) (by decide +kernel), ⟨gdm (List.mem_of_getElem? (i := 1360) (by decide +kernel)) (by decide +kernel), gdm (List.mem_of_getElem? (i := 61) (by decide +kernel)) (by decide +kernel)⟩, gdm (List.mem_of_getElem? (i := 132) (by decide +kernel)) (by decide +kernel), gdm (List.mem_of_getElem? (i := 1361) (by decide +kernel)) (by decide +kernel), by decide +kernel, by decide +kernel, by decide +kernel⟩
set_option maxRecDepth 100000 in
theorem kL_39 : kV RL 39 mX12_turn 3 := ⟨gdm (List.mem_of_getElem? (i := 1362) (by decide +kernel)) (by decide +kernel), ⟨gdm (List.mem_of_getElem? (i := 1363) (by decide +kernel)) (by decide +kernel), gdm (List.mem_of_getElem? (i := 1364) (by decide +kernel)) (by decide +kernel)⟩, gdm (List.mem_of_getElem? (i := 132) (by decide +kernel)) (by decide +kernel), gdm (List.mem_of_getElem? (i := 1365) (by decide +kernel)) (by decide +kernel), by decide +kernel, by decide +kernel, by decide +kernel⟩
set_option maxRecDepth 100000 in
theorem kX12_277 : kV RX12 277 mX12_isUp 2 := ⟨gdm (List.mem_of_getElem? (i := 1366) (by decide +kernel)) (by decide +kernel), ⟨gdm (List.mem_of_getElem? (i := 1368) (by decide +kernel)) (by decide +kernel), gdm (List.mem_of_getElem? (i := 62) (by decide +kernel)) (by decide +kernel)⟩, gdm (List.mem_of_getElem? (i := 132) (by decide +kernel)) (by decide +kernel), gdm (List.mem_of_getElem? (i := 1369) (by decide +kernel)) (by decide +kernel), by decide +kernel, by decide +kernel, by decide +kernel⟩
set_option maxRecDepth 100000 in
theorem kX12_379 : kV RX12 379 mX12_layUp 3 := ⟨gdm (List.mem_of_getElem? (i := 1370) (by decide +kernel)) (by decide +kernel), ⟨gdm (List.mem_of_getElem? (i := 1372) (by decide +kernel)) (by decide +kernel), gdm (List.mem_of_getElem? (i := 63) (by decide +kernel)) (by decide +kernel)⟩, gdm (List.mem_of_getElem? (i := 132) (by decide +kernel)) (by decide +kernel), gdm (List.mem_of_getElem? (i := 1373) (by decide +kernel)) (by decide +kernel), by decide +kernel, by decide +kernel, by decide +kernel⟩
set_option maxRecDepth 100000 in
theorem kL_44 : kV RL 44 mX12_ticks 1 := ⟨gdm (List.mem_of_getElem? (i := 1374) (by decide +kernel)) (by decide +kernel), ⟨gdm (List.mem_of_getElem? (i := 1375) (by decide +kernel)) (by decide +kernel), gdm (List.mem_of_getElem? (i := 1376) (by decide +kernel)) (by decide +kernel)⟩, gdm (List.mem_of_getElem? (i := 132) (by decide +kernel)) (by decide +kernel), gdm (List.mem_of_getElem? (i := 1377) (by decide +kernel)) (by decide +kernel), by decide +kernel, by decide +kernel, by decide +kernel⟩
set_option maxRecDepth 100000 in
theorem kX12_382 : kV RX12 382 mX12_tick 0 := ⟨gdm (List.mem_of_getElem? (i := 1378) (by decide +kernel)) (by decide +kernel), ⟨gdm (List.mem_of_getElem? (i := 1380) (by decide +kernel)) (by decide +kernel), gdm (List.mem_of_getElem? (i := 64) (by decide +kernel)) (by decide +kernel)⟩, gdm (List.mem_of_getElem? (i := 132) (by decide +kernel)) (by decide +kernel), gdm (List.mem_of_getElem? (i := 1381) (by decide +kernel)) (by decide +kernel), by decide +kernel, by decide +kernel, by decide +kernel⟩
set_option maxRecDepth 100000 in
theorem kX12_364 : kV RX12 364 mX12_arriveAll 0 := ⟨gdm (List.mem_of_getElem? (i := 1382) (by decide +kernel)) (by decide +kernel), ⟨gdm (List.mem_of_getElem? (i := 1384) (by decide +kernel)) (by decide +kernel), gdm (List.mem_of_getElem? (i := 65) (by decide +kernel)) (by decide +kernel)⟩, gdm (List.mem_of_getElem? (i := 132) (by decide +kernel)) (by decide +kernel), gdm (List.mem_of_getElem? (i := 1385) (by decide +kernel)) (by decide +kernel), by decide +kernel, by decide +kernel, by decide +kernel⟩
set_option maxRecDepth 100000 in
theorem kX12_355 : kV RX12 355 mX12_arrives 0 := ⟨gdm (List.mem_of_getElem? (i := 1386) (by decide +kernel)) (by decide +kernel), ⟨gdm (List.mem_of_getElem? (i := 1388) (by decide +kernel)) (by decide +kernel), gdm (List.mem_of_getElem? (i := 66) (by decide +kernel)) (by decide +kernel)⟩, gdm (List.mem_of_getElem? (i := 132) (by decide +kernel)) (by decide +kernel), gdm (List.mem_of_getElem? (i := 1389) (by decide +kernel)) (by decide +kernel), by decide +kernel, by decide +kernel, by decide +kernel⟩
set_option maxRecDepth 100000 in
theorem kX12_343 : kV RX12 343 mX12_dataComes 0 := ⟨gdm (List.mem_of_getElem? (i := 1390) (by decide +kernel)) (by decide +kernel), ⟨gdm (List.mem_of_getElem? (i := 1392) (by decide +kernel)) (by decide +kernel), gdm (List.mem_of_getElem? (i := 67) (by decide +kernel)) (by decide +kernel)⟩, gdm (List.mem_of_getElem? (i := 132) (by decide +kernel)) (by decide +kernel), gdm (List.mem_of_getElem? (i := 1393) (by decide +kernel)) (by decide +kernel), by decide +kernel, by decide +kernel, by decide +kernel⟩
set_option maxRecDepth 100000 in
theorem kX12_298 : kV RX12 298 mX12_breaks 3 := ⟨gdm (List.mem_of_getElem? (i := 1394) (by decide +kernel)) (by decide +kernel), ⟨gdm (List.mem_of_getElem? (i := 1396) (by decide +kernel)) (by decide +kernel), gdm (List.mem_of_getElem? (i := 68) (by decide +kernel)) (by decide +kernel)⟩, gdm (List.mem_of_getElem? (i := 132) (by decide +kernel)) (by decide +kernel), gdm (List.mem_of_getElem? (i := 1397) (by decide +kernel)) (by decide +kernel), by decide +kernel, by decide +kernel, by decide +kernel⟩
set_option maxRecDepth 100000 in
theorem kX12_218 : kV RX12 218 mX12_forgets 3 := ⟨gdm (List.mem_of_getElem? (i := 1398) (by decide +kernel)) (by decide +kernel), ⟨gdm (List.mem_of_getElem? (i := 1400) (by decide +kernel)) (by decide +kernel), gdm (List.mem_of_getElem? (i := 69) (by decide +kernel)) (by decide +kernel)⟩, gdm (List.mem_of_getElem? (i := 132) (by decide +kernel)) (by decide +kernel), gdm (List.mem_of_getElem? (i := 1401) (by decide +kernel)) (by decide +kernel), by decide +kernel, by decide +kernel, by decide +kernel⟩
set_option maxRecDepth 100000 in
theorem kX12_215 : kV RX12 215 mX12_forgetsPaths 3 := ⟨gdm (List.mem_of_getElem? (i := 1402) (by decide +kernel)) (by decide +kernel), ⟨gdm (List.mem_of_getElem? (i := 1404) (by decide +kernel)) (by decide +kernel), gdm (List.mem_of_getElem? (i := 70) (by decide +kernel)) (by decide +kernel)⟩, gdm (List.mem_of_getElem? (i := 132) (by decide +kernel)) (by decide +kernel), gdm (List.mem_of_getElem? (i := 1405) (by decide +kernel)) (by decide +kernel), by decide +kernel, by decide +kernel, by decide +kernel⟩
set_option maxRecDepth 100000 in
theorem kX12_212 : kV RX12 212 mX12_isVain 2 := ⟨gdm (List.mem_of_getElem? (i := 1406) (by decide +kernel)) (by decide +kernel), ⟨gdm (List.mem_of_getElem? (i := 1408) (by decide +kernel)) (by decide +kernel), gdm (List.mem_of_getElem? (i := 71) (by decide +kernel)) (by decide +kernel)⟩, gdm (List.mem_of_getElem? (i := 132) (by decide +kernel)) (by decide +kernel), gdm (List.mem_of_getElem? (i := 1409) (by decide +kernel)) (by decide +kernel), by decide +kernel, by decide +kernel, by decide +kernel⟩
set_option maxRecDepth 100000 in
theorem kX12_193 : kV RX12 193 mX12_isLesson 2 := ⟨gdm (List.mem_of_getElem? (i := 1410) (by decide +kernel)) (by decide +kernel), ⟨gdm (List.mem_of_getElem? (i := 1412) (by decide +kernel)) (by decide +kernel), gdm (List.mem_of_getElem? (i := 72) (by decide +kernel)) (by decide +kernel)⟩, gdm (List.mem_of_getElem? (i := 132) (by decide +kernel)) (by decide +kernel), gdm (List.mem_of_getElem? (i := 1413) (by decide +kernel)) (by decide +kernel), by decide +kernel, by decide +kernel, by decide +kernel⟩
set_option maxRecDepth 100000 in
theorem kX12_196 : kV RX12 196 mX12_dropsKept 3 := ⟨gdm (List.mem_of_getElem? (i := 1414) (by decide +kernel)) (by decide +kernel), ⟨gdm (List.mem_of_getElem? (i := 1416) (by decide +kernel)) (by decide +kernel), gdm (List.mem_of_getElem? (i := 73) (by decide +kernel)) (by decide +kernel)⟩, gdm (List.mem_of_getElem? (i := 132) (by decide +kernel)) (by decide +kernel), gdm (List.mem_of_getElem? (i := 1417) (by decide +kernel)) (by decide +kernel), by decide +kernel, by decide +kernel, by decide +kernel⟩
set_option maxRecDepth 100000 in
theorem kX12_202 : kV RX12 202 mX12_linkKept 3 := ⟨gdm (List.mem_of_getElem? (i := 1418) (by decide +kernel)) (by decide +kernel), ⟨gdm (List.mem_of_getElem? (i := 1420) (by decide +kernel)) (by decide +kernel), gdm (List.mem_of_getElem? (i := 74) (by decide +kernel)) (by decide +kernel)⟩, gdm (List.mem_of_getElem? (i := 132) (by decide +kernel)) (by decide +kernel), gdm (List.mem_of_getElem? (i := 1421) (by decide +kernel)) (by decide +kernel), by decide +kernel, by decide +kernel, by decide +kernel⟩
set_option maxRecDepth 100000 in
theorem kX12_67 : kS RX12 67 mX12_greater 2 := ⟨gdm (List.mem_of_getElem? (i := 1422) (by decide +kernel)) (by decide +kernel), gdm (List.mem_of_getElem? (i := 1423) (by decide +kernel)) (by decide +kernel), gdm (List.mem_of_getElem? (i := 132) (by decide +kernel)) (by decide +kernel), gdm (List.mem_of_getElem? (i := 1424) (by decide +kernel)) (by decide +kernel), by decide +kernel, by decide +kernel, by decide +kernel⟩
set_option maxRecDepth 100000 in
theorem kX12_286 : kS RX12 286 mX12_linkOf 2 := ⟨gdm (List.mem_of_getElem? (i := 1425) (by decide +kernel)) (by decide +kernel), gdm (List.mem_of_getElem? (i := 1426) (by decide +kernel)) (by decide +kernel), gdm (List.mem_of_getElem? (i := 132) (by decide +kernel)) (by decide +kernel), gdm (List.mem_of_getElem? (i := 1427) (by decide +kernel)) (by decide +kernel), by decide +kernel, by decide +kernel, by decide +kernel⟩
set_option maxRecDepth 100000 in
theorem kX12_280 : kV RX12 280 mX12_trailAt 2 := ⟨gdm (List.mem_of_getElem? (i := 1428) (by decide +kernel)) (by decide +kernel), ⟨gdm (List.mem_of_getElem? (i := 1430) (by decide +kernel)) (by decide +kernel), gdm (List.mem_of_getElem? (i := 75) (by decide +kernel)) (by decide +kernel)⟩, gdm (List.mem_of_getElem? (i := 132) (by decide +kernel)) (by decide +kernel), gdm (List.mem_of_getElem? (i := 1431) (by decide +kernel)) (by decide +kernel), by decide +kernel, by decide +kernel, by decide +kernel⟩
set_option maxRecDepth 100000 in
theorem kX12_292 : kV RX12 292 mX12_isClear 1 := ⟨gdm (List.mem_of_getElem? (i := 1432) (by decide +kernel)) (by decide +kernel), ⟨gdm (List.mem_of_getElem? (i := 1434) (by decide +kernel)) (by decide +kernel), gdm (List.mem_of_getElem? (i := 76) (by decide +kernel)) (by decide +kernel)⟩, gdm (List.mem_of_getElem? (i := 132) (by decide +kernel)) (by decide +kernel), gdm (List.mem_of_getElem? (i := 1435) (by decide +kernel)) (by decide +kernel), by decide +kernel, by decide +kernel, by decide +kernel⟩
set_option maxRecDepth 100000 in
theorem kX12_283 : kV RX12 283 mX12_isInTrail 3 := ⟨gdm (List.mem_of_getElem? (i := 1436) (by decide +kernel)) (by decide +kernel), ⟨gdm (List.mem_of_getElem? (i := 1438) (by decide +kernel)) (by decide +kernel), gdm (List.mem_of_getElem? (i := 77) (by decide +kernel)) (by decide +kernel)⟩, gdm (List.mem_of_getElem? (i := 132) (by decide +kernel)) (by decide +kernel), gdm (List.mem_of_getElem? (i := 1439) (by decide +kernel)) (by decide +kernel), by decide +kernel, by decide +kernel, by decide +kernel⟩
set_option maxRecDepth 100000 in
theorem kX12_301 : kV RX12 301 mX12_movesOn 2 := ⟨gdm (List.mem_of_getElem? (i := 1440) (by decide +kernel)) (by decide +kernel), ⟨gdm (List.mem_of_getElem? (i := 1442) (by decide +kernel)) (by decide +kernel), gdm (List.mem_of_getElem? (i := 78) (by decide +kernel)) (by decide +kernel)⟩, gdm (List.mem_of_getElem? (i := 132) (by decide +kernel)) (by decide +kernel), gdm (List.mem_of_getElem? (i := 1443) (by decide +kernel)) (by decide +kernel), by decide +kernel, by decide +kernel, by decide +kernel⟩
set_option maxRecDepth 100000 in
theorem kX12_295 : kV RX12 295 mX12_addsLesson 1 := ⟨gdm (List.mem_of_getElem? (i := 1444) (by decide +kernel)) (by decide +kernel), ⟨gdm (List.mem_of_getElem? (i := 1446) (by decide +kernel)) (by decide +kernel), gdm (List.mem_of_getElem? (i := 79) (by decide +kernel)) (by decide +kernel)⟩, gdm (List.mem_of_getElem? (i := 132) (by decide +kernel)) (by decide +kernel), gdm (List.mem_of_getElem? (i := 1447) (by decide +kernel)) (by decide +kernel), by decide +kernel, by decide +kernel, by decide +kernel⟩
set_option maxRecDepth 100000 in
theorem kX12_304 : kV RX12 304 mX12_learns 1 := ⟨gdm (List.mem_of_getElem? (i := 1448) (by decide +kernel)) (by decide +kernel), ⟨gdm (List.mem_of_getElem? (i := 1450) (by decide +kernel)) (by decide +kernel), gdm (List.mem_of_getElem? (i := 80) (by decide +kernel)) (by decide +kernel)⟩, gdm (List.mem_of_getElem? (i := 132) (by decide +kernel)) (by decide +kernel), gdm (List.mem_of_getElem? (i := 1451) (by decide +kernel)) (by decide +kernel), by decide +kernel, by decide +kernel, by decide +kernel⟩
set_option maxRecDepth 100000 in
theorem kX12_205 : kV RX12 205 mX12_learnsPath 1 := ⟨gdm (List.mem_of_getElem? (i := 1452) (by decide +kernel)) (by decide +kernel), ⟨gdm (List.mem_of_getElem? (i := 1454) (by decide +kernel)) (by decide +kernel), gdm (List.mem_of_getElem? (i := 81) (by decide +kernel)) (by decide +kernel)⟩, gdm (List.mem_of_getElem? (i := 132) (by decide +kernel)) (by decide +kernel), gdm (List.mem_of_getElem? (i := 1455) (by decide +kernel)) (by decide +kernel), by decide +kernel, by decide +kernel, by decide +kernel⟩
set_option maxRecDepth 100000 in
theorem kX12_199 : kV RX12 199 mX12_opens 3 := ⟨gdm (List.mem_of_getElem? (i := 1456) (by decide +kernel)) (by decide +kernel), ⟨gdm (List.mem_of_getElem? (i := 1458) (by decide +kernel)) (by decide +kernel), gdm (List.mem_of_getElem? (i := 82) (by decide +kernel)) (by decide +kernel)⟩, gdm (List.mem_of_getElem? (i := 132) (by decide +kernel)) (by decide +kernel), gdm (List.mem_of_getElem? (i := 1459) (by decide +kernel)) (by decide +kernel), by decide +kernel, by decide +kernel, by decide +kernel⟩
set_option maxRecDepth 100000 in
theorem kX12_209 : kV RX12 209 mX12_learnsLink 3 := ⟨gdm (List.mem_of_getElem? (i := 1460) (by decide +kernel)) (by decide +kernel), ⟨gdm (List.mem_of_getElem? (i := 1462) (by decide +kernel)) (by decide +kernel), gdm (List.mem_of_getElem? (i := 83) (by decide +kernel)) (by decide +kernel)⟩, gdm (List.mem_of_getElem? (i := 132) (by decide +kernel)) (by decide +kernel), gdm (List.mem_of_getElem? (i := 1463) (by decide +kernel)) (by decide +kernel), by decide +kernel, by decide +kernel, by decide +kernel⟩
set_option maxRecDepth 100000 in
theorem kX12_307 : kV RX12 307 mX12_addsTrail 2 := ⟨gdm (List.mem_of_getElem? (i := 1464) (by decide +kernel)) (by decide +kernel), ⟨gdm (List.mem_of_getElem? (i := 1466) (by decide +kernel)) (by decide +kernel), gdm (List.mem_of_getElem? (i := 84) (by decide +kernel)) (by decide +kernel)⟩, gdm (List.mem_of_getElem? (i := 132) (by decide +kernel)) (by decide +kernel), gdm (List.mem_of_getElem? (i := 1467) (by decide +kernel)) (by decide +kernel), by decide +kernel, by decide +kernel, by decide +kernel⟩
set_option maxRecDepth 100000 in
theorem kX12_310 : kV RX12 310 mX12_isNear 2 := ⟨gdm (List.mem_of_getElem? (i := 1468) (by decide +kernel)) (by decide +kernel), ⟨gdm (List.mem_of_getElem? (i := 1470) (by decide +kernel)) (by decide +kernel), gdm (List.mem_of_getElem? (i := 85) (by decide +kernel)) (by decide +kernel)⟩, gdm (List.mem_of_getElem? (i := 132) (by decide +kernel)) (by decide +kernel), gdm (List.mem_of_getElem? (i := 1471) (by decide +kernel)) (by decide +kernel), by decide +kernel, by decide +kernel, by decide +kernel⟩
set_option maxRecDepth 100000 in
theorem kX12_313 : kV RX12 313 mX12_beginsLesson 1 := ⟨gdm (List.mem_of_getElem? (i := 1472) (by decide +kernel)) (by decide +kernel), ⟨gdm (List.mem_of_getElem? (i := 1474) (by decide +kernel)) (by decide +kernel), gdm (List.mem_of_getElem? (i := 86) (by decide +kernel)) (by decide +kernel)⟩, gdm (List.mem_of_getElem? (i := 132) (by decide +kernel)) (by decide +kernel), gdm (List.mem_of_getElem? (i := 1475) (by decide +kernel)) (by decide +kernel), by decide +kernel, by decide +kernel, by decide +kernel⟩
set_option maxRecDepth 100000 in
theorem kX12_316 : kV RX12 316 mX12_shortens 3 := ⟨gdm (List.mem_of_getElem? (i := 1476) (by decide +kernel)) (by decide +kernel), ⟨gdm (List.mem_of_getElem? (i := 1478) (by decide +kernel)) (by decide +kernel), gdm (List.mem_of_getElem? (i := 87) (by decide +kernel)) (by decide +kernel)⟩, gdm (List.mem_of_getElem? (i := 132) (by decide +kernel)) (by decide +kernel), gdm (List.mem_of_getElem? (i := 1479) (by decide +kernel)) (by decide +kernel), by decide +kernel, by decide +kernel, by decide +kernel⟩
set_option maxRecDepth 100000 in
theorem kX12_346 : kV RX12 346 mX12_requestComes 0 := ⟨gdm (List.mem_of_getElem? (i := 1480) (by decide +kernel)) (by decide +kernel), ⟨gdm (List.mem_of_getElem? (i := 1482) (by decide +kernel)) (by decide +kernel), gdm (List.mem_of_getElem? (i := 88) (by decide +kernel)) (by decide +kernel)⟩, gdm (List.mem_of_getElem? (i := 132) (by decide +kernel)) (by decide +kernel), gdm (List.mem_of_getElem? (i := 1483) (by decide +kernel)) (by decide +kernel), by decide +kernel, by decide +kernel, by decide +kernel⟩
set_option maxRecDepth 100000 in
theorem kX12_325 : kV RX12 325 mX12_forgetsLink 2 := ⟨gdm (List.mem_of_getElem? (i := 1484) (by decide +kernel)) (by decide +kernel), ⟨gdm (List.mem_of_getElem? (i := 1486) (by decide +kernel)) (by decide +kernel), gdm (List.mem_of_getElem? (i := 89) (by decide +kernel)) (by decide +kernel)⟩, gdm (List.mem_of_getElem? (i := 132) (by decide +kernel)) (by decide +kernel), gdm (List.mem_of_getElem? (i := 1487) (by decide +kernel)) (by decide +kernel), by decide +kernel, by decide +kernel, by decide +kernel⟩
set_option maxRecDepth 100000 in
theorem kX12_319 : kV RX12 319 mX12_isInRow 2 := ⟨gdm (List.mem_of_getElem? (i := 1488) (by decide +kernel)) (by decide +kernel), ⟨gdm (List.mem_of_getElem? (i := 1490) (by decide +kernel)) (by decide +kernel), gdm (List.mem_of_getElem? (i := 90) (by decide +kernel)) (by decide +kernel)⟩, gdm (List.mem_of_getElem? (i := 132) (by decide +kernel)) (by decide +kernel), gdm (List.mem_of_getElem? (i := 1491) (by decide +kernel)) (by decide +kernel), by decide +kernel, by decide +kernel, by decide +kernel⟩
set_option maxRecDepth 100000 in
theorem kX12_274 : kV RX12 274 mX12_rowAt 1 := ⟨gdm (List.mem_of_getElem? (i := 1492) (by decide +kernel)) (by decide +kernel), ⟨gdm (List.mem_of_getElem? (i := 1494) (by decide +kernel)) (by decide +kernel), gdm (List.mem_of_getElem? (i := 91) (by decide +kernel)) (by decide +kernel)⟩, gdm (List.mem_of_getElem? (i := 132) (by decide +kernel)) (by decide +kernel), gdm (List.mem_of_getElem? (i := 1495) (by decide +kernel)) (by decide +kernel), by decide +kernel, by decide +kernel, by decide +kernel⟩
set_option maxRecDepth 100000 in
theorem kX12_328 : kV RX12 328 mX12_hasSeen 3 := ⟨gdm (List.mem_of_getElem? (i := 1496) (by decide +kernel)) (by decide +kernel), ⟨gdm (List.mem_of_getElem? (i := 1498) (by decide +kernel)) (by decide +kernel), gdm (List.mem_of_getElem? (i := 92) (by decide +kernel)) (by decide +kernel)⟩, gdm (List.mem_of_getElem? (i := 132) (by decide +kernel)) (by decide +kernel), gdm (List.mem_of_getElem? (i := 1499) (by decide +kernel)) (by decide +kernel), by decide +kernel, by decide +kernel, by decide +kernel⟩
set_option maxRecDepth 100000 in
theorem kX12_331 : kV RX12 331 mX12_sees 3 := ⟨gdm (List.mem_of_getElem? (i := 1500) (by decide +kernel)) (by decide +kernel), ⟨gdm (List.mem_of_getElem? (i := 1502) (by decide +kernel)) (by decide +kernel), gdm (List.mem_of_getElem? (i := 93) (by decide +kernel)) (by decide +kernel)⟩, gdm (List.mem_of_getElem? (i := 132) (by decide +kernel)) (by decide +kernel), gdm (List.mem_of_getElem? (i := 1503) (by decide +kernel)) (by decide +kernel), by decide +kernel, by decide +kernel, by decide +kernel⟩
set_option maxRecDepth 100000 in
theorem kX12_334 : kV RX12 334 mX12_answers 2 := ⟨gdm (List.mem_of_getElem? (i := 1504) (by decide +kernel)) (by decide +kernel), ⟨gdm (List.mem_of_getElem? (i := 1506) (by decide +kernel)) (by decide +kernel), gdm (List.mem_of_getElem? (i := 94) (by decide +kernel)) (by decide +kernel)⟩, gdm (List.mem_of_getElem? (i := 132) (by decide +kernel)) (by decide +kernel), gdm (List.mem_of_getElem? (i := 1507) (by decide +kernel)) (by decide +kernel), by decide +kernel, by decide +kernel, by decide +kernel⟩
set_option maxRecDepth 100000 in
theorem kX12_322 : kV RX12 322 mX12_isRoute 0 := ⟨gdm (List.mem_of_getElem? (i := 1508) (by decide +kernel)) (by decide +kernel), ⟨gdm (List.mem_of_getElem? (i := 1510) (by decide +kernel)) (by decide +kernel), gdm (List.mem_of_getElem? (i := 95) (by decide +kernel)) (by decide +kernel)⟩, gdm (List.mem_of_getElem? (i := 132) (by decide +kernel)) (by decide +kernel), gdm (List.mem_of_getElem? (i := 1511) (by decide +kernel)) (by decide +kernel), by decide +kernel, by decide +kernel, by decide +kernel⟩
set_option maxRecDepth 100000 in
theorem kX12_349 : kV RX12 349 mX12_replyComes 0 := ⟨gdm (List.mem_of_getElem? (i := 1512) (by decide +kernel)) (by decide +kernel), ⟨gdm (List.mem_of_getElem? (i := 1514) (by decide +kernel)) (by decide +kernel), gdm (List.mem_of_getElem? (i := 96) (by decide +kernel)) (by decide +kernel)⟩, gdm (List.mem_of_getElem? (i := 132) (by decide +kernel)) (by decide +kernel), gdm (List.mem_of_getElem? (i := 1515) (by decide +kernel)) (by decide +kernel), by decide +kernel, by decide +kernel, by decide +kernel⟩
set_option maxRecDepth 100000 in
theorem kX12_337 : kV RX12 337 mX12_placeOf 1 := ⟨gdm (List.mem_of_getElem? (i := 1516) (by decide +kernel)) (by decide +kernel), ⟨gdm (List.mem_of_getElem? (i := 1518) (by decide +kernel)) (by decide +kernel), gdm (List.mem_of_getElem? (i := 97) (by decide +kernel)) (by decide +kernel)⟩, gdm (List.mem_of_getElem? (i := 132) (by decide +kernel)) (by decide +kernel), gdm (List.mem_of_getElem? (i := 1519) (by decide +kernel)) (by decide +kernel), by decide +kernel, by decide +kernel, by decide +kernel⟩
set_option maxRecDepth 100000 in
theorem kX12_340 : kV RX12 340 mX12_learnsRow 1 := ⟨gdm (List.mem_of_getElem? (i := 1520) (by decide +kernel)) (by decide +kernel), ⟨gdm (List.mem_of_getElem? (i := 1522) (by decide +kernel)) (by decide +kernel), gdm (List.mem_of_getElem? (i := 98) (by decide +kernel)) (by decide +kernel)⟩, gdm (List.mem_of_getElem? (i := 132) (by decide +kernel)) (by decide +kernel), gdm (List.mem_of_getElem? (i := 1523) (by decide +kernel)) (by decide +kernel), by decide +kernel, by decide +kernel, by decide +kernel⟩
set_option maxRecDepth 100000 in
theorem kX12_352 : kV RX12 352 mX12_errorComes 0 := ⟨gdm (List.mem_of_getElem? (i := 1524) (by decide +kernel)) (by decide +kernel), ⟨gdm (List.mem_of_getElem? (i := 1526) (by decide +kernel)) (by decide +kernel), gdm (List.mem_of_getElem? (i := 99) (by decide +kernel)) (by decide +kernel)⟩, gdm (List.mem_of_getElem? (i := 132) (by decide +kernel)) (by decide +kernel), gdm (List.mem_of_getElem? (i := 1527) (by decide +kernel)) (by decide +kernel), by decide +kernel, by decide +kernel, by decide +kernel⟩
set_option maxRecDepth 100000 in
theorem kX12_367 : kV RX12 367 mX12_drains 1 := ⟨gdm (List.mem_of_getElem? (i := 1528) (by decide +kernel)) (by decide +kernel), ⟨gdm (List.mem_of_getElem? (i := 1530) (by decide +kernel)) (by decide +kernel), gdm (List.mem_of_getElem? (i := 100) (by decide +kernel)) (by decide +kernel)⟩, gdm (List.mem_of_getElem? (i := 132) (by decide +kernel)) (by decide +kernel), gdm (List.mem_of_getElem? (i := 1531) (by decide +kernel)) (by decide +kernel), by decide +kernel, by decide +kernel, by decide +kernel⟩
set_option maxRecDepth 100000 in
theorem kX12_358 : kV RX12 358 mX12_leaves 2 := ⟨gdm (List.mem_of_getElem? (i := 1532) (by decide +kernel)) (by decide +kernel), ⟨gdm (List.mem_of_getElem? (i := 1534) (by decide +kernel)) (by decide +kernel), gdm (List.mem_of_getElem? (i := 101) (by decide +kernel)) (by decide +kernel)⟩, gdm (List.mem_of_getElem? (i := 132) (by decide +kernel)) (by decide +kernel), gdm (List.mem_of_getElem? (i := 1535) (by decide +kernel)) (by decide +kernel), by decide +kernel, by decide +kernel, by decide +kernel⟩
set_option maxRecDepth 100000 in
theorem kX12_370 : kV RX12 370 mX12_asksAgain 1 := ⟨gdm (List.mem_of_getElem? (i := 1536) (by decide +kernel)) (by decide +kernel), ⟨gdm (List.mem_of_getElem? (i := 1538) (by decide +kernel)) (by decide +kernel), gdm (List.mem_of_getElem? (i := 102) (by decide +kernel)) (by decide +kernel)⟩, gdm (List.mem_of_getElem? (i := 132) (by decide +kernel)) (by decide +kernel), gdm (List.mem_of_getElem? (i := 1539) (by decide +kernel)) (by decide +kernel), by decide +kernel, by decide +kernel, by decide +kernel⟩
set_option maxRecDepth 100000 in
theorem kX12_361 : kV RX12 361 mX12_waitsFor 2 := ⟨gdm (List.mem_of_getElem? (i := 1540) (by decide +kernel)) (by decide +kernel), ⟨gdm (List.mem_of_getElem? (i := 1542) (by decide +kernel)) (by decide +kernel), gdm (List.mem_of_getElem? (i := 103) (by decide +kernel)) (by decide +kernel)⟩, gdm (List.mem_of_getElem? (i := 132) (by decide +kernel)) (by decide +kernel), gdm (List.mem_of_getElem? (i := 1543) (by decide +kernel)) (by decide +kernel), by decide +kernel, by decide +kernel, by decide +kernel⟩
set_option maxRecDepth 100000 in
theorem kL_48 : kV RL 48 mX12_has_ 1 := ⟨gdm (List.mem_of_getElem? (i := 1544) (by decide +kernel)) (by decide +kernel), ⟨gdm (List.mem_of_getElem? (i := 1545) (by decide +kernel)) (by decide +kernel), gdm (List.mem_of_getElem? (i := 1546) (by decide +kernel)) (by decide +kernel)⟩, gdm (List.mem_of_getElem? (i := 132) (by decide +kernel)) (by decide +kernel), gdm (List.mem_of_getElem? (i := 1547) (by decide +kernel)) (by decide +kernel), by decide +kernel, by decide +kernel, by decide +kernel⟩
set_option maxRecDepth 100000 in
theorem kL_52 : kV RL 52 mX12_node 2 := ⟨gdm (List.mem_of_getElem? (i := 1548) (by decide +kernel)) (by decide +kernel), ⟨gdm (List.mem_of_getElem? (i := 1549) (by decide +kernel)) (by decide +kernel), gdm (List.mem_of_getElem? (i := 1550) (by decide +kernel)) (by decide +kernel)⟩, gdm (List.mem_of_getElem? (i := 132) (by decide +kernel)) (by decide +kernel), gdm (List.mem_of_getElem? (i := 1551) (by decide +kernel)) (by decide +kernel), by decide +kernel, by decide +kernel, by decide +kernel⟩
set_option maxRecDepth 100000 in
theorem kX12_385 : kV RX12 385 mX12_asksFor 1 := ⟨gdm (List.mem_of_getElem? (i := 1552) (by decide +kernel)) (by decide +kernel), ⟨gdm (List.mem_of_getElem? (i := 1554) (by decide +kernel)) (by decide +kernel), gdm (List.mem_of_getElem? (i := 104) (by decide +kernel)) (by decide +kernel)⟩, gdm (List.mem_of_getElem? (i := 132) (by decide +kernel)) (by decide +kernel), gdm (List.mem_of_getElem? (i := 1555) (by decide +kernel)) (by decide +kernel), by decide +kernel, by decide +kernel, by decide +kernel⟩
set_option maxRecDepth 100000 in
theorem kX12_388 : kV RX12 388 mX12_waysOf 1 := ⟨gdm (List.mem_of_getElem? (i := 1556) (by decide +kernel)) (by decide +kernel), ⟨gdm (List.mem_of_getElem? (i := 1558) (by decide +kernel)) (by decide +kernel), gdm (List.mem_of_getElem? (i := 105) (by decide +kernel)) (by decide +kernel)⟩, gdm (List.mem_of_getElem? (i := 132) (by decide +kernel)) (by decide +kernel), gdm (List.mem_of_getElem? (i := 1559) (by decide +kernel)) (by decide +kernel), by decide +kernel, by decide +kernel, by decide +kernel⟩
set_option maxRecDepth 100000 in
theorem kX12_391 : kV RX12 391 mX12_upOf 1 := ⟨gdm (List.mem_of_getElem? (i := 1560) (by decide +kernel)) (by decide +kernel), ⟨gdm (List.mem_of_getElem? (i := 1562) (by decide +kernel)) (by decide +kernel), gdm (List.mem_of_getElem? (i := 106) (by decide +kernel)) (by decide +kernel)⟩, gdm (List.mem_of_getElem? (i := 132) (by decide +kernel)) (by decide +kernel), gdm (List.mem_of_getElem? (i := 1563) (by decide +kernel)) (by decide +kernel), by decide +kernel, by decide +kernel, by decide +kernel⟩
set_option maxRecDepth 100000 in
theorem kL_57 : kV RL 57 mX12_kept 3 := ⟨gdm (List.mem_of_getElem? (i := 1564) (by decide +kernel)) (by decide +kernel), ⟨gdm (List.mem_of_getElem? (i := 1565) (by decide +kernel)) (by decide +kernel), gdm (List.mem_of_getElem? (i := 1566) (by decide +kernel)) (by decide +kernel)⟩, gdm (List.mem_of_getElem? (i := 132) (by decide +kernel)) (by decide +kernel), gdm (List.mem_of_getElem? (i := 1567) (by decide +kernel)) (by decide +kernel), by decide +kernel, by decide +kernel, by decide +kernel⟩
set_option maxRecDepth 100000 in
theorem kL_61 : kV RL 61 mX12_seen 2 := ⟨gdm (List.mem_of_getElem? (i := 1568) (by decide +kernel)) (by decide +kernel), ⟨gdm (List.mem_of_getElem? (i := 1569) (by decide +kernel)) (by decide +kernel), gdm (List.mem_of_getElem? (i := 1570) (by decide +kernel)) (by decide +kernel)⟩, gdm (List.mem_of_getElem? (i := 132) (by decide +kernel)) (by decide +kernel), gdm (List.mem_of_getElem? (i := 1571) (by decide +kernel)) (by decide +kernel), by decide +kernel, by decide +kernel, by decide +kernel⟩
set_option maxRecDepth 100000 in
theorem kL_65 : kV RL 65 mX12_waits 2 := ⟨gdm (List.mem_of_getElem? (i := 1573) (by decide +kernel)) (by decide +kernel), ⟨gdm (List.mem_of_getElem? (i := 1574) (by decide +kernel)) (by decide +kernel), gdm (List.mem_of_getElem? (i := 1575) (by decide +kernel)) (by decide +kernel)⟩, gdm (List.mem_of_getElem? (i := 132) (by decide +kernel)) (by decide +kernel), gdm (List.mem_of_getElem? (i := 1576) (by decide +kernel)) (by decide +kernel), by decide +kernel, by decide +kernel, by decide +kernel⟩
set_option maxRecDepth 100000 in
theorem kL_69 : kV RL 69 mX12_way 3 := ⟨gdm (List.mem_of_getElem? (i := 1577) (by decide +kernel)) (by decide +kernel), ⟨gdm (List.mem_of_getElem? (i := 1578) (by decide +kernel)) (by decide +kernel), gdm (List.mem_of_getElem? (i := 1579) (by decide +kernel)) (by decide +kernel)⟩, gdm (List.mem_of_getElem? (i := 132) (by decide +kernel)) (by decide +kernel), gdm (List.mem_of_getElem? (i := 1580) (by decide +kernel)) (by decide +kernel), by decide +kernel, by decide +kernel, by decide +kernel⟩
set_option maxRecDepth 100000 in
theorem kL_73 : kV RL 73 mX12_hops 2 := ⟨gdm (List.mem_of_getElem? (i := 1581) (by decide +kernel)) (by decide +kernel), ⟨gdm (List.mem_of_getElem? (i := 1582) (by decide +kernel)) (by decide +kernel), gdm (List.mem_of_getElem? (i := 1583) (by decide +kernel)) (by decide +kernel)⟩, gdm (List.mem_of_getElem? (i := 132) (by decide +kernel)) (by decide +kernel), gdm (List.mem_of_getElem? (i := 1584) (by decide +kernel)) (by decide +kernel), by decide +kernel, by decide +kernel, by decide +kernel⟩
set_option maxRecDepth 100000 in
theorem kL_77 : kV RL 77 mX12_data 2 := ⟨gdm (List.mem_of_getElem? (i := 1585) (by decide +kernel)) (by decide +kernel), ⟨gdm (List.mem_of_getElem? (i := 1586) (by decide +kernel)) (by decide +kernel), gdm (List.mem_of_getElem? (i := 1587) (by decide +kernel)) (by decide +kernel)⟩, gdm (List.mem_of_getElem? (i := 132) (by decide +kernel)) (by decide +kernel), gdm (List.mem_of_getElem? (i := 1588) (by decide +kernel)) (by decide +kernel), by decide +kernel, by decide +kernel, by decide +kernel⟩
set_option maxRecDepth 100000 in
theorem kX12_395 : kV RX12 395 mX12_ofDatum 2 := ⟨gdm (List.mem_of_getElem? (i := 1589) (by decide +kernel)) (by decide +kernel), ⟨gdm (List.mem_of_getElem? (i := 1591) (by decide +kernel)) (by decide +kernel), gdm (List.mem_of_getElem? (i := 107) (by decide +kernel)) (by decide +kernel)⟩, gdm (List.mem_of_getElem? (i := 132) (by decide +kernel)) (by decide +kernel), gdm (List.mem_of_getElem? (i := 1592) (by decide +kernel)) (by decide +kernel), by decide +kernel, by decide +kernel, by decide +kernel⟩
set_option maxRecDepth 100000 in
theorem kL_82 : kV RL 82 mX12_trail 3 := ⟨gdm (List.mem_of_getElem? (i := 1593) (by decide +kernel)) (by decide +kernel), ⟨gdm (List.mem_of_getElem? (i := 1594) (by decide +kernel)) (by decide +kernel), gdm (List.mem_of_getElem? (i := 1595) (by decide +kernel)) (by decide +kernel)⟩, gdm (List.mem_of_getElem? (i := 132) (by decide +kernel)) (by decide +kernel), gdm (List.mem_of_getElem? (i := 1596) (by decide +kernel)) (by decide +kernel), by decide +kernel, by decide +kernel, by decide +kernel⟩
set_option maxRecDepth 100000 in
theorem kL_86 : kV RL 86 mX12_air 2 := ⟨gdm (List.mem_of_getElem? (i := 1597) (by decide +kernel)) (by decide +kernel), ⟨gdm (List.mem_of_getElem? (i := 1598) (by decide +kernel)) (by decide +kernel), gdm (List.mem_of_getElem? (i := 1599) (by decide +kernel)) (by decide +kernel)⟩, gdm (List.mem_of_getElem? (i := 132) (by decide +kernel)) (by decide +kernel), gdm (List.mem_of_getElem? (i := 1600) (by decide +kernel)) (by decide +kernel), by decide +kernel, by decide +kernel, by decide +kernel⟩
set_option maxRecDepth 100000 in
theorem kX12_398 : kV RX12 398 mX12_frameAt 2 := ⟨gdm (List.mem_of_getElem? (i := 1601) (by decide +kernel)) (by decide +kernel), ⟨gdm (List.mem_of_getElem? (i := 1603) (by decide +kernel)) (by decide +kernel), gdm (List.mem_of_getElem? (i := 108) (by decide +kernel)) (by decide +kernel)⟩, gdm (List.mem_of_getElem? (i := 132) (by decide +kernel)) (by decide +kernel), gdm (List.mem_of_getElem? (i := 1604) (by decide +kernel)) (by decide +kernel), by decide +kernel, by decide +kernel, by decide +kernel⟩
set_option maxRecDepth 100000 in
theorem kX12_401 : kV RX12 401 mX12_whomOf 1 := ⟨gdm (List.mem_of_getElem? (i := 1605) (by decide +kernel)) (by decide +kernel), ⟨gdm (List.mem_of_getElem? (i := 1607) (by decide +kernel)) (by decide +kernel), gdm (List.mem_of_getElem? (i := 109) (by decide +kernel)) (by decide +kernel)⟩, gdm (List.mem_of_getElem? (i := 132) (by decide +kernel)) (by decide +kernel), gdm (List.mem_of_getElem? (i := 1608) (by decide +kernel)) (by decide +kernel), by decide +kernel, by decide +kernel, by decide +kernel⟩
set_option maxRecDepth 100000 in
theorem kX12_404 : kV RX12 404 mX12_whatOf 1 := ⟨gdm (List.mem_of_getElem? (i := 1609) (by decide +kernel)) (by decide +kernel), ⟨gdm (List.mem_of_getElem? (i := 1611) (by decide +kernel)) (by decide +kernel), gdm (List.mem_of_getElem? (i := 110) (by decide +kernel)) (by decide +kernel)⟩, gdm (List.mem_of_getElem? (i := 132) (by decide +kernel)) (by decide +kernel), gdm (List.mem_of_getElem? (i := 1612) (by decide +kernel)) (by decide +kernel), by decide +kernel, by decide +kernel, by decide +kernel⟩
set_option maxRecDepth 100000 in
theorem kL_90 : kV RL 90 mX12_row 2 := ⟨gdm (List.mem_of_getElem? (i := 1613) (by decide +kernel)) (by decide +kernel), ⟨gdm (List.mem_of_getElem? (i := 1614) (by decide +kernel)) (by decide +kernel), gdm (List.mem_of_getElem? (i := 1615) (by decide +kernel)) (by decide +kernel)⟩, gdm (List.mem_of_getElem? (i := 132) (by decide +kernel)) (by decide +kernel), gdm (List.mem_of_getElem? (i := 1616) (by decide +kernel)) (by decide +kernel), by decide +kernel, by decide +kernel, by decide +kernel⟩
set_option maxRecDepth 100000 in
theorem kL_94 : kV RL 94 mX12_tally_ 1 := ⟨gdm (List.mem_of_getElem? (i := 1617) (by decide +kernel)) (by decide +kernel), ⟨gdm (List.mem_of_getElem? (i := 1618) (by decide +kernel)) (by decide +kernel), gdm (List.mem_of_getElem? (i := 1619) (by decide +kernel)) (by decide +kernel)⟩, gdm (List.mem_of_getElem? (i := 132) (by decide +kernel)) (by decide +kernel), gdm (List.mem_of_getElem? (i := 1620) (by decide +kernel)) (by decide +kernel), by decide +kernel, by decide +kernel, by decide +kernel⟩
set_option maxRecDepth 100000 in
theorem kL_98 : kV RL 98 mX12_far 2 := ⟨gdm (List.mem_of_getElem? (i := 1621) (by decide +kernel)) (by decide +kernel), ⟨gdm (List.mem_of_getElem? (i := 1622) (by decide +kernel)) (by decide +kernel), gdm (List.mem_of_getElem? (i := 1623) (by decide +kernel)) (by decide +kernel)⟩, gdm (List.mem_of_getElem? (i := 132) (by decide +kernel)) (by decide +kernel), gdm (List.mem_of_getElem? (i := 1624) (by decide +kernel)) (by decide +kernel), by decide +kernel, by decide +kernel, by decide +kernel⟩
set_option maxRecDepth 100000 in
theorem kX12_407 : kV RX12 407 mX12_laysUp 0 := ⟨gdm (List.mem_of_getElem? (i := 1625) (by decide +kernel)) (by decide +kernel), ⟨gdm (List.mem_of_getElem? (i := 1627) (by decide +kernel)) (by decide +kernel), gdm (List.mem_of_getElem? (i := 111) (by decide +kernel)) (by decide +kernel)⟩, gdm (List.mem_of_getElem? (i := 132) (by decide +kernel)) (by decide +kernel), gdm (List.mem_of_getElem? (i := 1628) (by decide +kernel)) (by decide +kernel), by decide +kernel, by decide +kernel, by decide +kernel⟩
set_option maxRecDepth 100000 in
theorem kL_102 : kV RL 102 mX12_holders 2 := ⟨gdm (List.mem_of_getElem? (i := 1629) (by decide +kernel)) (by decide +kernel), ⟨gdm (List.mem_of_getElem? (i := 1630) (by decide +kernel)) (by decide +kernel), gdm (List.mem_of_getElem? (i := 1631) (by decide +kernel)) (by decide +kernel)⟩, gdm (List.mem_of_getElem? (i := 132) (by decide +kernel)) (by decide +kernel), gdm (List.mem_of_getElem? (i := 1632) (by decide +kernel)) (by decide +kernel), by decide +kernel, by decide +kernel, by decide +kernel⟩
set_option maxRecDepth 100000 in
theorem kL_106 : kV RL 106 mX12_stale 1 := ⟨gdm (List.mem_of_getElem? (i := 1633) (by decide +kernel)) (by decide +kernel), ⟨gdm (List.mem_of_getElem? (i := 1634) (by decide +kernel)) (by decide +kernel), gdm (List.mem_of_getElem? (i := 1635) (by decide +kernel)) (by decide +kernel)⟩, gdm (List.mem_of_getElem? (i := 132) (by decide +kernel)) (by decide +kernel), gdm (List.mem_of_getElem? (i := 1636) (by decide +kernel)) (by decide +kernel), by decide +kernel, by decide +kernel, by decide +kernel⟩
set_option maxRecDepth 100000 in
theorem kL_111 : kV RL 111 mX12_sound 2 := ⟨gdm (List.mem_of_getElem? (i := 1637) (by decide +kernel)) (by decide +kernel), ⟨gdm (List.mem_of_getElem? (i := 1638) (by decide +kernel)) (by decide +kernel), gdm (List.mem_of_getElem? (i := 1639) (by decide +kernel)) (by decide +kernel)⟩, gdm (List.mem_of_getElem? (i := 132) (by decide +kernel)) (by decide +kernel), gdm (List.mem_of_getElem? (i := 1640) (by decide +kernel)) (by decide +kernel), by decide +kernel, by decide +kernel, by decide +kernel⟩
set_option maxRecDepth 100000 in
theorem kL_115 : kV RL 115 mX12_mapped 2 := ⟨gdm (List.mem_of_getElem? (i := 1641) (by decide +kernel)) (by decide +kernel), ⟨gdm (List.mem_of_getElem? (i := 1642) (by decide +kernel)) (by decide +kernel), gdm (List.mem_of_getElem? (i := 1643) (by decide +kernel)) (by decide +kernel)⟩, gdm (List.mem_of_getElem? (i := 132) (by decide +kernel)) (by decide +kernel), gdm (List.mem_of_getElem? (i := 1644) (by decide +kernel)) (by decide +kernel), by decide +kernel, by decide +kernel, by decide +kernel⟩
set_option maxRecDepth 100000 in
theorem kL_119 : kV RL 119 mX12_bridges 2 := ⟨gdm (List.mem_of_getElem? (i := 1645) (by decide +kernel)) (by decide +kernel), ⟨gdm (List.mem_of_getElem? (i := 1646) (by decide +kernel)) (by decide +kernel), gdm (List.mem_of_getElem? (i := 1647) (by decide +kernel)) (by decide +kernel)⟩, gdm (List.mem_of_getElem? (i := 132) (by decide +kernel)) (by decide +kernel), gdm (List.mem_of_getElem? (i := 1648) (by decide +kernel)) (by decide +kernel), by decide +kernel, by decide +kernel, by decide +kernel⟩
set_option maxRecDepth 100000 in
theorem kL_123 : kV RL 123 mX12_ahead 2 := ⟨gdm (List.mem_of_getElem? (i := 1649) (by decide +kernel)) (by decide +kernel), ⟨gdm (List.mem_of_getElem? (i := 1650) (by decide +kernel)) (by decide +kernel), gdm (List.mem_of_getElem? (i := 1651) (by decide +kernel)) (by decide +kernel)⟩, gdm (List.mem_of_getElem? (i := 132) (by decide +kernel)) (by decide +kernel), gdm (List.mem_of_getElem? (i := 1652) (by decide +kernel)) (by decide +kernel), by decide +kernel, by decide +kernel, by decide +kernel⟩
set_option maxRecDepth 100000 in
theorem kX12_410 : kV RX12 410 mX12_copies 2 := ⟨gdm (List.mem_of_getElem? (i := 1653) (by decide +kernel)) (by decide +kernel), ⟨gdm (List.mem_of_getElem? (i := 1655) (by decide +kernel)) (by decide +kernel), gdm (List.mem_of_getElem? (i := 112) (by decide +kernel)) (by decide +kernel)⟩, gdm (List.mem_of_getElem? (i := 132) (by decide +kernel)) (by decide +kernel), gdm (List.mem_of_getElem? (i := 1656) (by decide +kernel)) (by decide +kernel), by decide +kernel, by decide +kernel, by decide +kernel⟩
set_option maxRecDepth 100000 in
theorem kX12_413 : kV RX12 413 mX12_goesOn 1 := ⟨gdm (List.mem_of_getElem? (i := 1657) (by decide +kernel)) (by decide +kernel), ⟨gdm (List.mem_of_getElem? (i := 1659) (by decide +kernel)) (by decide +kernel), gdm (List.mem_of_getElem? (i := 113) (by decide +kernel)) (by decide +kernel)⟩, gdm (List.mem_of_getElem? (i := 132) (by decide +kernel)) (by decide +kernel), gdm (List.mem_of_getElem? (i := 1660) (by decide +kernel)) (by decide +kernel), by decide +kernel, by decide +kernel, by decide +kernel⟩
set_option maxRecDepth 100000 in
theorem kX12_416 : kV RX12 416 mX12_asAhead 1 := ⟨gdm (List.mem_of_getElem? (i := 1661) (by decide +kernel)) (by decide +kernel), ⟨gdm (List.mem_of_getElem? (i := 1663) (by decide +kernel)) (by decide +kernel), gdm (List.mem_of_getElem? (i := 114) (by decide +kernel)) (by decide +kernel)⟩, gdm (List.mem_of_getElem? (i := 132) (by decide +kernel)) (by decide +kernel), gdm (List.mem_of_getElem? (i := 1664) (by decide +kernel)) (by decide +kernel), by decide +kernel, by decide +kernel, by decide +kernel⟩
set_option maxRecDepth 100000 in
theorem kX12_419 : kV RX12 419 mX12_back 1 := ⟨gdm (List.mem_of_getElem? (i := 1665) (by decide +kernel)) (by decide +kernel), ⟨gdm (List.mem_of_getElem? (i := 1667) (by decide +kernel)) (by decide +kernel), gdm (List.mem_of_getElem? (i := 115) (by decide +kernel)) (by decide +kernel)⟩, gdm (List.mem_of_getElem? (i := 132) (by decide +kernel)) (by decide +kernel), gdm (List.mem_of_getElem? (i := 1668) (by decide +kernel)) (by decide +kernel), by decide +kernel, by decide +kernel, by decide +kernel⟩
set_option maxRecDepth 100000 in
theorem kL_128 : kV RL 128 mX12_turned 4 := ⟨gdm (List.mem_of_getElem? (i := 1669) (by decide +kernel)) (by decide +kernel), ⟨gdm (List.mem_of_getElem? (i := 1670) (by decide +kernel)) (by decide +kernel), gdm (List.mem_of_getElem? (i := 1671) (by decide +kernel)) (by decide +kernel)⟩, gdm (List.mem_of_getElem? (i := 132) (by decide +kernel)) (by decide +kernel), gdm (List.mem_of_getElem? (i := 1672) (by decide +kernel)) (by decide +kernel), by decide +kernel, by decide +kernel, by decide +kernel⟩
set_option maxRecDepth 100000 in
theorem kL_132 : kV RL 132 mX12_sent 4 := ⟨gdm (List.mem_of_getElem? (i := 1673) (by decide +kernel)) (by decide +kernel), ⟨gdm (List.mem_of_getElem? (i := 1674) (by decide +kernel)) (by decide +kernel), gdm (List.mem_of_getElem? (i := 1675) (by decide +kernel)) (by decide +kernel)⟩, gdm (List.mem_of_getElem? (i := 132) (by decide +kernel)) (by decide +kernel), gdm (List.mem_of_getElem? (i := 1676) (by decide +kernel)) (by decide +kernel), by decide +kernel, by decide +kernel, by decide +kernel⟩
set_option maxRecDepth 100000 in
theorem kL_136 : kV RL 136 mX12_flood 3 := ⟨gdm (List.mem_of_getElem? (i := 1677) (by decide +kernel)) (by decide +kernel), ⟨gdm (List.mem_of_getElem? (i := 1678) (by decide +kernel)) (by decide +kernel), gdm (List.mem_of_getElem? (i := 1679) (by decide +kernel)) (by decide +kernel)⟩, gdm (List.mem_of_getElem? (i := 132) (by decide +kernel)) (by decide +kernel), gdm (List.mem_of_getElem? (i := 1680) (by decide +kernel)) (by decide +kernel), by decide +kernel, by decide +kernel, by decide +kernel⟩
set_option maxRecDepth 100000 in
theorem kX12_422 : kV RX12 422 mX12_isRequested 0 := ⟨gdm (List.mem_of_getElem? (i := 1681) (by decide +kernel)) (by decide +kernel), ⟨gdm (List.mem_of_getElem? (i := 1683) (by decide +kernel)) (by decide +kernel), gdm (List.mem_of_getElem? (i := 116) (by decide +kernel)) (by decide +kernel)⟩, gdm (List.mem_of_getElem? (i := 132) (by decide +kernel)) (by decide +kernel), gdm (List.mem_of_getElem? (i := 1684) (by decide +kernel)) (by decide +kernel), by decide +kernel, by decide +kernel, by decide +kernel⟩
set_option maxRecDepth 100000 in
theorem kL_140 : kV RL 140 mX12_quiet 0 := ⟨gdm (List.mem_of_getElem? (i := 1685) (by decide +kernel)) (by decide +kernel), ⟨gdm (List.mem_of_getElem? (i := 1686) (by decide +kernel)) (by decide +kernel), gdm (List.mem_of_getElem? (i := 1687) (by decide +kernel)) (by decide +kernel)⟩, gdm (List.mem_of_getElem? (i := 132) (by decide +kernel)) (by decide +kernel), gdm (List.mem_of_getElem? (i := 1688) (by decide +kernel)) (by decide +kernel), by decide +kernel, by decide +kernel, by decide +kernel⟩
set_option maxRecDepth 100000 in
theorem kX12_425 : kV RX12 425 mX12_isQuiet 0 := ⟨gdm (List.mem_of_getElem? (i := 1689) (by decide +kernel)) (by decide +kernel), ⟨gdm (List.mem_of_getElem? (i := 1691) (by decide +kernel)) (by decide +kernel), gdm (List.mem_of_getElem? (i := 117) (by decide +kernel)) (by decide +kernel)⟩, gdm (List.mem_of_getElem? (i := 132) (by decide +kernel)) (by decide +kernel), gdm (List.mem_of_getElem? (i := 1692) (by decide +kernel)) (by decide +kernel), by decide +kernel, by decide +kernel, by decide +kernel⟩
set_option maxRecDepth 100000 in
theorem kL_145 : kV RL 145 mX12_image 1 := ⟨gdm (List.mem_of_getElem? (i := 1693) (by decide +kernel)) (by decide +kernel), ⟨gdm (List.mem_of_getElem? (i := 1694) (by decide +kernel)) (by decide +kernel), gdm (List.mem_of_getElem? (i := 1695) (by decide +kernel)) (by decide +kernel)⟩, gdm (List.mem_of_getElem? (i := 132) (by decide +kernel)) (by decide +kernel), gdm (List.mem_of_getElem? (i := 1696) (by decide +kernel)) (by decide +kernel), by decide +kernel, by decide +kernel, by decide +kernel⟩
set_option maxRecDepth 100000 in
theorem kX12_428 : kV RX12 428 mX12_copiesText 2 := ⟨gdm (List.mem_of_getElem? (i := 1697) (by decide +kernel)) (by decide +kernel), ⟨gdm (List.mem_of_getElem? (i := 1699) (by decide +kernel)) (by decide +kernel), gdm (List.mem_of_getElem? (i := 118) (by decide +kernel)) (by decide +kernel)⟩, gdm (List.mem_of_getElem? (i := 132) (by decide +kernel)) (by decide +kernel), gdm (List.mem_of_getElem? (i := 1700) (by decide +kernel)) (by decide +kernel), by decide +kernel, by decide +kernel, by decide +kernel⟩
set_option maxRecDepth 100000 in
theorem kL_149 : kV RL 149 mX12_again 1 := ⟨gdm (List.mem_of_getElem? (i := 1701) (by decide +kernel)) (by decide +kernel), ⟨gdm (List.mem_of_getElem? (i := 1702) (by decide +kernel)) (by decide +kernel), gdm (List.mem_of_getElem? (i := 1703) (by decide +kernel)) (by decide +kernel)⟩, gdm (List.mem_of_getElem? (i := 132) (by decide +kernel)) (by decide +kernel), gdm (List.mem_of_getElem? (i := 1704) (by decide +kernel)) (by decide +kernel), by decide +kernel, by decide +kernel, by decide +kernel⟩
set_option maxRecDepth 100000 in
theorem fX9_11 : fwd RX9 11 7 0 TX9 := ⟨by decide, gdm (List.mem_of_getElem? (i := 155) (by decide +kernel)) (by decide +kernel)⟩
set_option maxRecDepth 100000 in
theorem fX9_21 : fwd RX9 21 7 1 TX9 := ⟨by decide, gdm (List.mem_of_getElem? (i := 156) (by decide +kernel)) (by decide +kernel)⟩
set_option maxRecDepth 100000 in
theorem fX11_56 : fwd RX11 56 7 1 TX9 := ⟨by decide, gdm (List.mem_of_getElem? (i := 157) (by decide +kernel)) (by decide +kernel)⟩
set_option maxRecDepth 100000 in
theorem fX11_63 : fwd RX11 63 7 2 TX9 := ⟨by decide, gdm (List.mem_of_getElem? (i := 158) (by decide +kernel)) (by decide +kernel)⟩
set_option maxRecDepth 100000 in
theorem fX9_30 : fwd RX9 30 7 2 TX9 := ⟨by decide, gdm (List.mem_of_getElem? (i := 159) (by decide +kernel)) (by decide +kernel)⟩
set_option maxRecDepth 100000 in
theorem fX9_15 : fwd RX9 15 7 3 TX9 := ⟨by decide, gdm (List.mem_of_getElem? (i := 160) (by decide +kernel)) (by decide +kernel)⟩
set_option maxRecDepth 100000 in
theorem fX11_67 : fwd RX11 67 7 3 TX9 := ⟨by decide, gdm (List.mem_of_getElem? (i := 161) (by decide +kernel)) (by decide +kernel)⟩
set_option maxRecDepth 100000 in
theorem fX6_9 : fwd RX6 9 5 0 TX6 := ⟨by decide, gdm (List.mem_of_getElem? (i := 178) (by decide +kernel)) (by decide +kernel)⟩
set_option maxRecDepth 100000 in
theorem fX10_41 : fwd RX10 41 5 0 TX6 := ⟨by decide, gdm (List.mem_of_getElem? (i := 179) (by decide +kernel)) (by decide +kernel)⟩
set_option maxRecDepth 100000 in
theorem fX6_27 : fwd RX6 27 5 1 TX6 := ⟨by decide, gdm (List.mem_of_getElem? (i := 180) (by decide +kernel)) (by decide +kernel)⟩
set_option maxRecDepth 100000 in
theorem fX10_60 : fwd RX10 60 5 1 TX6 := ⟨by decide, gdm (List.mem_of_getElem? (i := 181) (by decide +kernel)) (by decide +kernel)⟩
set_option maxRecDepth 100000 in
theorem fX6_31 : fwd RX6 31 5 2 TX6 := ⟨by decide, gdm (List.mem_of_getElem? (i := 182) (by decide +kernel)) (by decide +kernel)⟩
set_option maxRecDepth 100000 in
theorem fX10_76 : fwd RX10 76 5 2 TX6 := ⟨by decide, gdm (List.mem_of_getElem? (i := 183) (by decide +kernel)) (by decide +kernel)⟩
set_option maxRecDepth 100000 in
theorem fX6_35 : fwd RX6 35 5 3 TX6 := ⟨by decide, gdm (List.mem_of_getElem? (i := 184) (by decide +kernel)) (by decide +kernel)⟩
set_option maxRecDepth 100000 in
theorem fX10_65 : fwd RX10 65 5 3 TX6 := ⟨by decide, gdm (List.mem_of_getElem? (i := 185) (by decide +kernel)) (by decide +kernel)⟩
set_option maxRecDepth 100000 in
theorem fX6_38 : fwd RX6 38 5 4 TX6 := ⟨by decide, gdm (List.mem_of_getElem? (i := 186) (by decide +kernel)) (by decide +kernel)⟩
set_option maxRecDepth 100000 in
theorem fX11_60 : fwd RX11 60 5 4 TX6 := ⟨by decide, gdm (List.mem_of_getElem? (i := 187) (by decide +kernel)) (by decide +kernel)⟩
set_option maxRecDepth 100000 in
theorem fX6_41 : fwd RX6 41 5 5 TX6 := ⟨by decide, gdm (List.mem_of_getElem? (i := 188) (by decide +kernel)) (by decide +kernel)⟩
set_option maxRecDepth 100000 in
theorem fX11_64 : fwd RX11 64 5 5 TX6 := ⟨by decide, gdm (List.mem_of_getElem? (i := 189) (by decide +kernel)) (by decide +kernel)⟩
set_option maxRecDepth 100000 in
theorem fX6_50 : fwd RX6 50 5 6 TX6 := ⟨by decide, gdm (List.mem_of_getElem? (i := 190) (by decide +kernel)) (by decide +kernel)⟩
set_option maxRecDepth 100000 in
theorem fX6_62 : fwd RX6 62 5 7 TX6 := ⟨by decide, gdm (List.mem_of_getElem? (i := 191) (by decide +kernel)) (by decide +kernel)⟩
set_option maxRecDepth 100000 in
theorem fX6_72 : fwd RX6 72 5 8 TX6 := ⟨by decide, gdm (List.mem_of_getElem? (i := 192) (by decide +kernel)) (by decide +kernel)⟩
set_option maxRecDepth 100000 in
theorem fX6_54 : fwd RX6 54 5 9 TX6 := ⟨by decide, gdm (List.mem_of_getElem? (i := 193) (by decide +kernel)) (by decide +kernel)⟩
set_option maxRecDepth 100000 in
theorem fX6_44 : fwd RX6 44 5 10 TX6 := ⟨by decide, gdm (List.mem_of_getElem? (i := 194) (by decide +kernel)) (by decide +kernel)⟩
set_option maxRecDepth 100000 in
theorem fX6_15 : fwd RX6 15 5 11 TX6 := ⟨by decide, gdm (List.mem_of_getElem? (i := 195) (by decide +kernel)) (by decide +kernel)⟩
set_option maxRecDepth 100000 in
theorem fX3_9 : fwd RX3 9 3 0 TX3 := ⟨by decide, gdm (List.mem_of_getElem? (i := 241) (by decide +kernel)) (by decide +kernel)⟩
set_option maxRecDepth 100000 in
theorem fX0_27 : fwd RX0 27 3 0 TX3 := ⟨by decide, gdm (List.mem_of_getElem? (i := 242) (by decide +kernel)) (by decide +kernel)⟩
set_option maxRecDepth 100000 in
theorem fX10_207 : fwd RX10 207 3 0 TX3 := ⟨by decide, gdm (List.mem_of_getElem? (i := 243) (by decide +kernel)) (by decide +kernel)⟩
set_option maxRecDepth 100000 in
theorem fX11_179 : fwd RX11 179 3 0 TX3 := ⟨by decide, gdm (List.mem_of_getElem? (i := 244) (by decide +kernel)) (by decide +kernel)⟩
set_option maxRecDepth 100000 in
theorem fX3_15 : fwd RX3 15 3 1 TX3 := ⟨by decide, gdm (List.mem_of_getElem? (i := 245) (by decide +kernel)) (by decide +kernel)⟩
set_option maxRecDepth 100000 in
theorem fX10_216 : fwd RX10 216 3 1 TX3 := ⟨by decide, gdm (List.mem_of_getElem? (i := 246) (by decide +kernel)) (by decide +kernel)⟩
set_option maxRecDepth 100000 in
theorem fX11_184 : fwd RX11 184 3 1 TX3 := ⟨by decide, gdm (List.mem_of_getElem? (i := 247) (by decide +kernel)) (by decide +kernel)⟩
set_option maxRecDepth 100000 in
theorem fX3_18 : fwd RX3 18 3 2 TX3 := ⟨by decide, gdm (List.mem_of_getElem? (i := 248) (by decide +kernel)) (by decide +kernel)⟩
set_option maxRecDepth 100000 in
theorem fX10_219 : fwd RX10 219 3 2 TX3 := ⟨by decide, gdm (List.mem_of_getElem? (i := 249) (by decide +kernel)) (by decide +kernel)⟩
set_option maxRecDepth 100000 in
theorem fX11_187 : fwd RX11 187 3 2 TX3 := ⟨by decide, gdm (List.mem_of_getElem? (i := 250) (by decide +kernel)) (by decide +kernel)⟩
set_option maxRecDepth 100000 in
theorem fX3_21 : fwd RX3 21 3 3 TX3 := ⟨by decide, gdm (List.mem_of_getElem? (i := 251) (by decide +kernel)) (by decide +kernel)⟩
set_option maxRecDepth 100000 in
theorem fX11_190 : fwd RX11 190 3 3 TX3 := ⟨by decide, gdm (List.mem_of_getElem? (i := 252) (by decide +kernel)) (by decide +kernel)⟩
set_option maxRecDepth 100000 in
theorem fX10_301 : fwd RX10 301 3 3 TX3 := ⟨by decide, gdm (List.mem_of_getElem? (i := 253) (by decide +kernel)) (by decide +kernel)⟩
set_option maxRecDepth 100000 in
theorem fX3_24 : fwd RX3 24 3 4 TX3 := ⟨by decide, gdm (List.mem_of_getElem? (i := 254) (by decide +kernel)) (by decide +kernel)⟩
set_option maxRecDepth 100000 in
theorem fX11_193 : fwd RX11 193 3 4 TX3 := ⟨by decide, gdm (List.mem_of_getElem? (i := 255) (by decide +kernel)) (by decide +kernel)⟩
set_option maxRecDepth 100000 in
theorem fX10_254 : fwd RX10 254 3 4 TX3 := ⟨by decide, gdm (List.mem_of_getElem? (i := 256) (by decide +kernel)) (by decide +kernel)⟩
set_option maxRecDepth 100000 in
theorem fX3_27 : fwd RX3 27 3 5 TX3 := ⟨by decide, gdm (List.mem_of_getElem? (i := 257) (by decide +kernel)) (by decide +kernel)⟩
set_option maxRecDepth 100000 in
theorem fX11_196 : fwd RX11 196 3 5 TX3 := ⟨by decide, gdm (List.mem_of_getElem? (i := 258) (by decide +kernel)) (by decide +kernel)⟩
set_option maxRecDepth 100000 in
theorem fX10_255 : fwd RX10 255 3 5 TX3 := ⟨by decide, gdm (List.mem_of_getElem? (i := 259) (by decide +kernel)) (by decide +kernel)⟩
set_option maxRecDepth 100000 in
theorem fX3_30 : fwd RX3 30 3 6 TX3 := ⟨by decide, gdm (List.mem_of_getElem? (i := 260) (by decide +kernel)) (by decide +kernel)⟩
set_option maxRecDepth 100000 in
theorem fX11_199 : fwd RX11 199 3 6 TX3 := ⟨by decide, gdm (List.mem_of_getElem? (i := 261) (by decide +kernel)) (by decide +kernel)⟩
set_option maxRecDepth 100000 in
theorem fX10_311 : fwd RX10 311 3 6 TX3 := ⟨by decide, gdm (List.mem_of_getElem? (i := 262) (by decide +kernel)) (by decide +kernel)⟩
set_option maxRecDepth 100000 in
theorem fX0_11 : fwd RX0 11 0 0 TX0 := ⟨by decide, gdm (List.mem_of_getElem? (i := 278) (by decide +kernel)) (by decide +kernel)⟩
set_option maxRecDepth 100000 in
theorem fX0_24 : fwd RX0 24 0 1 TX0 := ⟨by decide, gdm (List.mem_of_getElem? (i := 279) (by decide +kernel)) (by decide +kernel)⟩
set_option maxRecDepth 100000 in
theorem fX0_20 : fwd RX0 20 0 2 TX0 := ⟨by decide, gdm (List.mem_of_getElem? (i := 280) (by decide +kernel)) (by decide +kernel)⟩
set_option maxRecDepth 100000 in
theorem fX10_50 : fwd RX10 50 0 2 TX0 := ⟨by decide, gdm (List.mem_of_getElem? (i := 281) (by decide +kernel)) (by decide +kernel)⟩
set_option maxRecDepth 100000 in
theorem fX11_108 : fwd RX11 108 0 2 TX0 := ⟨by decide, gdm (List.mem_of_getElem? (i := 282) (by decide +kernel)) (by decide +kernel)⟩
set_option maxRecDepth 100000 in
theorem fX0_16 : fwd RX0 16 0 3 TX0 := ⟨by decide, gdm (List.mem_of_getElem? (i := 283) (by decide +kernel)) (by decide +kernel)⟩
set_option maxRecDepth 100000 in
theorem fX7_13 : fwd RX7 13 6 0 TX7 := ⟨by decide, gdm (List.mem_of_getElem? (i := 311) (by decide +kernel)) (by decide +kernel)⟩
set_option maxRecDepth 100000 in
theorem fX1_64 : fwd RX1 64 6 0 TX7 := ⟨by decide, gdm (List.mem_of_getElem? (i := 312) (by decide +kernel)) (by decide +kernel)⟩
set_option maxRecDepth 100000 in
theorem fX5_34 : fwd RX5 34 6 1 TX7 := ⟨by decide, gdm (List.mem_of_getElem? (i := 313) (by decide +kernel)) (by decide +kernel)⟩
set_option maxRecDepth 100000 in
theorem fX7_19 : fwd RX7 19 6 1 TX7 := ⟨by decide, gdm (List.mem_of_getElem? (i := 314) (by decide +kernel)) (by decide +kernel)⟩
set_option maxRecDepth 100000 in
theorem fX1_34 : fwd RX1 34 6 1 TX7 := ⟨by decide, gdm (List.mem_of_getElem? (i := 315) (by decide +kernel)) (by decide +kernel)⟩
set_option maxRecDepth 100000 in
theorem fX10_123 : fwd RX10 123 6 1 TX7 := ⟨by decide, gdm (List.mem_of_getElem? (i := 316) (by decide +kernel)) (by decide +kernel)⟩
set_option maxRecDepth 100000 in
theorem fX11_149 : fwd RX11 149 6 1 TX7 := ⟨by decide, gdm (List.mem_of_getElem? (i := 317) (by decide +kernel)) (by decide +kernel)⟩
set_option maxRecDepth 100000 in
theorem fX1_20 : fwd RX1 20 1 0 TX1 := ⟨by decide, gdm (List.mem_of_getElem? (i := 332) (by decide +kernel)) (by decide +kernel)⟩
set_option maxRecDepth 100000 in
theorem fX1_16 : fwd RX1 16 1 1 TX1 := ⟨by decide, gdm (List.mem_of_getElem? (i := 333) (by decide +kernel)) (by decide +kernel)⟩
set_option maxRecDepth 100000 in
theorem fX10_119 : fwd RX10 119 1 1 TX1 := ⟨by decide, gdm (List.mem_of_getElem? (i := 334) (by decide +kernel)) (by decide +kernel)⟩
set_option maxRecDepth 100000 in
theorem fX11_128 : fwd RX11 128 1 1 TX1 := ⟨by decide, gdm (List.mem_of_getElem? (i := 335) (by decide +kernel)) (by decide +kernel)⟩
set_option maxRecDepth 100000 in
theorem fX1_24 : fwd RX1 24 1 2 TX1 := ⟨by decide, gdm (List.mem_of_getElem? (i := 336) (by decide +kernel)) (by decide +kernel)⟩
set_option maxRecDepth 100000 in
theorem fX10_112 : fwd RX10 112 1 2 TX1 := ⟨by decide, gdm (List.mem_of_getElem? (i := 337) (by decide +kernel)) (by decide +kernel)⟩
set_option maxRecDepth 100000 in
theorem fX1_28 : fwd RX1 28 1 3 TX1 := ⟨by decide, gdm (List.mem_of_getElem? (i := 338) (by decide +kernel)) (by decide +kernel)⟩
set_option maxRecDepth 100000 in
theorem fX1_31 : fwd RX1 31 1 4 TX1 := ⟨by decide, gdm (List.mem_of_getElem? (i := 339) (by decide +kernel)) (by decide +kernel)⟩
set_option maxRecDepth 100000 in
theorem fX5_30 : fwd RX5 30 4 0 TX5 := ⟨by decide, gdm (List.mem_of_getElem? (i := 351) (by decide +kernel)) (by decide +kernel)⟩
set_option maxRecDepth 100000 in
theorem fX10_72 : fwd RX10 72 4 0 TX5 := ⟨by decide, gdm (List.mem_of_getElem? (i := 352) (by decide +kernel)) (by decide +kernel)⟩
set_option maxRecDepth 100000 in
theorem fX11_122 : fwd RX11 122 4 0 TX5 := ⟨by decide, gdm (List.mem_of_getElem? (i := 353) (by decide +kernel)) (by decide +kernel)⟩
set_option maxRecDepth 100000 in
theorem fX5_14 : fwd RX5 14 4 1 TX5 := ⟨by decide, gdm (List.mem_of_getElem? (i := 354) (by decide +kernel)) (by decide +kernel)⟩
set_option maxRecDepth 100000 in
theorem fX10_135 : fwd RX10 135 4 1 TX5 := ⟨by decide, gdm (List.mem_of_getElem? (i := 355) (by decide +kernel)) (by decide +kernel)⟩
set_option maxRecDepth 100000 in
theorem fX11_146 : fwd RX11 146 4 1 TX5 := ⟨by decide, gdm (List.mem_of_getElem? (i := 356) (by decide +kernel)) (by decide +kernel)⟩
set_option maxRecDepth 100000 in
theorem fX5_20 : fwd RX5 20 4 2 TX5 := ⟨by decide, gdm (List.mem_of_getElem? (i := 357) (by decide +kernel)) (by decide +kernel)⟩
set_option maxRecDepth 100000 in
theorem fX10_277 : fwd RX10 277 4 2 TX5 := ⟨by decide, gdm (List.mem_of_getElem? (i := 358) (by decide +kernel)) (by decide +kernel)⟩
set_option maxRecDepth 100000 in
theorem fX5_38 : fwd RX5 38 4 3 TX5 := ⟨by decide, gdm (List.mem_of_getElem? (i := 359) (by decide +kernel)) (by decide +kernel)⟩
set_option maxRecDepth 100000 in
theorem fX10_126 : fwd RX10 126 4 3 TX5 := ⟨by decide, gdm (List.mem_of_getElem? (i := 360) (by decide +kernel)) (by decide +kernel)⟩
set_option maxRecDepth 100000 in
theorem fX5_41 : fwd RX5 41 4 4 TX5 := ⟨by decide, gdm (List.mem_of_getElem? (i := 361) (by decide +kernel)) (by decide +kernel)⟩
set_option maxRecDepth 100000 in
theorem fX10_129 : fwd RX10 129 4 4 TX5 := ⟨by decide, gdm (List.mem_of_getElem? (i := 362) (by decide +kernel)) (by decide +kernel)⟩
set_option maxRecDepth 100000 in
theorem fX5_44 : fwd RX5 44 4 5 TX5 := ⟨by decide, gdm (List.mem_of_getElem? (i := 363) (by decide +kernel)) (by decide +kernel)⟩
set_option maxRecDepth 100000 in
theorem fX10_132 : fwd RX10 132 4 5 TX5 := ⟨by decide, gdm (List.mem_of_getElem? (i := 364) (by decide +kernel)) (by decide +kernel)⟩
set_option maxRecDepth 100000 in
theorem fX5_47 : fwd RX5 47 4 6 TX5 := ⟨by decide, gdm (List.mem_of_getElem? (i := 365) (by decide +kernel)) (by decide +kernel)⟩
set_option maxRecDepth 100000 in
theorem fX10_138 : fwd RX10 138 4 6 TX5 := ⟨by decide, gdm (List.mem_of_getElem? (i := 366) (by decide +kernel)) (by decide +kernel)⟩
set_option maxRecDepth 100000 in
theorem fX5_24 : fwd RX5 24 4 7 TX5 := ⟨by decide, gdm (List.mem_of_getElem? (i := 367) (by decide +kernel)) (by decide +kernel)⟩
set_option maxRecDepth 100000 in
theorem fX10_284 : fwd RX10 284 4 7 TX5 := ⟨by decide, gdm (List.mem_of_getElem? (i := 368) (by decide +kernel)) (by decide +kernel)⟩
set_option maxRecDepth 100000 in
theorem fX5_50 : fwd RX5 50 4 8 TX5 := ⟨by decide, gdm (List.mem_of_getElem? (i := 369) (by decide +kernel)) (by decide +kernel)⟩
set_option maxRecDepth 100000 in
theorem fX10_116 : fwd RX10 116 4 8 TX5 := ⟨by decide, gdm (List.mem_of_getElem? (i := 370) (by decide +kernel)) (by decide +kernel)⟩
set_option maxRecDepth 100000 in
theorem fX2_9 : fwd RX2 9 2 0 TX2 := ⟨by decide, gdm (List.mem_of_getElem? (i := 395) (by decide +kernel)) (by decide +kernel)⟩
set_option maxRecDepth 100000 in
theorem fX10_200 : fwd RX10 200 2 0 TX2 := ⟨by decide, gdm (List.mem_of_getElem? (i := 396) (by decide +kernel)) (by decide +kernel)⟩
set_option maxRecDepth 100000 in
theorem fX2_15 : fwd RX2 15 2 1 TX2 := ⟨by decide, gdm (List.mem_of_getElem? (i := 397) (by decide +kernel)) (by decide +kernel)⟩
set_option maxRecDepth 100000 in
theorem fX10_159 : fwd RX10 159 2 1 TX2 := ⟨by decide, gdm (List.mem_of_getElem? (i := 398) (by decide +kernel)) (by decide +kernel)⟩
set_option maxRecDepth 100000 in
theorem fX2_18 : fwd RX2 18 2 2 TX2 := ⟨by decide, gdm (List.mem_of_getElem? (i := 399) (by decide +kernel)) (by decide +kernel)⟩
set_option maxRecDepth 100000 in
theorem fX10_162 : fwd RX10 162 2 2 TX2 := ⟨by decide, gdm (List.mem_of_getElem? (i := 400) (by decide +kernel)) (by decide +kernel)⟩
set_option maxRecDepth 100000 in
theorem fX2_21 : fwd RX2 21 2 3 TX2 := ⟨by decide, gdm (List.mem_of_getElem? (i := 401) (by decide +kernel)) (by decide +kernel)⟩
set_option maxRecDepth 100000 in
theorem fX10_165 : fwd RX10 165 2 3 TX2 := ⟨by decide, gdm (List.mem_of_getElem? (i := 402) (by decide +kernel)) (by decide +kernel)⟩
set_option maxRecDepth 100000 in
theorem fX2_24 : fwd RX2 24 2 4 TX2 := ⟨by decide, gdm (List.mem_of_getElem? (i := 403) (by decide +kernel)) (by decide +kernel)⟩
set_option maxRecDepth 100000 in
theorem fX10_168 : fwd RX10 168 2 4 TX2 := ⟨by decide, gdm (List.mem_of_getElem? (i := 404) (by decide +kernel)) (by decide +kernel)⟩
set_option maxRecDepth 100000 in
theorem fX2_29 : fwd RX2 29 2 5 TX2 := ⟨by decide, gdm (List.mem_of_getElem? (i := 405) (by decide +kernel)) (by decide +kernel)⟩
set_option maxRecDepth 100000 in
theorem fX10_178 : fwd RX10 178 2 5 TX2 := ⟨by decide, gdm (List.mem_of_getElem? (i := 406) (by decide +kernel)) (by decide +kernel)⟩
set_option maxRecDepth 100000 in
theorem fX11_167 : fwd RX11 167 2 5 TX2 := ⟨by decide, gdm (List.mem_of_getElem? (i := 407) (by decide +kernel)) (by decide +kernel)⟩
set_option maxRecDepth 100000 in
theorem fX2_37 : fwd RX2 37 2 6 TX2 := ⟨by decide, gdm (List.mem_of_getElem? (i := 408) (by decide +kernel)) (by decide +kernel)⟩
set_option maxRecDepth 100000 in
theorem fX10_171 : fwd RX10 171 2 6 TX2 := ⟨by decide, gdm (List.mem_of_getElem? (i := 409) (by decide +kernel)) (by decide +kernel)⟩
set_option maxRecDepth 100000 in
theorem fX11_172 : fwd RX11 172 2 6 TX2 := ⟨by decide, gdm (List.mem_of_getElem? (i := 410) (by decide +kernel)) (by decide +kernel)⟩
set_option maxRecDepth 100000 in
theorem fX2_40 : fwd RX2 40 2 7 TX2 := ⟨by decide, gdm (List.mem_of_getElem? (i := 411) (by decide +kernel)) (by decide +kernel)⟩
set_option maxRecDepth 100000 in
theorem fX10_181 : fwd RX10 181 2 7 TX2 := ⟨by decide, gdm (List.mem_of_getElem? (i := 412) (by decide +kernel)) (by decide +kernel)⟩
set_option maxRecDepth 100000 in
theorem fX2_43 : fwd RX2 43 2 8 TX2 := ⟨by decide, gdm (List.mem_of_getElem? (i := 413) (by decide +kernel)) (by decide +kernel)⟩
set_option maxRecDepth 100000 in
theorem fX10_184 : fwd RX10 184 2 8 TX2 := ⟨by decide, gdm (List.mem_of_getElem? (i := 414) (by decide +kernel)) (by decide +kernel)⟩
set_option maxRecDepth 100000 in
theorem fX2_46 : fwd RX2 46 2 9 TX2 := ⟨by decide, gdm (List.mem_of_getElem? (i := 415) (by decide +kernel)) (by decide +kernel)⟩
set_option maxRecDepth 100000 in
theorem fX10_274 : fwd RX10 274 2 9 TX2 := ⟨by decide, gdm (List.mem_of_getElem? (i := 416) (by decide +kernel)) (by decide +kernel)⟩
set_option maxRecDepth 100000 in
theorem fX2_49 : fwd RX2 49 2 10 TX2 := ⟨by decide, gdm (List.mem_of_getElem? (i := 417) (by decide +kernel)) (by decide +kernel)⟩
set_option maxRecDepth 100000 in
theorem fX10_187 : fwd RX10 187 2 10 TX2 := ⟨by decide, gdm (List.mem_of_getElem? (i := 418) (by decide +kernel)) (by decide +kernel)⟩
set_option maxRecDepth 100000 in
theorem fX10_9 : fwd RX10 9 8 0 TX10 := ⟨by decide, gdm (List.mem_of_getElem? (i := 442) (by decide +kernel)) (by decide +kernel)⟩
set_option maxRecDepth 100000 in
theorem fX11_68 : fwd RX11 68 8 0 TX10 := ⟨by decide, gdm (List.mem_of_getElem? (i := 443) (by decide +kernel)) (by decide +kernel)⟩
set_option maxRecDepth 100000 in
theorem fX10_15 : fwd RX10 15 8 1 TX10 := ⟨by decide, gdm (List.mem_of_getElem? (i := 444) (by decide +kernel)) (by decide +kernel)⟩
set_option maxRecDepth 100000 in
theorem fX11_202 : fwd RX11 202 8 1 TX10 := ⟨by decide, gdm (List.mem_of_getElem? (i := 445) (by decide +kernel)) (by decide +kernel)⟩
set_option maxRecDepth 100000 in
theorem fX10_21 : fwd RX10 21 8 2 TX10 := ⟨by decide, gdm (List.mem_of_getElem? (i := 446) (by decide +kernel)) (by decide +kernel)⟩
set_option maxRecDepth 100000 in
theorem fX11_104 : fwd RX11 104 8 2 TX10 := ⟨by decide, gdm (List.mem_of_getElem? (i := 447) (by decide +kernel)) (by decide +kernel)⟩
set_option maxRecDepth 100000 in
theorem fX10_27 : fwd RX10 27 8 3 TX10 := ⟨by decide, gdm (List.mem_of_getElem? (i := 448) (by decide +kernel)) (by decide +kernel)⟩
set_option maxRecDepth 100000 in
theorem fX10_33 : fwd RX10 33 8 4 TX10 := ⟨by decide, gdm (List.mem_of_getElem? (i := 449) (by decide +kernel)) (by decide +kernel)⟩
set_option maxRecDepth 100000 in
theorem fX10_54 : fwd RX10 54 8 5 TX10 := ⟨by decide, gdm (List.mem_of_getElem? (i := 450) (by decide +kernel)) (by decide +kernel)⟩
set_option maxRecDepth 100000 in
theorem fX11_101 : fwd RX11 101 8 5 TX10 := ⟨by decide, gdm (List.mem_of_getElem? (i := 451) (by decide +kernel)) (by decide +kernel)⟩
set_option maxRecDepth 100000 in
theorem fX10_57 : fwd RX10 57 8 6 TX10 := ⟨by decide, gdm (List.mem_of_getElem? (i := 452) (by decide +kernel)) (by decide +kernel)⟩
set_option maxRecDepth 100000 in
theorem fX11_94 : fwd RX11 94 8 6 TX10 := ⟨by decide, gdm (List.mem_of_getElem? (i := 453) (by decide +kernel)) (by decide +kernel)⟩
set_option maxRecDepth 100000 in
theorem fX10_64 : fwd RX10 64 8 7 TX10 := ⟨by decide, gdm (List.mem_of_getElem? (i := 454) (by decide +kernel)) (by decide +kernel)⟩
set_option maxRecDepth 100000 in
theorem fX11_80 : fwd RX11 80 8 7 TX10 := ⟨by decide, gdm (List.mem_of_getElem? (i := 455) (by decide +kernel)) (by decide +kernel)⟩
set_option maxRecDepth 100000 in
theorem fX11_10 : fwd RX11 10 9 0 TX11 := ⟨by decide, gdm (List.mem_of_getElem? (i := 497) (by decide +kernel)) (by decide +kernel)⟩
set_option maxRecDepth 100000 in
theorem fX11_19 : fwd RX11 19 9 1 TX11 := ⟨by decide, gdm (List.mem_of_getElem? (i := 498) (by decide +kernel)) (by decide +kernel)⟩
set_option maxRecDepth 100000 in
theorem fX11_26 : fwd RX11 26 9 2 TX11 := ⟨by decide, gdm (List.mem_of_getElem? (i := 499) (by decide +kernel)) (by decide +kernel)⟩
set_option maxRecDepth 100000 in
theorem fX11_30 : fwd RX11 30 9 3 TX11 := ⟨by decide, gdm (List.mem_of_getElem? (i := 500) (by decide +kernel)) (by decide +kernel)⟩
set_option maxRecDepth 100000 in
theorem fX11_33 : fwd RX11 33 9 4 TX11 := ⟨by decide, gdm (List.mem_of_getElem? (i := 501) (by decide +kernel)) (by decide +kernel)⟩
set_option maxRecDepth 100000 in
theorem fX11_37 : fwd RX11 37 9 5 TX11 := ⟨by decide, gdm (List.mem_of_getElem? (i := 502) (by decide +kernel)) (by decide +kernel)⟩
set_option maxRecDepth 100000 in
theorem fX11_242 : fwd RX11 242 9 6 TX11 := ⟨by decide, gdm (List.mem_of_getElem? (i := 503) (by decide +kernel)) (by decide +kernel)⟩
set_option maxRecDepth 100000 in
theorem fX12_51 : fwd RX12 51 10 0 TX12 := ⟨by decide, gdm (List.mem_of_getElem? (i := 1113) (by decide +kernel)) (by decide +kernel)⟩
set_option maxRecDepth 100000 in
theorem fX12_7 : fwd RX12 7 10 1 TX12 := ⟨by decide, gdm (List.mem_of_getElem? (i := 1114) (by decide +kernel)) (by decide +kernel)⟩
set_option maxRecDepth 100000 in
theorem fX12_13 : fwd RX12 13 10 2 TX12 := ⟨by decide, gdm (List.mem_of_getElem? (i := 1115) (by decide +kernel)) (by decide +kernel)⟩
set_option maxRecDepth 100000 in
theorem fX12_17 : fwd RX12 17 10 3 TX12 := ⟨by decide, gdm (List.mem_of_getElem? (i := 1116) (by decide +kernel)) (by decide +kernel)⟩
set_option maxRecDepth 100000 in
theorem fX12_72 : fwd RX12 72 10 4 TX12 := ⟨by decide, gdm (List.mem_of_getElem? (i := 1117) (by decide +kernel)) (by decide +kernel)⟩
set_option maxRecDepth 100000 in
theorem fX12_75 : fwd RX12 75 10 5 TX12 := ⟨by decide, gdm (List.mem_of_getElem? (i := 1118) (by decide +kernel)) (by decide +kernel)⟩
set_option maxRecDepth 100000 in
theorem fX12_82 : fwd RX12 82 10 6 TX12 := ⟨by decide, gdm (List.mem_of_getElem? (i := 1119) (by decide +kernel)) (by decide +kernel)⟩
set_option maxRecDepth 100000 in
theorem fX12_89 : fwd RX12 89 10 7 TX12 := ⟨by decide, gdm (List.mem_of_getElem? (i := 1120) (by decide +kernel)) (by decide +kernel)⟩
set_option maxRecDepth 100000 in
theorem fX12_92 : fwd RX12 92 10 8 TX12 := ⟨by decide, gdm (List.mem_of_getElem? (i := 1121) (by decide +kernel)) (by decide +kernel)⟩
set_option maxRecDepth 100000 in
theorem fX12_85 : fwd RX12 85 10 9 TX12 := ⟨by decide, gdm (List.mem_of_getElem? (i := 1122) (by decide +kernel)) (by decide +kernel)⟩
set_option maxRecDepth 100000 in
theorem fX12_111 : fwd RX12 111 10 10 TX12 := ⟨by decide, gdm (List.mem_of_getElem? (i := 1123) (by decide +kernel)) (by decide +kernel)⟩
set_option maxRecDepth 100000 in
theorem fX12_121 : fwd RX12 121 10 11 TX12 := ⟨by decide, gdm (List.mem_of_getElem? (i := 1124) (by decide +kernel)) (by decide +kernel)⟩
set_option maxRecDepth 100000 in
theorem fX12_21 : fwd RX12 21 10 13 TX12 := ⟨by decide, gdm (List.mem_of_getElem? (i := 1125) (by decide +kernel)) (by decide +kernel)⟩
set_option maxRecDepth 100000 in
theorem fX12_24 : fwd RX12 24 10 14 TX12 := ⟨by decide, gdm (List.mem_of_getElem? (i := 1126) (by decide +kernel)) (by decide +kernel)⟩
set_option maxRecDepth 100000 in
theorem fX12_27 : fwd RX12 27 10 15 TX12 := ⟨by decide, gdm (List.mem_of_getElem? (i := 1127) (by decide +kernel)) (by decide +kernel)⟩
set_option maxRecDepth 100000 in
theorem fX12_150 : fwd RX12 150 10 16 TX12 := ⟨by decide, gdm (List.mem_of_getElem? (i := 1128) (by decide +kernel)) (by decide +kernel)⟩
set_option maxRecDepth 100000 in
theorem fX12_153 : fwd RX12 153 10 17 TX12 := ⟨by decide, gdm (List.mem_of_getElem? (i := 1129) (by decide +kernel)) (by decide +kernel)⟩
set_option maxRecDepth 100000 in
theorem fX12_118 : fwd RX12 118 10 18 TX12 := ⟨by decide, gdm (List.mem_of_getElem? (i := 1130) (by decide +kernel)) (by decide +kernel)⟩
set_option maxRecDepth 100000 in
theorem fX12_30 : fwd RX12 30 10 19 TX12 := ⟨by decide, gdm (List.mem_of_getElem? (i := 1131) (by decide +kernel)) (by decide +kernel)⟩
set_option maxRecDepth 100000 in
theorem fX12_186 : fwd RX12 186 10 20 TX12 := ⟨by decide, gdm (List.mem_of_getElem? (i := 1132) (by decide +kernel)) (by decide +kernel)⟩
set_option maxRecDepth 100000 in
theorem fX12_33 : fwd RX12 33 10 21 TX12 := ⟨by decide, gdm (List.mem_of_getElem? (i := 1133) (by decide +kernel)) (by decide +kernel)⟩
set_option maxRecDepth 100000 in
theorem fX12_231 : fwd RX12 231 10 22 TX12 := ⟨by decide, gdm (List.mem_of_getElem? (i := 1134) (by decide +kernel)) (by decide +kernel)⟩
set_option maxRecDepth 100000 in
theorem fX12_36 : fwd RX12 36 10 23 TX12 := ⟨by decide, gdm (List.mem_of_getElem? (i := 1135) (by decide +kernel)) (by decide +kernel)⟩
set_option maxRecDepth 100000 in
theorem fX12_39 : fwd RX12 39 10 24 TX12 := ⟨by decide, gdm (List.mem_of_getElem? (i := 1136) (by decide +kernel)) (by decide +kernel)⟩
set_option maxRecDepth 100000 in
theorem fX12_42 : fwd RX12 42 10 25 TX12 := ⟨by decide, gdm (List.mem_of_getElem? (i := 1137) (by decide +kernel)) (by decide +kernel)⟩
set_option maxRecDepth 100000 in
theorem fX12_45 : fwd RX12 45 10 26 TX12 := ⟨by decide, gdm (List.mem_of_getElem? (i := 1138) (by decide +kernel)) (by decide +kernel)⟩
set_option maxRecDepth 100000 in
theorem qX9_19 : Cond.constantLong RX9 19 (255 : Int64) ∈ lw_gd := gdm (List.mem_of_getElem? (i := 527) (by decide +kernel)) (by decide +kernel)
set_option maxRecDepth 100000 in
theorem qX8_9 : Cond.constantLong RX8 9 (15 : Int64) ∈ lw_gd := gdm (List.mem_of_getElem? (i := 682) (by decide +kernel)) (by decide +kernel)
set_option maxRecDepth 100000 in
theorem qX10_353 : Cond.constantLong RX10 353 (100000 : Int64) ∈ lw_gd := gdm (List.mem_of_getElem? (i := 793) (by decide +kernel)) (by decide +kernel)
set_option maxRecDepth 100000 in
theorem qX11_213 : Cond.constantLong RX11 213 (-1 : Int64) ∈ lw_gd := gdm (List.mem_of_getElem? (i := 978) (by decide +kernel)) (by decide +kernel)
set_option maxRecDepth 100000 in
theorem qJ13_314 : Cond.constantLong RJ13 314 (6148914691236517205 : Int64) ∈ lw_gd := gdm (List.mem_of_getElem? (i := 985) (by decide +kernel)) (by decide +kernel)
set_option maxRecDepth 100000 in
theorem qJ13_316 : Cond.constantLong RJ13 316 (3689348814741910323 : Int64) ∈ lw_gd := gdm (List.mem_of_getElem? (i := 986) (by decide +kernel)) (by decide +kernel)
set_option maxRecDepth 100000 in
theorem qJ13_318 : Cond.constantLong RJ13 318 (1085102592571150095 : Int64) ∈ lw_gd := gdm (List.mem_of_getElem? (i := 987) (by decide +kernel)) (by decide +kernel)
set_option maxRecDepth 100000 in
theorem qX12_70 : Cond.constantLong RX12 70 (255 : Int64) ∈ lw_gd := gdm (List.mem_of_getElem? (i := 1199) (by decide +kernel)) (by decide +kernel)
set_option maxRecDepth 100000 in
theorem qX12_95 : Cond.constantLong RX12 95 (474315253107 : Int64) ∈ lw_gd := gdm (List.mem_of_getElem? (i := 1226) (by decide +kernel)) (by decide +kernel)
set_option maxRecDepth 100000 in
theorem qX12_97 : Cond.constantLong RX12 97 (1752133747 : Int64) ∈ lw_gd := gdm (List.mem_of_getElem? (i := 1227) (by decide +kernel)) (by decide +kernel)
set_option maxRecDepth 100000 in
theorem qX12_99 : Cond.constantLong RX12 99 (1919905645 : Int64) ∈ lw_gd := gdm (List.mem_of_getElem? (i := 1228) (by decide +kernel)) (by decide +kernel)
set_option maxRecDepth 100000 in
theorem qX12_101 : Cond.constantLong RX12 101 (499850046565 : Int64) ∈ lw_gd := gdm (List.mem_of_getElem? (i := 1229) (by decide +kernel)) (by decide +kernel)
set_option maxRecDepth 100000 in
theorem qX12_103 : Cond.constantLong RX12 103 (108256368682354 : Int64) ∈ lw_gd := gdm (List.mem_of_getElem? (i := 1230) (by decide +kernel)) (by decide +kernel)
set_option maxRecDepth 100000 in
theorem qX12_105 : Cond.constantLong RX12 105 (2002872692 : Int64) ∈ lw_gd := gdm (List.mem_of_getElem? (i := 1231) (by decide +kernel)) (by decide +kernel)
set_option maxRecDepth 100000 in
theorem qX12_107 : Cond.constantLong RX12 107 (418346264942 : Int64) ∈ lw_gd := gdm (List.mem_of_getElem? (i := 1232) (by decide +kernel)) (by decide +kernel)
set_option maxRecDepth 100000 in
theorem qX12_109 : Cond.constantLong RX12 109 (32476740792182629 : Int64) ∈ lw_gd := gdm (List.mem_of_getElem? (i := 1233) (by decide +kernel)) (by decide +kernel)
set_option maxRecDepth 100000 in
theorem qX12_134 : Cond.constantLong RX12 134 (1818848875 : Int64) ∈ lw_gd := gdm (List.mem_of_getElem? (i := 1234) (by decide +kernel)) (by decide +kernel)
set_option maxRecDepth 100000 in
theorem qX12_136 : Cond.constantLong RX12 136 (7168368 : Int64) ∈ lw_gd := gdm (List.mem_of_getElem? (i := 1235) (by decide +kernel)) (by decide +kernel)
set_option maxRecDepth 100000 in
theorem qX12_138 : Cond.constantLong RX12 138 (1684365670 : Int64) ∈ lw_gd := gdm (List.mem_of_getElem? (i := 1236) (by decide +kernel)) (by decide +kernel)
set_option maxRecDepth 100000 in
theorem qL_13 : Cond.constantLong RL 13 (4294967295 : Int64) ∈ lw_gd := gdm (List.mem_of_getElem? (i := 1705) (by decide +kernel)) (by decide +kernel)
set_option maxRecDepth 100000 in
theorem qJ6_265 : Cond.constant RJ6 265 (1431655765 : Int32) ∈ lw_gd := gdm (List.mem_of_getElem? (i := 699) (by decide +kernel)) (by decide +kernel)
set_option maxRecDepth 100000 in
theorem qJ6_266 : Cond.constant RJ6 266 (858993459 : Int32) ∈ lw_gd := gdm (List.mem_of_getElem? (i := 700) (by decide +kernel)) (by decide +kernel)
set_option maxRecDepth 100000 in
theorem qJ6_267 : Cond.constant RJ6 267 (252645135 : Int32) ∈ lw_gd := gdm (List.mem_of_getElem? (i := 701) (by decide +kernel)) (by decide +kernel)
set_option maxRecDepth 100000 in
theorem qX12_394 : Cond.constant RX12 394 (100000 : Int32) ∈ lw_gd := gdm (List.mem_of_getElem? (i := 1572) (by decide +kernel)) (by decide +kernel)
