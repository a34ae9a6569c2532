def rk_q_J7_fill_53178 : rk_Mt := (yJ7_fill_53178, cJ7_fill_53178, 4, none, 0, 0)
def rk_q_X11_plug : rk_Mt := (yX11_plug, cX11_plug, 3, (some .boolean), 5, 112)
def rk_q_X11_unplug : rk_Mt := (yX11_unplug, cX11_unplug, 2, (some .int), 5, 112)
def rk_q_X11_broken : rk_Mt := (yX11_broken, cX11_broken, 4, (some .boolean), 1, 20)
def rk_q_X11_turn : rk_Mt := (yX11_turn, cX11_turn, 3, (some .boolean), 4, 90)
def rk_q_X11_watch : rk_Mt := (yX11_watch, cX11_watch, 2, (some .boolean), 0, 0)
def rk_q_X11_odds : rk_Mt := (yX11_odds, cX11_odds, 2, (some .boolean), 0, 0)
def rk_q_X11_state : rk_Mt := (yX11_state, cX11_state, 3, (some .int), 0, 0)
def rk_q_X11_table : rk_Mt := (yX11_table, cX11_table, 5, (some .boolean), 2, 43)
def rk_q_X11_hold : rk_Mt := (yX11_hold, cX11_hold, 3, (some .boolean), 1, 20)
def rk_q_X11_tick : rk_Mt := (yX11_tick, cX11_tick, 3, (some .int), 7, 165)
def rk_q_X11_feed : rk_Mt := (yX11_feed, cX11_feed, 6, (some .int), 1, 22)
def rk_q_X11_end : rk_Mt := (yX11_end, cX11_end, 2, (some .boolean), 0, 0)
def rk_q_X11_send : rk_Mt := (yX11_send, cX11_send, 5, (some .int), 1, 22)
def rk_q_X11_text : rk_Mt := (yX11_text, cX11_text, 2, (some .int), 11, 417)
def rk_q_X11_fault : rk_Mt := (yX11_fault, cX11_fault, 2, (some .int), 0, 0)
def rk_q_X11_time : rk_Mt := (yX11_time, cX11_time, 3, (some .int), 1, 20)
def rk_q_X11_socket : rk_Mt := (yX11_socket, cX11_socket, 3, (some .int), 2, 41)
def rk_q_X11_buffer : rk_Mt := (yX11_buffer, cX11_buffer, 3, (some .int), 1, 22)
def rk_q_X11_input : rk_Mt := (yX11_input, cX11_input, 3, (some .int), 1, 21)
def rk_q_X11_router : rk_Mt := (yX11_router, cX11_router, 3, (some .int), 3, 63)
def rk_q_X11_tableOf : rk_Mt := (yX11_tableOf, cX11_tableOf, 3, (some .int), 2, 41)
def rk_q_X11_endOf : rk_Mt := (yX11_endOf, cX11_endOf, 3, (some .int), 2, 41)
def rk_q_X11_packet : rk_Mt := (yX11_packet, cX11_packet, 5, (some .int), 2, 43)
def rk_q_X11_byteOf : rk_Mt := (yX11_byteOf, cX11_byteOf, 5, (some .int), 2, 43)
def rk_q_X11_way : rk_Mt := (yX11_way, cX11_way, 4, (some .int), 3, 78)
def rk_q_X11_spread : rk_Mt := (yX11_spread, cX11_spread, 3, (some .int), 5, 118)
def rk_q_X11_loops : rk_Mt := (yX11_loops, cX11_loops, 3, (some .int), 5, 116)
def rk_q_X11_log : rk_Mt := (yX11_log, cX11_log, 3, (some .int), 1, 23)
def rk_q_X11_lasts : rk_Mt := (yX11_lasts, cX11_lasts, 6, (some .int), 7, 165)
def rk_q_X11_sound : rk_Mt := (yX11_sound, cX11_sound, 4, (some .int), 1, 23)
def rk_q_X11_image : rk_Mt := (yX11_image, cX11_image, 2, (some .boolean), 4, 125)
def rk_q_X11_look : rk_Mt := (yX11_look, cX11_look, 2, (some .int), 2, 44)
def rk_q_X11_layAllTold : rk_Mt := (yX11_layAllTold, cX11_layAllTold, 2, none, 5, 112)
def rk_q_X11_keptPacket : rk_Mt := (yX11_keptPacket, cX11_keptPacket, 3, (some (.object "SpaceLinks$Packet")), 1, 21)
def rk_q_X11_isSocket : rk_Mt := (yX11_isSocket, cX11_isSocket, 1, (some .boolean), 0, 0)
def rk_q_X11_isRouter : rk_Mt := (yX11_isRouter, cX11_isRouter, 1, (some .boolean), 0, 0)
def rk_q_X11_isEnd : rk_Mt := (yX11_isEnd, cX11_isEnd, 1, (some .boolean), 0, 0)
def rk_q_X11_isAddress : rk_Mt := (yX11_isAddress, cX11_isAddress, 1, (some .boolean), 0, 0)
def rk_q_X11_isPortSet : rk_Mt := (yX11_isPortSet, cX11_isPortSet, 1, (some .boolean), 0, 0)
def rk_q_X11_bit : rk_Mt := (yX11_bit, cX11_bit, 1, (some .int), 0, 0)
def rk_q_X12_isIn : rk_Mt := (yX12_isIn, cX12_isIn, 4, (some .boolean), 0, 0)
def rk_q_X12_at : rk_Mt := (yX12_at, cX12_at, 3, (some .int), 0, 0)
def rk_q_X12_puts : rk_Mt := (yX12_puts, cX12_puts, 4, none, 0, 0)
def rk_q_X12_more : rk_Mt := (yX12_more, cX12_more, 3, none, 0, 0)
def rk_q_X12_ofRouter : rk_Mt := (yX12_ofRouter, cX12_ofRouter, 3, (some .int), 0, 0)
def rk_q_X12_putsRouter : rk_Mt := (yX12_putsRouter, cX12_putsRouter, 4, none, 0, 0)
def rk_q_X12_moreRouter : rk_Mt := (yX12_moreRouter, cX12_moreRouter, 3, none, 0, 0)
def rk_q_X12_ofEnd : rk_Mt := (yX12_ofEnd, cX12_ofEnd, 3, (some .int), 0, 0)
def rk_q_X12_putsEnd : rk_Mt := (yX12_putsEnd, cX12_putsEnd, 4, none, 0, 0)
def rk_q_X12_moreEnd : rk_Mt := (yX12_moreEnd, cX12_moreEnd, 3, none, 0, 0)
def rk_q_X12_isSocket : rk_Mt := (yX12_isSocket, cX12_isSocket, 2, (some .boolean), 0, 0)
def rk_q_X12_isPort : rk_Mt := (yX12_isPort, cX12_isPort, 2, (some .boolean), 1, 21)
def rk_q_X12_isRouter : rk_Mt := (yX12_isRouter, cX12_isRouter, 2, (some .boolean), 0, 0)
def rk_q_X12_isEnd : rk_Mt := (yX12_isEnd, cX12_isEnd, 2, (some .boolean), 0, 0)
def rk_q_X12_otherOf : rk_Mt := (yX12_otherOf, cX12_otherOf, 2, (some .int), 1, 22)
def rk_q_X12_isLive : rk_Mt := (yX12_isLive, cX12_isLive, 2, (some .boolean), 1, 22)
def rk_q_X12_copies : rk_Mt := (yX12_copies, cX12_copies, 4, none, 0, 0)
def rk_q_X12_logs : rk_Mt := (yX12_logs, cX12_logs, 4, none, 0, 0)
def rk_q_X12_draw : rk_Mt := (yX12_draw, cX12_draw, 1, (some .int), 0, 0)
def rk_q_X12_buffers : rk_Mt := (yX12_buffers, cX12_buffers, 3, none, 1, 23)
def rk_q_X12_takes : rk_Mt := (yX12_takes, cX12_takes, 4, (some .int), 1, 23)
def rk_q_X12_isMark : rk_Mt := (yX12_isMark, cX12_isMark, 2, (some .boolean), 0, 0)
def rk_q_X12_isData : rk_Mt := (yX12_isData, cX12_isData, 2, (some .boolean), 0, 0)
def rk_q_X12_routedTo : rk_Mt := (yX12_routedTo, cX12_routedTo, 4, (some .int), 1, 22)
def rk_q_X12_spills : rk_Mt := (yX12_spills, cX12_spills, 2, none, 1, 23)
def rk_q_X12_takesQueue : rk_Mt := (yX12_takesQueue, cX12_takesQueue, 4, (some .int), 1, 23)
def rk_q_X12_becomes : rk_Mt := (yX12_becomes, cX12_becomes, 3, none, 1, 23)
def rk_q_X12_falls : rk_Mt := (yX12_falls, cX12_falls, 3, none, 3, 68)
def rk_q_X12_losesQueue : rk_Mt := (yX12_losesQueue, cX12_losesQueue, 3, none, 2, 46)
def rk_q_X12_settles : rk_Mt := (yX12_settles, cX12_settles, 3, none, 4, 90)
def rk_q_X12_joins : rk_Mt := (yX12_joins, cX12_joins, 3, none, 5, 112)
def rk_q_X12_plug : rk_Mt := (yX12_plug, cX12_plug, 3, (some .boolean), 6, 134)
def rk_q_X12_unplug : rk_Mt := (yX12_unplug, cX12_unplug, 3, (some .int), 5, 112)
def rk_q_X12_broken : rk_Mt := (yX12_broken, cX12_broken, 3, (some .boolean), 2, 43)
def rk_q_X12_turns : rk_Mt := (yX12_turns, cX12_turns, 3, (some .boolean), 5, 112)
def rk_q_X12_turn : rk_Mt := (yX12_turn, cX12_turn, 3, (some .boolean), 6, 134)
def rk_q_X12_watch : rk_Mt := (yX12_watch, cX12_watch, 2, (some .boolean), 1, 23)
def rk_q_X12_odds : rk_Mt := (yX12_odds, cX12_odds, 2, (some .boolean), 1, 23)
def rk_q_X12_state : rk_Mt := (yX12_state, cX12_state, 3, (some .int), 0, 0)
def rk_q_X12_isAddress : rk_Mt := (yX12_isAddress, cX12_isAddress, 2, (some .boolean), 1, 23)
def rk_q_X12_arePorts : rk_Mt := (yX12_arePorts, cX12_arePorts, 2, (some .boolean), 1, 23)
def rk_q_X12_tableAt : rk_Mt := (yX12_tableAt, cX12_tableAt, 3, (some .int), 1, 22)
def rk_q_X12_tables : rk_Mt := (yX12_tables, cX12_tables, 5, none, 1, 23)
def rk_q_X12_table : rk_Mt := (yX12_table, cX12_table, 5, (some .boolean), 2, 47)
def rk_q_X12_hold : rk_Mt := (yX12_hold, cX12_hold, 3, (some .boolean), 1, 23)
def rk_q_X12_comesToRouter : rk_Mt := (yX12_comesToRouter, cX12_comesToRouter, 6, none, 1, 23)
def rk_q_X12_comesToEnd : rk_Mt := (yX12_comesToEnd, cX12_comesToEnd, 4, none, 1, 23)
def rk_q_X12_hearsData : rk_Mt := (yX12_hearsData, cX12_hearsData, 3, none, 4, 90)
def rk_q_X12_hears : rk_Mt := (yX12_hears, cX12_hears, 3, none, 5, 112)
def rk_q_X12_hearsAll : rk_Mt := (yX12_hearsAll, cX12_hearsAll, 2, none, 6, 134)
def rk_q_X12_grows : rk_Mt := (yX12_grows, cX12_grows, 4, none, 4, 90)
def rk_q_X12_spillsOne : rk_Mt := (yX12_spillsOne, cX12_spillsOne, 4, none, 7, 159)
def rk_q_X12_does : rk_Mt := (yX12_does, cX12_does, 6, (some .boolean), 6, 134)
def rk_q_X12_writes : rk_Mt := (yX12_writes, cX12_writes, 5, (some .boolean), 2, 47)
def rk_q_X12_spillsAhead : rk_Mt := (yX12_spillsAhead, cX12_spillsAhead, 3, none, 8, 182)
def rk_q_X12_isOpen : rk_Mt := (yX12_isOpen, cX12_isOpen, 3, (some .boolean), 2, 45)
def rk_q_X12_leastOpen : rk_Mt := (yX12_leastOpen, cX12_leastOpen, 4, (some .int), 3, 67)
def rk_q_X12_meant : rk_Mt := (yX12_meant, cX12_meant, 3, (some .int), 2, 44)
def rk_q_X12_routes : rk_Mt := (yX12_routes, cX12_routes, 4, none, 4, 90)
def rk_q_X12_watchOf : rk_Mt := (yX12_watchOf, cX12_watchOf, 1, (some .int), 0, 0)
def rk_q_X12_cuts : rk_Mt := (yX12_cuts, cX12_cuts, 3, none, 2, 44)
def rk_q_X12_looksAt : rk_Mt := (yX12_looksAt, cX12_looksAt, 4, none, 9, 204)
def rk_q_X12_routesAll : rk_Mt := (yX12_routesAll, cX12_routesAll, 4, none, 10, 227)
def rk_q_X12_takesAtEnd : rk_Mt := (yX12_takesAtEnd, cX12_takesAtEnd, 7, none, 2, 46)
def rk_q_X12_maySell : rk_Mt := (yX12_maySell, cX12_maySell, 2, (some .boolean), 1, 22)
def rk_q_X12_sells : rk_Mt := (yX12_sells, cX12_sells, 2, (some .int), 1, 23)
def rk_q_X12_nextData : rk_Mt := (yX12_nextData, cX12_nextData, 4, (some .int), 2, 46)
def rk_q_X12_sendsInRun : rk_Mt := (yX12_sendsInRun, cX12_sendsInRun, 5, (some .int), 3, 69)
def rk_q_X12_sends : rk_Mt := (yX12_sends, cX12_sends, 4, (some .int), 4, 93)
def rk_q_X12_watches : rk_Mt := (yX12_watches, cX12_watches, 2, none, 3, 66)
def rk_q_X12_ticks : rk_Mt := (yX12_ticks, cX12_ticks, 2, none, 11, 250)
def rk_q_X12_tick : rk_Mt := (yX12_tick, cX12_tick, 3, (some .int), 12, 271)
def rk_q_X12_types : rk_Mt := (yX12_types, cX12_types, 3, none, 0, 0)
def rk_q_X12_feed : rk_Mt := (yX12_feed, cX12_feed, 6, (some .int), 1, 22)
def rk_q_X12_end : rk_Mt := (yX12_end, cX12_end, 2, (some .boolean), 1, 23)
def rk_q_X12_queues : rk_Mt := (yX12_queues, cX12_queues, 3, none, 1, 23)
def rk_q_X12_send : rk_Mt := (yX12_send, cX12_send, 4, (some .int), 2, 45)
def rk_q_X12_here : rk_Mt := (yX12_here, cX12_here, 1, (some .int), 0, 0)
def rk_q_X12_behindBlanks : rk_Mt := (yX12_behindBlanks, cX12_behindBlanks, 1, (some .int), 1, 20)
def rk_q_X12_isDigit : rk_Mt := (yX12_isDigit, cX12_isDigit, 2, (some .boolean), 0, 0)
def rk_q_X12_errs : rk_Mt := (yX12_errs, cX12_errs, 3, (some .int), 0, 0)
def rk_q_X12_letters : rk_Mt := (yX12_letters, cX12_letters, 2, (some .int), 0, 0)
def rk_q_X12_takesWord : rk_Mt := (yX12_takesWord, cX12_takesWord, 4, (some .boolean), 6, 300)
def rk_q_X12_number : rk_Mt := (yX12_number, cX12_number, 5, (some .int), 2, 40)
def rk_q_X12_sign : rk_Mt := (yX12_sign, cX12_sign, 2, none, 2, 40)
def rk_q_X12_readSocket : rk_Mt := (yX12_readSocket, cX12_readSocket, 4, (some .int), 7, 323)
def rk_q_X12_readCable : rk_Mt := (yX12_readCable, cX12_readCable, 3, none, 8, 346)
def rk_q_X12_readTable : rk_Mt := (yX12_readTable, cX12_readTable, 7, none, 7, 323)
def rk_q_X12_text : rk_Mt := (yX12_text, cX12_text, 2, (some .int), 9, 368)
def rk_q_X12_fault : rk_Mt := (yX12_fault, cX12_fault, 2, (some .int), 0, 0)
def rk_q_X12_time : rk_Mt := (yX12_time, cX12_time, 3, (some .int), 1, 23)
def rk_q_X12_socket : rk_Mt := (yX12_socket, cX12_socket, 3, (some .int), 2, 43)
def rk_q_X12_buffer : rk_Mt := (yX12_buffer, cX12_buffer, 3, (some .int), 1, 23)
def rk_q_X12_input : rk_Mt := (yX12_input, cX12_input, 4, (some .int), 2, 45)
def rk_q_X12_tablesOf : rk_Mt := (yX12_tablesOf, cX12_tablesOf, 4, (some .int), 2, 44)
def rk_q_X12_router : rk_Mt := (yX12_router, cX12_router, 3, (some .int), 3, 67)
def rk_q_X12_tableOf : rk_Mt := (yX12_tableOf, cX12_tableOf, 3, (some .int), 2, 44)
def rk_q_X12_endOf : rk_Mt := (yX12_endOf, cX12_endOf, 3, (some .int), 1, 23)
def rk_q_X12_packetAt : rk_Mt := (yX12_packetAt, cX12_packetAt, 3, (some .int), 1, 22)
def rk_q_X12_packet : rk_Mt := (yX12_packet, cX12_packet, 5, (some .int), 2, 44)
def rk_q_X12_byteOf : rk_Mt := (yX12_byteOf, cX12_byteOf, 5, (some .int), 2, 44)
def rk_q_X12_laysHops : rk_Mt := (yX12_laysHops, cX12_laysHops, 7, none, 2, 43)
def rk_q_X12_onward : rk_Mt := (yX12_onward, cX12_onward, 5, (some .int), 2, 43)
def rk_q_X12_way : rk_Mt := (yX12_way, cX12_way, 7, (some .int), 3, 69)
def rk_q_X12_onTo : rk_Mt := (yX12_onTo, cX12_onTo, 7, (some .int), 2, 44)
def rk_q_X12_reaches : rk_Mt := (yX12_reaches, cX12_reaches, 6, (some .int), 3, 70)
def rk_q_X12_spread : rk_Mt := (yX12_spread, cX12_spread, 8, (some .int), 4, 95)
def rk_q_X12_loops : rk_Mt := (yX12_loops, cX12_loops, 5, (some .int), 4, 95)
def rk_q_X12_log : rk_Mt := (yX12_log, cX12_log, 3, (some .int), 1, 23)
def rk_q_X12_lasts : rk_Mt := (yX12_lasts, cX12_lasts, 6, (some .int), 12, 271)
def rk_q_X12_isSold : rk_Mt := (yX12_isSold, cX12_isSold, 3, (some .boolean), 1, 22)
def rk_q_X12_sound : rk_Mt := (yX12_sound, cX12_sound, 2, (some .int), 2, 44)
def rk_q_X12_image : rk_Mt := (yX12_image, cX12_image, 2, (some .boolean), 1, 23)
def rk_q_X12_sumOf : rk_Mt := (yX12_sumOf, cX12_sumOf, 4, (some .int), 1, 22)
def rk_q_X12_cables : rk_Mt := (yX12_cables, cX12_cables, 4, (some .int), 2, 43)
def rk_q_X12_sumOfEnds : rk_Mt := (yX12_sumOfEnds, cX12_sumOfEnds, 4, (some .int), 1, 22)
def rk_q_X12_running : rk_Mt := (yX12_running, cX12_running, 3, (some .int), 1, 22)
def rk_q_X12_look : rk_Mt := (yX12_look, cX12_look, 2, (some .int), 3, 66)
def rk_q_X0_copyFrom : rk_Mt := (yX0_copyFrom, cX0_copyFrom, 2, none, 0, 0)
def rk_q_X0_next : rk_Mt := (yX0_next, cX0_next, 1, (some .int), 0, 0)
def rk_q_X0_hears : rk_Mt := (yX0_hears, cX0_hears, 3, (some .boolean), 1, 20)
def rk_q_X1_copyFrom : rk_Mt := (yX1_copyFrom, cX1_copyFrom, 3, none, 2, 81)
def rk_q_X1_receive : rk_Mt := (yX1_receive, cX1_receive, 5, none, 1, 20)
def rk_q_X1_keptAt : rk_Mt := (yX1_keptAt, cX1_keptAt, 2, (some (.object "SpaceLinks$Packet")), 0, 0)
def rk_q_X1_tell : rk_Mt := (yX1_tell, cX1_tell, 2, (some .int), 1, 20)
def rk_q_X2_copyFrom : rk_Mt := (yX2_copyFrom, cX2_copyFrom, 2, none, 1, 60)
def rk_q_X2_beginSpill : rk_Mt := (yX2_beginSpill, cX2_beginSpill, 2, none, 0, 0)
def rk_q_X2_beFree : rk_Mt := (yX2_beFree, cX2_beFree, 1, none, 0, 0)
def rk_q_X2_keep : rk_Mt := (yX2_keep, cX2_keep, 2, none, 0, 0)
def rk_q_X2_tell : rk_Mt := (yX2_tell, cX2_tell, 2, (some .int), 0, 0)
def rk_q_X3_copyFrom : rk_Mt := (yX3_copyFrom, cX3_copyFrom, 2, none, 1, 60)
def rk_q_X3_add : rk_Mt := (yX3_add, cX3_add, 5, none, 0, 0)
def rk_q_X3_tell : rk_Mt := (yX3_tell, cX3_tell, 4, (some .int), 0, 0)
def rk_q_X4_copyFrom : rk_Mt := (yX4_copyFrom, cX4_copyFrom, 2, none, 1, 60)
def rk_q_X4_add : rk_Mt := (yX4_add, cX4_add, 2, none, 0, 0)
def rk_q_X4_at : rk_Mt := (yX4_at, cX4_at, 2, (some .int), 0, 0)
def rk_q_X4_tell : rk_Mt := (yX4_tell, cX4_tell, 2, (some .int), 1, 20)
def rk_q_X5_wayPort : rk_Mt := (yX5_wayPort, cX5_wayPort, 10, (some .int), 2, 49)
def rk_q_X5_cablesTo : rk_Mt := (yX5_cablesTo, cX5_cablesTo, 7, (some (.array .int)), 1, 23)
def rk_q_X5_portToward : rk_Mt := (yX5_portToward, cX5_portToward, 7, (some .int), 1, 22)
def rk_q_X5_routerAt : rk_Mt := (yX5_routerAt, cX5_routerAt, 3, (some .int), 0, 0)
def rk_q_X5_endsOf : rk_Mt := (yX5_endsOf, cX5_endsOf, 7, (some .int), 4, 92)
def rk_q_X5_comesAgain : rk_Mt := (yX5_comesAgain, cX5_comesAgain, 5, (some .boolean), 4, 92)
def rk_q_X5_routersBehind : rk_Mt := (yX5_routersBehind, cX5_routersBehind, 10, (some .int), 3, 63)
def rk_q_X5_isMeant : rk_Mt := (yX5_isMeant, cX5_isMeant, 3, (some .boolean), 2, 41)
def rk_q_X6_copyFrom : rk_Mt := (yX6_copyFrom, cX6_copyFrom, 2, none, 1, 60)
def rk_q_X6_write : rk_Mt := (yX6_write, cX6_write, 4, (some .boolean), 1, 20)
def rk_q_X6_tableFor : rk_Mt := (yX6_tableFor, cX6_tableFor, 2, (some .int), 1, 20)
def rk_q_X6_meantBy : rk_Mt := (yX6_meantBy, cX6_meantBy, 2, (some .int), 2, 41)
def rk_q_X6_tablesThere : rk_Mt := (yX6_tablesThere, cX6_tablesThere, 3, (some .int), 1, 20)
def rk_q_X6_tell : rk_Mt := (yX6_tell, cX6_tell, 2, (some .int), 2, 42)
def rk_q_X7_copyFrom : rk_Mt := (yX7_copyFrom, cX7_copyFrom, 3, none, 1, 22)
def rk_q_X7_at : rk_Mt := (yX7_at, cX7_at, 3, (some .int), 0, 0)
def rk_q_X7_add : rk_Mt := (yX7_add, cX7_add, 3, none, 0, 0)
def rk_q_X7_take : rk_Mt := (yX7_take, cX7_take, 2, (some .int), 0, 0)
def rk_q_X7_dropPacket : rk_Mt := (yX7_dropPacket, cX7_dropPacket, 3, none, 1, 21)
def rk_q_X8_copyFrom : rk_Mt := (yX8_copyFrom, cX8_copyFrom, 2, none, 2, 44)
def rk_q_X8_enter : rk_Mt := (yX8_enter, cX8_enter, 2, none, 0, 0)
def rk_q_X8_sells : rk_Mt := (yX8_sells, cX8_sells, 1, (some .boolean), 0, 0)
def rk_q_X8_isPaidFor : rk_Mt := (yX8_isPaidFor, cX8_isPaidFor, 4, (some .boolean), 0, 0)
def rk_q_X8_tell : rk_Mt := (yX8_tell, cX8_tell, 2, (some .int), 1, 20)
def rk_q_X9_add : rk_Mt := (yX9_add, cX9_add, 3, none, 0, 0)
def rk_q_X9_at : rk_Mt := (yX9_at, cX9_at, 2, (some .int), 0, 0)
def rk_q_X9_read : rk_Mt := (yX9_read, cX9_read, 3, (some .int), 10, 395)
def rk_q_X9_readLine : rk_Mt := (yX9_readLine, cX9_readLine, 3, (some .boolean), 9, 373)
def rk_q_X9_readCable : rk_Mt := (yX9_readCable, cX9_readCable, 4, (some .boolean), 8, 350)
def rk_q_X9_readSocket : rk_Mt := (yX9_readSocket, cX9_readSocket, 8, (some .int), 7, 323)
def rk_q_X9_readTable : rk_Mt := (yX9_readTable, cX9_readTable, 8, (some .boolean), 7, 323)
def rk_q_X9_readPorts : rk_Mt := (yX9_readPorts, cX9_readPorts, 5, (some .int), 2, 46)
def rk_q_X9_readNumber : rk_Mt := (yX9_readNumber, cX9_readNumber, 5, (some .int), 1, 22)
def rk_q_X9_takesWord : rk_Mt := (yX9_takesWord, cX9_takesWord, 4, (some .boolean), 6, 300)
def rk_q_X9_takesSign : rk_Mt := (yX9_takesSign, cX9_takesSign, 2, (some .boolean), 1, 22)
def rk_q_X9_skipBlanks : rk_Mt := (yX9_skipBlanks, cX9_skipBlanks, 1, none, 0, 0)
def rk_q_X9_fails : rk_Mt := (yX9_fails, cX9_fails, 3, (some .boolean), 0, 0)
def rk_q_X9_isDigit : rk_Mt := (yX9_isDigit, cX9_isDigit, 1, (some .boolean), 0, 0)
def rk_q_X9_isLetter : rk_Mt := (yX9_isLetter, cX9_isLetter, 1, (some .boolean), 0, 0)
def rk_q_X10_copyFrom : rk_Mt := (yX10_copyFrom, cX10_copyFrom, 3, none, 3, 103)
def rk_q_X10_lay : rk_Mt := (yX10_lay, cX10_lay, 3, none, 4, 90)
def rk_q_X10_part : rk_Mt := (yX10_part, cX10_part, 3, (some .int), 4, 90)
def rk_q_X10_settle : rk_Mt := (yX10_settle, cX10_settle, 4, none, 3, 67)
def rk_q_X10_leave : rk_Mt := (yX10_leave, cX10_leave, 5, none, 2, 43)
def rk_q_X10_step : rk_Mt := (yX10_step, cX10_step, 5, none, 6, 141)
def rk_q_X10_unstickSpilling : rk_Mt := (yX10_unstickSpilling, cX10_unstickSpilling, 2, none, 0, 0)
def rk_q_X10_hear : rk_Mt := (yX10_hear, cX10_hear, 4, none, 4, 90)
def rk_q_X10_draw : rk_Mt := (yX10_draw, cX10_draw, 1, (some .int), 0, 0)
def rk_q_X10_hearCredit : rk_Mt := (yX10_hearCredit, cX10_hearCredit, 3, none, 3, 67)
def rk_q_X10_hearTime : rk_Mt := (yX10_hearTime, cX10_hearTime, 5, none, 2, 42)
def rk_q_X10_hearData : rk_Mt := (yX10_hearData, cX10_hearData, 4, none, 3, 67)
def rk_q_X10_grow : rk_Mt := (yX10_grow, cX10_grow, 3, none, 4, 89)
def rk_q_X10_growOn : rk_Mt := (yX10_growOn, cX10_growOn, 3, none, 3, 67)
def rk_q_X10_serve : rk_Mt := (yX10_serve, cX10_serve, 7, none, 5, 115)
def rk_q_X10_begin : rk_Mt := (yX10_begin, cX10_begin, 7, (some .boolean), 3, 62)
def rk_q_X10_openPort : rk_Mt := (yX10_openPort, cX10_openPort, 5, (some .int), 1, 20)
def rk_q_X10_spill : rk_Mt := (yX10_spill, cX10_spill, 5, (some .int), 1, 21)
def rk_q_X10_answer : rk_Mt := (yX10_answer, cX10_answer, 4, none, 1, 24)
def rk_q_X10_obeys : rk_Mt := (yX10_obeys, cX10_obeys, 6, (some .boolean), 4, 90)
def rk_q_X10_stick : rk_Mt := (yX10_stick, cX10_stick, 4, none, 1, 24)
def rk_q_X10_takeIn : rk_Mt := (yX10_takeIn, cX10_takeIn, 3, none, 2, 44)
def rk_q_X10_transmit : rk_Mt := (yX10_transmit, cX10_transmit, 3, none, 4, 91)
def rk_q_X10_transmitInRun : rk_Mt := (yX10_transmitInRun, cX10_transmitInRun, 5, none, 3, 67)
def rk_q_X10_choose : rk_Mt := (yX10_choose, cX10_choose, 4, (some .int), 2, 44)
def rk_q_X10_passOn : rk_Mt := (yX10_passOn, cX10_passOn, 4, (some .int), 1, 21)
def rk_q_X10_received : rk_Mt := (yX10_received, cX10_received, 4, (some .int), 0, 0)
def rk_q_X10_total : rk_Mt := (yX10_total, cX10_total, 5, (some .int), 1, 20)
def rk_q_X10_baseOf : rk_Mt := (yX10_baseOf, cX10_baseOf, 1, (some .int), 0, 0)
def rk_q_X10_portOf : rk_Mt := (yX10_portOf, cX10_portOf, 1, (some .int), 0, 0)
def rk_q_X10_kindOf : rk_Mt := (yX10_kindOf, cX10_kindOf, 1, (some .int), 0, 0)
theorem rk_cm_X11_isSocket : Jvm.Cond.code rk_q_X11_isSocket.1 rk_q_X11_isSocket.2.1 rk_q_X11_isSocket.2.2.1 rk_q_X11_isSocket.2.2.2.1 ∈ rk_tbl := rk_tat_ok (i := 570) (by decide +kernel)
theorem rk_lk_X11_23 : rk_mck RX11 23 rk_q_X11_isSocket 1 0 120 (568, false) 569 0 = true := by decide +kernel
theorem rk_cm_X10_lay : Jvm.Cond.code rk_q_X10_lay.1 rk_q_X10_lay.2.1 rk_q_X10_lay.2.2.1 rk_q_X10_lay.2.2.2.1 ∈ rk_tbl := rk_tat_ok (i := 574) (by decide +kernel)
theorem rk_lk_X11_37 : rk_mck RX11 37 rk_q_X10_lay 3 10 121 (571, false) 572 573 = true := by decide +kernel
theorem rk_cm_X10_part : Jvm.Cond.code rk_q_X10_part.1 rk_q_X10_part.2.1 rk_q_X10_part.2.2.1 rk_q_X10_part.2.2.2.1 ∈ rk_tbl := rk_tat_ok (i := 617) (by decide +kernel)
theorem rk_lk_X11_41 : rk_mck RX11 41 rk_q_X10_part 2 10 121 (614, false) 615 616 = true := by decide +kernel
theorem rk_cm_X10_settle : Jvm.Cond.code rk_q_X10_settle.1 rk_q_X10_settle.2.1 rk_q_X10_settle.2.2.1 rk_q_X10_settle.2.2.2.1 ∈ rk_tbl := rk_tat_ok (i := 578) (by decide +kernel)
theorem rk_lk_X11_52 : rk_mck RX11 52 rk_q_X10_settle 2 10 121 (627, false) 576 577 = true := by decide +kernel
theorem rk_cm_X11_isRouter : Jvm.Cond.code rk_q_X11_isRouter.1 rk_q_X11_isRouter.2.1 rk_q_X11_isRouter.2.2.1 rk_q_X11_isRouter.2.2.2.1 ∈ rk_tbl := rk_tat_ok (i := 646) (by decide +kernel)
theorem rk_lk_X11_65 : rk_mck RX11 65 rk_q_X11_isRouter 1 0 120 (644, false) 645 0 = true := by decide +kernel
theorem rk_cm_X6_write : Jvm.Cond.code rk_q_X6_write.1 rk_q_X6_write.2.1 rk_q_X6_write.2.2.1 rk_q_X6_write.2.2.2.1 ∈ rk_tbl := rk_tat_ok (i := 650) (by decide +kernel)
theorem rk_lk_X11_72 : rk_mck RX11 72 rk_q_X6_write 4 6 127 (647, false) 648 649 = true := by decide +kernel
theorem rk_cm_X11_isEnd : Jvm.Cond.code rk_q_X11_isEnd.1 rk_q_X11_isEnd.2.1 rk_q_X11_isEnd.2.2.1 rk_q_X11_isEnd.2.2.2.1 ∈ rk_tbl := rk_tat_ok (i := 663) (by decide +kernel)
theorem rk_lk_X11_78 : rk_mck RX11 78 rk_q_X11_isEnd 1 0 120 (661, false) 662 0 = true := by decide +kernel
theorem rk_cm_X10_step : Jvm.Cond.code rk_q_X10_step.1 rk_q_X10_step.2.1 rk_q_X10_step.2.2.1 rk_q_X10_step.2.2.2.1 ∈ rk_tbl := rk_tat_ok (i := 672) (by decide +kernel)
theorem rk_lk_X11_94 : rk_mck RX11 94 rk_q_X10_step 1 10 121 (669, false) 670 671 = true := by decide +kernel
theorem rk_cm_X9_add : Jvm.Cond.code rk_q_X9_add.1 rk_q_X9_add.2.1 rk_q_X9_add.2.2.1 rk_q_X9_add.2.2.2.1 ∈ rk_tbl := rk_tat_ok (i := 813) (by decide +kernel)
theorem rk_lk_X11_100 : rk_mck RX11 100 rk_q_X9_add 2 9 131 (810, false) 811 812 = true := by decide +kernel
theorem rk_cm_X7_add : Jvm.Cond.code rk_q_X7_add.1 rk_q_X7_add.2.1 rk_q_X7_add.2.2.1 rk_q_X7_add.2.2.2.1 ∈ rk_tbl := rk_tat_ok (i := 594) (by decide +kernel)
theorem rk_lk_X11_116 : rk_mck RX11 116 rk_q_X7_add 2 7 124 (822, false) 592 593 = true := by decide +kernel
theorem rk_cm_X9_read : Jvm.Cond.code rk_q_X9_read.1 rk_q_X9_read.2.1 rk_q_X9_read.2.2.1 rk_q_X9_read.2.2.2.1 ∈ rk_tbl := rk_tat_ok (i := 830) (by decide +kernel)
theorem rk_lk_X11_117 : rk_mck RX11 117 rk_q_X9_read 2 9 131 (827, false) 828 829 = true := by decide +kernel
theorem rk_cm_X11_layAllTold : Jvm.Cond.code rk_q_X11_layAllTold.1 rk_q_X11_layAllTold.2.1 rk_q_X11_layAllTold.2.2.1 rk_q_X11_layAllTold.2.2.2.1 ∈ rk_tbl := rk_tat_ok (i := 944) (by decide +kernel)
theorem rk_lk_X11_121 : rk_mck RX11 121 rk_q_X11_layAllTold 1 11 120 (941, false) 943 31 = true := by decide +kernel
theorem rk_cm_X0_next : Jvm.Cond.code rk_q_X0_next.1 rk_q_X0_next.2.1 rk_q_X0_next.2.2.1 rk_q_X0_next.2.2.2.1 ∈ rk_tbl := rk_tat_ok (i := 698) (by decide +kernel)
theorem rk_lk_X11_137 : rk_mck RX11 137 rk_q_X0_next 1 1 128 (954, false) 696 697 = true := by decide +kernel
theorem rk_cm_X8_tell : Jvm.Cond.code rk_q_X8_tell.1 rk_q_X8_tell.2.1 rk_q_X8_tell.2.2.1 rk_q_X8_tell.2.2.2.1 ∈ rk_tbl := rk_tat_ok (i := 962) (by decide +kernel)
theorem rk_lk_X11_149 : rk_mck RX11 149 rk_q_X8_tell 2 8 123 (959, false) 960 961 = true := by decide +kernel
theorem rk_cm_X7_at : Jvm.Cond.code rk_q_X7_at.1 rk_q_X7_at.2.1 rk_q_X7_at.2.2.1 rk_q_X7_at.2.2.2.1 ∈ rk_tbl := rk_tat_ok (i := 744) (by decide +kernel)
theorem rk_lk_X11_155 : rk_mck RX11 155 rk_q_X7_at 2 7 124 (968, false) 742 743 = true := by decide +kernel
theorem rk_cm_X2_tell : Jvm.Cond.code rk_q_X2_tell.1 rk_q_X2_tell.2.1 rk_q_X2_tell.2.2.1 rk_q_X2_tell.2.2.2.1 ∈ rk_tbl := rk_tat_ok (i := 976) (by decide +kernel)
theorem rk_lk_X11_162 : rk_mck RX11 162 rk_q_X2_tell 2 3 126 (973, false) 974 975 = true := by decide +kernel
theorem rk_cm_X6_tell : Jvm.Cond.code rk_q_X6_tell.1 rk_q_X6_tell.2.1 rk_q_X6_tell.2.2.1 rk_q_X6_tell.2.2.2.1 ∈ rk_tbl := rk_tat_ok (i := 984) (by decide +kernel)
theorem rk_lk_X11_165 : rk_mck RX11 165 rk_q_X6_tell 2 6 127 (981, false) 982 983 = true := by decide +kernel
theorem rk_cm_X11_isAddress : Jvm.Cond.code rk_q_X11_isAddress.1 rk_q_X11_isAddress.2.1 rk_q_X11_isAddress.2.2.1 rk_q_X11_isAddress.2.2.2.1 ∈ rk_tbl := rk_tat_ok (i := 653) (by decide +kernel)
theorem rk_lk_X11_166 : rk_mck RX11 166 rk_q_X11_isAddress 1 0 120 (994, false) 652 0 = true := by decide +kernel
theorem rk_cm_X6_tableFor : Jvm.Cond.code rk_q_X6_tableFor.1 rk_q_X6_tableFor.2.1 rk_q_X6_tableFor.2.2.1 rk_q_X6_tableFor.2.2.2.1 ∈ rk_tbl := rk_tat_ok (i := 752) (by decide +kernel)
theorem rk_lk_X11_169 : rk_mck RX11 169 rk_q_X6_tableFor 2 6 127 (995, false) 750 751 = true := by decide +kernel
theorem rk_cm_X1_tell : Jvm.Cond.code rk_q_X1_tell.1 rk_q_X1_tell.2.1 rk_q_X1_tell.2.2.1 rk_q_X1_tell.2.2.2.1 ∈ rk_tbl := rk_tat_ok (i := 1003) (by decide +kernel)
theorem rk_lk_X11_172 : rk_mck RX11 172 rk_q_X1_tell 2 2 129 (1000, false) 1001 1002 = true := by decide +kernel
theorem rk_cm_X11_keptPacket : Jvm.Cond.code rk_q_X11_keptPacket.1 rk_q_X11_keptPacket.2.1 rk_q_X11_keptPacket.2.2.1 rk_q_X11_keptPacket.2.2.2.1 ∈ rk_tbl := rk_tat_ok (i := 1011) (by decide +kernel)
theorem rk_lk_X11_173 : rk_mck RX11 173 rk_q_X11_keptPacket 3 11 120 (1008, false) 1010 32 = true := by decide +kernel
theorem rk_cm_X4_tell : Jvm.Cond.code rk_q_X4_tell.1 rk_q_X4_tell.2.1 rk_q_X4_tell.2.2.1 rk_q_X4_tell.2.2.2.1 ∈ rk_tbl := rk_tat_ok (i := 1019) (by decide +kernel)
theorem rk_lk_X11_177 : rk_mck RX11 177 rk_q_X4_tell 2 5 130 (1016, false) 1017 1018 = true := by decide +kernel
theorem rk_cm_X4_at : Jvm.Cond.code rk_q_X4_at.1 rk_q_X4_at.2.1 rk_q_X4_at.2.2.1 rk_q_X4_at.2.2.2.1 ∈ rk_tbl := rk_tat_ok (i := 1028) (by decide +kernel)
theorem rk_lk_X11_180 : rk_mck RX11 180 rk_q_X4_at 2 5 130 (1025, false) 1026 1027 = true := by decide +kernel
theorem rk_cm_X5_wayPort : Jvm.Cond.code rk_q_X5_wayPort.1 rk_q_X5_wayPort.2.1 rk_q_X5_wayPort.2.2.1 rk_q_X5_wayPort.2.2.2.1 ∈ rk_tbl := rk_tat_ok (i := 1035) (by decide +kernel)
theorem rk_lk_X11_181 : rk_mck RX11 181 rk_q_X5_wayPort 4 0 138 (1033, false) 1034 0 = true := by decide +kernel
theorem rk_cm_X5_endsOf : Jvm.Cond.code rk_q_X5_endsOf.1 rk_q_X5_endsOf.2.1 rk_q_X5_endsOf.2.2.1 rk_q_X5_endsOf.2.2.2.1 ∈ rk_tbl := rk_tat_ok (i := 1052) (by decide +kernel)
theorem rk_lk_X11_187 : rk_mck RX11 187 rk_q_X5_endsOf 3 0 138 (1050, false) 1051 0 = true := by decide +kernel
theorem rk_cm_X5_comesAgain : Jvm.Cond.code rk_q_X5_comesAgain.1 rk_q_X5_comesAgain.2.1 rk_q_X5_comesAgain.2.2.1 rk_q_X5_comesAgain.2.2.2.1 ∈ rk_tbl := rk_tat_ok (i := 1066) (by decide +kernel)
theorem rk_lk_X11_191 : rk_mck RX11 191 rk_q_X5_comesAgain 3 0 138 (1064, false) 1065 0 = true := by decide +kernel
theorem rk_cm_X11_bit : Jvm.Cond.code rk_q_X11_bit.1 rk_q_X11_bit.2.1 rk_q_X11_bit.2.2.1 rk_q_X11_bit.2.2.2.1 ∈ rk_tbl := rk_tat_ok (i := 774) (by decide +kernel)
theorem rk_lk_X11_195 : rk_mck RX11 195 rk_q_X11_bit 1 0 120 (1067, false) 773 0 = true := by decide +kernel
theorem rk_cm_X3_tell : Jvm.Cond.code rk_q_X3_tell.1 rk_q_X3_tell.2.1 rk_q_X3_tell.2.2.1 rk_q_X3_tell.2.2.2.1 ∈ rk_tbl := rk_tat_ok (i := 1075) (by decide +kernel)
theorem rk_lk_X11_203 : rk_mck RX11 203 rk_q_X3_tell 3 4 122 (1072, false) 1073 1074 = true := by decide +kernel
theorem rk_cm_X10_copyFrom : Jvm.Cond.code rk_q_X10_copyFrom.1 rk_q_X10_copyFrom.2.1 rk_q_X10_copyFrom.2.2.1 rk_q_X10_copyFrom.2.2.2.1 ∈ rk_tbl := rk_tat_ok (i := 1083) (by decide +kernel)
theorem rk_lk_X11_211 : rk_mck RX11 211 rk_q_X10_copyFrom 2 10 121 (1080, false) 1081 1082 = true := by decide +kernel
theorem rk_cm_X8_isPaidFor : Jvm.Cond.code rk_q_X8_isPaidFor.1 rk_q_X8_isPaidFor.2.1 rk_q_X8_isPaidFor.2.2.1 rk_q_X8_isPaidFor.2.2.2.1 ∈ rk_tbl := rk_tat_ok (i := 1134) (by decide +kernel)
theorem rk_lk_X11_218 : rk_mck RX11 218 rk_q_X8_isPaidFor 2 8 123 (1131, false) 1132 1133 = true := by decide +kernel
theorem rk_cm_X10_received : Jvm.Cond.code rk_q_X10_received.1 rk_q_X10_received.2.1 rk_q_X10_received.2.2.1 rk_q_X10_received.2.2.2.1 ∈ rk_tbl := rk_tat_ok (i := 1146) (by decide +kernel)
theorem rk_lk_X11_225 : rk_mck RX11 225 rk_q_X10_received 2 10 121 (1143, false) 1144 1145 = true := by decide +kernel
theorem rk_cm_X10_total : Jvm.Cond.code rk_q_X10_total.1 rk_q_X10_total.2.1 rk_q_X10_total.2.2.1 rk_q_X10_total.2.2.2.1 ∈ rk_tbl := rk_tat_ok (i := 1150) (by decide +kernel)
theorem rk_lk_X11_233 : rk_mck RX11 233 rk_q_X10_total 2 10 121 (1147, false) 1148 1149 = true := by decide +kernel
theorem rk_cm_X1_keptAt : Jvm.Cond.code rk_q_X1_keptAt.1 rk_q_X1_keptAt.2.1 rk_q_X1_keptAt.2.2.1 rk_q_X1_keptAt.2.2.2.1 ∈ rk_tbl := rk_tat_ok (i := 1015) (by decide +kernel)
theorem rk_lk_X11_243 : rk_mck RX11 243 rk_q_X1_keptAt 2 2 129 (1012, false) 1013 1014 = true := by decide +kernel
theorem rk_cm_X12_isSocket : Jvm.Cond.code rk_q_X12_isSocket.1 rk_q_X12_isSocket.2.1 rk_q_X12_isSocket.2.2.1 rk_q_X12_isSocket.2.2.2.1 ∈ rk_tbl := rk_tat_ok (i := 1205) (by decide +kernel)
theorem rk_lk_X12_32 : rk_mck RX12 32 rk_q_X12_isSocket 2 12 132 (1202, false) 1204 33 = true := by decide +kernel
theorem rk_cm_X12_at : Jvm.Cond.code rk_q_X12_at.1 rk_q_X12_at.2.1 rk_q_X12_at.2.2.1 rk_q_X12_at.2.2.2.1 ∈ rk_tbl := rk_tat_ok (i := 1209) (by decide +kernel)
theorem rk_lk_X12_36 : rk_mck RX12 36 rk_q_X12_at 3 12 132 (1206, false) 1208 34 = true := by decide +kernel
theorem rk_cm_X12_puts : Jvm.Cond.code rk_q_X12_puts.1 rk_q_X12_puts.2.1 rk_q_X12_puts.2.2.1 rk_q_X12_puts.2.2.2.1 ∈ rk_tbl := rk_tat_ok (i := 1217) (by decide +kernel)
theorem rk_lk_X12_42 : rk_mck RX12 42 rk_q_X12_puts 4 12 132 (1214, false) 1216 36 = true := by decide +kernel
theorem rk_cm_X12_more : Jvm.Cond.code rk_q_X12_more.1 rk_q_X12_more.2.1 rk_q_X12_more.2.2.1 rk_q_X12_more.2.2.2.1 ∈ rk_tbl := rk_tat_ok (i := 1241) (by decide +kernel)
theorem rk_lk_X12_46 : rk_mck RX12 46 rk_q_X12_more 3 12 132 (1238, false) 1240 42 = true := by decide +kernel
theorem rk_cm_X12_ofEnd : Jvm.Cond.code rk_q_X12_ofEnd.1 rk_q_X12_ofEnd.2.1 rk_q_X12_ofEnd.2.2.1 rk_q_X12_ofEnd.2.2.2.1 ∈ rk_tbl := rk_tat_ok (i := 1261) (by decide +kernel)
theorem rk_lk_X12_50 : rk_mck RX12 50 rk_q_X12_ofEnd 3 12 132 (1258, false) 1260 47 = true := by decide +kernel
theorem rk_cm_X12_putsEnd : Jvm.Cond.code rk_q_X12_putsEnd.1 rk_q_X12_putsEnd.2.1 rk_q_X12_putsEnd.2.2.1 rk_q_X12_putsEnd.2.2.2.1 ∈ rk_tbl := rk_tat_ok (i := 1269) (by decide +kernel)
theorem rk_lk_X12_53 : rk_mck RX12 53 rk_q_X12_putsEnd 4 12 132 (1266, false) 1268 49 = true := by decide +kernel
theorem rk_cm_X12_logs : Jvm.Cond.code rk_q_X12_logs.1 rk_q_X12_logs.2.1 rk_q_X12_logs.2.2.1 rk_q_X12_logs.2.2.2.1 ∈ rk_tbl := rk_tat_ok (i := 1229) (by decide +kernel)
theorem rk_lk_X12_56 : rk_mck RX12 56 rk_q_X12_logs 3 12 132 (1226, false) 1228 39 = true := by decide +kernel
theorem rk_cm_X12_buffers : Jvm.Cond.code rk_q_X12_buffers.1 rk_q_X12_buffers.2.1 rk_q_X12_buffers.2.2.1 rk_q_X12_buffers.2.2.2.1 ∈ rk_tbl := rk_tat_ok (i := 1245) (by decide +kernel)
theorem rk_lk_X12_59 : rk_mck RX12 59 rk_q_X12_buffers 3 12 132 (1242, false) 1244 43 = true := by decide +kernel
theorem rk_cm_X12_routedTo : Jvm.Cond.code rk_q_X12_routedTo.1 rk_q_X12_routedTo.2.1 rk_q_X12_routedTo.2.2.1 rk_q_X12_routedTo.2.2.2.1 ∈ rk_tbl := rk_tat_ok (i := 1249) (by decide +kernel)
theorem rk_lk_X12_62 : rk_mck RX12 62 rk_q_X12_routedTo 2 12 132 (1246, false) 1248 44 = true := by decide +kernel
theorem rk_cm_X12_spills : Jvm.Cond.code rk_q_X12_spills.1 rk_q_X12_spills.2.1 rk_q_X12_spills.2.2.1 rk_q_X12_spills.2.2.2.1 ∈ rk_tbl := rk_tat_ok (i := 1253) (by decide +kernel)
theorem rk_lk_X12_66 : rk_mck RX12 66 rk_q_X12_spills 2 12 132 (1250, false) 1252 45 = true := by decide +kernel
theorem rk_cm_X12_losesQueue : Jvm.Cond.code rk_q_X12_losesQueue.1 rk_q_X12_losesQueue.2.1 rk_q_X12_losesQueue.2.2.1 rk_q_X12_losesQueue.2.2.2.1 ∈ rk_tbl := rk_tat_ok (i := 1257) (by decide +kernel)
theorem rk_lk_X12_70 : rk_mck RX12 70 rk_q_X12_losesQueue 2 12 132 (1254, false) 1256 46 = true := by decide +kernel
theorem rk_cm_X12_becomes : Jvm.Cond.code rk_q_X12_becomes.1 rk_q_X12_becomes.2.1 rk_q_X12_becomes.2.2.1 rk_q_X12_becomes.2.2.2.1 ∈ rk_tbl := rk_tat_ok (i := 1225) (by decide +kernel)
theorem rk_lk_X12_73 : rk_mck RX12 73 rk_q_X12_becomes 3 12 132 (1222, false) 1224 38 = true := by decide +kernel
theorem rk_cm_X12_takesQueue : Jvm.Cond.code rk_q_X12_takesQueue.1 rk_q_X12_takesQueue.2.1 rk_q_X12_takesQueue.2.2.1 rk_q_X12_takesQueue.2.2.2.1 ∈ rk_tbl := rk_tat_ok (i := 1265) (by decide +kernel)
theorem rk_lk_X12_76 : rk_mck RX12 76 rk_q_X12_takesQueue 2 12 132 (1262, false) 1264 48 = true := by decide +kernel
theorem rk_cm_X12_isMark : Jvm.Cond.code rk_q_X12_isMark.1 rk_q_X12_isMark.2.1 rk_q_X12_isMark.2.2.1 rk_q_X12_isMark.2.2.2.1 ∈ rk_tbl := rk_tat_ok (i := 1273) (by decide +kernel)
theorem rk_lk_X12_79 : rk_mck RX12 79 rk_q_X12_isMark 2 12 132 (1270, false) 1272 50 = true := by decide +kernel
theorem rk_cm_X12_moreEnd : Jvm.Cond.code rk_q_X12_moreEnd.1 rk_q_X12_moreEnd.2.1 rk_q_X12_moreEnd.2.2.1 rk_q_X12_moreEnd.2.2.2.1 ∈ rk_tbl := rk_tat_ok (i := 1277) (by decide +kernel)
theorem rk_lk_X12_82 : rk_mck RX12 82 rk_q_X12_moreEnd 3 12 132 (1274, false) 1276 51 = true := by decide +kernel
theorem rk_cm_X12_isLive : Jvm.Cond.code rk_q_X12_isLive.1 rk_q_X12_isLive.2.1 rk_q_X12_isLive.2.2.1 rk_q_X12_isLive.2.2.2.1 ∈ rk_tbl := rk_tat_ok (i := 1233) (by decide +kernel)
theorem rk_lk_X12_85 : rk_mck RX12 85 rk_q_X12_isLive 2 12 132 (1230, false) 1232 40 = true := by decide +kernel
theorem rk_cm_X12_falls : Jvm.Cond.code rk_q_X12_falls.1 rk_q_X12_falls.2.1 rk_q_X12_falls.2.2.1 rk_q_X12_falls.2.2.2.1 ∈ rk_tbl := rk_tat_ok (i := 1237) (by decide +kernel)
theorem rk_lk_X12_88 : rk_mck RX12 88 rk_q_X12_falls 3 12 132 (1234, false) 1236 41 = true := by decide +kernel
theorem rk_cm_X12_settles : Jvm.Cond.code rk_q_X12_settles.1 rk_q_X12_settles.2.1 rk_q_X12_settles.2.2.1 rk_q_X12_settles.2.2.2.1 ∈ rk_tbl := rk_tat_ok (i := 1221) (by decide +kernel)
theorem rk_lk_X12_91 : rk_mck RX12 91 rk_q_X12_settles 2 12 132 (1218, false) 1220 37 = true := by decide +kernel
theorem rk_cm_X12_joins : Jvm.Cond.code rk_q_X12_joins.1 rk_q_X12_joins.2.1 rk_q_X12_joins.2.2.1 rk_q_X12_joins.2.2.2.1 ∈ rk_tbl := rk_tat_ok (i := 1213) (by decide +kernel)
theorem rk_lk_X12_94 : rk_mck RX12 94 rk_q_X12_joins 3 12 132 (1210, false) 1212 35 = true := by decide +kernel
theorem rk_cm_X12_otherOf : Jvm.Cond.code rk_q_X12_otherOf.1 rk_q_X12_otherOf.2.1 rk_q_X12_otherOf.2.2.1 rk_q_X12_otherOf.2.2.2.1 ∈ rk_tbl := rk_tat_ok (i := 1285) (by decide +kernel)
theorem rk_lk_X12_97 : rk_mck RX12 97 rk_q_X12_otherOf 2 12 132 (1282, false) 1284 52 = true := by decide +kernel
theorem rk_cm_X12_turns : Jvm.Cond.code rk_q_X12_turns.1 rk_q_X12_turns.2.1 rk_q_X12_turns.2.2.1 rk_q_X12_turns.2.2.2.1 ∈ rk_tbl := rk_tat_ok (i := 1297) (by decide +kernel)
theorem rk_lk_X12_100 : rk_mck RX12 100 rk_q_X12_turns 3 12 132 (1294, false) 1296 53 = true := by decide +kernel
theorem rk_cm_X12_isIn : Jvm.Cond.code rk_q_X12_isIn.1 rk_q_X12_isIn.2.1 rk_q_X12_isIn.2.2.1 rk_q_X12_isIn.2.2.2.1 ∈ rk_tbl := rk_tat_ok (i := 1305) (by decide +kernel)
theorem rk_lk_X12_104 : rk_mck RX12 104 rk_q_X12_isIn 4 12 132 (1302, false) 1304 54 = true := by decide +kernel
theorem rk_cm_X12_ofRouter : Jvm.Cond.code rk_q_X12_ofRouter.1 rk_q_X12_ofRouter.2.1 rk_q_X12_ofRouter.2.2.1 rk_q_X12_ofRouter.2.2.2.1 ∈ rk_tbl := rk_tat_ok (i := 1384) (by decide +kernel)
theorem rk_lk_X12_108 : rk_mck RX12 108 rk_q_X12_ofRouter 3 12 132 (1381, false) 1383 68 = true := by decide +kernel
theorem rk_cm_X12_putsRouter : Jvm.Cond.code rk_q_X12_putsRouter.1 rk_q_X12_putsRouter.2.1 rk_q_X12_putsRouter.2.2.1 rk_q_X12_putsRouter.2.2.2.1 ∈ rk_tbl := rk_tat_ok (i := 1337) (by decide +kernel)
theorem rk_lk_X12_111 : rk_mck RX12 111 rk_q_X12_putsRouter 4 12 132 (1334, false) 1336 59 = true := by decide +kernel
theorem rk_cm_X12_isRouter : Jvm.Cond.code rk_q_X12_isRouter.1 rk_q_X12_isRouter.2.1 rk_q_X12_isRouter.2.2.1 rk_q_X12_isRouter.2.2.2.1 ∈ rk_tbl := rk_tat_ok (i := 1321) (by decide +kernel)
theorem rk_lk_X12_114 : rk_mck RX12 114 rk_q_X12_isRouter 2 12 132 (1318, false) 1320 55 = true := by decide +kernel
theorem rk_cm_X12_isAddress : Jvm.Cond.code rk_q_X12_isAddress.1 rk_q_X12_isAddress.2.1 rk_q_X12_isAddress.2.2.1 rk_q_X12_isAddress.2.2.2.1 ∈ rk_tbl := rk_tat_ok (i := 1325) (by decide +kernel)
theorem rk_lk_X12_117 : rk_mck RX12 117 rk_q_X12_isAddress 2 12 132 (1322, false) 1324 56 = true := by decide +kernel
theorem rk_cm_X12_arePorts : Jvm.Cond.code rk_q_X12_arePorts.1 rk_q_X12_arePorts.2.1 rk_q_X12_arePorts.2.2.1 rk_q_X12_arePorts.2.2.2.1 ∈ rk_tbl := rk_tat_ok (i := 1329) (by decide +kernel)
theorem rk_lk_X12_120 : rk_mck RX12 120 rk_q_X12_arePorts 2 12 132 (1326, false) 1328 57 = true := by decide +kernel
theorem rk_cm_X12_tables : Jvm.Cond.code rk_q_X12_tables.1 rk_q_X12_tables.2.1 rk_q_X12_tables.2.2.1 rk_q_X12_tables.2.2.2.1 ∈ rk_tbl := rk_tat_ok (i := 1333) (by decide +kernel)
theorem rk_lk_X12_123 : rk_mck RX12 123 rk_q_X12_tables 5 12 132 (1330, false) 1332 58 = true := by decide +kernel
theorem rk_cm_X12_isEnd : Jvm.Cond.code rk_q_X12_isEnd.1 rk_q_X12_isEnd.2.1 rk_q_X12_isEnd.2.2.1 rk_q_X12_isEnd.2.2.2.1 ∈ rk_tbl := rk_tat_ok (i := 1345) (by decide +kernel)
theorem rk_lk_X12_127 : rk_mck RX12 127 rk_q_X12_isEnd 2 12 132 (1342, false) 1344 60 = true := by decide +kernel
theorem rk_cm_X12_moreRouter : Jvm.Cond.code rk_q_X12_moreRouter.1 rk_q_X12_moreRouter.2.1 rk_q_X12_moreRouter.2.2.1 rk_q_X12_moreRouter.2.2.2.1 ∈ rk_tbl := rk_tat_ok (i := 1388) (by decide +kernel)
theorem rk_lk_X12_130 : rk_mck RX12 130 rk_q_X12_moreRouter 3 12 132 (1385, false) 1387 69 = true := by decide +kernel
theorem rk_cm_X12_draw : Jvm.Cond.code rk_q_X12_draw.1 rk_q_X12_draw.2.1 rk_q_X12_draw.2.2.1 rk_q_X12_draw.2.2.2.1 ∈ rk_tbl := rk_tat_ok (i := 1366) (by decide +kernel)
theorem rk_lk_X12_133 : rk_mck RX12 133 rk_q_X12_draw 1 12 132 (1363, false) 1365 64 = true := by decide +kernel
theorem rk_cm_X12_isData : Jvm.Cond.code rk_q_X12_isData.1 rk_q_X12_isData.2.1 rk_q_X12_isData.2.2.1 rk_q_X12_isData.2.2.2.1 ∈ rk_tbl := rk_tat_ok (i := 1372) (by decide +kernel)
theorem rk_lk_X12_137 : rk_mck RX12 137 rk_q_X12_isData 2 12 132 (1369, false) 1371 65 = true := by decide +kernel
theorem rk_cm_X12_hearsData : Jvm.Cond.code rk_q_X12_hearsData.1 rk_q_X12_hearsData.2.1 rk_q_X12_hearsData.2.2.1 rk_q_X12_hearsData.2.2.2.1 ∈ rk_tbl := rk_tat_ok (i := 1376) (by decide +kernel)
theorem rk_lk_X12_140 : rk_mck RX12 140 rk_q_X12_hearsData 3 12 132 (1373, false) 1375 66 = true := by decide +kernel
theorem rk_cm_X12_comesToRouter : Jvm.Cond.code rk_q_X12_comesToRouter.1 rk_q_X12_comesToRouter.2.1 rk_q_X12_comesToRouter.2.2.1 rk_q_X12_comesToRouter.2.2.2.1 ∈ rk_tbl := rk_tat_ok (i := 1380) (by decide +kernel)
theorem rk_lk_X12_143 : rk_mck RX12 143 rk_q_X12_comesToRouter 4 12 132 (1377, false) 1379 67 = true := by decide +kernel
theorem rk_cm_X12_comesToEnd : Jvm.Cond.code rk_q_X12_comesToEnd.1 rk_q_X12_comesToEnd.2.1 rk_q_X12_comesToEnd.2.2.1 rk_q_X12_comesToEnd.2.2.2.1 ∈ rk_tbl := rk_tat_ok (i := 1392) (by decide +kernel)
theorem rk_lk_X12_146 : rk_mck RX12 146 rk_q_X12_comesToEnd 3 12 132 (1389, false) 1391 70 = true := by decide +kernel
theorem rk_cm_X12_hears : Jvm.Cond.code rk_q_X12_hears.1 rk_q_X12_hears.2.1 rk_q_X12_hears.2.2.1 rk_q_X12_hears.2.2.2.1 ∈ rk_tbl := rk_tat_ok (i := 1362) (by decide +kernel)
theorem rk_lk_X12_149 : rk_mck RX12 149 rk_q_X12_hears 3 12 132 (1359, false) 1361 63 = true := by decide +kernel
theorem rk_cm_X12_does : Jvm.Cond.code rk_q_X12_does.1 rk_q_X12_does.2.1 rk_q_X12_does.2.2.1 rk_q_X12_does.2.2.2.1 ∈ rk_tbl := rk_tat_ok (i := 1420) (by decide +kernel)
theorem rk_lk_X12_152 : rk_mck RX12 152 rk_q_X12_does 2 12 132 (1417, false) 1419 77 = true := by decide +kernel
theorem rk_cm_X12_writes : Jvm.Cond.code rk_q_X12_writes.1 rk_q_X12_writes.2.1 rk_q_X12_writes.2.2.1 rk_q_X12_writes.2.2.2.1 ∈ rk_tbl := rk_tat_ok (i := 1424) (by decide +kernel)
theorem rk_lk_X12_155 : rk_mck RX12 155 rk_q_X12_writes 5 12 132 (1421, false) 1423 78 = true := by decide +kernel
theorem rk_cm_X12_takes : Jvm.Cond.code rk_q_X12_takes.1 rk_q_X12_takes.2.1 rk_q_X12_takes.2.2.1 rk_q_X12_takes.2.2.2.1 ∈ rk_tbl := rk_tat_ok (i := 1412) (by decide +kernel)
theorem rk_lk_X12_159 : rk_mck RX12 159 rk_q_X12_takes 2 12 132 (1409, false) 1411 75 = true := by decide +kernel
theorem rk_cm_X12_spillsOne : Jvm.Cond.code rk_q_X12_spillsOne.1 rk_q_X12_spillsOne.2.1 rk_q_X12_spillsOne.2.2.1 rk_q_X12_spillsOne.2.2.2.1 ∈ rk_tbl := rk_tat_ok (i := 1416) (by decide +kernel)
theorem rk_lk_X12_162 : rk_mck RX12 162 rk_q_X12_spillsOne 3 12 132 (1413, false) 1415 76 = true := by decide +kernel
theorem rk_cm_X12_isOpen : Jvm.Cond.code rk_q_X12_isOpen.1 rk_q_X12_isOpen.2.1 rk_q_X12_isOpen.2.2.1 rk_q_X12_isOpen.2.2.2.1 ∈ rk_tbl := rk_tat_ok (i := 1444) (by decide +kernel)
theorem rk_lk_X12_165 : rk_mck RX12 165 rk_q_X12_isOpen 3 12 132 (1441, false) 1443 83 = true := by decide +kernel
theorem rk_cm_X12_tableAt : Jvm.Cond.code rk_q_X12_tableAt.1 rk_q_X12_tableAt.2.1 rk_q_X12_tableAt.2.2.1 rk_q_X12_tableAt.2.2.2.1 ∈ rk_tbl := rk_tat_ok (i := 1432) (by decide +kernel)
theorem rk_lk_X12_169 : rk_mck RX12 169 rk_q_X12_tableAt 3 12 132 (1429, false) 1431 80 = true := by decide +kernel
theorem rk_cm_X12_leastOpen : Jvm.Cond.code rk_q_X12_leastOpen.1 rk_q_X12_leastOpen.2.1 rk_q_X12_leastOpen.2.2.1 rk_q_X12_leastOpen.2.2.2.1 ∈ rk_tbl := rk_tat_ok (i := 1440) (by decide +kernel)
theorem rk_lk_X12_172 : rk_mck RX12 172 rk_q_X12_leastOpen 3 12 132 (1437, false) 1439 82 = true := by decide +kernel
theorem rk_cm_X12_watchOf : Jvm.Cond.code rk_q_X12_watchOf.1 rk_q_X12_watchOf.2.1 rk_q_X12_watchOf.2.2.1 rk_q_X12_watchOf.2.2.2.1 ∈ rk_tbl := rk_tat_ok (i := 1448) (by decide +kernel)
theorem rk_lk_X12_175 : rk_mck RX12 175 rk_q_X12_watchOf 1 12 132 (1445, false) 1447 84 = true := by decide +kernel
theorem rk_cm_X12_cuts : Jvm.Cond.code rk_q_X12_cuts.1 rk_q_X12_cuts.2.1 rk_q_X12_cuts.2.2.1 rk_q_X12_cuts.2.2.2.1 ∈ rk_tbl := rk_tat_ok (i := 1452) (by decide +kernel)
theorem rk_lk_X12_178 : rk_mck RX12 178 rk_q_X12_cuts 2 12 132 (1449, false) 1451 85 = true := by decide +kernel
theorem rk_cm_X12_spillsAhead : Jvm.Cond.code rk_q_X12_spillsAhead.1 rk_q_X12_spillsAhead.2.1 rk_q_X12_spillsAhead.2.2.1 rk_q_X12_spillsAhead.2.2.2.1 ∈ rk_tbl := rk_tat_ok (i := 1408) (by decide +kernel)
theorem rk_lk_X12_181 : rk_mck RX12 181 rk_q_X12_spillsAhead 2 12 132 (1405, false) 1407 74 = true := by decide +kernel
theorem rk_cm_X12_meant : Jvm.Cond.code rk_q_X12_meant.1 rk_q_X12_meant.2.1 rk_q_X12_meant.2.2.1 rk_q_X12_meant.2.2.2.1 ∈ rk_tbl := rk_tat_ok (i := 1428) (by decide +kernel)
theorem rk_lk_X12_184 : rk_mck RX12 184 rk_q_X12_meant 3 12 132 (1425, false) 1427 79 = true := by decide +kernel
theorem rk_cm_X12_routes : Jvm.Cond.code rk_q_X12_routes.1 rk_q_X12_routes.2.1 rk_q_X12_routes.2.2.1 rk_q_X12_routes.2.2.2.1 ∈ rk_tbl := rk_tat_ok (i := 1436) (by decide +kernel)
theorem rk_lk_X12_187 : rk_mck RX12 187 rk_q_X12_routes 3 12 132 (1433, false) 1435 81 = true := by decide +kernel
theorem rk_cm_X12_looksAt : Jvm.Cond.code rk_q_X12_looksAt.1 rk_q_X12_looksAt.2.1 rk_q_X12_looksAt.2.2.1 rk_q_X12_looksAt.2.2.2.1 ∈ rk_tbl := rk_tat_ok (i := 1404) (by decide +kernel)
theorem rk_lk_X12_190 : rk_mck RX12 190 rk_q_X12_looksAt 2 12 132 (1401, false) 1403 73 = true := by decide +kernel
theorem rk_cm_X12_maySell : Jvm.Cond.code rk_q_X12_maySell.1 rk_q_X12_maySell.2.1 rk_q_X12_maySell.2.2.1 rk_q_X12_maySell.2.2.2.1 ∈ rk_tbl := rk_tat_ok (i := 1464) (by decide +kernel)
theorem rk_lk_X12_193 : rk_mck RX12 193 rk_q_X12_maySell 2 12 132 (1461, false) 1463 88 = true := by decide +kernel
theorem rk_cm_X12_sells : Jvm.Cond.code rk_q_X12_sells.1 rk_q_X12_sells.2.1 rk_q_X12_sells.2.2.1 rk_q_X12_sells.2.2.2.1 ∈ rk_tbl := rk_tat_ok (i := 1468) (by decide +kernel)
theorem rk_lk_X12_196 : rk_mck RX12 196 rk_q_X12_sells 2 12 132 (1465, false) 1467 89 = true := by decide +kernel
theorem rk_cm_X12_nextData : Jvm.Cond.code rk_q_X12_nextData.1 rk_q_X12_nextData.2.1 rk_q_X12_nextData.2.2.1 rk_q_X12_nextData.2.2.2.1 ∈ rk_tbl := rk_tat_ok (i := 1476) (by decide +kernel)
theorem rk_lk_X12_199 : rk_mck RX12 199 rk_q_X12_nextData 2 12 132 (1473, false) 1475 91 = true := by decide +kernel
theorem rk_cm_X12_sendsInRun : Jvm.Cond.code rk_q_X12_sendsInRun.1 rk_q_X12_sendsInRun.2.1 rk_q_X12_sendsInRun.2.2.1 rk_q_X12_sendsInRun.2.2.2.1 ∈ rk_tbl := rk_tat_ok (i := 1472) (by decide +kernel)
theorem rk_lk_X12_202 : rk_mck RX12 202 rk_q_X12_sendsInRun 2 12 132 (1469, false) 1471 90 = true := by decide +kernel
theorem rk_cm_X12_hearsAll : Jvm.Cond.code rk_q_X12_hearsAll.1 rk_q_X12_hearsAll.2.1 rk_q_X12_hearsAll.2.2.1 rk_q_X12_hearsAll.2.2.2.1 ∈ rk_tbl := rk_tat_ok (i := 1358) (by decide +kernel)
theorem rk_lk_X12_205 : rk_mck RX12 205 rk_q_X12_hearsAll 1 12 132 (1355, false) 1357 62 = true := by decide +kernel
theorem rk_cm_X12_grows : Jvm.Cond.code rk_q_X12_grows.1 rk_q_X12_grows.2.1 rk_q_X12_grows.2.2.1 rk_q_X12_grows.2.2.2.1 ∈ rk_tbl := rk_tat_ok (i := 1396) (by decide +kernel)
theorem rk_lk_X12_208 : rk_mck RX12 208 rk_q_X12_grows 2 12 132 (1393, false) 1395 71 = true := by decide +kernel
theorem rk_cm_X12_routesAll : Jvm.Cond.code rk_q_X12_routesAll.1 rk_q_X12_routesAll.2.1 rk_q_X12_routesAll.2.2.1 rk_q_X12_routesAll.2.2.2.1 ∈ rk_tbl := rk_tat_ok (i := 1400) (by decide +kernel)
theorem rk_lk_X12_211 : rk_mck RX12 211 rk_q_X12_routesAll 2 12 132 (1397, false) 1399 72 = true := by decide +kernel
theorem rk_cm_X12_takesAtEnd : Jvm.Cond.code rk_q_X12_takesAtEnd.1 rk_q_X12_takesAtEnd.2.1 rk_q_X12_takesAtEnd.2.2.1 rk_q_X12_takesAtEnd.2.2.2.1 ∈ rk_tbl := rk_tat_ok (i := 1456) (by decide +kernel)
theorem rk_lk_X12_214 : rk_mck RX12 214 rk_q_X12_takesAtEnd 2 12 132 (1453, false) 1455 86 = true := by decide +kernel
theorem rk_cm_X12_sends : Jvm.Cond.code rk_q_X12_sends.1 rk_q_X12_sends.2.1 rk_q_X12_sends.2.2.1 rk_q_X12_sends.2.2.2.1 ∈ rk_tbl := rk_tat_ok (i := 1460) (by decide +kernel)
theorem rk_lk_X12_217 : rk_mck RX12 217 rk_q_X12_sends 2 12 132 (1457, false) 1459 87 = true := by decide +kernel
theorem rk_cm_X12_watches : Jvm.Cond.code rk_q_X12_watches.1 rk_q_X12_watches.2.1 rk_q_X12_watches.2.2.1 rk_q_X12_watches.2.2.2.1 ∈ rk_tbl := rk_tat_ok (i := 1480) (by decide +kernel)
theorem rk_lk_X12_220 : rk_mck RX12 220 rk_q_X12_watches 2 12 132 (1477, false) 1479 92 = true := by decide +kernel
theorem rk_cm_X12_ticks : Jvm.Cond.code rk_q_X12_ticks.1 rk_q_X12_ticks.2.1 rk_q_X12_ticks.2.2.1 rk_q_X12_ticks.2.2.2.1 ∈ rk_tbl := rk_tat_ok (i := 1354) (by decide +kernel)
theorem rk_lk_X12_224 : rk_mck RX12 224 rk_q_X12_ticks 1 12 132 (1351, false) 1353 61 = true := by decide +kernel
theorem rk_cm_X12_types : Jvm.Cond.code rk_q_X12_types.1 rk_q_X12_types.2.1 rk_q_X12_types.2.2.1 rk_q_X12_types.2.2.2.1 ∈ rk_tbl := rk_tat_ok (i := 1488) (by decide +kernel)
theorem rk_lk_X12_230 : rk_mck RX12 230 rk_q_X12_types 2 12 132 (1485, false) 1487 93 = true := by decide +kernel
theorem rk_cm_X12_queues : Jvm.Cond.code rk_q_X12_queues.1 rk_q_X12_queues.2.1 rk_q_X12_queues.2.2.1 rk_q_X12_queues.2.2.2.1 ∈ rk_tbl := rk_tat_ok (i := 1500) (by decide +kernel)
theorem rk_lk_X12_233 : rk_mck RX12 233 rk_q_X12_queues 3 12 132 (1497, false) 1499 94 = true := by decide +kernel
theorem rk_cm_X12_here : Jvm.Cond.code rk_q_X12_here.1 rk_q_X12_here.2.1 rk_q_X12_here.2.2.1 rk_q_X12_here.2.2.2.1 ∈ rk_tbl := rk_tat_ok (i := 1516) (by decide +kernel)
theorem rk_lk_X12_242 : rk_mck RX12 242 rk_q_X12_here 1 12 132 (1513, false) 1515 97 = true := by decide +kernel
theorem rk_cm_X12_letters : Jvm.Cond.code rk_q_X12_letters.1 rk_q_X12_letters.2.1 rk_q_X12_letters.2.2.1 rk_q_X12_letters.2.2.2.1 ∈ rk_tbl := rk_tat_ok (i := 1525) (by decide +kernel)
theorem rk_lk_X12_252 : rk_mck RX12 252 rk_q_X12_letters 1 12 132 (1522, false) 1524 99 = true := by decide +kernel
theorem rk_cm_X12_behindBlanks : Jvm.Cond.code rk_q_X12_behindBlanks.1 rk_q_X12_behindBlanks.2.1 rk_q_X12_behindBlanks.2.2.1 rk_q_X12_behindBlanks.2.2.2.1 ∈ rk_tbl := rk_tat_ok (i := 1512) (by decide +kernel)
theorem rk_lk_X12_264 : rk_mck RX12 264 rk_q_X12_behindBlanks 1 12 132 (1509, false) 1511 96 = true := by decide +kernel
theorem rk_cm_X12_isDigit : Jvm.Cond.code rk_q_X12_isDigit.1 rk_q_X12_isDigit.2.1 rk_q_X12_isDigit.2.2.1 rk_q_X12_isDigit.2.2.2.1 ∈ rk_tbl := rk_tat_ok (i := 1544) (by decide +kernel)
theorem rk_lk_X12_267 : rk_mck RX12 267 rk_q_X12_isDigit 2 12 132 (1541, false) 1543 103 = true := by decide +kernel
theorem rk_cm_X12_errs : Jvm.Cond.code rk_q_X12_errs.1 rk_q_X12_errs.2.1 rk_q_X12_errs.2.2.1 rk_q_X12_errs.2.2.2.1 ∈ rk_tbl := rk_tat_ok (i := 1548) (by decide +kernel)
theorem rk_lk_X12_270 : rk_mck RX12 270 rk_q_X12_errs 3 12 132 (1545, false) 1547 104 = true := by decide +kernel
theorem rk_cm_X12_takesWord : Jvm.Cond.code rk_q_X12_takesWord.1 rk_q_X12_takesWord.2.1 rk_q_X12_takesWord.2.2.1 rk_q_X12_takesWord.2.2.2.1 ∈ rk_tbl := rk_tat_ok (i := 1521) (by decide +kernel)
theorem rk_lk_X12_275 : rk_mck RX12 275 rk_q_X12_takesWord 2 12 132 (1518, false) 1520 98 = true := by decide +kernel
theorem rk_cm_X12_number : Jvm.Cond.code rk_q_X12_number.1 rk_q_X12_number.2.1 rk_q_X12_number.2.2.1 rk_q_X12_number.2.2.2.1 ∈ rk_tbl := rk_tat_ok (i := 1540) (by decide +kernel)
theorem rk_lk_X12_279 : rk_mck RX12 279 rk_q_X12_number 3 12 132 (1537, false) 1539 102 = true := by decide +kernel
theorem rk_cm_X12_sign : Jvm.Cond.code rk_q_X12_sign.1 rk_q_X12_sign.2.1 rk_q_X12_sign.2.2.1 rk_q_X12_sign.2.2.2.1 ∈ rk_tbl := rk_tat_ok (i := 1552) (by decide +kernel)
theorem rk_lk_X12_282 : rk_mck RX12 282 rk_q_X12_sign 2 12 132 (1549, false) 1551 105 = true := by decide +kernel
theorem rk_cm_X12_readSocket : Jvm.Cond.code rk_q_X12_readSocket.1 rk_q_X12_readSocket.2.1 rk_q_X12_readSocket.2.2.1 rk_q_X12_readSocket.2.2.2.1 ∈ rk_tbl := rk_tat_ok (i := 1535) (by decide +kernel)
theorem rk_lk_X12_285 : rk_mck RX12 285 rk_q_X12_readSocket 2 12 132 (1532, false) 1534 101 = true := by decide +kernel
theorem rk_cm_X12_copies : Jvm.Cond.code rk_q_X12_copies.1 rk_q_X12_copies.2.1 rk_q_X12_copies.2.2.1 rk_q_X12_copies.2.2.2.1 ∈ rk_tbl := rk_tat_ok (i := 1508) (by decide +kernel)
theorem rk_lk_X12_292 : rk_mck RX12 292 rk_q_X12_copies 3 12 132 (1505, false) 1507 95 = true := by decide +kernel
theorem rk_cm_X12_readCable : Jvm.Cond.code rk_q_X12_readCable.1 rk_q_X12_readCable.2.1 rk_q_X12_readCable.2.2.1 rk_q_X12_readCable.2.2.2.1 ∈ rk_tbl := rk_tat_ok (i := 1531) (by decide +kernel)
theorem rk_lk_X12_298 : rk_mck RX12 298 rk_q_X12_readCable 1 12 132 (1528, false) 1530 100 = true := by decide +kernel
theorem rk_cm_X12_readTable : Jvm.Cond.code rk_q_X12_readTable.1 rk_q_X12_readTable.2.1 rk_q_X12_readTable.2.2.1 rk_q_X12_readTable.2.2.2.1 ∈ rk_tbl := rk_tat_ok (i := 1557) (by decide +kernel)
theorem rk_lk_X12_303 : rk_mck RX12 303 rk_q_X12_readTable 1 12 132 (1554, false) 1556 106 = true := by decide +kernel
theorem rk_cm_X12_isPort : Jvm.Cond.code rk_q_X12_isPort.1 rk_q_X12_isPort.2.1 rk_q_X12_isPort.2.2.1 rk_q_X12_isPort.2.2.2.1 ∈ rk_tbl := rk_tat_ok (i := 1583) (by decide +kernel)
theorem rk_lk_X12_306 : rk_mck RX12 306 rk_q_X12_isPort 2 12 132 (1580, false) 1582 107 = true := by decide +kernel
theorem rk_cm_X12_tablesOf : Jvm.Cond.code rk_q_X12_tablesOf.1 rk_q_X12_tablesOf.2.1 rk_q_X12_tablesOf.2.2.1 rk_q_X12_tablesOf.2.2.2.1 ∈ rk_tbl := rk_tat_ok (i := 1591) (by decide +kernel)
theorem rk_lk_X12_309 : rk_mck RX12 309 rk_q_X12_tablesOf 2 12 132 (1588, false) 1590 108 = true := by decide +kernel
theorem rk_cm_X12_packetAt : Jvm.Cond.code rk_q_X12_packetAt.1 rk_q_X12_packetAt.2.1 rk_q_X12_packetAt.2.2.1 rk_q_X12_packetAt.2.2.2.1 ∈ rk_tbl := rk_tat_ok (i := 1607) (by decide +kernel)
theorem rk_lk_X12_312 : rk_mck RX12 312 rk_q_X12_packetAt 3 12 132 (1604, false) 1606 109 = true := by decide +kernel
theorem rk_cm_X12_laysHops : Jvm.Cond.code rk_q_X12_laysHops.1 rk_q_X12_laysHops.2.1 rk_q_X12_laysHops.2.2.1 rk_q_X12_laysHops.2.2.2.1 ∈ rk_tbl := rk_tat_ok (i := 1619) (by decide +kernel)
theorem rk_lk_X12_315 : rk_mck RX12 315 rk_q_X12_laysHops 2 12 132 (1616, false) 1618 110 = true := by decide +kernel
theorem rk_cm_X12_onward : Jvm.Cond.code rk_q_X12_onward.1 rk_q_X12_onward.2.1 rk_q_X12_onward.2.2.1 rk_q_X12_onward.2.2.2.1 ∈ rk_tbl := rk_tat_ok (i := 1623) (by decide +kernel)
theorem rk_lk_X12_318 : rk_mck RX12 318 rk_q_X12_onward 3 12 132 (1620, false) 1622 111 = true := by decide +kernel
theorem rk_cm_X12_onTo : Jvm.Cond.code rk_q_X12_onTo.1 rk_q_X12_onTo.2.1 rk_q_X12_onTo.2.2.1 rk_q_X12_onTo.2.2.2.1 ∈ rk_tbl := rk_tat_ok (i := 1635) (by decide +kernel)
theorem rk_lk_X12_321 : rk_mck RX12 321 rk_q_X12_onTo 3 12 132 (1632, false) 1634 113 = true := by decide +kernel
theorem rk_cm_X12_reaches : Jvm.Cond.code rk_q_X12_reaches.1 rk_q_X12_reaches.2.1 rk_q_X12_reaches.2.2.1 rk_q_X12_reaches.2.2.2.1 ∈ rk_tbl := rk_tat_ok (i := 1631) (by decide +kernel)
theorem rk_lk_X12_324 : rk_mck RX12 324 rk_q_X12_reaches 3 12 132 (1628, false) 1630 112 = true := by decide +kernel
theorem rk_cm_X12_isSold : Jvm.Cond.code rk_q_X12_isSold.1 rk_q_X12_isSold.2.1 rk_q_X12_isSold.2.2.1 rk_q_X12_isSold.2.2.2.1 ∈ rk_tbl := rk_tat_ok (i := 1655) (by decide +kernel)
theorem rk_lk_X12_327 : rk_mck RX12 327 rk_q_X12_isSold 3 12 132 (1652, false) 1654 114 = true := by decide +kernel
theorem rk_cm_X12_cables : Jvm.Cond.code rk_q_X12_cables.1 rk_q_X12_cables.2.1 rk_q_X12_cables.2.2.1 rk_q_X12_cables.2.2.2.1 ∈ rk_tbl := rk_tat_ok (i := 1667) (by decide +kernel)
theorem rk_lk_X12_333 : rk_mck RX12 333 rk_q_X12_cables 2 12 132 (1664, false) 1666 115 = true := by decide +kernel
theorem rk_cm_X12_running : Jvm.Cond.code rk_q_X12_running.1 rk_q_X12_running.2.1 rk_q_X12_running.2.2.1 rk_q_X12_running.2.2.2.1 ∈ rk_tbl := rk_tat_ok (i := 1671) (by decide +kernel)
theorem rk_lk_X12_337 : rk_mck RX12 337 rk_q_X12_running 1 12 132 (1668, false) 1670 116 = true := by decide +kernel
theorem rk_cm_X12_sumOfEnds : Jvm.Cond.code rk_q_X12_sumOfEnds.1 rk_q_X12_sumOfEnds.2.1 rk_q_X12_sumOfEnds.2.2.1 rk_q_X12_sumOfEnds.2.2.2.1 ∈ rk_tbl := rk_tat_ok (i := 1675) (by decide +kernel)
theorem rk_lk_X12_340 : rk_mck RX12 340 rk_q_X12_sumOfEnds 2 12 132 (1672, false) 1674 117 = true := by decide +kernel
theorem rk_cm_X12_sumOf : Jvm.Cond.code rk_q_X12_sumOf.1 rk_q_X12_sumOf.2.1 rk_q_X12_sumOf.2.2.1 rk_q_X12_sumOf.2.2.2.1 ∈ rk_tbl := rk_tat_ok (i := 1679) (by decide +kernel)
theorem rk_lk_X12_343 : rk_mck RX12 343 rk_q_X12_sumOf 2 12 132 (1676, false) 1678 118 = true := by decide +kernel
theorem rk_lk_X0_21 : rk_mck RX0 21 rk_q_X0_next 1 1 128 (695, false) 696 697 = true := by decide +kernel
theorem rk_cm_X7_copyFrom : Jvm.Cond.code rk_q_X7_copyFrom.1 rk_q_X7_copyFrom.2.1 rk_q_X7_copyFrom.2.2.1 rk_q_X7_copyFrom.2.2.2.1 ∈ rk_tbl := rk_tat_ok (i := 1091) (by decide +kernel)
theorem rk_lk_X1_38 : rk_mck RX1 38 rk_q_X7_copyFrom 2 7 124 (1114, false) 1089 1090 = true := by decide +kernel
theorem rk_cm_X0_copyFrom : Jvm.Cond.code rk_q_X0_copyFrom.1 rk_q_X0_copyFrom.2.1 rk_q_X0_copyFrom.2.2.1 rk_q_X0_copyFrom.2.2.2.1 ∈ rk_tbl := rk_tat_ok (i := 1109) (by decide +kernel)
theorem rk_lk_X1_42 : rk_mck RX1 42 rk_q_X0_copyFrom 2 1 128 (1115, false) 1107 1108 = true := by decide +kernel
theorem rk_cm_X4_copyFrom : Jvm.Cond.code rk_q_X4_copyFrom.1 rk_q_X4_copyFrom.2.1 rk_q_X4_copyFrom.2.2.1 rk_q_X4_copyFrom.2.2.2.1 ∈ rk_tbl := rk_tat_ok (i := 1119) (by decide +kernel)
theorem rk_lk_X1_45 : rk_mck RX1 45 rk_q_X4_copyFrom 2 5 130 (1116, false) 1117 1118 = true := by decide +kernel
theorem rk_lk_X1_71 : rk_mck RX1 71 rk_q_X11_bit 1 0 120 (11, true) 773 0 = true := by decide +kernel
theorem rk_lk_X4_32 : rk_mck RX4 32 rk_q_X11_bit 1 0 120 (14, true) 773 0 = true := by decide +kernel
theorem rk_cm_X5_cablesTo : Jvm.Cond.code rk_q_X5_cablesTo.1 rk_q_X5_cablesTo.2.1 rk_q_X5_cablesTo.2.2.1 rk_q_X5_cablesTo.2.2.2.1 ∈ rk_tbl := rk_tat_ok (i := 1038) (by decide +kernel)
theorem rk_lk_X5_21 : rk_mck RX5 21 rk_q_X5_cablesTo 2 0 138 (1036, false) 1037 0 = true := by decide +kernel
theorem rk_cm_X5_portToward : Jvm.Cond.code rk_q_X5_portToward.1 rk_q_X5_portToward.2.1 rk_q_X5_portToward.2.2.1 rk_q_X5_portToward.2.2.2.1 ∈ rk_tbl := rk_tat_ok (i := 1045) (by decide +kernel)
theorem rk_lk_X5_27 : rk_mck RX5 27 rk_q_X5_portToward 4 0 138 (1043, false) 1044 0 = true := by decide +kernel
theorem rk_cm_X5_routerAt : Jvm.Cond.code rk_q_X5_routerAt.1 rk_q_X5_routerAt.2.1 rk_q_X5_routerAt.2.2.1 rk_q_X5_routerAt.2.2.2.1 ∈ rk_tbl := rk_tat_ok (i := 1042) (by decide +kernel)
theorem rk_lk_X5_31 : rk_mck RX5 31 rk_q_X5_routerAt 2 0 138 (1040, false) 1041 0 = true := by decide +kernel
theorem rk_cm_J7_fill_53178 : Jvm.Cond.code rk_q_J7_fill_53178.1 rk_q_J7_fill_53178.2.1 rk_q_J7_fill_53178.2.2.1 rk_q_J7_fill_53178.2.2.2.1 ∈ rk_tbl := rk_tat_ok (i := 833) (by decide +kernel)
theorem rk_lk_X5_35 : rk_mck RX5 35 rk_q_J7_fill_53178 2 0 133 (1039, false) 832 0 = true := by decide +kernel
theorem rk_cm_X5_routersBehind : Jvm.Cond.code rk_q_X5_routersBehind.1 rk_q_X5_routersBehind.2.1 rk_q_X5_routersBehind.2.2.1 rk_q_X5_routersBehind.2.2.2.1 ∈ rk_tbl := rk_tat_ok (i := 1055) (by decide +kernel)
theorem rk_lk_X5_41 : rk_mck RX5 41 rk_q_X5_routersBehind 3 0 138 (1053, false) 1054 0 = true := by decide +kernel
theorem rk_cm_X5_isMeant : Jvm.Cond.code rk_q_X5_isMeant.1 rk_q_X5_isMeant.2.1 rk_q_X5_isMeant.2.2.1 rk_q_X5_isMeant.2.2.2.1 ∈ rk_tbl := rk_tat_ok (i := 1059) (by decide +kernel)
theorem rk_lk_X5_45 : rk_mck RX5 45 rk_q_X5_isMeant 3 0 138 (1057, false) 1058 0 = true := by decide +kernel
theorem rk_lk_X5_53 : rk_mck RX5 53 rk_q_X6_tableFor 2 6 127 (1056, false) 750 751 = true := by decide +kernel
theorem rk_lk_X6_32 : rk_mck RX6 32 rk_q_X0_copyFrom 2 1 128 (1106, false) 1107 1108 = true := by decide +kernel
theorem rk_lk_X6_57 : rk_mck RX6 57 rk_q_X11_isAddress 1 0 120 (9, true) 652 0 = true := by decide +kernel
theorem rk_cm_X11_isPortSet : Jvm.Cond.code rk_q_X11_isPortSet.1 rk_q_X11_isPortSet.2.1 rk_q_X11_isPortSet.2.2.1 rk_q_X11_isPortSet.2.2.2.1 ∈ rk_tbl := rk_tat_ok (i := 656) (by decide +kernel)
theorem rk_lk_X6_61 : rk_mck RX6 61 rk_q_X11_isPortSet 1 0 120 (10, true) 655 0 = true := by decide +kernel
theorem rk_lk_X6_64 : rk_mck RX6 64 rk_q_X6_tableFor 2 6 127 (749, false) 750 751 = true := by decide +kernel
theorem rk_lk_X6_68 : rk_mck RX6 68 rk_q_X11_bit 1 0 120 (13, true) 773 0 = true := by decide +kernel
theorem rk_cm_X6_tablesThere : Jvm.Cond.code rk_q_X6_tablesThere.1 rk_q_X6_tablesThere.2.1 rk_q_X6_tablesThere.2.2.1 rk_q_X6_tablesThere.2.2.2.1 ∈ rk_tbl := rk_tat_ok (i := 988) (by decide +kernel)
theorem rk_lk_X6_81 : rk_mck RX6 81 rk_q_X6_tablesThere 1 6 127 (985, false) 986 987 = true := by decide +kernel
theorem rk_lk_X7_31 : rk_mck RX7 31 rk_q_X7_at 2 7 124 (1093, false) 742 743 = true := by decide +kernel
theorem rk_cm_X7_take : Jvm.Cond.code rk_q_X7_take.1 rk_q_X7_take.2.1 rk_q_X7_take.2.2.1 rk_q_X7_take.2.2.2.1 ∈ rk_tbl := rk_tat_ok (i := 602) (by decide +kernel)
theorem rk_lk_X7_35 : rk_mck RX7 35 rk_q_X7_take 1 7 124 (599, false) 600 601 = true := by decide +kernel
theorem rk_lk_X8_37 : rk_mck RX8 37 rk_q_X7_copyFrom 2 7 124 (1088, false) 1089 1090 = true := by decide +kernel
theorem rk_lk_X8_86 : rk_mck RX8 86 rk_q_X11_bit 1 0 120 (12, true) 773 0 = true := by decide +kernel
theorem rk_lk_X9_34 : rk_mck RX9 34 rk_q_J7_fill_53178 2 0 133 (831, false) 832 0 = true := by decide +kernel
theorem rk_cm_X9_skipBlanks : Jvm.Cond.code rk_q_X9_skipBlanks.1 rk_q_X9_skipBlanks.2.1 rk_q_X9_skipBlanks.2.2.1 rk_q_X9_skipBlanks.2.2.2.1 ∈ rk_tbl := rk_tat_ok (i := 837) (by decide +kernel)
theorem rk_lk_X9_40 : rk_mck RX9 40 rk_q_X9_skipBlanks 1 9 131 (834, false) 836 21 = true := by decide +kernel
theorem rk_cm_X9_readLine : Jvm.Cond.code rk_q_X9_readLine.1 rk_q_X9_readLine.2.1 rk_q_X9_readLine.2.2.1 rk_q_X9_readLine.2.2.2.1 ∈ rk_tbl := rk_tat_ok (i := 841) (by decide +kernel)
theorem rk_lk_X9_43 : rk_mck RX9 43 rk_q_X9_readLine 2 9 131 (838, false) 840 22 = true := by decide +kernel
theorem rk_cm_X9_takesWord : Jvm.Cond.code rk_q_X9_takesWord.1 rk_q_X9_takesWord.2.1 rk_q_X9_takesWord.2.2.1 rk_q_X9_takesWord.2.2.2.1 ∈ rk_tbl := rk_tat_ok (i := 846) (by decide +kernel)
theorem rk_lk_X9_49 : rk_mck RX9 49 rk_q_X9_takesWord 2 9 131 (843, false) 845 23 = true := by decide +kernel
theorem rk_cm_X9_readCable : Jvm.Cond.code rk_q_X9_readCable.1 rk_q_X9_readCable.2.1 rk_q_X9_readCable.2.2.1 rk_q_X9_readCable.2.2.2.1 ∈ rk_tbl := rk_tat_ok (i := 905) (by decide +kernel)
theorem rk_lk_X9_53 : rk_mck RX9 53 rk_q_X9_readCable 2 9 131 (902, false) 904 24 = true := by decide +kernel
theorem rk_cm_X9_readTable : Jvm.Cond.code rk_q_X9_readTable.1 rk_q_X9_readTable.2.1 rk_q_X9_readTable.2.2.1 rk_q_X9_readTable.2.2.2.1 ∈ rk_tbl := rk_tat_ok (i := 933) (by decide +kernel)
theorem rk_lk_X9_58 : rk_mck RX9 58 rk_q_X9_readTable 2 9 131 (930, false) 932 29 = true := by decide +kernel
theorem rk_cm_X9_fails : Jvm.Cond.code rk_q_X9_fails.1 rk_q_X9_fails.2.1 rk_q_X9_fails.2.2.1 rk_q_X9_fails.2.2.2.1 ∈ rk_tbl := rk_tat_ok (i := 921) (by decide +kernel)
theorem rk_lk_X9_61 : rk_mck RX9 61 rk_q_X9_fails 3 9 131 (918, false) 920 27 = true := by decide +kernel
theorem rk_cm_X9_takesSign : Jvm.Cond.code rk_q_X9_takesSign.1 rk_q_X9_takesSign.2.1 rk_q_X9_takesSign.2.2.1 rk_q_X9_takesSign.2.2.2.1 ∈ rk_tbl := rk_tat_ok (i := 928) (by decide +kernel)
theorem rk_lk_X9_65 : rk_mck RX9 65 rk_q_X9_takesSign 2 9 131 (925, false) 927 28 = true := by decide +kernel
theorem rk_cm_X9_readSocket : Jvm.Cond.code rk_q_X9_readSocket.1 rk_q_X9_readSocket.2.1 rk_q_X9_readSocket.2.2.1 rk_q_X9_readSocket.2.2.2.1 ∈ rk_tbl := rk_tat_ok (i := 909) (by decide +kernel)
theorem rk_lk_X9_69 : rk_mck RX9 69 rk_q_X9_readSocket 3 9 131 (906, false) 908 25 = true := by decide +kernel
theorem rk_cm_X9_readNumber : Jvm.Cond.code rk_q_X9_readNumber.1 rk_q_X9_readNumber.2.1 rk_q_X9_readNumber.2.2.1 rk_q_X9_readNumber.2.2.2.1 ∈ rk_tbl := rk_tat_ok (i := 914) (by decide +kernel)
theorem rk_lk_X9_75 : rk_mck RX9 75 rk_q_X9_readNumber 3 9 131 (911, false) 913 26 = true := by decide +kernel
theorem rk_lk_X9_94 : rk_mck RX9 94 rk_q_X6_tableFor 2 6 127 (934, false) 750 751 = true := by decide +kernel
theorem rk_cm_X9_readPorts : Jvm.Cond.code rk_q_X9_readPorts.1 rk_q_X9_readPorts.2.1 rk_q_X9_readPorts.2.2.1 rk_q_X9_readPorts.2.2.2.1 ∈ rk_tbl := rk_tat_ok (i := 940) (by decide +kernel)
theorem rk_lk_X9_104 : rk_mck RX9 104 rk_q_X9_readPorts 1 9 131 (937, false) 939 30 = true := by decide +kernel
theorem rk_cm_X9_at : Jvm.Cond.code rk_q_X9_at.1 rk_q_X9_at.2.1 rk_q_X9_at.2.2.1 rk_q_X9_at.2.2.2.1 ∈ rk_tbl := rk_tat_ok (i := 850) (by decide +kernel)
theorem rk_lk_X9_108 : rk_mck RX9 108 rk_q_X9_at 2 9 131 (847, false) 848 849 = true := by decide +kernel
theorem rk_cm_X9_isDigit : Jvm.Cond.code rk_q_X9_isDigit.1 rk_q_X9_isDigit.2.1 rk_q_X9_isDigit.2.2.1 rk_q_X9_isDigit.2.2.2.1 ∈ rk_tbl := rk_tat_ok (i := 917) (by decide +kernel)
theorem rk_lk_X9_111 : rk_mck RX9 111 rk_q_X9_isDigit 1 0 131 (915, false) 916 0 = true := by decide +kernel
theorem rk_cm_X9_isLetter : Jvm.Cond.code rk_q_X9_isLetter.1 rk_q_X9_isLetter.2.1 rk_q_X9_isLetter.2.2.1 rk_q_X9_isLetter.2.2.2.1 ∈ rk_tbl := rk_tat_ok (i := 853) (by decide +kernel)
theorem rk_lk_X9_120 : rk_mck RX9 120 rk_q_X9_isLetter 1 0 131 (851, false) 852 0 = true := by decide +kernel
theorem rk_cm_X8_copyFrom : Jvm.Cond.code rk_q_X8_copyFrom.1 rk_q_X8_copyFrom.2.1 rk_q_X8_copyFrom.2.2.1 rk_q_X8_copyFrom.2.2.2.1 ∈ rk_tbl := rk_tat_ok (i := 1087) (by decide +kernel)
theorem rk_lk_X10_54 : rk_mck RX10 54 rk_q_X8_copyFrom 2 8 123 (1084, false) 1085 1086 = true := by decide +kernel
theorem rk_cm_X2_copyFrom : Jvm.Cond.code rk_q_X2_copyFrom.1 rk_q_X2_copyFrom.2.1 rk_q_X2_copyFrom.2.2.1 rk_q_X2_copyFrom.2.2.2.1 ∈ rk_tbl := rk_tat_ok (i := 1097) (by decide +kernel)
theorem rk_lk_X10_58 : rk_mck RX10 58 rk_q_X2_copyFrom 2 3 126 (1094, false) 1095 1096 = true := by decide +kernel
theorem rk_cm_X6_copyFrom : Jvm.Cond.code rk_q_X6_copyFrom.1 rk_q_X6_copyFrom.2.1 rk_q_X6_copyFrom.2.2.1 rk_q_X6_copyFrom.2.2.2.1 ∈ rk_tbl := rk_tat_ok (i := 1104) (by decide +kernel)
theorem rk_lk_X10_61 : rk_mck RX10 61 rk_q_X6_copyFrom 2 6 127 (1101, false) 1102 1103 = true := by decide +kernel
theorem rk_cm_X1_copyFrom : Jvm.Cond.code rk_q_X1_copyFrom.1 rk_q_X1_copyFrom.2.1 rk_q_X1_copyFrom.2.2.1 rk_q_X1_copyFrom.2.2.2.1 ∈ rk_tbl := rk_tat_ok (i := 1113) (by decide +kernel)
theorem rk_lk_X10_64 : rk_mck RX10 64 rk_q_X1_copyFrom 2 2 129 (1110, false) 1111 1112 = true := by decide +kernel
theorem rk_cm_X3_copyFrom : Jvm.Cond.code rk_q_X3_copyFrom.1 rk_q_X3_copyFrom.2.1 rk_q_X3_copyFrom.2.2.1 rk_q_X3_copyFrom.2.2.2.1 ∈ rk_tbl := rk_tat_ok (i := 1124) (by decide +kernel)
theorem rk_lk_X10_67 : rk_mck RX10 67 rk_q_X3_copyFrom 2 4 122 (1121, false) 1122 1123 = true := by decide +kernel
theorem rk_lk_X10_92 : rk_mck RX10 92 rk_q_X10_settle 2 10 121 (575, false) 576 577 = true := by decide +kernel
theorem rk_lk_X10_96 : rk_mck RX10 96 rk_q_X11_isSocket 1 0 120 (8, true) 569 0 = true := by decide +kernel
theorem rk_cm_X8_enter : Jvm.Cond.code rk_q_X8_enter.1 rk_q_X8_enter.2.1 rk_q_X8_enter.2.2.1 rk_q_X8_enter.2.2.2.1 ∈ rk_tbl := rk_tat_ok (i := 582) (by decide +kernel)
theorem rk_lk_X10_106 : rk_mck RX10 106 rk_q_X8_enter 2 8 123 (579, false) 580 581 = true := by decide +kernel
theorem rk_cm_X10_leave : Jvm.Cond.code rk_q_X10_leave.1 rk_q_X10_leave.2.1 rk_q_X10_leave.2.2.1 rk_q_X10_leave.2.2.2.1 ∈ rk_tbl := rk_tat_ok (i := 586) (by decide +kernel)
theorem rk_lk_X10_109 : rk_mck RX10 109 rk_q_X10_leave 3 10 121 (583, false) 585 0 = true := by decide +kernel
theorem rk_cm_X3_add : Jvm.Cond.code rk_q_X3_add.1 rk_q_X3_add.2.1 rk_q_X3_add.2.2.1 rk_q_X3_add.2.2.2.1 ∈ rk_tbl := rk_tat_ok (i := 590) (by decide +kernel)
theorem rk_lk_X10_119 : rk_mck RX10 119 rk_q_X3_add 4 4 122 (587, false) 588 589 = true := by decide +kernel
theorem rk_lk_X10_142 : rk_mck RX10 142 rk_q_X7_add 2 7 124 (591, false) 592 593 = true := by decide +kernel
theorem rk_cm_X7_dropPacket : Jvm.Cond.code rk_q_X7_dropPacket.1 rk_q_X7_dropPacket.2.1 rk_q_X7_dropPacket.2.2.1 rk_q_X7_dropPacket.2.2.2.1 ∈ rk_tbl := rk_tat_ok (i := 598) (by decide +kernel)
theorem rk_lk_X10_155 : rk_mck RX10 155 rk_q_X7_dropPacket 1 7 124 (595, false) 596 597 = true := by decide +kernel
theorem rk_cm_X10_baseOf : Jvm.Cond.code rk_q_X10_baseOf.1 rk_q_X10_baseOf.2.1 rk_q_X10_baseOf.2.2.1 rk_q_X10_baseOf.2.2.2.1 ∈ rk_tbl := rk_tat_ok (i := 605) (by decide +kernel)
theorem rk_lk_X10_161 : rk_mck RX10 161 rk_q_X10_baseOf 1 0 121 (603, false) 604 0 = true := by decide +kernel
theorem rk_cm_X2_beginSpill : Jvm.Cond.code rk_q_X2_beginSpill.1 rk_q_X2_beginSpill.2.1 rk_q_X2_beginSpill.2.2.1 rk_q_X2_beginSpill.2.2.2.1 ∈ rk_tbl := rk_tat_ok (i := 609) (by decide +kernel)
theorem rk_lk_X10_165 : rk_mck RX10 165 rk_q_X2_beginSpill 2 3 126 (606, false) 607 608 = true := by decide +kernel
theorem rk_cm_X10_hear : Jvm.Cond.code rk_q_X10_hear.1 rk_q_X10_hear.2.1 rk_q_X10_hear.2.2.1 rk_q_X10_hear.2.2.2.1 ∈ rk_tbl := rk_tat_ok (i := 676) (by decide +kernel)
theorem rk_lk_X10_169 : rk_mck RX10 169 rk_q_X10_hear 2 10 121 (673, false) 675 1 = true := by decide +kernel
theorem rk_cm_X10_grow : Jvm.Cond.code rk_q_X10_grow.1 rk_q_X10_grow.2.1 rk_q_X10_grow.2.2.1 rk_q_X10_grow.2.2.2.1 ∈ rk_tbl := rk_tat_ok (i := 706) (by decide +kernel)
theorem rk_lk_X10_172 : rk_mck RX10 172 rk_q_X10_grow 2 10 121 (703, false) 705 6 = true := by decide +kernel
theorem rk_cm_X10_serve : Jvm.Cond.code rk_q_X10_serve.1 rk_q_X10_serve.2.1 rk_q_X10_serve.2.2.1 rk_q_X10_serve.2.2.2.1 ∈ rk_tbl := rk_tat_ok (i := 714) (by decide +kernel)
theorem rk_lk_X10_178 : rk_mck RX10 178 rk_q_X10_serve 3 10 121 (711, false) 713 8 = true := by decide +kernel
theorem rk_cm_X10_takeIn : Jvm.Cond.code rk_q_X10_takeIn.1 rk_q_X10_takeIn.2.1 rk_q_X10_takeIn.2.2.1 rk_q_X10_takeIn.2.2.2.1 ∈ rk_tbl := rk_tat_ok (i := 767) (by decide +kernel)
theorem rk_lk_X10_182 : rk_mck RX10 182 rk_q_X10_takeIn 2 10 121 (764, false) 766 15 = true := by decide +kernel
theorem rk_cm_X10_transmit : Jvm.Cond.code rk_q_X10_transmit.1 rk_q_X10_transmit.2.1 rk_q_X10_transmit.2.2.1 rk_q_X10_transmit.2.2.2.1 ∈ rk_tbl := rk_tat_ok (i := 782) (by decide +kernel)
theorem rk_lk_X10_185 : rk_mck RX10 185 rk_q_X10_transmit 2 10 121 (779, false) 781 16 = true := by decide +kernel
theorem rk_cm_X10_unstickSpilling : Jvm.Cond.code rk_q_X10_unstickSpilling.1 rk_q_X10_unstickSpilling.2.1 rk_q_X10_unstickSpilling.2.2.1 rk_q_X10_unstickSpilling.2.2.2.1 ∈ rk_tbl := rk_tat_ok (i := 805) (by decide +kernel)
theorem rk_lk_X10_188 : rk_mck RX10 188 rk_q_X10_unstickSpilling 1 10 121 (802, false) 804 20 = true := by decide +kernel
theorem rk_cm_X10_draw : Jvm.Cond.code rk_q_X10_draw.1 rk_q_X10_draw.2.1 rk_q_X10_draw.2.2.1 rk_q_X10_draw.2.2.2.1 ∈ rk_tbl := rk_tat_ok (i := 680) (by decide +kernel)
theorem rk_lk_X10_203 : rk_mck RX10 203 rk_q_X10_draw 1 10 121 (677, false) 679 2 = true := by decide +kernel
theorem rk_cm_X10_hearCredit : Jvm.Cond.code rk_q_X10_hearCredit.1 rk_q_X10_hearCredit.2.1 rk_q_X10_hearCredit.2.2.1 rk_q_X10_hearCredit.2.2.2.1 ∈ rk_tbl := rk_tat_ok (i := 686) (by decide +kernel)
theorem rk_lk_X10_210 : rk_mck RX10 210 rk_q_X10_hearCredit 2 10 121 (683, false) 685 3 = true := by decide +kernel
theorem rk_cm_X10_hearTime : Jvm.Cond.code rk_q_X10_hearTime.1 rk_q_X10_hearTime.2.1 rk_q_X10_hearTime.2.2.1 rk_q_X10_hearTime.2.2.2.1 ∈ rk_tbl := rk_tat_ok (i := 690) (by decide +kernel)
theorem rk_lk_X10_213 : rk_mck RX10 213 rk_q_X10_hearTime 3 10 121 (687, false) 689 4 = true := by decide +kernel
theorem rk_cm_X10_hearData : Jvm.Cond.code rk_q_X10_hearData.1 rk_q_X10_hearData.2.1 rk_q_X10_hearData.2.2.1 rk_q_X10_hearData.2.2.2.1 ∈ rk_tbl := rk_tat_ok (i := 702) (by decide +kernel)
theorem rk_lk_X10_216 : rk_mck RX10 216 rk_q_X10_hearData 3 10 121 (699, false) 701 5 = true := by decide +kernel
theorem rk_cm_X0_hears : Jvm.Cond.code rk_q_X0_hears.1 rk_q_X0_hears.2.1 rk_q_X0_hears.2.2.1 rk_q_X0_hears.2.2.2.1 ∈ rk_tbl := rk_tat_ok (i := 694) (by decide +kernel)
theorem rk_lk_X10_225 : rk_mck RX10 225 rk_q_X0_hears 2 1 128 (691, false) 692 693 = true := by decide +kernel
theorem rk_cm_X10_growOn : Jvm.Cond.code rk_q_X10_growOn.1 rk_q_X10_growOn.2.1 rk_q_X10_growOn.2.2.1 rk_q_X10_growOn.2.2.2.1 ∈ rk_tbl := rk_tat_ok (i := 710) (by decide +kernel)
theorem rk_lk_X10_240 : rk_mck RX10 240 rk_q_X10_growOn 2 10 121 (707, false) 709 7 = true := by decide +kernel
theorem rk_cm_X10_spill : Jvm.Cond.code rk_q_X10_spill.1 rk_q_X10_spill.2.1 rk_q_X10_spill.2.2.1 rk_q_X10_spill.2.2.2.1 ∈ rk_tbl := rk_tat_ok (i := 718) (by decide +kernel)
theorem rk_lk_X10_243 : rk_mck RX10 243 rk_q_X10_spill 2 10 121 (715, false) 717 9 = true := by decide +kernel
theorem rk_cm_X10_obeys : Jvm.Cond.code rk_q_X10_obeys.1 rk_q_X10_obeys.2.1 rk_q_X10_obeys.2.2.1 rk_q_X10_obeys.2.2.2.1 ∈ rk_tbl := rk_tat_ok (i := 727) (by decide +kernel)
theorem rk_lk_X10_249 : rk_mck RX10 249 rk_q_X10_obeys 3 10 121 (724, false) 726 10 = true := by decide +kernel
theorem rk_cm_X10_answer : Jvm.Cond.code rk_q_X10_answer.1 rk_q_X10_answer.2.1 rk_q_X10_answer.2.2.1 rk_q_X10_answer.2.2.2.1 ∈ rk_tbl := rk_tat_ok (i := 732) (by decide +kernel)
theorem rk_lk_X10_253 : rk_mck RX10 253 rk_q_X10_answer 4 10 121 (729, false) 731 11 = true := by decide +kernel
theorem rk_cm_X2_beFree : Jvm.Cond.code rk_q_X2_beFree.1 rk_q_X2_beFree.2.1 rk_q_X2_beFree.2.2.1 rk_q_X2_beFree.2.2.2.1 ∈ rk_tbl := rk_tat_ok (i := 736) (by decide +kernel)
theorem rk_lk_X10_257 : rk_mck RX10 257 rk_q_X2_beFree 1 3 126 (733, false) 734 735 = true := by decide +kernel
theorem rk_cm_X10_begin : Jvm.Cond.code rk_q_X10_begin.1 rk_q_X10_begin.2.1 rk_q_X10_begin.2.2.1 rk_q_X10_begin.2.2.2.1 ∈ rk_tbl := rk_tat_ok (i := 740) (by decide +kernel)
theorem rk_lk_X10_263 : rk_mck RX10 263 rk_q_X10_begin 3 10 121 (737, false) 739 12 = true := by decide +kernel
theorem rk_cm_X10_stick : Jvm.Cond.code rk_q_X10_stick.1 rk_q_X10_stick.2.1 rk_q_X10_stick.2.2.1 rk_q_X10_stick.2.2.2.1 ∈ rk_tbl := rk_tat_ok (i := 763) (by decide +kernel)
theorem rk_lk_X10_266 : rk_mck RX10 266 rk_q_X10_stick 2 10 121 (760, false) 762 14 = true := by decide +kernel
theorem rk_lk_X10_269 : rk_mck RX10 269 rk_q_X7_at 2 7 124 (741, false) 742 743 = true := by decide +kernel
theorem rk_lk_X10_272 : rk_mck RX10 272 rk_q_X7_take 1 7 124 (719, false) 600 601 = true := by decide +kernel
theorem rk_cm_X6_meantBy : Jvm.Cond.code rk_q_X6_meantBy.1 rk_q_X6_meantBy.2.1 rk_q_X6_meantBy.2.2.1 rk_q_X6_meantBy.2.2.2.1 ∈ rk_tbl := rk_tat_ok (i := 748) (by decide +kernel)
theorem rk_lk_X10_281 : rk_mck RX10 281 rk_q_X6_meantBy 2 6 127 (745, false) 746 747 = true := by decide +kernel
theorem rk_cm_X10_openPort : Jvm.Cond.code rk_q_X10_openPort.1 rk_q_X10_openPort.2.1 rk_q_X10_openPort.2.2.1 rk_q_X10_openPort.2.2.2.1 ∈ rk_tbl := rk_tat_ok (i := 756) (by decide +kernel)
theorem rk_lk_X10_287 : rk_mck RX10 287 rk_q_X10_openPort 3 10 121 (753, false) 755 13 = true := by decide +kernel
theorem rk_cm_X10_portOf : Jvm.Cond.code rk_q_X10_portOf.1 rk_q_X10_portOf.2.1 rk_q_X10_portOf.2.2.1 rk_q_X10_portOf.2.2.2.1 ∈ rk_tbl := rk_tat_ok (i := 759) (by decide +kernel)
theorem rk_lk_X10_294 : rk_mck RX10 294 rk_q_X10_portOf 1 0 121 (757, false) 758 0 = true := by decide +kernel
theorem rk_cm_X2_keep : Jvm.Cond.code rk_q_X2_keep.1 rk_q_X2_keep.2.1 rk_q_X2_keep.2.2.1 rk_q_X2_keep.2.2.2.1 ∈ rk_tbl := rk_tat_ok (i := 723) (by decide +kernel)
theorem rk_lk_X10_300 : rk_mck RX10 300 rk_q_X2_keep 2 3 126 (720, false) 721 722 = true := by decide +kernel
theorem rk_lk_X10_315 : rk_mck RX10 315 rk_q_X6_write 4 6 127 (728, false) 648 649 = true := by decide +kernel
theorem rk_cm_X1_receive : Jvm.Cond.code rk_q_X1_receive.1 rk_q_X1_receive.2.1 rk_q_X1_receive.2.2.1 rk_q_X1_receive.2.2.2.1 ∈ rk_tbl := rk_tat_ok (i := 771) (by decide +kernel)
theorem rk_lk_X10_328 : rk_mck RX10 328 rk_q_X1_receive 3 2 129 (768, false) 769 770 = true := by decide +kernel
theorem rk_cm_X4_add : Jvm.Cond.code rk_q_X4_add.1 rk_q_X4_add.2.1 rk_q_X4_add.2.2.1 rk_q_X4_add.2.2.2.1 ∈ rk_tbl := rk_tat_ok (i := 778) (by decide +kernel)
theorem rk_lk_X10_336 : rk_mck RX10 336 rk_q_X4_add 2 5 130 (775, false) 776 777 = true := by decide +kernel
theorem rk_cm_X8_sells : Jvm.Cond.code rk_q_X8_sells.1 rk_q_X8_sells.2.1 rk_q_X8_sells.2.2.1 rk_q_X8_sells.2.2.2.1 ∈ rk_tbl := rk_tat_ok (i := 786) (by decide +kernel)
theorem rk_lk_X10_339 : rk_mck RX10 339 rk_q_X8_sells 1 8 123 (783, false) 784 785 = true := by decide +kernel
theorem rk_cm_X10_transmitInRun : Jvm.Cond.code rk_q_X10_transmitInRun.1 rk_q_X10_transmitInRun.2.1 rk_q_X10_transmitInRun.2.2.1 rk_q_X10_transmitInRun.2.2.2.1 ∈ rk_tbl := rk_tat_ok (i := 790) (by decide +kernel)
theorem rk_lk_X10_343 : rk_mck RX10 343 rk_q_X10_transmitInRun 2 10 121 (787, false) 789 17 = true := by decide +kernel
theorem rk_cm_X10_kindOf : Jvm.Cond.code rk_q_X10_kindOf.1 rk_q_X10_kindOf.2.1 rk_q_X10_kindOf.2.2.1 rk_q_X10_kindOf.2.2.2.1 ∈ rk_tbl := rk_tat_ok (i := 801) (by decide +kernel)
theorem rk_lk_X10_346 : rk_mck RX10 346 rk_q_X10_kindOf 1 0 121 (799, false) 800 0 = true := by decide +kernel
theorem rk_cm_X10_choose : Jvm.Cond.code rk_q_X10_choose.1 rk_q_X10_choose.2.1 rk_q_X10_choose.2.2.1 rk_q_X10_choose.2.2.2.1 ∈ rk_tbl := rk_tat_ok (i := 794) (by decide +kernel)
theorem rk_lk_X10_349 : rk_mck RX10 349 rk_q_X10_choose 2 10 121 (791, false) 793 18 = true := by decide +kernel
theorem rk_cm_X10_passOn : Jvm.Cond.code rk_q_X10_passOn.1 rk_q_X10_passOn.2.1 rk_q_X10_passOn.2.2.1 rk_q_X10_passOn.2.2.2.1 ∈ rk_tbl := rk_tat_ok (i := 798) (by decide +kernel)
theorem rk_lk_X10_355 : rk_mck RX10 355 rk_q_X10_passOn 2 10 121 (795, false) 797 19 = true := by decide +kernel
theorem rk_lk_X10_364 : rk_mck RX10 364 rk_q_X11_bit 1 0 120 (15, true) 773 0 = true := by decide +kernel
