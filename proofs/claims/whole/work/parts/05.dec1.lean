set_option maxRecDepth 100000 in
theorem ko_X6_init : kc_X6_init.all (ev_okb 6 2 cX6_init) = true := by decide +kernel
set_option maxRecDepth 100000 in
theorem ko_X6_service : kc_X6_service.all (ev_okb 6 1 cX6_service) = true := by decide +kernel
set_option maxRecDepth 100000 in
theorem ko_X6_connect : kc_X6_connect.all (ev_okb 6 1 cX6_connect) = true := by decide +kernel
set_option maxRecDepth 100000 in
theorem ko_X6_feed : kc_X6_feed.all (ev_okb 6 1 cX6_feed) = true := by decide +kernel
set_option maxRecDepth 100000 in
theorem ko_X6_erase : kc_X6_erase.all (ev_okb 6 1 cX6_erase) = true := by decide +kernel
set_option maxRecDepth 100000 in
theorem ko_X6_send : kc_X6_send.all (ev_okb 6 1 cX6_send) = true := by decide +kernel
set_option maxRecDepth 100000 in
theorem ko_X6_grant : kc_X6_grant.all (ev_okb 6 1 cX6_grant) = true := by decide +kernel
set_option maxRecDepth 100000 in
theorem ko_X6_leave : kc_X6_leave.all (ev_okb 6 1 cX6_leave) = true := by decide +kernel
set_option maxRecDepth 100000 in
theorem ko_X6_take : kc_X6_take.all (ev_okb 6 1 cX6_take) = true := by decide +kernel
set_option maxRecDepth 100000 in
theorem ko_X6_lose : kc_X6_lose.all (ev_okb 6 1 cX6_lose) = true := by decide +kernel
set_option maxRecDepth 100000 in
theorem ko_X6_inject : kc_X6_inject.all (ev_okb 6 1 cX6_inject) = true := by decide +kernel
set_option maxRecDepth 100000 in
theorem ko_X6_receive : kc_X6_receive.all (ev_okb 6 1 cX6_receive) = true := by decide +kernel
set_option maxRecDepth 100000 in
theorem ko_X6_octet : kc_X6_octet.all (ev_okb 6 1 cX6_octet) = true := by decide +kernel
set_option maxRecDepth 100000 in
theorem ko_X6_channel : kc_X6_channel.all (ev_okb 6 1 cX6_channel) = true := by decide +kernel
set_option maxRecDepth 100000 in
theorem ko_X6_count : kc_X6_count.all (ev_okb 6 1 cX6_count) = true := by decide +kernel
set_option maxRecDepth 100000 in
theorem ko_X6_isHost : kc_X6_isHost.all (ev_okb 6 0 cX6_isHost) = true := by decide +kernel
set_option maxRecDepth 100000 in
theorem ko_X6_isChannel : kc_X6_isChannel.all (ev_okb 6 0 cX6_isChannel) = true := by decide +kernel
set_option maxRecDepth 100000 in
theorem ko_X6_isOffer : kc_X6_isOffer.all (ev_okb 6 0 cX6_isOffer) = true := by decide +kernel
set_option maxRecDepth 100000 in
theorem ko_X6_isFar : kc_X6_isFar.all (ev_okb 6 0 cX6_isFar) = true := by decide +kernel
set_option maxRecDepth 100000 in
theorem ko_X6_sendWhatCanGo : kc_X6_sendWhatCanGo.all (ev_okb 6 1 cX6_sendWhatCanGo) = true := by decide +kernel
set_option maxRecDepth 100000 in
theorem ko_X7_init : kc_X7_init.all (ev_okb 7 2 cX7_init) = true := by decide +kernel
set_option maxRecDepth 100000 in
theorem ko_X7_thrown : kc_X7_thrown.all (ev_okb 7 1 cX7_thrown) = true := by decide +kernel
set_option maxRecDepth 100000 in
theorem ko_X7_refused : kc_X7_refused.all (ev_okb 7 1 cX7_refused) = true := by decide +kernel
set_option maxRecDepth 100000 in
theorem ko_X7_isIn : kc_X7_isIn.all (ev_okb 7 0 cX7_isIn) = true := by decide +kernel
set_option maxRecDepth 100000 in
theorem ko_X7_isHost : kc_X7_isHost.all (ev_okb 7 0 cX7_isHost) = true := by decide +kernel
set_option maxRecDepth 100000 in
theorem ko_X7_isChannel : kc_X7_isChannel.all (ev_okb 7 0 cX7_isChannel) = true := by decide +kernel
set_option maxRecDepth 100000 in
theorem ko_X7_buffersOf : kc_X7_buffersOf.all (ev_okb 7 1 cX7_buffersOf) = true := by decide +kernel
set_option maxRecDepth 100000 in
theorem ko_X7_post : kc_X7_post.all (ev_okb 7 1 cX7_post) = true := by decide +kernel
set_option maxRecDepth 100000 in
theorem ko_X7_unitHead : kc_X7_unitHead.all (ev_okb 7 1 cX7_unitHead) = true := by decide +kernel
set_option maxRecDepth 100000 in
theorem ko_X7_unitByte : kc_X7_unitByte.all (ev_okb 7 1 cX7_unitByte) = true := by decide +kernel
set_option maxRecDepth 100000 in
theorem ko_X7_beginSignal : kc_X7_beginSignal.all (ev_okb 7 1 cX7_beginSignal) = true := by decide +kernel
set_option maxRecDepth 100000 in
theorem ko_X7_textByte : kc_X7_textByte.all (ev_okb 7 1 cX7_textByte) = true := by decide +kernel
set_option maxRecDepth 100000 in
theorem ko_X7_beginSegment : kc_X7_beginSegment.all (ev_okb 7 1 cX7_beginSegment) = true := by decide +kernel
set_option maxRecDepth 100000 in
theorem ko_X7_nextChannel : kc_X7_nextChannel.all (ev_okb 7 1 cX7_nextChannel) = true := by decide +kernel
set_option maxRecDepth 100000 in
theorem ko_X7_sendAll : kc_X7_sendAll.all (ev_okb 7 1 cX7_sendAll) = true := by decide +kernel
set_option maxRecDepth 100000 in
theorem ko_X7_sendBoth : kc_X7_sendBoth.all (ev_okb 7 1 cX7_sendBoth) = true := by decide +kernel
set_option maxRecDepth 100000 in
theorem ko_X7_begin : kc_X7_begin.all (ev_okb 7 1 cX7_begin) = true := by decide +kernel
set_option maxRecDepth 100000 in
theorem ko_X7_two : kc_X7_two.all (ev_okb 7 1 cX7_two) = true := by decide +kernel
set_option maxRecDepth 100000 in
theorem ko_X7_wait : kc_X7_wait.all (ev_okb 7 1 cX7_wait) = true := by decide +kernel
set_option maxRecDepth 100000 in
theorem ko_X7_takeId : kc_X7_takeId.all (ev_okb 7 1 cX7_takeId) = true := by decide +kernel
set_option maxRecDepth 100000 in
theorem ko_X7_dropTexts : kc_X7_dropTexts.all (ev_okb 7 1 cX7_dropTexts) = true := by decide +kernel
set_option maxRecDepth 100000 in
theorem ko_X7_leaveNow : kc_X7_leaveNow.all (ev_okb 7 1 cX7_leaveNow) = true := by decide +kernel
set_option maxRecDepth 100000 in
theorem ko_X7_close : kc_X7_close.all (ev_okb 7 1 cX7_close) = true := by decide +kernel
set_option maxRecDepth 100000 in
theorem ko_X7_firstClosed : kc_X7_firstClosed.all (ev_okb 7 1 cX7_firstClosed) = true := by decide +kernel
