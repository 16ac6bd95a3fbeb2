set_option maxRecDepth 100000 in
theorem ko_X0_init : kc_X0_init.all (ev_okb 0 2 cX0_init) = true := by decide +kernel
set_option maxRecDepth 100000 in
theorem ko_X0_setOwn : kc_X0_setOwn.all (ev_okb 0 1 cX0_setOwn) = true := by decide +kernel
set_option maxRecDepth 100000 in
theorem ko_X0_open : kc_X0_open.all (ev_okb 0 1 cX0_open) = true := by decide +kernel
set_option maxRecDepth 100000 in
theorem ko_X0_close : kc_X0_close.all (ev_okb 0 1 cX0_close) = true := by decide +kernel
set_option maxRecDepth 100000 in
theorem ko_X0_forgetTexts : kc_X0_forgetTexts.all (ev_okb 0 1 cX0_forgetTexts) = true := by decide +kernel
set_option maxRecDepth 100000 in
theorem ko_X0_hasFar : kc_X0_hasFar.all (ev_okb 0 1 cX0_hasFar) = true := by decide +kernel
set_option maxRecDepth 100000 in
theorem ko_X0_putText : kc_X0_putText.all (ev_okb 0 1 cX0_putText) = true := by decide +kernel
set_option maxRecDepth 100000 in
theorem ko_X0_hasSegment : kc_X0_hasSegment.all (ev_okb 0 1 cX0_hasSegment) = true := by decide +kernel
set_option maxRecDepth 100000 in
theorem ko_X0_writeSegment : kc_X0_writeSegment.all (ev_okb 0 1 cX0_writeSegment) = true := by decide +kernel
set_option maxRecDepth 100000 in
theorem ko_X0_readSegment : kc_X0_readSegment.all (ev_okb 0 1 cX0_readSegment) = true := by decide +kernel
set_option maxRecDepth 100000 in
theorem ko_X0_keepWholeText : kc_X0_keepWholeText.all (ev_okb 0 1 cX0_keepWholeText) = true := by decide +kernel
set_option maxRecDepth 100000 in
theorem ko_X1_init : kc_X1_init.all (ev_okb 1 2 cX1_init) = true := by decide +kernel
set_option maxRecDepth 100000 in
theorem ko_X1_tellService : kc_X1_tellService.all (ev_okb 1 1 cX1_tellService) = true := by decide +kernel
set_option maxRecDepth 100000 in
theorem ko_X1_hasService : kc_X1_hasService.all (ev_okb 1 1 cX1_hasService) = true := by decide +kernel
set_option maxRecDepth 100000 in
theorem ko_X1_ask : kc_X1_ask.all (ev_okb 1 1 cX1_ask) = true := by decide +kernel
set_option maxRecDepth 100000 in
theorem ko_X1_giveCredits : kc_X1_giveCredits.all (ev_okb 1 1 cX1_giveCredits) = true := by decide +kernel
set_option maxRecDepth 100000 in
theorem ko_X1_beginLeaving : kc_X1_beginLeaving.all (ev_okb 1 1 cX1_beginLeaving) = true := by decide +kernel
set_option maxRecDepth 100000 in
theorem ko_X1_nextId : kc_X1_nextId.all (ev_okb 1 1 cX1_nextId) = true := by decide +kernel
set_option maxRecDepth 100000 in
theorem ko_X1_addSignal : kc_X1_addSignal.all (ev_okb 1 1 cX1_addSignal) = true := by decide +kernel
set_option maxRecDepth 100000 in
theorem ko_X1_sendOn : kc_X1_sendOn.all (ev_okb 1 1 cX1_sendOn) = true := by decide +kernel
set_option maxRecDepth 100000 in
theorem ko_X1_hasUnit : kc_X1_hasUnit.all (ev_okb 1 1 cX1_hasUnit) = true := by decide +kernel
set_option maxRecDepth 100000 in
theorem ko_X1_beginSignal : kc_X1_beginSignal.all (ev_okb 1 1 cX1_beginSignal) = true := by decide +kernel
set_option maxRecDepth 100000 in
theorem ko_X1_beginSegment : kc_X1_beginSegment.all (ev_okb 1 1 cX1_beginSegment) = true := by decide +kernel
set_option maxRecDepth 100000 in
theorem ko_X1_gather : kc_X1_gather.all (ev_okb 1 1 cX1_gather) = true := by decide +kernel
set_option maxRecDepth 100000 in
theorem ko_X1_dropGathered : kc_X1_dropGathered.all (ev_okb 1 1 cX1_dropGathered) = true := by decide +kernel
set_option maxRecDepth 100000 in
theorem ko_X1_handleUnit : kc_X1_handleUnit.all (ev_okb 1 1 cX1_handleUnit) = true := by decide +kernel
set_option maxRecDepth 100000 in
theorem ko_X1_handleSegment : kc_X1_handleSegment.all (ev_okb 1 1 cX1_handleSegment) = true := by decide +kernel
set_option maxRecDepth 100000 in
theorem ko_X1_handleSignal : kc_X1_handleSignal.all (ev_okb 1 1 cX1_handleSignal) = true := by decide +kernel
set_option maxRecDepth 100000 in
theorem ko_X1_isSignal : kc_X1_isSignal.all (ev_okb 1 0 cX1_isSignal) = true := by decide +kernel
set_option maxRecDepth 100000 in
theorem ko_X1_told : kc_X1_told.all (ev_okb 1 1 cX1_told) = true := by decide +kernel
set_option maxRecDepth 100000 in
theorem ko_X1_onRequest : kc_X1_onRequest.all (ev_okb 1 1 cX1_onRequest) = true := by decide +kernel
set_option maxRecDepth 100000 in
theorem ko_X1_judgeRequest : kc_X1_judgeRequest.all (ev_okb 1 1 cX1_judgeRequest) = true := by decide +kernel
set_option maxRecDepth 100000 in
theorem ko_X1_onAnswer : kc_X1_onAnswer.all (ev_okb 1 1 cX1_onAnswer) = true := by decide +kernel
set_option maxRecDepth 100000 in
theorem ko_X1_onCredit : kc_X1_onCredit.all (ev_okb 1 1 cX1_onCredit) = true := by decide +kernel
set_option maxRecDepth 100000 in
theorem ko_X1_onLeave : kc_X1_onLeave.all (ev_okb 1 1 cX1_onLeave) = true := by decide +kernel
set_option maxRecDepth 100000 in
theorem ko_X1_onLeft : kc_X1_onLeft.all (ev_okb 1 1 cX1_onLeft) = true := by decide +kernel
set_option maxRecDepth 100000 in
theorem ko_X1_onReject : kc_X1_onReject.all (ev_okb 1 1 cX1_onReject) = true := by decide +kernel
set_option maxRecDepth 100000 in
theorem ko_X1_firstClosed : kc_X1_firstClosed.all (ev_okb 1 1 cX1_firstClosed) = true := by decide +kernel
set_option maxRecDepth 100000 in
theorem ko_X1_firstBySignal : kc_X1_firstBySignal.all (ev_okb 1 1 cX1_firstBySignal) = true := by decide +kernel
set_option maxRecDepth 100000 in
theorem ko_X2_init : kc_X2_init.all (ev_okb 2 2 cX2_init) = true := by decide +kernel
set_option maxRecDepth 100000 in
theorem ko_X3_init : kc_X3_init.all (ev_okb 3 2 cX3_init) = true := by decide +kernel
set_option maxRecDepth 100000 in
theorem ko_X3_clear : kc_X3_clear.all (ev_okb 3 1 cX3_clear) = true := by decide +kernel
set_option maxRecDepth 100000 in
theorem ko_X3_add : kc_X3_add.all (ev_okb 3 1 cX3_add) = true := by decide +kernel
set_option maxRecDepth 100000 in
theorem ko_X3_addNumber : kc_X3_addNumber.all (ev_okb 3 1 cX3_addNumber) = true := by decide +kernel
set_option maxRecDepth 100000 in
theorem ko_X3_addPart : kc_X3_addPart.all (ev_okb 3 1 cX3_addPart) = true := by decide +kernel
set_option maxRecDepth 100000 in
theorem ko_X3_at : kc_X3_at.all (ev_okb 3 1 cX3_at) = true := by decide +kernel
set_option maxRecDepth 100000 in
theorem ko_X3_numberAt : kc_X3_numberAt.all (ev_okb 3 1 cX3_numberAt) = true := by decide +kernel
set_option maxRecDepth 100000 in
theorem ko_X4_init : kc_X4_init.all (ev_okb 4 2 cX4_init) = true := by decide +kernel
set_option maxRecDepth 100000 in
theorem ko_X4_clear : kc_X4_clear.all (ev_okb 4 1 cX4_clear) = true := by decide +kernel
set_option maxRecDepth 100000 in
theorem ko_X4_first : kc_X4_first.all (ev_okb 4 1 cX4_first) = true := by decide +kernel
set_option maxRecDepth 100000 in
theorem ko_X4_addEmpty : kc_X4_addEmpty.all (ev_okb 4 1 cX4_addEmpty) = true := by decide +kernel
set_option maxRecDepth 100000 in
theorem ko_X4_dropFirst : kc_X4_dropFirst.all (ev_okb 4 1 cX4_dropFirst) = true := by decide +kernel
set_option maxRecDepth 100000 in
theorem ko_X5_init : kc_X5_init.all (ev_okb 5 2 cX5_init) = true := by decide +kernel
set_option maxRecDepth 100000 in
theorem ko_X5_hasRoomFor : kc_X5_hasRoomFor.all (ev_okb 5 1 cX5_hasRoomFor) = true := by decide +kernel
set_option maxRecDepth 100000 in
theorem ko_X5_freeBuffers : kc_X5_freeBuffers.all (ev_okb 5 1 cX5_freeBuffers) = true := by decide +kernel
set_option maxRecDepth 100000 in
theorem ko_X5_firstPacket : kc_X5_firstPacket.all (ev_okb 5 1 cX5_firstPacket) = true := by decide +kernel
set_option maxRecDepth 100000 in
theorem ko_X5_put : kc_X5_put.all (ev_okb 5 1 cX5_put) = true := by decide +kernel
set_option maxRecDepth 100000 in
theorem ko_X5_dropFirst : kc_X5_dropFirst.all (ev_okb 5 1 cX5_dropFirst) = true := by decide +kernel
