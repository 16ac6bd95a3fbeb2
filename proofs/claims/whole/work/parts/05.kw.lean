set_option maxRecDepth 100000 in
theorem kw_X0_init : lw_tbl[100]? = some (.code yX0_init cX0_init 2 none) := by rfl
set_option maxRecDepth 100000 in
theorem kw_X0_setOwn : lw_tbl[449]? = some (.code yX0_setOwn cX0_setOwn 4 none) := by rfl
set_option maxRecDepth 100000 in
theorem kw_X0_open : lw_tbl[742]? = some (.code yX0_open cX0_open 5 none) := by rfl
set_option maxRecDepth 100000 in
theorem kw_X0_close : lw_tbl[754]? = some (.code yX0_close cX0_close 1 none) := by rfl
set_option maxRecDepth 100000 in
theorem kw_X0_forgetTexts : lw_tbl[679]? = some (.code yX0_forgetTexts cX0_forgetTexts 1 none) := by rfl
set_option maxRecDepth 100000 in
theorem kw_X0_hasFar : lw_tbl[738]? = some (.code yX0_hasFar cX0_hasFar 2 (some .boolean)) := by rfl
set_option maxRecDepth 100000 in
theorem kw_X0_putText : lw_tbl[647]? = some (.code yX0_putText cX0_putText 3 (some .boolean)) := by rfl
set_option maxRecDepth 100000 in
theorem kw_X0_hasSegment : lw_tbl[587]? = some (.code yX0_hasSegment cX0_hasSegment 1 (some .boolean)) := by rfl
set_option maxRecDepth 100000 in
theorem kw_X0_writeSegment : lw_tbl[591]? = some (.code yX0_writeSegment cX0_writeSegment 4 none) := by rfl
set_option maxRecDepth 100000 in
theorem kw_X0_readSegment : lw_tbl[782]? = some (.code yX0_readSegment cX0_readSegment 4 (some .boolean)) := by rfl
set_option maxRecDepth 100000 in
theorem kw_X0_keepWholeText : lw_tbl[787]? = some (.code yX0_keepWholeText cX0_keepWholeText 2 (some .boolean)) := by rfl
set_option maxRecDepth 100000 in
theorem kw_X1_init : lw_tbl[93]? = some (.code yX1_init cX1_init 2 none) := by rfl
set_option maxRecDepth 100000 in
theorem kw_X1_tellService : lw_tbl[430]? = some (.code yX1_tellService cX1_tellService 5 none) := by rfl
set_option maxRecDepth 100000 in
theorem kw_X1_hasService : lw_tbl[731]? = some (.code yX1_hasService cX1_hasService 2 (some .boolean)) := by rfl
set_option maxRecDepth 100000 in
theorem kw_X1_ask : lw_tbl[441]? = some (.code yX1_ask cX1_ask 7 (some .int)) := by rfl
set_option maxRecDepth 100000 in
theorem kw_X1_giveCredits : lw_tbl[664]? = some (.code yX1_giveCredits cX1_giveCredits 4 none) := by rfl
set_option maxRecDepth 100000 in
theorem kw_X1_beginLeaving : lw_tbl[675]? = some (.code yX1_beginLeaving cX1_beginLeaving 3 none) := by rfl
set_option maxRecDepth 100000 in
theorem kw_X1_nextId : lw_tbl[457]? = some (.code yX1_nextId cX1_nextId 1 (some .int)) := by rfl
set_option maxRecDepth 100000 in
theorem kw_X1_addSignal : lw_tbl[461]? = some (.code yX1_addSignal cX1_addSignal 5 (some (.object "CreditLink$Row"))) := by rfl
set_option maxRecDepth 100000 in
theorem kw_X1_sendOn : lw_tbl[539]? = some (.code yX1_sendOn cX1_sendOn 3 none) := by rfl
set_option maxRecDepth 100000 in
theorem kw_X1_hasUnit : lw_tbl[551]? = some (.code yX1_hasUnit cX1_hasUnit 1 (some .boolean)) := by rfl
set_option maxRecDepth 100000 in
theorem kw_X1_beginSignal : lw_tbl[555]? = some (.code yX1_beginSignal cX1_beginSignal 2 (some .boolean)) := by rfl
set_option maxRecDepth 100000 in
theorem kw_X1_beginSegment : lw_tbl[583]? = some (.code yX1_beginSegment cX1_beginSegment 3 (some .boolean)) := by rfl
set_option maxRecDepth 100000 in
theorem kw_X1_gather : lw_tbl[695]? = some (.code yX1_gather cX1_gather 4 (some .boolean)) := by rfl
set_option maxRecDepth 100000 in
theorem kw_X1_dropGathered : lw_tbl[699]? = some (.code yX1_dropGathered cX1_dropGathered 1 none) := by rfl
set_option maxRecDepth 100000 in
theorem kw_X1_handleUnit : lw_tbl[707]? = some (.code yX1_handleUnit cX1_handleUnit 2 none) := by rfl
set_option maxRecDepth 100000 in
theorem kw_X1_handleSegment : lw_tbl[778]? = some (.code yX1_handleSegment cX1_handleSegment 3 none) := by rfl
set_option maxRecDepth 100000 in
theorem kw_X1_handleSignal : lw_tbl[711]? = some (.code yX1_handleSignal cX1_handleSignal 4 none) := by rfl
set_option maxRecDepth 100000 in
theorem kw_X1_isSignal : lw_tbl[715]? = some (.code yX1_isSignal cX1_isSignal 2 (some .boolean)) := by rfl
set_option maxRecDepth 100000 in
theorem kw_X1_told : lw_tbl[723]? = some (.code yX1_told cX1_told 2 (some .int)) := by rfl
set_option maxRecDepth 100000 in
theorem kw_X1_onRequest : lw_tbl[719]? = some (.code yX1_onRequest cX1_onRequest 7 none) := by rfl
set_option maxRecDepth 100000 in
theorem kw_X1_judgeRequest : lw_tbl[727]? = some (.code yX1_judgeRequest cX1_judgeRequest 6 (some .int)) := by rfl
set_option maxRecDepth 100000 in
theorem kw_X1_onAnswer : lw_tbl[746]? = some (.code yX1_onAnswer cX1_onAnswer 4 none) := by rfl
set_option maxRecDepth 100000 in
theorem kw_X1_onCredit : lw_tbl[759]? = some (.code yX1_onCredit cX1_onCredit 3 none) := by rfl
set_option maxRecDepth 100000 in
theorem kw_X1_onLeave : lw_tbl[765]? = some (.code yX1_onLeave cX1_onLeave 3 none) := by rfl
set_option maxRecDepth 100000 in
theorem kw_X1_onLeft : lw_tbl[770]? = some (.code yX1_onLeft cX1_onLeft 2 none) := by rfl
set_option maxRecDepth 100000 in
theorem kw_X1_onReject : lw_tbl[774]? = some (.code yX1_onReject cX1_onReject 3 none) := by rfl
set_option maxRecDepth 100000 in
theorem kw_X1_firstClosed : lw_tbl[445]? = some (.code yX1_firstClosed cX1_firstClosed 2 (some (.object "CreditLink$Channel"))) := by rfl
set_option maxRecDepth 100000 in
theorem kw_X1_firstBySignal : lw_tbl[750]? = some (.code yX1_firstBySignal cX1_firstBySignal 6 (some (.object "CreditLink$Channel"))) := by rfl
set_option maxRecDepth 100000 in
theorem kw_X2_init : lw_tbl[212]? = some (.code yX2_init cX2_init 1 none) := by rfl
set_option maxRecDepth 100000 in
theorem kw_X3_init : lw_tbl[113]? = some (.code yX3_init cX3_init 2 none) := by rfl
set_option maxRecDepth 100000 in
theorem kw_X3_clear : lw_tbl[342]? = some (.code yX3_clear cX3_clear 1 none) := by rfl
set_option maxRecDepth 100000 in
theorem kw_X3_add : lw_tbl[465]? = some (.code yX3_add cX3_add 2 none) := by rfl
set_option maxRecDepth 100000 in
theorem kw_X3_addNumber : lw_tbl[469]? = some (.code yX3_addNumber cX3_addNumber 2 none) := by rfl
set_option maxRecDepth 100000 in
theorem kw_X3_addPart : lw_tbl[579]? = some (.code yX3_addPart cX3_addPart 6 none) := by rfl
set_option maxRecDepth 100000 in
theorem kw_X3_at : lw_tbl[350]? = some (.code yX3_at cX3_at 2 (some .int)) := by rfl
set_option maxRecDepth 100000 in
theorem kw_X3_numberAt : lw_tbl[703]? = some (.code yX3_numberAt cX3_numberAt 2 (some .int)) := by rfl
set_option maxRecDepth 100000 in
theorem kw_X4_init : lw_tbl[106]? = some (.code yX4_init cX4_init 4 none) := by rfl
set_option maxRecDepth 100000 in
theorem kw_X4_clear : lw_tbl[453]? = some (.code yX4_clear cX4_clear 1 none) := by rfl
set_option maxRecDepth 100000 in
theorem kw_X4_first : lw_tbl[595]? = some (.code yX4_first cX4_first 1 (some (.object "CreditLink$Row"))) := by rfl
set_option maxRecDepth 100000 in
theorem kw_X4_addEmpty : lw_tbl[651]? = some (.code yX4_addEmpty cX4_addEmpty 3 (some (.object "CreditLink$Row"))) := by rfl
set_option maxRecDepth 100000 in
theorem kw_X4_dropFirst : lw_tbl[602]? = some (.code yX4_dropFirst cX4_dropFirst 1 none) := by rfl
set_option maxRecDepth 100000 in
theorem kw_X5_init : lw_tbl[205]? = some (.code yX5_init cX5_init 2 none) := by rfl
set_option maxRecDepth 100000 in
theorem kw_X5_hasRoomFor : lw_tbl[547]? = some (.code yX5_hasRoomFor cX5_hasRoomFor 2 (some .boolean)) := by rfl
set_option maxRecDepth 100000 in
theorem kw_X5_freeBuffers : lw_tbl[543]? = some (.code yX5_freeBuffers cX5_freeBuffers 1 (some .int)) := by rfl
set_option maxRecDepth 100000 in
theorem kw_X5_firstPacket : lw_tbl[691]? = some (.code yX5_firstPacket cX5_firstPacket 1 (some (.object "CreditLink$Packet"))) := by rfl
set_option maxRecDepth 100000 in
theorem kw_X5_put : lw_tbl[606]? = some (.code yX5_put cX5_put 5 none) := by rfl
set_option maxRecDepth 100000 in
theorem kw_X5_dropFirst : lw_tbl[791]? = some (.code yX5_dropFirst cX5_dropFirst 1 (some .boolean)) := by rfl
set_option maxRecDepth 100000 in
theorem kw_X6_init : lw_tbl[84]? = some (.code yX6_init cX6_init 2 none) := by rfl
set_option maxRecDepth 100000 in
theorem kw_X6_service : lw_tbl[358]? = some (.code yX6_service cX6_service 6 none) := by rfl
set_option maxRecDepth 100000 in
theorem kw_X6_connect : lw_tbl[437]? = some (.code yX6_connect cX6_connect 7 (some .int)) := by rfl
set_option maxRecDepth 100000 in
theorem kw_X6_feed : lw_tbl[617]? = some (.code yX6_feed cX6_feed 8 (some .int)) := by rfl
set_option maxRecDepth 100000 in
theorem kw_X6_erase : lw_tbl[338]? = some (.code yX6_erase cX6_erase 2 (some .int)) := by rfl
set_option maxRecDepth 100000 in
theorem kw_X6_send : lw_tbl[640]? = some (.code yX6_send cX6_send 5 (some .int)) := by rfl
set_option maxRecDepth 100000 in
theorem kw_X6_grant : lw_tbl[659]? = some (.code yX6_grant cX6_grant 5 (some .int)) := by rfl
set_option maxRecDepth 100000 in
theorem kw_X6_leave : lw_tbl[671]? = some (.code yX6_leave cX6_leave 4 none) := by rfl
set_option maxRecDepth 100000 in
theorem kw_X6_take : lw_tbl[687]? = some (.code yX6_take cX6_take 5 (some .int)) := by rfl
set_option maxRecDepth 100000 in
theorem kw_X6_lose : lw_tbl[798]? = some (.code yX6_lose cX6_lose 3 (some .boolean)) := by rfl
set_option maxRecDepth 100000 in
theorem kw_X6_inject : lw_tbl[805]? = some (.code yX6_inject cX6_inject 7 (some .int)) := by rfl
set_option maxRecDepth 100000 in
theorem kw_X6_receive : lw_tbl[816]? = some (.code yX6_receive cX6_receive 5 (some .int)) := by rfl
set_option maxRecDepth 100000 in
theorem kw_X6_octet : lw_tbl[346]? = some (.code yX6_octet cX6_octet 2 (some .int)) := by rfl
set_option maxRecDepth 100000 in
theorem kw_X6_channel : lw_tbl[825]? = some (.code yX6_channel cX6_channel 5 (some .int)) := by rfl
set_option maxRecDepth 100000 in
theorem kw_X6_count : lw_tbl[832]? = some (.code yX6_count cX6_count 4 (some .int)) := by rfl
set_option maxRecDepth 100000 in
theorem kw_X6_isHost : lw_tbl[361]? = some (.code yX6_isHost cX6_isHost 1 (some .boolean)) := by rfl
set_option maxRecDepth 100000 in
theorem kw_X6_isChannel : lw_tbl[643]? = some (.code yX6_isChannel cX6_isChannel 1 (some .boolean)) := by rfl
set_option maxRecDepth 100000 in
theorem kw_X6_isOffer : lw_tbl[364]? = some (.code yX6_isOffer cX6_isOffer 4 (some .boolean)) := by rfl
set_option maxRecDepth 100000 in
theorem kw_X6_isFar : lw_tbl[734]? = some (.code yX6_isFar cX6_isFar 1 (some .boolean)) := by rfl
set_option maxRecDepth 100000 in
theorem kw_X6_sendWhatCanGo : lw_tbl[535]? = some (.code yX6_sendWhatCanGo cX6_sendWhatCanGo 2 none) := by rfl
set_option maxRecDepth 100000 in
theorem kw_X7_init : lw_tbl[839]? = some (.code yX7_init cX7_init 2 none) := by rfl
set_option maxRecDepth 100000 in
theorem kw_X7_thrown : lw_tbl[991]? = some (.code yX7_thrown cX7_thrown 1 (some .int)) := by rfl
set_option maxRecDepth 100000 in
theorem kw_X7_refused : lw_tbl[1002]? = some (.code yX7_refused cX7_refused 2 (some .boolean)) := by rfl
set_option maxRecDepth 100000 in
theorem kw_X7_isIn : lw_tbl[1053]? = some (.code yX7_isIn cX7_isIn 3 (some .boolean)) := by rfl
set_option maxRecDepth 100000 in
theorem kw_X7_isHost : lw_tbl[998]? = some (.code yX7_isHost cX7_isHost 1 (some .boolean)) := by rfl
set_option maxRecDepth 100000 in
theorem kw_X7_isChannel : lw_tbl[1167]? = some (.code yX7_isChannel cX7_isChannel 2 (some .boolean)) := by rfl
set_option maxRecDepth 100000 in
theorem kw_X7_buffersOf : lw_tbl[1101]? = some (.code yX7_buffersOf cX7_buffersOf 4 (some .int)) := by rfl
set_option maxRecDepth 100000 in
theorem kw_X7_post : lw_tbl[1129]? = some (.code yX7_post cX7_post 9 none) := by rfl
set_option maxRecDepth 100000 in
theorem kw_X7_unitHead : lw_tbl[1113]? = some (.code yX7_unitHead cX7_unitHead 5 none) := by rfl
set_option maxRecDepth 100000 in
theorem kw_X7_unitByte : lw_tbl[1117]? = some (.code yX7_unitByte cX7_unitByte 3 none) := by rfl
set_option maxRecDepth 100000 in
theorem kw_X7_beginSignal : lw_tbl[1109]? = some (.code yX7_beginSignal cX7_beginSignal 4 none) := by rfl
set_option maxRecDepth 100000 in
theorem kw_X7_textByte : lw_tbl[1125]? = some (.code yX7_textByte cX7_textByte 3 (some .int)) := by rfl
set_option maxRecDepth 100000 in
theorem kw_X7_beginSegment : lw_tbl[1121]? = some (.code yX7_beginSegment cX7_beginSegment 7 none) := by rfl
set_option maxRecDepth 100000 in
theorem kw_X7_nextChannel : lw_tbl[1105]? = some (.code yX7_nextChannel cX7_nextChannel 4 (some .int)) := by rfl
set_option maxRecDepth 100000 in
theorem kw_X7_sendAll : lw_tbl[1097]? = some (.code yX7_sendAll cX7_sendAll 5 none) := by rfl
set_option maxRecDepth 100000 in
theorem kw_X7_sendBoth : lw_tbl[1093]? = some (.code yX7_sendBoth cX7_sendBoth 1 none) := by rfl
set_option maxRecDepth 100000 in
theorem kw_X7_begin : lw_tbl[1034]? = some (.code yX7_begin cX7_begin 4 none) := by rfl
set_option maxRecDepth 100000 in
theorem kw_X7_two : lw_tbl[1038]? = some (.code yX7_two cX7_two 2 none) := by rfl
set_option maxRecDepth 100000 in
theorem kw_X7_wait : lw_tbl[1042]? = some (.code yX7_wait cX7_wait 4 none) := by rfl
set_option maxRecDepth 100000 in
theorem kw_X7_takeId : lw_tbl[1073]? = some (.code yX7_takeId cX7_takeId 3 (some .int)) := by rfl
set_option maxRecDepth 100000 in
theorem kw_X7_dropTexts : lw_tbl[1069]? = some (.code yX7_dropTexts cX7_dropTexts 2 none) := by rfl
set_option maxRecDepth 100000 in
theorem kw_X7_leaveNow : lw_tbl[1065]? = some (.code yX7_leaveNow cX7_leaveNow 3 none) := by rfl
set_option maxRecDepth 100000 in
theorem kw_X7_close : lw_tbl[1077]? = some (.code yX7_close cX7_close 2 none) := by rfl
set_option maxRecDepth 100000 in
theorem kw_X7_firstClosed : lw_tbl[1057]? = some (.code yX7_firstClosed cX7_firstClosed 3 (some .int)) := by rfl
set_option maxRecDepth 100000 in
theorem kw_X7_reject : lw_tbl[1030]? = some (.code yX7_reject cX7_reject 6 none) := by rfl
set_option maxRecDepth 100000 in
theorem kw_X7_handTwo : lw_tbl[1023]? = some (.code yX7_handTwo cX7_handTwo 2 (some .int)) := by rfl
set_option maxRecDepth 100000 in
theorem kw_X7_isSound : lw_tbl[1026]? = some (.code yX7_isSound cX7_isSound 2 (some .boolean)) := by rfl
set_option maxRecDepth 100000 in
theorem kw_X7_resultOf : lw_tbl[1050]? = some (.code yX7_resultOf cX7_resultOf 7 (some .int)) := by rfl
set_option maxRecDepth 100000 in
theorem kw_X7_request : lw_tbl[1046]? = some (.code yX7_request cX7_request 7 none) := by rfl
set_option maxRecDepth 100000 in
theorem kw_X7_response : lw_tbl[1085]? = some (.code yX7_response cX7_response 3 none) := by rfl
set_option maxRecDepth 100000 in
theorem kw_X7_credit : lw_tbl[1061]? = some (.code yX7_credit cX7_credit 4 none) := by rfl
set_option maxRecDepth 100000 in
theorem kw_X7_signal : lw_tbl[1019]? = some (.code yX7_signal cX7_signal 8 none) := by rfl
set_option maxRecDepth 100000 in
theorem kw_X7_byId : lw_tbl[1081]? = some (.code yX7_byId cX7_byId 5 none) := by rfl
set_option maxRecDepth 100000 in
theorem kw_X7_segment : lw_tbl[1089]? = some (.code yX7_segment cX7_segment 9 none) := by rfl
set_option maxRecDepth 100000 in
theorem kw_X7_unit : lw_tbl[1015]? = some (.code yX7_unit cX7_unit 6 none) := by rfl
set_option maxRecDepth 100000 in
theorem kw_X7_shift : lw_tbl[1006]? = some (.code yX7_shift cX7_shift 6 (some .int)) := by rfl
set_option maxRecDepth 100000 in
theorem kw_X7_gather : lw_tbl[1010]? = some (.code yX7_gather cX7_gather 6 none) := by rfl
set_option maxRecDepth 100000 in
theorem kw_X7_take : lw_tbl[995]? = some (.code yX7_take cX7_take 4 (some .int)) := by rfl
set_option maxRecDepth 100000 in
theorem kw_X7_lose : lw_tbl[1133]? = some (.code yX7_lose cX7_lose 2 (some .boolean)) := by rfl
set_option maxRecDepth 100000 in
theorem kw_X7_inject : lw_tbl[1137]? = some (.code yX7_inject cX7_inject 12 (some .int)) := by rfl
set_option maxRecDepth 100000 in
theorem kw_X7_isTold : lw_tbl[1144]? = some (.code yX7_isTold cX7_isTold 5 (some .boolean)) := by rfl
set_option maxRecDepth 100000 in
theorem kw_X7_service : lw_tbl[1141]? = some (.code yX7_service cX7_service 6 none) := by rfl
set_option maxRecDepth 100000 in
theorem kw_X7_connect : lw_tbl[1148]? = some (.code yX7_connect cX7_connect 7 (some .int)) := by rfl
set_option maxRecDepth 100000 in
theorem kw_X7_feed : lw_tbl[1152]? = some (.code yX7_feed cX7_feed 8 (some .int)) := by rfl
set_option maxRecDepth 100000 in
theorem kw_X7_erase : lw_tbl[1156]? = some (.code yX7_erase cX7_erase 2 (some .int)) := by rfl
set_option maxRecDepth 100000 in
theorem kw_X7_wrong : lw_tbl[1164]? = some (.code yX7_wrong cX7_wrong 4 (some .int)) := by rfl
set_option maxRecDepth 100000 in
theorem kw_X7_send : lw_tbl[1160]? = some (.code yX7_send cX7_send 6 (some .int)) := by rfl
set_option maxRecDepth 100000 in
theorem kw_X7_grant : lw_tbl[1171]? = some (.code yX7_grant cX7_grant 5 (some .int)) := by rfl
set_option maxRecDepth 100000 in
theorem kw_X7_leave : lw_tbl[1175]? = some (.code yX7_leave cX7_leave 3 none) := by rfl
set_option maxRecDepth 100000 in
theorem kw_X7_receive : lw_tbl[1179]? = some (.code yX7_receive cX7_receive 7 (some .int)) := by rfl
set_option maxRecDepth 100000 in
theorem kw_X7_octet : lw_tbl[1183]? = some (.code yX7_octet cX7_octet 2 (some .int)) := by rfl
set_option maxRecDepth 100000 in
theorem kw_X7_channel : lw_tbl[1187]? = some (.code yX7_channel cX7_channel 5 (some .int)) := by rfl
set_option maxRecDepth 100000 in
theorem kw_X7_count : lw_tbl[1191]? = some (.code yX7_count cX7_count 3 (some .int)) := by rfl
set_option maxRecDepth 100000 in
theorem kw_Jxa1e45_init_da8c8 : lw_tbl[255]? = some (.code yJxa1e45_init_da8c8 cJxa1e45_init_da8c8 1 none) := by rfl
set_option maxRecDepth 100000 in
theorem kw_Jxc12de_init_da8c8 : lw_tbl[252]? = some (.code yJxc12de_init_da8c8 cJxc12de_init_da8c8 1 none) := by rfl
set_option maxRecDepth 100000 in
theorem kw_Jx4a65c_init_da8c8 : lw_tbl[249]? = some (.code yJx4a65c_init_da8c8 cJx4a65c_init_da8c8 1 none) := by rfl
set_option maxRecDepth 100000 in
theorem kw_Jx4a65c_grow_92f84 : lw_tbl[489]? = some (.code yJx4a65c_grow_92f84 cJx4a65c_grow_92f84 4 (some (.array (.object "java/lang/Object")))) := by rfl
set_option maxRecDepth 100000 in
theorem kw_Jx4a65c_grow_d5877 : lw_tbl[485]? = some (.code yJx4a65c_grow_d5877 cJx4a65c_grow_d5877 1 (some (.array (.object "java/lang/Object")))) := by rfl
set_option maxRecDepth 100000 in
theorem kw_Jx4a65c_size_8abf5 : lw_tbl[473]? = some (.code yJx4a65c_size_8abf5 cJx4a65c_size_8abf5 1 (some .int)) := by rfl
set_option maxRecDepth 100000 in
theorem kw_Jx4a65c_isEmpty_aae02 : lw_tbl[559]? = some (.code yJx4a65c_isEmpty_aae02 cJx4a65c_isEmpty_aae02 1 (some .boolean)) := by rfl
set_option maxRecDepth 100000 in
theorem kw_Jx4a65c_add_72be8 : lw_tbl[481]? = some (.code yJx4a65c_add_72be8 cJx4a65c_add_72be8 4 none) := by rfl
set_option maxRecDepth 100000 in
theorem kw_Jx4a65c_add_9ea2d : lw_tbl[477]? = some (.code yJx4a65c_add_9ea2d cJx4a65c_add_9ea2d 2 (some .boolean)) := by rfl
set_option maxRecDepth 100000 in
theorem kw_Jx4a65c_remove_915e3 : lw_tbl[563]? = some (.code yJx4a65c_remove_915e3 cJx4a65c_remove_915e3 4 (some (.object "java/lang/Object"))) := by rfl
set_option maxRecDepth 100000 in
theorem kw_Jx4a65c_fastRemove_b59b0 : lw_tbl[573]? = some (.code yJx4a65c_fastRemove_b59b0 cJx4a65c_fastRemove_b59b0 4 none) := by rfl
set_option maxRecDepth 100000 in
theorem kw_J7_copyOf_1904c : lw_tbl[502]? = some (.code yJ7_copyOf_1904c cJ7_copyOf_1904c 2 (some (.array (.object "java/lang/Object")))) := by rfl
set_option maxRecDepth 100000 in
theorem kw_J7_copyOf_6403c : lw_tbl[520]? = some (.code yJ7_copyOf_6403c cJ7_copyOf_6403c 4 (some (.array (.object "java/lang/Object")))) := by rfl
set_option maxRecDepth 100000 in
theorem kw_J15_checkIndex_7cf53 : lw_tbl[566]? = some (.code yJ15_checkIndex_7cf53 cJ15_checkIndex_7cf53 2 (some .int)) := by rfl
set_option maxRecDepth 100000 in
theorem kw_J8_newLength_cabcc : lw_tbl[492]? = some (.code yJ8_newLength_cabcc cJ8_newLength_cabcc 4 (some .int)) := by rfl
set_option maxRecDepth 100000 in
theorem kw_J8_hugeLength_7cf53 : lw_tbl[499]? = some (.code yJ8_hugeLength_7cf53 cJ8_hugeLength_7cf53 3 (some .int)) := by rfl
set_option maxRecDepth 100000 in
theorem kw_J3_checkIndex_8e157 : lw_tbl[569]? = some (.code yJ3_checkIndex_8e157 cJ3_checkIndex_8e157 3 (some .int)) := by rfl
def ev_mdok (q : ev_Md × List ev_I) : Prop := Cond.code q.1.1 q.1.2.1 q.1.2.2.1 q.1.2.2.2.1 ∈ lw_tbl ∧ q.2.all (ev_okb q.1.2.2.2.2.1 q.1.2.2.2.2.2.2.1 q.1.2.1) = true
theorem km_X0_init : ev_mdok ((yX0_init, cX0_init, 2, none, 0, 1, 2, 22, 1184), kc_X0_init) := ⟨List.mem_of_getElem? kw_X0_init, ko_X0_init⟩
theorem km_X0_setOwn : ev_mdok ((yX0_setOwn, cX0_setOwn, 4, none, 0, 3, 1, 0, 0), kc_X0_setOwn) := ⟨List.mem_of_getElem? kw_X0_setOwn, ko_X0_setOwn⟩
theorem km_X0_open : ev_mdok ((yX0_open, cX0_open, 5, none, 0, 4, 1, 0, 0), kc_X0_open) := ⟨List.mem_of_getElem? kw_X0_open, ko_X0_open⟩
theorem km_X0_close : ev_mdok ((yX0_close, cX0_close, 1, none, 0, 0, 1, 0, 0), kc_X0_close) := ⟨List.mem_of_getElem? kw_X0_close, ko_X0_close⟩
theorem km_X0_forgetTexts : ev_mdok ((yX0_forgetTexts, cX0_forgetTexts, 1, none, 0, 0, 1, 0, 0), kc_X0_forgetTexts) := ⟨List.mem_of_getElem? kw_X0_forgetTexts, ko_X0_forgetTexts⟩
theorem km_X0_hasFar : ev_mdok ((yX0_hasFar, cX0_hasFar, 2, (some .boolean), 0, 1, 1, 0, 0), kc_X0_hasFar) := ⟨List.mem_of_getElem? kw_X0_hasFar, ko_X0_hasFar⟩
theorem km_X0_putText : ev_mdok ((yX0_putText, cX0_putText, 3, (some .boolean), 0, 1, 1, 0, 0), kc_X0_putText) := ⟨List.mem_of_getElem? kw_X0_putText, ko_X0_putText⟩
theorem km_X0_hasSegment : ev_mdok ((yX0_hasSegment, cX0_hasSegment, 1, (some .boolean), 0, 0, 1, 0, 0), kc_X0_hasSegment) := ⟨List.mem_of_getElem? kw_X0_hasSegment, ko_X0_hasSegment⟩
theorem km_X0_writeSegment : ev_mdok ((yX0_writeSegment, cX0_writeSegment, 4, none, 0, 1, 1, 0, 0), kc_X0_writeSegment) := ⟨List.mem_of_getElem? kw_X0_writeSegment, ko_X0_writeSegment⟩
theorem km_X0_readSegment : ev_mdok ((yX0_readSegment, cX0_readSegment, 4, (some .boolean), 0, 1, 1, 0, 0), kc_X0_readSegment) := ⟨List.mem_of_getElem? kw_X0_readSegment, ko_X0_readSegment⟩
theorem km_X0_keepWholeText : ev_mdok ((yX0_keepWholeText, cX0_keepWholeText, 2, (some .boolean), 0, 0, 1, 0, 0), kc_X0_keepWholeText) := ⟨List.mem_of_getElem? kw_X0_keepWholeText, ko_X0_keepWholeText⟩
theorem km_X1_init : ev_mdok ((yX1_init, cX1_init, 2, none, 1, 0, 2, 199, 9385), kc_X1_init) := ⟨List.mem_of_getElem? kw_X1_init, ko_X1_init⟩
theorem km_X1_tellService : ev_mdok ((yX1_tellService, cX1_tellService, 5, none, 1, 4, 1, 0, 0), kc_X1_tellService) := ⟨List.mem_of_getElem? kw_X1_tellService, ko_X1_tellService⟩
theorem km_X1_hasService : ev_mdok ((yX1_hasService, cX1_hasService, 2, (some .boolean), 1, 1, 1, 0, 0), kc_X1_hasService) := ⟨List.mem_of_getElem? kw_X1_hasService, ko_X1_hasService⟩
theorem km_X1_ask : ev_mdok ((yX1_ask, cX1_ask, 7, (some .int), 1, 4, 1, 3, 730), kc_X1_ask) := ⟨List.mem_of_getElem? kw_X1_ask, ko_X1_ask⟩
theorem km_X1_giveCredits : ev_mdok ((yX1_giveCredits, cX1_giveCredits, 4, none, 1, 2, 1, 3, 730), kc_X1_giveCredits) := ⟨List.mem_of_getElem? kw_X1_giveCredits, ko_X1_giveCredits⟩
theorem km_X1_beginLeaving : ev_mdok ((yX1_beginLeaving, cX1_beginLeaving, 3, none, 1, 1, 1, 3, 730), kc_X1_beginLeaving) := ⟨List.mem_of_getElem? kw_X1_beginLeaving, ko_X1_beginLeaving⟩
theorem km_X1_nextId : ev_mdok ((yX1_nextId, cX1_nextId, 1, (some .int), 1, 0, 1, 0, 0), kc_X1_nextId) := ⟨List.mem_of_getElem? kw_X1_nextId, ko_X1_nextId⟩
theorem km_X1_addSignal : ev_mdok ((yX1_addSignal, cX1_addSignal, 5, (some (.object "CreditLink$Row")), 1, 3, 1, 3, 730), kc_X1_addSignal) := ⟨List.mem_of_getElem? kw_X1_addSignal, ko_X1_addSignal⟩
theorem km_X1_sendOn : ev_mdok ((yX1_sendOn, cX1_sendOn, 3, none, 1, 1, 1, 0, 0), kc_X1_sendOn) := ⟨List.mem_of_getElem? kw_X1_sendOn, ko_X1_sendOn⟩
theorem km_X1_hasUnit : ev_mdok ((yX1_hasUnit, cX1_hasUnit, 1, (some .boolean), 1, 0, 1, 0, 0), kc_X1_hasUnit) := ⟨List.mem_of_getElem? kw_X1_hasUnit, ko_X1_hasUnit⟩
theorem km_X1_beginSignal : ev_mdok ((yX1_beginSignal, cX1_beginSignal, 2, (some .boolean), 1, 0, 1, 0, 0), kc_X1_beginSignal) := ⟨List.mem_of_getElem? kw_X1_beginSignal, ko_X1_beginSignal⟩
theorem km_X1_beginSegment : ev_mdok ((yX1_beginSegment, cX1_beginSegment, 3, (some .boolean), 1, 0, 1, 0, 0), kc_X1_beginSegment) := ⟨List.mem_of_getElem? kw_X1_beginSegment, ko_X1_beginSegment⟩
theorem km_X1_gather : ev_mdok ((yX1_gather, cX1_gather, 4, (some .boolean), 1, 1, 1, 0, 0), kc_X1_gather) := ⟨List.mem_of_getElem? kw_X1_gather, ko_X1_gather⟩
theorem km_X1_dropGathered : ev_mdok ((yX1_dropGathered, cX1_dropGathered, 1, none, 1, 0, 1, 0, 0), kc_X1_dropGathered) := ⟨List.mem_of_getElem? kw_X1_dropGathered, ko_X1_dropGathered⟩
theorem km_X1_handleUnit : ev_mdok ((yX1_handleUnit, cX1_handleUnit, 2, none, 1, 0, 1, 3, 730), kc_X1_handleUnit) := ⟨List.mem_of_getElem? kw_X1_handleUnit, ko_X1_handleUnit⟩
theorem km_X1_handleSegment : ev_mdok ((yX1_handleSegment, cX1_handleSegment, 3, none, 1, 1, 1, 3, 730), kc_X1_handleSegment) := ⟨List.mem_of_getElem? kw_X1_handleSegment, ko_X1_handleSegment⟩
theorem km_X1_handleSignal : ev_mdok ((yX1_handleSignal, cX1_handleSignal, 4, none, 1, 0, 1, 3, 730), kc_X1_handleSignal) := ⟨List.mem_of_getElem? kw_X1_handleSignal, ko_X1_handleSignal⟩
theorem km_X1_isSignal : ev_mdok ((yX1_isSignal, cX1_isSignal, 2, (some .boolean), 1, 2, 0, 0, 0), kc_X1_isSignal) := ⟨List.mem_of_getElem? kw_X1_isSignal, ko_X1_isSignal⟩
theorem km_X1_told : ev_mdok ((yX1_told, cX1_told, 2, (some .int), 1, 1, 1, 0, 0), kc_X1_told) := ⟨List.mem_of_getElem? kw_X1_told, ko_X1_told⟩
theorem km_X1_onRequest : ev_mdok ((yX1_onRequest, cX1_onRequest, 7, none, 1, 1, 1, 3, 730), kc_X1_onRequest) := ⟨List.mem_of_getElem? kw_X1_onRequest, ko_X1_onRequest⟩
theorem km_X1_judgeRequest : ev_mdok ((yX1_judgeRequest, cX1_judgeRequest, 6, (some .int), 1, 4, 1, 0, 0), kc_X1_judgeRequest) := ⟨List.mem_of_getElem? kw_X1_judgeRequest, ko_X1_judgeRequest⟩
theorem km_X1_onAnswer : ev_mdok ((yX1_onAnswer, cX1_onAnswer, 4, none, 1, 1, 1, 0, 0), kc_X1_onAnswer) := ⟨List.mem_of_getElem? kw_X1_onAnswer, ko_X1_onAnswer⟩
theorem km_X1_onCredit : ev_mdok ((yX1_onCredit, cX1_onCredit, 3, none, 1, 0, 1, 3, 730), kc_X1_onCredit) := ⟨List.mem_of_getElem? kw_X1_onCredit, ko_X1_onCredit⟩
theorem km_X1_onLeave : ev_mdok ((yX1_onLeave, cX1_onLeave, 3, none, 1, 1, 1, 3, 730), kc_X1_onLeave) := ⟨List.mem_of_getElem? kw_X1_onLeave, ko_X1_onLeave⟩
theorem km_X1_onLeft : ev_mdok ((yX1_onLeft, cX1_onLeft, 2, none, 1, 0, 1, 0, 0), kc_X1_onLeft) := ⟨List.mem_of_getElem? kw_X1_onLeft, ko_X1_onLeft⟩
theorem km_X1_onReject : ev_mdok ((yX1_onReject, cX1_onReject, 3, none, 1, 1, 1, 0, 0), kc_X1_onReject) := ⟨List.mem_of_getElem? kw_X1_onReject, ko_X1_onReject⟩
theorem km_X1_firstClosed : ev_mdok ((yX1_firstClosed, cX1_firstClosed, 2, (some (.object "CreditLink$Channel")), 1, 0, 1, 0, 0), kc_X1_firstClosed) := ⟨List.mem_of_getElem? kw_X1_firstClosed, ko_X1_firstClosed⟩
theorem km_X1_firstBySignal : ev_mdok ((yX1_firstBySignal, cX1_firstBySignal, 6, (some (.object "CreditLink$Channel")), 1, 2, 1, 0, 0), kc_X1_firstBySignal) := ⟨List.mem_of_getElem? kw_X1_firstBySignal, ko_X1_firstBySignal⟩
theorem km_X2_init : ev_mdok ((yX2_init, cX2_init, 1, none, 2, 0, 2, 2, 130), kc_X2_init) := ⟨List.mem_of_getElem? kw_X2_init, ko_X2_init⟩
theorem km_X3_init : ev_mdok ((yX3_init, cX3_init, 2, none, 3, 1, 2, 1, 128), kc_X3_init) := ⟨List.mem_of_getElem? kw_X3_init, ko_X3_init⟩
theorem km_X3_clear : ev_mdok ((yX3_clear, cX3_clear, 1, none, 3, 0, 1, 0, 0), kc_X3_clear) := ⟨List.mem_of_getElem? kw_X3_clear, ko_X3_clear⟩
theorem km_X3_add : ev_mdok ((yX3_add, cX3_add, 2, none, 3, 1, 1, 0, 0), kc_X3_add) := ⟨List.mem_of_getElem? kw_X3_add, ko_X3_add⟩
theorem km_X3_addNumber : ev_mdok ((yX3_addNumber, cX3_addNumber, 2, none, 3, 1, 1, 0, 0), kc_X3_addNumber) := ⟨List.mem_of_getElem? kw_X3_addNumber, ko_X3_addNumber⟩
theorem km_X3_addPart : ev_mdok ((yX3_addPart, cX3_addPart, 6, none, 3, 3, 1, 0, 0), kc_X3_addPart) := ⟨List.mem_of_getElem? kw_X3_addPart, ko_X3_addPart⟩
theorem km_X3_at : ev_mdok ((yX3_at, cX3_at, 2, (some .int), 3, 1, 1, 0, 0), kc_X3_at) := ⟨List.mem_of_getElem? kw_X3_at, ko_X3_at⟩
theorem km_X3_numberAt : ev_mdok ((yX3_numberAt, cX3_numberAt, 2, (some .int), 3, 1, 1, 0, 0), kc_X3_numberAt) := ⟨List.mem_of_getElem? kw_X3_numberAt, ko_X3_numberAt⟩
theorem km_X4_init : ev_mdok ((yX4_init, cX4_init, 4, none, 4, 2, 2, 9, 524), kc_X4_init) := ⟨List.mem_of_getElem? kw_X4_init, ko_X4_init⟩
theorem km_X4_clear : ev_mdok ((yX4_clear, cX4_clear, 1, none, 4, 0, 1, 0, 0), kc_X4_clear) := ⟨List.mem_of_getElem? kw_X4_clear, ko_X4_clear⟩
theorem km_X4_first : ev_mdok ((yX4_first, cX4_first, 1, (some (.object "CreditLink$Row")), 4, 0, 1, 0, 0), kc_X4_first) := ⟨List.mem_of_getElem? kw_X4_first, ko_X4_first⟩
theorem km_X4_addEmpty : ev_mdok ((yX4_addEmpty, cX4_addEmpty, 3, (some (.object "CreditLink$Row")), 4, 0, 1, 0, 0), kc_X4_addEmpty) := ⟨List.mem_of_getElem? kw_X4_addEmpty, ko_X4_addEmpty⟩
theorem km_X4_dropFirst : ev_mdok ((yX4_dropFirst, cX4_dropFirst, 1, none, 4, 0, 1, 0, 0), kc_X4_dropFirst) := ⟨List.mem_of_getElem? kw_X4_dropFirst, ko_X4_dropFirst⟩
theorem km_X5_init : ev_mdok ((yX5_init, cX5_init, 2, none, 5, 0, 2, 97, 4288), kc_X5_init) := ⟨List.mem_of_getElem? kw_X5_init, ko_X5_init⟩
theorem km_X5_hasRoomFor : ev_mdok ((yX5_hasRoomFor, cX5_hasRoomFor, 2, (some .boolean), 5, 1, 1, 0, 0), kc_X5_hasRoomFor) := ⟨List.mem_of_getElem? kw_X5_hasRoomFor, ko_X5_hasRoomFor⟩
theorem km_X5_freeBuffers : ev_mdok ((yX5_freeBuffers, cX5_freeBuffers, 1, (some .int), 5, 0, 1, 0, 0), kc_X5_freeBuffers) := ⟨List.mem_of_getElem? kw_X5_freeBuffers, ko_X5_freeBuffers⟩
theorem km_X5_firstPacket : ev_mdok ((yX5_firstPacket, cX5_firstPacket, 1, (some (.object "CreditLink$Packet")), 5, 0, 1, 0, 0), kc_X5_firstPacket) := ⟨List.mem_of_getElem? kw_X5_firstPacket, ko_X5_firstPacket⟩
theorem km_X5_put : ev_mdok ((yX5_put, cX5_put, 5, none, 5, 3, 1, 0, 0), kc_X5_put) := ⟨List.mem_of_getElem? kw_X5_put, ko_X5_put⟩
theorem km_X5_dropFirst : ev_mdok ((yX5_dropFirst, cX5_dropFirst, 1, (some .boolean), 5, 0, 1, 0, 0), kc_X5_dropFirst) := ⟨List.mem_of_getElem? kw_X5_dropFirst, ko_X5_dropFirst⟩
theorem km_X6_init : ev_mdok ((yX6_init, cX6_init, 2, none, 6, 0, 2, 405, 19060), kc_X6_init) := ⟨List.mem_of_getElem? kw_X6_init, ko_X6_init⟩
theorem km_X6_service : ev_mdok ((yX6_service, cX6_service, 6, none, 6, 5, 1, 4, 740), kc_X6_service) := ⟨List.mem_of_getElem? kw_X6_service, ko_X6_service⟩
theorem km_X6_connect : ev_mdok ((yX6_connect, cX6_connect, 7, (some .int), 6, 5, 1, 4, 740), kc_X6_connect) := ⟨List.mem_of_getElem? kw_X6_connect, ko_X6_connect⟩
theorem km_X6_feed : ev_mdok ((yX6_feed, cX6_feed, 8, (some .int), 6, 5, 1, 4, 740), kc_X6_feed) := ⟨List.mem_of_getElem? kw_X6_feed, ko_X6_feed⟩
theorem km_X6_erase : ev_mdok ((yX6_erase, cX6_erase, 2, (some .int), 6, 0, 1, 0, 0), kc_X6_erase) := ⟨List.mem_of_getElem? kw_X6_erase, ko_X6_erase⟩
theorem km_X6_send : ev_mdok ((yX6_send, cX6_send, 5, (some .int), 6, 2, 1, 4, 740), kc_X6_send) := ⟨List.mem_of_getElem? kw_X6_send, ko_X6_send⟩
theorem km_X6_grant : ev_mdok ((yX6_grant, cX6_grant, 5, (some .int), 6, 3, 1, 4, 740), kc_X6_grant) := ⟨List.mem_of_getElem? kw_X6_grant, ko_X6_grant⟩
theorem km_X6_leave : ev_mdok ((yX6_leave, cX6_leave, 4, none, 6, 2, 1, 4, 740), kc_X6_leave) := ⟨List.mem_of_getElem? kw_X6_leave, ko_X6_leave⟩
theorem km_X6_take : ev_mdok ((yX6_take, cX6_take, 5, (some .int), 6, 1, 1, 4, 740), kc_X6_take) := ⟨List.mem_of_getElem? kw_X6_take, ko_X6_take⟩
theorem km_X6_lose : ev_mdok ((yX6_lose, cX6_lose, 3, (some .boolean), 6, 1, 1, 4, 740), kc_X6_lose) := ⟨List.mem_of_getElem? kw_X6_lose, ko_X6_lose⟩
theorem km_X6_inject : ev_mdok ((yX6_inject, cX6_inject, 7, (some .int), 6, 3, 1, 4, 740), kc_X6_inject) := ⟨List.mem_of_getElem? kw_X6_inject, ko_X6_inject⟩
theorem km_X6_receive : ev_mdok ((yX6_receive, cX6_receive, 5, (some .int), 6, 2, 1, 4, 740), kc_X6_receive) := ⟨List.mem_of_getElem? kw_X6_receive, ko_X6_receive⟩
theorem km_X6_octet : ev_mdok ((yX6_octet, cX6_octet, 2, (some .int), 6, 1, 1, 0, 0), kc_X6_octet) := ⟨List.mem_of_getElem? kw_X6_octet, ko_X6_octet⟩
theorem km_X6_channel : ev_mdok ((yX6_channel, cX6_channel, 5, (some .int), 6, 3, 1, 4, 740), kc_X6_channel) := ⟨List.mem_of_getElem? kw_X6_channel, ko_X6_channel⟩
theorem km_X6_count : ev_mdok ((yX6_count, cX6_count, 4, (some .int), 6, 2, 1, 4, 740), kc_X6_count) := ⟨List.mem_of_getElem? kw_X6_count, ko_X6_count⟩
theorem km_X6_isHost : ev_mdok ((yX6_isHost, cX6_isHost, 1, (some .boolean), 6, 1, 0, 0, 0), kc_X6_isHost) := ⟨List.mem_of_getElem? kw_X6_isHost, ko_X6_isHost⟩
theorem km_X6_isChannel : ev_mdok ((yX6_isChannel, cX6_isChannel, 1, (some .boolean), 6, 1, 0, 0, 0), kc_X6_isChannel) := ⟨List.mem_of_getElem? kw_X6_isChannel, ko_X6_isChannel⟩
theorem km_X6_isOffer : ev_mdok ((yX6_isOffer, cX6_isOffer, 4, (some .boolean), 6, 4, 0, 0, 0), kc_X6_isOffer) := ⟨List.mem_of_getElem? kw_X6_isOffer, ko_X6_isOffer⟩
theorem km_X6_isFar : ev_mdok ((yX6_isFar, cX6_isFar, 1, (some .boolean), 6, 1, 0, 0, 0), kc_X6_isFar) := ⟨List.mem_of_getElem? kw_X6_isFar, ko_X6_isFar⟩
theorem km_X6_sendWhatCanGo : ev_mdok ((yX6_sendWhatCanGo, cX6_sendWhatCanGo, 2, none, 6, 0, 1, 0, 0), kc_X6_sendWhatCanGo) := ⟨List.mem_of_getElem? kw_X6_sendWhatCanGo, ko_X6_sendWhatCanGo⟩
theorem km_X7_init : ev_mdok ((yX7_init, cX7_init, 2, none, 7, 0, 2, 48, 80000), kc_X7_init) := ⟨List.mem_of_getElem? kw_X7_init, ko_X7_init⟩
theorem km_X7_thrown : ev_mdok ((yX7_thrown, cX7_thrown, 1, (some .int), 7, 0, 1, 0, 0), kc_X7_thrown) := ⟨List.mem_of_getElem? kw_X7_thrown, ko_X7_thrown⟩
theorem km_X7_refused : ev_mdok ((yX7_refused, cX7_refused, 2, (some .boolean), 7, 1, 1, 0, 0), kc_X7_refused) := ⟨List.mem_of_getElem? kw_X7_refused, ko_X7_refused⟩
theorem km_X7_isIn : ev_mdok ((yX7_isIn, cX7_isIn, 3, (some .boolean), 7, 3, 0, 0, 0), kc_X7_isIn) := ⟨List.mem_of_getElem? kw_X7_isIn, ko_X7_isIn⟩
theorem km_X7_isHost : ev_mdok ((yX7_isHost, cX7_isHost, 1, (some .boolean), 7, 1, 0, 0, 0), kc_X7_isHost) := ⟨List.mem_of_getElem? kw_X7_isHost, ko_X7_isHost⟩
theorem km_X7_isChannel : ev_mdok ((yX7_isChannel, cX7_isChannel, 2, (some .boolean), 7, 2, 0, 0, 0), kc_X7_isChannel) := ⟨List.mem_of_getElem? kw_X7_isChannel, ko_X7_isChannel⟩
theorem km_X7_buffersOf : ev_mdok ((yX7_buffersOf, cX7_buffersOf, 4, (some .int), 7, 1, 1, 0, 0), kc_X7_buffersOf) := ⟨List.mem_of_getElem? kw_X7_buffersOf, ko_X7_buffersOf⟩
theorem km_X7_post : ev_mdok ((yX7_post, cX7_post, 9, none, 7, 6, 1, 0, 0), kc_X7_post) := ⟨List.mem_of_getElem? kw_X7_post, ko_X7_post⟩
theorem km_X7_unitHead : ev_mdok ((yX7_unitHead, cX7_unitHead, 5, none, 7, 3, 1, 0, 0), kc_X7_unitHead) := ⟨List.mem_of_getElem? kw_X7_unitHead, ko_X7_unitHead⟩
theorem km_X7_unitByte : ev_mdok ((yX7_unitByte, cX7_unitByte, 3, none, 7, 2, 1, 0, 0), kc_X7_unitByte) := ⟨List.mem_of_getElem? kw_X7_unitByte, ko_X7_unitByte⟩
theorem km_X7_beginSignal : ev_mdok ((yX7_beginSignal, cX7_beginSignal, 4, none, 7, 1, 1, 0, 0), kc_X7_beginSignal) := ⟨List.mem_of_getElem? kw_X7_beginSignal, ko_X7_beginSignal⟩
theorem km_X7_textByte : ev_mdok ((yX7_textByte, cX7_textByte, 3, (some .int), 7, 2, 1, 0, 0), kc_X7_textByte) := ⟨List.mem_of_getElem? kw_X7_textByte, ko_X7_textByte⟩
theorem km_X7_beginSegment : ev_mdok ((yX7_beginSegment, cX7_beginSegment, 7, none, 7, 2, 1, 0, 0), kc_X7_beginSegment) := ⟨List.mem_of_getElem? kw_X7_beginSegment, ko_X7_beginSegment⟩
theorem km_X7_nextChannel : ev_mdok ((yX7_nextChannel, cX7_nextChannel, 4, (some .int), 7, 1, 1, 0, 0), kc_X7_nextChannel) := ⟨List.mem_of_getElem? kw_X7_nextChannel, ko_X7_nextChannel⟩
theorem km_X7_sendAll : ev_mdok ((yX7_sendAll, cX7_sendAll, 5, none, 7, 1, 1, 0, 0), kc_X7_sendAll) := ⟨List.mem_of_getElem? kw_X7_sendAll, ko_X7_sendAll⟩
theorem km_X7_sendBoth : ev_mdok ((yX7_sendBoth, cX7_sendBoth, 1, none, 7, 0, 1, 0, 0), kc_X7_sendBoth) := ⟨List.mem_of_getElem? kw_X7_sendBoth, ko_X7_sendBoth⟩
theorem km_X7_begin : ev_mdok ((yX7_begin, cX7_begin, 4, none, 7, 3, 1, 0, 0), kc_X7_begin) := ⟨List.mem_of_getElem? kw_X7_begin, ko_X7_begin⟩
theorem km_X7_two : ev_mdok ((yX7_two, cX7_two, 2, none, 7, 1, 1, 0, 0), kc_X7_two) := ⟨List.mem_of_getElem? kw_X7_two, ko_X7_two⟩
theorem km_X7_wait : ev_mdok ((yX7_wait, cX7_wait, 4, none, 7, 1, 1, 0, 0), kc_X7_wait) := ⟨List.mem_of_getElem? kw_X7_wait, ko_X7_wait⟩
theorem km_X7_takeId : ev_mdok ((yX7_takeId, cX7_takeId, 3, (some .int), 7, 1, 1, 0, 0), kc_X7_takeId) := ⟨List.mem_of_getElem? kw_X7_takeId, ko_X7_takeId⟩
theorem km_X7_dropTexts : ev_mdok ((yX7_dropTexts, cX7_dropTexts, 2, none, 7, 1, 1, 0, 0), kc_X7_dropTexts) := ⟨List.mem_of_getElem? kw_X7_dropTexts, ko_X7_dropTexts⟩
theorem km_X7_leaveNow : ev_mdok ((yX7_leaveNow, cX7_leaveNow, 3, none, 7, 2, 1, 0, 0), kc_X7_leaveNow) := ⟨List.mem_of_getElem? kw_X7_leaveNow, ko_X7_leaveNow⟩
theorem km_X7_close : ev_mdok ((yX7_close, cX7_close, 2, none, 7, 1, 1, 0, 0), kc_X7_close) := ⟨List.mem_of_getElem? kw_X7_close, ko_X7_close⟩
theorem km_X7_firstClosed : ev_mdok ((yX7_firstClosed, cX7_firstClosed, 3, (some .int), 7, 1, 1, 0, 0), kc_X7_firstClosed) := ⟨List.mem_of_getElem? kw_X7_firstClosed, ko_X7_firstClosed⟩
theorem km_X7_reject : ev_mdok ((yX7_reject, cX7_reject, 6, none, 7, 4, 1, 0, 0), kc_X7_reject) := ⟨List.mem_of_getElem? kw_X7_reject, ko_X7_reject⟩
theorem km_X7_handTwo : ev_mdok ((yX7_handTwo, cX7_handTwo, 2, (some .int), 7, 1, 1, 0, 0), kc_X7_handTwo) := ⟨List.mem_of_getElem? kw_X7_handTwo, ko_X7_handTwo⟩
theorem km_X7_isSound : ev_mdok ((yX7_isSound, cX7_isSound, 2, (some .boolean), 7, 2, 0, 0, 0), kc_X7_isSound) := ⟨List.mem_of_getElem? kw_X7_isSound, ko_X7_isSound⟩
theorem km_X7_resultOf : ev_mdok ((yX7_resultOf, cX7_resultOf, 7, (some .int), 7, 5, 1, 0, 0), kc_X7_resultOf) := ⟨List.mem_of_getElem? kw_X7_resultOf, ko_X7_resultOf⟩
theorem km_X7_request : ev_mdok ((yX7_request, cX7_request, 7, none, 7, 2, 1, 0, 0), kc_X7_request) := ⟨List.mem_of_getElem? kw_X7_request, ko_X7_request⟩
theorem km_X7_response : ev_mdok ((yX7_response, cX7_response, 3, none, 7, 1, 1, 0, 0), kc_X7_response) := ⟨List.mem_of_getElem? kw_X7_response, ko_X7_response⟩
theorem km_X7_credit : ev_mdok ((yX7_credit, cX7_credit, 4, none, 7, 1, 1, 0, 0), kc_X7_credit) := ⟨List.mem_of_getElem? kw_X7_credit, ko_X7_credit⟩
theorem km_X7_signal : ev_mdok ((yX7_signal, cX7_signal, 8, none, 7, 2, 1, 0, 0), kc_X7_signal) := ⟨List.mem_of_getElem? kw_X7_signal, ko_X7_signal⟩
theorem km_X7_byId : ev_mdok ((yX7_byId, cX7_byId, 5, none, 7, 3, 1, 0, 0), kc_X7_byId) := ⟨List.mem_of_getElem? kw_X7_byId, ko_X7_byId⟩
theorem km_X7_segment : ev_mdok ((yX7_segment, cX7_segment, 9, none, 7, 4, 1, 0, 0), kc_X7_segment) := ⟨List.mem_of_getElem? kw_X7_segment, ko_X7_segment⟩
theorem km_X7_unit : ev_mdok ((yX7_unit, cX7_unit, 6, none, 7, 1, 1, 0, 0), kc_X7_unit) := ⟨List.mem_of_getElem? kw_X7_unit, ko_X7_unit⟩
theorem km_X7_shift : ev_mdok ((yX7_shift, cX7_shift, 6, (some .int), 7, 1, 1, 0, 0), kc_X7_shift) := ⟨List.mem_of_getElem? kw_X7_shift, ko_X7_shift⟩
theorem km_X7_gather : ev_mdok ((yX7_gather, cX7_gather, 6, none, 7, 3, 1, 0, 0), kc_X7_gather) := ⟨List.mem_of_getElem? kw_X7_gather, ko_X7_gather⟩
theorem km_X7_take : ev_mdok ((yX7_take, cX7_take, 4, (some .int), 7, 1, 1, 0, 0), kc_X7_take) := ⟨List.mem_of_getElem? kw_X7_take, ko_X7_take⟩
theorem km_X7_lose : ev_mdok ((yX7_lose, cX7_lose, 2, (some .boolean), 7, 1, 1, 0, 0), kc_X7_lose) := ⟨List.mem_of_getElem? kw_X7_lose, ko_X7_lose⟩
theorem km_X7_inject : ev_mdok ((yX7_inject, cX7_inject, 12, (some .int), 7, 3, 1, 0, 0), kc_X7_inject) := ⟨List.mem_of_getElem? kw_X7_inject, ko_X7_inject⟩
theorem km_X7_isTold : ev_mdok ((yX7_isTold, cX7_isTold, 5, (some .boolean), 7, 5, 0, 0, 0), kc_X7_isTold) := ⟨List.mem_of_getElem? kw_X7_isTold, ko_X7_isTold⟩
theorem km_X7_service : ev_mdok ((yX7_service, cX7_service, 6, none, 7, 5, 1, 0, 0), kc_X7_service) := ⟨List.mem_of_getElem? kw_X7_service, ko_X7_service⟩
theorem km_X7_connect : ev_mdok ((yX7_connect, cX7_connect, 7, (some .int), 7, 5, 1, 0, 0), kc_X7_connect) := ⟨List.mem_of_getElem? kw_X7_connect, ko_X7_connect⟩
theorem km_X7_feed : ev_mdok ((yX7_feed, cX7_feed, 8, (some .int), 7, 5, 1, 0, 0), kc_X7_feed) := ⟨List.mem_of_getElem? kw_X7_feed, ko_X7_feed⟩
theorem km_X7_erase : ev_mdok ((yX7_erase, cX7_erase, 2, (some .int), 7, 0, 1, 0, 0), kc_X7_erase) := ⟨List.mem_of_getElem? kw_X7_erase, ko_X7_erase⟩
theorem km_X7_wrong : ev_mdok ((yX7_wrong, cX7_wrong, 4, (some .int), 7, 3, 1, 0, 0), kc_X7_wrong) := ⟨List.mem_of_getElem? kw_X7_wrong, ko_X7_wrong⟩
theorem km_X7_send : ev_mdok ((yX7_send, cX7_send, 6, (some .int), 7, 2, 1, 0, 0), kc_X7_send) := ⟨List.mem_of_getElem? kw_X7_send, ko_X7_send⟩
theorem km_X7_grant : ev_mdok ((yX7_grant, cX7_grant, 5, (some .int), 7, 3, 1, 0, 0), kc_X7_grant) := ⟨List.mem_of_getElem? kw_X7_grant, ko_X7_grant⟩
theorem km_X7_leave : ev_mdok ((yX7_leave, cX7_leave, 3, none, 7, 2, 1, 0, 0), kc_X7_leave) := ⟨List.mem_of_getElem? kw_X7_leave, ko_X7_leave⟩
theorem km_X7_receive : ev_mdok ((yX7_receive, cX7_receive, 7, (some .int), 7, 2, 1, 0, 0), kc_X7_receive) := ⟨List.mem_of_getElem? kw_X7_receive, ko_X7_receive⟩
theorem km_X7_octet : ev_mdok ((yX7_octet, cX7_octet, 2, (some .int), 7, 1, 1, 0, 0), kc_X7_octet) := ⟨List.mem_of_getElem? kw_X7_octet, ko_X7_octet⟩
theorem km_X7_channel : ev_mdok ((yX7_channel, cX7_channel, 5, (some .int), 7, 3, 1, 0, 0), kc_X7_channel) := ⟨List.mem_of_getElem? kw_X7_channel, ko_X7_channel⟩
theorem km_X7_count : ev_mdok ((yX7_count, cX7_count, 3, (some .int), 7, 2, 1, 0, 0), kc_X7_count) := ⟨List.mem_of_getElem? kw_X7_count, ko_X7_count⟩
theorem km_Jxa1e45_init_da8c8 : ev_mdok ((yJxa1e45_init_da8c8, cJxa1e45_init_da8c8, 1, none, 10, 0, 2, 0, 0), kc_Jxa1e45_init_da8c8) := ⟨List.mem_of_getElem? kw_Jxa1e45_init_da8c8, ko_Jxa1e45_init_da8c8⟩
theorem km_Jxc12de_init_da8c8 : ev_mdok ((yJxc12de_init_da8c8, cJxc12de_init_da8c8, 1, none, 9, 0, 2, 0, 0), kc_Jxc12de_init_da8c8) := ⟨List.mem_of_getElem? kw_Jxc12de_init_da8c8, ko_Jxc12de_init_da8c8⟩
theorem km_Jx4a65c_init_da8c8 : ev_mdok ((yJx4a65c_init_da8c8, cJx4a65c_init_da8c8, 1, none, 8, 0, 2, 0, 0), kc_Jx4a65c_init_da8c8) := ⟨List.mem_of_getElem? kw_Jx4a65c_init_da8c8, ko_Jx4a65c_init_da8c8⟩
theorem km_Jx4a65c_grow_92f84 : ev_mdok ((yJx4a65c_grow_92f84, cJx4a65c_grow_92f84, 4, (some (.array (.object "java/lang/Object"))), 8, 1, 1, 1, 600), kc_Jx4a65c_grow_92f84) := ⟨List.mem_of_getElem? kw_Jx4a65c_grow_92f84, ko_Jx4a65c_grow_92f84⟩
theorem km_Jx4a65c_grow_d5877 : ev_mdok ((yJx4a65c_grow_d5877, cJx4a65c_grow_d5877, 1, (some (.array (.object "java/lang/Object"))), 8, 0, 1, 1, 600), kc_Jx4a65c_grow_d5877) := ⟨List.mem_of_getElem? kw_Jx4a65c_grow_d5877, ko_Jx4a65c_grow_d5877⟩
theorem km_Jx4a65c_size_8abf5 : ev_mdok ((yJx4a65c_size_8abf5, cJx4a65c_size_8abf5, 1, (some .int), 8, 0, 1, 0, 0), kc_Jx4a65c_size_8abf5) := ⟨List.mem_of_getElem? kw_Jx4a65c_size_8abf5, ko_Jx4a65c_size_8abf5⟩
theorem km_Jx4a65c_isEmpty_aae02 : ev_mdok ((yJx4a65c_isEmpty_aae02, cJx4a65c_isEmpty_aae02, 1, (some .boolean), 8, 0, 1, 0, 0), kc_Jx4a65c_isEmpty_aae02) := ⟨List.mem_of_getElem? kw_Jx4a65c_isEmpty_aae02, ko_Jx4a65c_isEmpty_aae02⟩
theorem km_Jx4a65c_add_72be8 : ev_mdok ((yJx4a65c_add_72be8, cJx4a65c_add_72be8, 4, none, 8, 3, 1, 1, 600), kc_Jx4a65c_add_72be8) := ⟨List.mem_of_getElem? kw_Jx4a65c_add_72be8, ko_Jx4a65c_add_72be8⟩
theorem km_Jx4a65c_add_9ea2d : ev_mdok ((yJx4a65c_add_9ea2d, cJx4a65c_add_9ea2d, 2, (some .boolean), 8, 1, 1, 1, 600), kc_Jx4a65c_add_9ea2d) := ⟨List.mem_of_getElem? kw_Jx4a65c_add_9ea2d, ko_Jx4a65c_add_9ea2d⟩
theorem km_Jx4a65c_remove_915e3 : ev_mdok ((yJx4a65c_remove_915e3, cJx4a65c_remove_915e3, 4, (some (.object "java/lang/Object")), 8, 1, 1, 0, 0), kc_Jx4a65c_remove_915e3) := ⟨List.mem_of_getElem? kw_Jx4a65c_remove_915e3, ko_Jx4a65c_remove_915e3⟩
theorem km_Jx4a65c_fastRemove_b59b0 : ev_mdok ((yJx4a65c_fastRemove_b59b0, cJx4a65c_fastRemove_b59b0, 4, none, 8, 2, 1, 0, 0), kc_Jx4a65c_fastRemove_b59b0) := ⟨List.mem_of_getElem? kw_Jx4a65c_fastRemove_b59b0, ko_Jx4a65c_fastRemove_b59b0⟩
theorem km_J7_copyOf_1904c : ev_mdok ((yJ7_copyOf_1904c, cJ7_copyOf_1904c, 2, (some (.array (.object "java/lang/Object"))), 13, 2, 0, 1, 600), kc_J7_copyOf_1904c) := ⟨List.mem_of_getElem? kw_J7_copyOf_1904c, ko_J7_copyOf_1904c⟩
theorem km_J7_copyOf_6403c : ev_mdok ((yJ7_copyOf_6403c, cJ7_copyOf_6403c, 4, (some (.array (.object "java/lang/Object"))), 13, 3, 0, 1, 600), kc_J7_copyOf_6403c) := ⟨List.mem_of_getElem? kw_J7_copyOf_6403c, ko_J7_copyOf_6403c⟩
theorem km_J15_checkIndex_7cf53 : ev_mdok ((yJ15_checkIndex_7cf53, cJ15_checkIndex_7cf53, 2, (some .int), 11, 2, 0, 0, 0), kc_J15_checkIndex_7cf53) := ⟨List.mem_of_getElem? kw_J15_checkIndex_7cf53, ko_J15_checkIndex_7cf53⟩
theorem km_J8_newLength_cabcc : ev_mdok ((yJ8_newLength_cabcc, cJ8_newLength_cabcc, 4, (some .int), 14, 3, 0, 0, 0), kc_J8_newLength_cabcc) := ⟨List.mem_of_getElem? kw_J8_newLength_cabcc, ko_J8_newLength_cabcc⟩
theorem km_J8_hugeLength_7cf53 : ev_mdok ((yJ8_hugeLength_7cf53, cJ8_hugeLength_7cf53, 3, (some .int), 14, 2, 0, 0, 0), kc_J8_hugeLength_7cf53) := ⟨List.mem_of_getElem? kw_J8_hugeLength_7cf53, ko_J8_hugeLength_7cf53⟩
theorem km_J3_checkIndex_8e157 : ev_mdok ((yJ3_checkIndex_8e157, cJ3_checkIndex_8e157, 3, (some .int), 12, 3, 0, 0, 0), kc_J3_checkIndex_8e157) := ⟨List.mem_of_getElem? kw_J3_checkIndex_8e157, ko_J3_checkIndex_8e157⟩
set_option maxRecDepth 100000 in
theorem ev_ms_ok : ∀ q ∈ ev_ms, ev_mdok q := by
  unfold ev_ms
  exact List.forall_mem_cons.mpr ⟨km_X0_init, List.forall_mem_cons.mpr ⟨km_X0_setOwn, List.forall_mem_cons.mpr ⟨km_X0_open, List.forall_mem_cons.mpr ⟨km_X0_close, List.forall_mem_cons.mpr ⟨km_X0_forgetTexts, List.forall_mem_cons.mpr ⟨km_X0_hasFar, List.forall_mem_cons.mpr ⟨km_X0_putText, List.forall_mem_cons.mpr ⟨km_X0_hasSegment, List.forall_mem_cons.mpr ⟨km_X0_writeSegment, List.forall_mem_cons.mpr ⟨km_X0_readSegment, List.forall_mem_cons.mpr ⟨km_X0_keepWholeText, List.forall_mem_cons.mpr ⟨km_X1_init, List.forall_mem_cons.mpr ⟨km_X1_tellService, List.forall_mem_cons.mpr ⟨km_X1_hasService, List.forall_mem_cons.mpr ⟨km_X1_ask, List.forall_mem_cons.mpr ⟨km_X1_giveCredits, List.forall_mem_cons.mpr ⟨km_X1_beginLeaving, List.forall_mem_cons.mpr ⟨km_X1_nextId, List.forall_mem_cons.mpr ⟨km_X1_addSignal, List.forall_mem_cons.mpr ⟨km_X1_sendOn, List.forall_mem_cons.mpr ⟨km_X1_hasUnit, List.forall_mem_cons.mpr ⟨km_X1_beginSignal, List.forall_mem_cons.mpr ⟨km_X1_beginSegment, List.forall_mem_cons.mpr ⟨km_X1_gather, List.forall_mem_cons.mpr ⟨km_X1_dropGathered, List.forall_mem_cons.mpr ⟨km_X1_handleUnit, List.forall_mem_cons.mpr ⟨km_X1_handleSegment, List.forall_mem_cons.mpr ⟨km_X1_handleSignal, List.forall_mem_cons.mpr ⟨km_X1_isSignal, List.forall_mem_cons.mpr ⟨km_X1_told, List.forall_mem_cons.mpr ⟨km_X1_onRequest, List.forall_mem_cons.mpr ⟨km_X1_judgeRequest, List.forall_mem_cons.mpr ⟨km_X1_onAnswer, List.forall_mem_cons.mpr ⟨km_X1_onCredit, List.forall_mem_cons.mpr ⟨km_X1_onLeave, List.forall_mem_cons.mpr ⟨km_X1_onLeft, List.forall_mem_cons.mpr ⟨km_X1_onReject, List.forall_mem_cons.mpr ⟨km_X1_firstClosed, List.forall_mem_cons.mpr ⟨km_X1_firstBySignal, List.forall_mem_cons.mpr ⟨km_X2_init, List.forall_mem_cons.mpr ⟨km_X3_init, List.forall_mem_cons.mpr ⟨km_X3_clear, List.forall_mem_cons.mpr ⟨km_X3_add, List.forall_mem_cons.mpr ⟨km_X3_addNumber, List.forall_mem_cons.mpr ⟨km_X3_addPart, List.forall_mem_cons.mpr ⟨km_X3_at, List.forall_mem_cons.mpr ⟨km_X3_numberAt, List.forall_mem_cons.mpr ⟨km_X4_init, List.forall_mem_cons.mpr ⟨km_X4_clear, List.forall_mem_cons.mpr ⟨km_X4_first, List.forall_mem_cons.mpr ⟨km_X4_addEmpty, List.forall_mem_cons.mpr ⟨km_X4_dropFirst, List.forall_mem_cons.mpr ⟨km_X5_init, List.forall_mem_cons.mpr ⟨km_X5_hasRoomFor, List.forall_mem_cons.mpr ⟨km_X5_freeBuffers, List.forall_mem_cons.mpr ⟨km_X5_firstPacket, List.forall_mem_cons.mpr ⟨km_X5_put, List.forall_mem_cons.mpr ⟨km_X5_dropFirst, List.forall_mem_cons.mpr ⟨km_X6_init, List.forall_mem_cons.mpr ⟨km_X6_service, List.forall_mem_cons.mpr ⟨km_X6_connect, List.forall_mem_cons.mpr ⟨km_X6_feed, List.forall_mem_cons.mpr ⟨km_X6_erase, List.forall_mem_cons.mpr ⟨km_X6_send, List.forall_mem_cons.mpr ⟨km_X6_grant, List.forall_mem_cons.mpr ⟨km_X6_leave, List.forall_mem_cons.mpr ⟨km_X6_take, List.forall_mem_cons.mpr ⟨km_X6_lose, List.forall_mem_cons.mpr ⟨km_X6_inject, List.forall_mem_cons.mpr ⟨km_X6_receive, List.forall_mem_cons.mpr ⟨km_X6_octet, List.forall_mem_cons.mpr ⟨km_X6_channel, List.forall_mem_cons.mpr ⟨km_X6_count, List.forall_mem_cons.mpr ⟨km_X6_isHost, List.forall_mem_cons.mpr ⟨km_X6_isChannel, List.forall_mem_cons.mpr ⟨km_X6_isOffer, List.forall_mem_cons.mpr ⟨km_X6_isFar, List.forall_mem_cons.mpr ⟨km_X6_sendWhatCanGo, List.forall_mem_cons.mpr ⟨km_X7_init, List.forall_mem_cons.mpr ⟨km_X7_thrown, List.forall_mem_cons.mpr ⟨km_X7_refused, List.forall_mem_cons.mpr ⟨km_X7_isIn, List.forall_mem_cons.mpr ⟨km_X7_isHost, List.forall_mem_cons.mpr ⟨km_X7_isChannel, List.forall_mem_cons.mpr ⟨km_X7_buffersOf, List.forall_mem_cons.mpr ⟨km_X7_post, List.forall_mem_cons.mpr ⟨km_X7_unitHead, List.forall_mem_cons.mpr ⟨km_X7_unitByte, List.forall_mem_cons.mpr ⟨km_X7_beginSignal, List.forall_mem_cons.mpr ⟨km_X7_textByte, List.forall_mem_cons.mpr ⟨km_X7_beginSegment, List.forall_mem_cons.mpr ⟨km_X7_nextChannel, List.forall_mem_cons.mpr ⟨km_X7_sendAll, List.forall_mem_cons.mpr ⟨km_X7_sendBoth, List.forall_mem_cons.mpr ⟨km_X7_begin, List.forall_mem_cons.mpr ⟨km_X7_two, List.forall_mem_cons.mpr ⟨km_X7_wait, List.forall_mem_cons.mpr ⟨km_X7_takeId, List.forall_mem_cons.mpr ⟨km_X7_dropTexts, List.forall_mem_cons.mpr ⟨km_X7_leaveNow, List.forall_mem_cons.mpr ⟨km_X7_close, List.forall_mem_cons.mpr ⟨km_X7_firstClosed, List.forall_mem_cons.mpr ⟨km_X7_reject, List.forall_mem_cons.mpr ⟨km_X7_handTwo, List.forall_mem_cons.mpr ⟨km_X7_isSound, List.forall_mem_cons.mpr ⟨km_X7_resultOf, List.forall_mem_cons.mpr ⟨km_X7_request, List.forall_mem_cons.mpr ⟨km_X7_response, List.forall_mem_cons.mpr ⟨km_X7_credit, List.forall_mem_cons.mpr ⟨km_X7_signal, List.forall_mem_cons.mpr ⟨km_X7_byId, List.forall_mem_cons.mpr ⟨km_X7_segment, List.forall_mem_cons.mpr ⟨km_X7_unit, List.forall_mem_cons.mpr ⟨km_X7_shift, List.forall_mem_cons.mpr ⟨km_X7_gather, List.forall_mem_cons.mpr ⟨km_X7_take, List.forall_mem_cons.mpr ⟨km_X7_lose, List.forall_mem_cons.mpr ⟨km_X7_inject, List.forall_mem_cons.mpr ⟨km_X7_isTold, List.forall_mem_cons.mpr ⟨km_X7_service, List.forall_mem_cons.mpr ⟨km_X7_connect, List.forall_mem_cons.mpr ⟨km_X7_feed, List.forall_mem_cons.mpr ⟨km_X7_erase, List.forall_mem_cons.mpr ⟨km_X7_wrong, List.forall_mem_cons.mpr ⟨km_X7_send, List.forall_mem_cons.mpr ⟨km_X7_grant, List.forall_mem_cons.mpr ⟨km_X7_leave, List.forall_mem_cons.mpr ⟨km_X7_receive, List.forall_mem_cons.mpr ⟨km_X7_octet, List.forall_mem_cons.mpr ⟨km_X7_channel, List.forall_mem_cons.mpr ⟨km_X7_count, List.forall_mem_cons.mpr ⟨km_Jxa1e45_init_da8c8, List.forall_mem_cons.mpr ⟨km_Jxc12de_init_da8c8, List.forall_mem_cons.mpr ⟨km_Jx4a65c_init_da8c8, List.forall_mem_cons.mpr ⟨km_Jx4a65c_grow_92f84, List.forall_mem_cons.mpr ⟨km_Jx4a65c_grow_d5877, List.forall_mem_cons.mpr ⟨km_Jx4a65c_size_8abf5, List.forall_mem_cons.mpr ⟨km_Jx4a65c_isEmpty_aae02, List.forall_mem_cons.mpr ⟨km_Jx4a65c_add_72be8, List.forall_mem_cons.mpr ⟨km_Jx4a65c_add_9ea2d, List.forall_mem_cons.mpr ⟨km_Jx4a65c_remove_915e3, List.forall_mem_cons.mpr ⟨km_Jx4a65c_fastRemove_b59b0, List.forall_mem_cons.mpr ⟨km_J7_copyOf_1904c, List.forall_mem_cons.mpr ⟨km_J7_copyOf_6403c, List.forall_mem_cons.mpr ⟨km_J15_checkIndex_7cf53, List.forall_mem_cons.mpr ⟨km_J8_newLength_cabcc, List.forall_mem_cons.mpr ⟨km_J8_hugeLength_7cf53, List.forall_mem_cons.mpr ⟨km_J3_checkIndex_8e157, fun _ h => absurd h List.not_mem_nil⟩⟩⟩⟩⟩⟩⟩⟩⟩⟩⟩⟩⟩⟩⟩⟩⟩⟩⟩⟩⟩⟩⟩⟩⟩⟩⟩⟩⟩⟩⟩⟩⟩⟩⟩⟩⟩⟩⟩⟩⟩⟩⟩⟩⟩⟩⟩⟩⟩⟩⟩⟩⟩⟩⟩⟩⟩⟩⟩⟩⟩⟩⟩⟩⟩⟩⟩⟩⟩⟩⟩⟩⟩⟩⟩⟩⟩⟩⟩⟩⟩⟩⟩⟩⟩⟩⟩⟩⟩⟩⟩⟩⟩⟩⟩⟩⟩⟩⟩⟩⟩⟩⟩⟩⟩⟩⟩⟩⟩⟩⟩⟩⟩⟩⟩⟩⟩⟩⟩⟩⟩⟩⟩⟩⟩⟩⟩⟩⟩⟩⟩⟩⟩⟩⟩⟩⟩⟩⟩⟩⟩⟩⟩⟩⟩⟩⟩⟩
def ev_mdb (q : ev_Md) : Bool := plainName q.1.cls && decide (q.1.cls ≠ "java/lang/invoke/MethodHandle") && decide (q.1.cls ≠ "java/lang/invoke/VarHandle") && decide ((parseMethodDescriptor q.1.desc).map (fun d => d.parameters.length) = some q.2.2.2.2.2.1) && decide (q.2.2.1 ≤ 17) && decide (q.1.cls = ev_on q.2.2.2.2.1) && (decide (q.2.2.2.2.2.2.1 = 2) == decide (q.1.name = "<init>"))
set_option maxRecDepth 100000 in
theorem ev_ms_b : ev_ms.all (fun q => ev_mdb q.1) = true := by decide +kernel
set_option maxRecDepth 100000 in
theorem ev_ms_i : ev_ms.all (fun q => !(decide (q.1.1.name = "<init>")) || decide (q.1.2.2.2.1 = none)) = true := by decide +kernel
theorem ev_init_rt {md : ev_Md} {code : List ev_I} (h : (md, code) ∈ ev_ms) (hn : md.1.name = "<init>") : md.2.2.2.1 = none := by
  have hb := List.all_eq_true.mp ev_ms_i _ h
  rw [Bool.or_eq_true] at hb
  rcases hb with h1 | h1
  · rw [show decide (md.1.name = "<init>") = true from decide_eq_true hn] at h1; cases h1
  · exact of_decide_eq_true h1
