set_option maxRecDepth 100000 in
theorem ko_X7_reject : kc_X7_reject.all (ev_okb 7 1 cX7_reject) = true := by decide +kernel
set_option maxRecDepth 100000 in
theorem ko_X7_handTwo : kc_X7_handTwo.all (ev_okb 7 1 cX7_handTwo) = true := by decide +kernel
set_option maxRecDepth 100000 in
theorem ko_X7_isSound : kc_X7_isSound.all (ev_okb 7 0 cX7_isSound) = true := by decide +kernel
set_option maxRecDepth 100000 in
theorem ko_X7_resultOf : kc_X7_resultOf.all (ev_okb 7 1 cX7_resultOf) = true := by decide +kernel
set_option maxRecDepth 100000 in
theorem ko_X7_request : kc_X7_request.all (ev_okb 7 1 cX7_request) = true := by decide +kernel
set_option maxRecDepth 100000 in
theorem ko_X7_response : kc_X7_response.all (ev_okb 7 1 cX7_response) = true := by decide +kernel
set_option maxRecDepth 100000 in
theorem ko_X7_credit : kc_X7_credit.all (ev_okb 7 1 cX7_credit) = true := by decide +kernel
set_option maxRecDepth 100000 in
theorem ko_X7_signal : kc_X7_signal.all (ev_okb 7 1 cX7_signal) = true := by decide +kernel
set_option maxRecDepth 100000 in
theorem ko_X7_byId : kc_X7_byId.all (ev_okb 7 1 cX7_byId) = true := by decide +kernel
set_option maxRecDepth 100000 in
theorem ko_X7_segment : kc_X7_segment.all (ev_okb 7 1 cX7_segment) = true := by decide +kernel
set_option maxRecDepth 100000 in
theorem ko_X7_unit : kc_X7_unit.all (ev_okb 7 1 cX7_unit) = true := by decide +kernel
set_option maxRecDepth 100000 in
theorem ko_X7_shift : kc_X7_shift.all (ev_okb 7 1 cX7_shift) = true := by decide +kernel
set_option maxRecDepth 100000 in
theorem ko_X7_gather : kc_X7_gather.all (ev_okb 7 1 cX7_gather) = true := by decide +kernel
set_option maxRecDepth 100000 in
theorem ko_X7_take : kc_X7_take.all (ev_okb 7 1 cX7_take) = true := by decide +kernel
set_option maxRecDepth 100000 in
theorem ko_X7_lose : kc_X7_lose.all (ev_okb 7 1 cX7_lose) = true := by decide +kernel
set_option maxRecDepth 100000 in
theorem ko_X7_inject : kc_X7_inject.all (ev_okb 7 1 cX7_inject) = true := by decide +kernel
set_option maxRecDepth 100000 in
theorem ko_X7_isTold : kc_X7_isTold.all (ev_okb 7 0 cX7_isTold) = true := by decide +kernel
set_option maxRecDepth 100000 in
theorem ko_X7_service : kc_X7_service.all (ev_okb 7 1 cX7_service) = true := by decide +kernel
set_option maxRecDepth 100000 in
theorem ko_X7_connect : kc_X7_connect.all (ev_okb 7 1 cX7_connect) = true := by decide +kernel
