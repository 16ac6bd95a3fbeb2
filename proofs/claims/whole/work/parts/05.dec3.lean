set_option maxRecDepth 100000 in
theorem ko_X7_feed : kc_X7_feed.all (ev_okb 7 1 cX7_feed) = true := by decide +kernel
set_option maxRecDepth 100000 in
theorem ko_X7_erase : kc_X7_erase.all (ev_okb 7 1 cX7_erase) = true := by decide +kernel
set_option maxRecDepth 100000 in
theorem ko_X7_wrong : kc_X7_wrong.all (ev_okb 7 1 cX7_wrong) = true := by decide +kernel
set_option maxRecDepth 100000 in
theorem ko_X7_send : kc_X7_send.all (ev_okb 7 1 cX7_send) = true := by decide +kernel
set_option maxRecDepth 100000 in
theorem ko_X7_grant : kc_X7_grant.all (ev_okb 7 1 cX7_grant) = true := by decide +kernel
set_option maxRecDepth 100000 in
theorem ko_X7_leave : kc_X7_leave.all (ev_okb 7 1 cX7_leave) = true := by decide +kernel
set_option maxRecDepth 100000 in
theorem ko_X7_receive : kc_X7_receive.all (ev_okb 7 1 cX7_receive) = true := by decide +kernel
set_option maxRecDepth 100000 in
theorem ko_X7_octet : kc_X7_octet.all (ev_okb 7 1 cX7_octet) = true := by decide +kernel
set_option maxRecDepth 100000 in
theorem ko_X7_channel : kc_X7_channel.all (ev_okb 7 1 cX7_channel) = true := by decide +kernel
set_option maxRecDepth 100000 in
theorem ko_X7_count : kc_X7_count.all (ev_okb 7 1 cX7_count) = true := by decide +kernel
set_option maxRecDepth 100000 in
theorem ko_Jxa1e45_init_da8c8 : kc_Jxa1e45_init_da8c8.all (ev_okb 10 2 cJxa1e45_init_da8c8) = true := by decide +kernel
set_option maxRecDepth 100000 in
theorem ko_Jxc12de_init_da8c8 : kc_Jxc12de_init_da8c8.all (ev_okb 9 2 cJxc12de_init_da8c8) = true := by decide +kernel
set_option maxRecDepth 100000 in
theorem ko_Jx4a65c_init_da8c8 : kc_Jx4a65c_init_da8c8.all (ev_okb 8 2 cJx4a65c_init_da8c8) = true := by decide +kernel
set_option maxRecDepth 100000 in
theorem ko_Jx4a65c_grow_92f84 : kc_Jx4a65c_grow_92f84.all (ev_okb 8 1 cJx4a65c_grow_92f84) = true := by decide +kernel
set_option maxRecDepth 100000 in
theorem ko_Jx4a65c_grow_d5877 : kc_Jx4a65c_grow_d5877.all (ev_okb 8 1 cJx4a65c_grow_d5877) = true := by decide +kernel
set_option maxRecDepth 100000 in
theorem ko_Jx4a65c_size_8abf5 : kc_Jx4a65c_size_8abf5.all (ev_okb 8 1 cJx4a65c_size_8abf5) = true := by decide +kernel
set_option maxRecDepth 100000 in
theorem ko_Jx4a65c_isEmpty_aae02 : kc_Jx4a65c_isEmpty_aae02.all (ev_okb 8 1 cJx4a65c_isEmpty_aae02) = true := by decide +kernel
set_option maxRecDepth 100000 in
theorem ko_Jx4a65c_add_72be8 : kc_Jx4a65c_add_72be8.all (ev_okb 8 1 cJx4a65c_add_72be8) = true := by decide +kernel
set_option maxRecDepth 100000 in
theorem ko_Jx4a65c_add_9ea2d : kc_Jx4a65c_add_9ea2d.all (ev_okb 8 1 cJx4a65c_add_9ea2d) = true := by decide +kernel
set_option maxRecDepth 100000 in
theorem ko_Jx4a65c_remove_915e3 : kc_Jx4a65c_remove_915e3.all (ev_okb 8 1 cJx4a65c_remove_915e3) = true := by decide +kernel
set_option maxRecDepth 100000 in
theorem ko_Jx4a65c_fastRemove_b59b0 : kc_Jx4a65c_fastRemove_b59b0.all (ev_okb 8 1 cJx4a65c_fastRemove_b59b0) = true := by decide +kernel
set_option maxRecDepth 100000 in
theorem ko_J7_copyOf_1904c : kc_J7_copyOf_1904c.all (ev_okb 13 0 cJ7_copyOf_1904c) = true := by decide +kernel
set_option maxRecDepth 100000 in
theorem ko_J7_copyOf_6403c : kc_J7_copyOf_6403c.all (ev_okb 13 0 cJ7_copyOf_6403c) = true := by decide +kernel
set_option maxRecDepth 100000 in
theorem ko_J15_checkIndex_7cf53 : kc_J15_checkIndex_7cf53.all (ev_okb 11 0 cJ15_checkIndex_7cf53) = true := by decide +kernel
set_option maxRecDepth 100000 in
theorem ko_J8_newLength_cabcc : kc_J8_newLength_cabcc.all (ev_okb 14 0 cJ8_newLength_cabcc) = true := by decide +kernel
set_option maxRecDepth 100000 in
theorem ko_J8_hugeLength_7cf53 : kc_J8_hugeLength_7cf53.all (ev_okb 14 0 cJ8_hugeLength_7cf53) = true := by decide +kernel
set_option maxRecDepth 100000 in
theorem ko_J3_checkIndex_8e157 : kc_J3_checkIndex_8e157.all (ev_okb 12 0 cJ3_checkIndex_8e157) = true := by decide +kernel
set_option maxRecDepth 100000 in
theorem ko_L_service : kc_L_service.all (ev_okb 15 0 cL_service) = true := by decide +kernel
set_option maxRecDepth 100000 in
theorem ko_L_connect : kc_L_connect.all (ev_okb 15 0 cL_connect) = true := by decide +kernel
set_option maxRecDepth 100000 in
theorem ko_L_feed : kc_L_feed.all (ev_okb 15 0 cL_feed) = true := by decide +kernel
set_option maxRecDepth 100000 in
theorem ko_L_send : kc_L_send.all (ev_okb 15 0 cL_send) = true := by decide +kernel
set_option maxRecDepth 100000 in
theorem ko_L_grant : kc_L_grant.all (ev_okb 15 0 cL_grant) = true := by decide +kernel
set_option maxRecDepth 100000 in
theorem ko_L_leave : kc_L_leave.all (ev_okb 15 0 cL_leave) = true := by decide +kernel
set_option maxRecDepth 100000 in
theorem ko_L_take : kc_L_take.all (ev_okb 15 0 cL_take) = true := by decide +kernel
set_option maxRecDepth 100000 in
theorem ko_L_lose : kc_L_lose.all (ev_okb 15 0 cL_lose) = true := by decide +kernel
set_option maxRecDepth 100000 in
theorem ko_L_inject : kc_L_inject.all (ev_okb 15 0 cL_inject) = true := by decide +kernel
set_option maxRecDepth 100000 in
theorem ko_L_receive : kc_L_receive.all (ev_okb 15 0 cL_receive) = true := by decide +kernel
set_option maxRecDepth 100000 in
theorem ko_L_channel : kc_L_channel.all (ev_okb 15 0 cL_channel) = true := by decide +kernel
set_option maxRecDepth 100000 in
theorem ko_L_count : kc_L_count.all (ev_okb 15 0 cL_count) = true := by decide +kernel
