/-! Rows of the A-machine, one an instruction: w0. -/
set_option maxRecDepth 100000 in
theorem am_f280 {pc : Nat} {q : Instr × Nat × (Nat × Nat × Int)} (h : tbL_law.lookup pc = some q) : am_fetch 280 pc = some q := h
set_option maxRecDepth 100000 in
theorem s280_0 {d : Nat} {l0 l1 l2 l3 l4 l5 l6 : Value} {st : List Value} {n k : Nat} {I : am_I} {R : am_R} {Q : am_Q} (hn : R 127 0 0 = some n) (ho : am_oi n (am_mk 11 k)) (h0 : am_new0 18 (am_mk 11 k) I R Q) : am_ev d 280 0 [l0, l1, l2, l3, l4, l5, l6] st I R Q = am_ev d 280 3 [l0, l1, l2, l3, l4, l5, l6] (.ref (am_mk 11 k) :: st) I (am_sR R 127 0 (fun _ => some (n + 1))) Q := am_ev_nx (am_f280 (pc := 0) (q := (.new 8, 3, (11, 0, 0))) rfl) (am_mkO_s (by decide) hn ho h0)
set_option maxRecDepth 100000 in
theorem s280_3 {d : Nat} {l0 l1 l2 l3 l4 l5 l6 : Value} {st : List Value} {x : Nat} {I : am_I} {R : am_R} {Q : am_Q} : am_ev d 280 3 [l0, l1, l2, l3, l4, l5, l6] (.ref x :: st) I R Q = am_ev d 280 4 [l0, l1, l2, l3, l4, l5, l6] (.ref x :: .ref x :: st) I R Q := am_ev_nx (am_f280 (pc := 3) (q := (.dup, 1, (0, 0, 0))) rfl) rfl
set_option maxRecDepth 100000 in
theorem s280_4 {d : Nat} {l0 l1 l2 l3 l4 l5 l6 : Value} {a0 : Nat} {r0 : Value} {I : am_I} {R : am_R} {Q : am_Q} : am_ev (d + 1) 280 4 [l0, l1, l2, l3, l4, l5, l6] [.ref (am_mk 11 a0), r0] I R Q = am_th (am_cal d 96 [.ref (am_mk 11 a0)] I R Q) fun r I R Q => am_ev (d + 1) 280 7 [l0, l1, l2, l3, l4, l5, l6] (r.toList ++ [r0]) I R Q := am_ev_call (am_f280 (pc := 4) (q := (.invokespecial 15, 3, (96, 2, 0))) rfl) (am_inv_v [] [r0] (by decide) (by decide) rfl rfl rfl (Nat.le_of_ble_eq_true rfl))
set_option maxRecDepth 100000 in
theorem s280_7 {d : Nat} {l0 l1 l2 l3 l4 l5 l6 : Value} {st : List Value} {x : Nat} {I : am_I} {R : am_R} {Q : am_Q} : am_ev d 280 7 [l0, l1, l2, l3, l4, l5, l6] (.ref x :: st) I R Q = am_ev d 280 8 [l0, .ref x, l2, l3, l4, l5, l6] st I R Q := am_ev_nx (am_f280 (pc := 7) (q := (.astore_n 1, 1, (0, 0, 0))) rfl) rfl
set_option maxRecDepth 100000 in
theorem s280_8 {d : Nat} {l0 l1 l2 l3 l4 l5 l6 : Value} {st : List Value} {n k : Nat} {I : am_I} {R : am_R} {Q : am_Q} (hn : R 127 0 0 = some n) (ho : am_oi n (am_mk 12 k)) (h0 : am_new0 53 (am_mk 12 k) I R Q) : am_ev d 280 8 [l0, l1, l2, l3, l4, l5, l6] st I R Q = am_ev d 280 11 [l0, l1, l2, l3, l4, l5, l6] (.ref (am_mk 12 k) :: st) I (am_sR R 127 0 (fun _ => some (n + 1))) Q := am_ev_nx (am_f280 (pc := 8) (q := (.new 16, 3, (12, 0, 0))) rfl) (am_mkO_s (by decide) hn ho h0)
set_option maxRecDepth 100000 in
theorem s280_11 {d : Nat} {l0 l1 l2 l3 l4 l5 l6 : Value} {st : List Value} {x : Nat} {I : am_I} {R : am_R} {Q : am_Q} : am_ev d 280 11 [l0, l1, l2, l3, l4, l5, l6] (.ref x :: st) I R Q = am_ev d 280 12 [l0, l1, l2, l3, l4, l5, l6] (.ref x :: .ref x :: st) I R Q := am_ev_nx (am_f280 (pc := 11) (q := (.dup, 1, (0, 0, 0))) rfl) rfl
set_option maxRecDepth 100000 in
theorem s280_12 {d : Nat} {l0 l1 l2 l3 l4 l5 l6 : Value} {a0 : Nat} {r0 : Value} {I : am_I} {R : am_R} {Q : am_Q} : am_ev (d + 1) 280 12 [l0, l1, l2, l3, l4, l5, l6] [.ref (am_mk 12 a0), r0] I R Q = am_th (am_cal d 158 [.ref (am_mk 12 a0)] I R Q) fun r I R Q => am_ev (d + 1) 280 15 [l0, l1, l2, l3, l4, l5, l6] (r.toList ++ [r0]) I R Q := am_ev_call (am_f280 (pc := 12) (q := (.invokespecial 18, 3, (158, 2, 0))) rfl) (am_inv_v [] [r0] (by decide) (by decide) rfl rfl rfl (Nat.le_of_ble_eq_true rfl))
set_option maxRecDepth 100000 in
theorem s280_15 {d : Nat} {l0 l1 l2 l3 l4 l5 l6 : Value} {st : List Value} {x : Nat} {I : am_I} {R : am_R} {Q : am_Q} : am_ev d 280 15 [l0, l1, l2, l3, l4, l5, l6] (.ref x :: st) I R Q = am_ev d 280 16 [l0, l1, .ref x, l3, l4, l5, l6] st I R Q := am_ev_nx (am_f280 (pc := 15) (q := (.astore_n 2, 1, (0, 0, 0))) rfl) rfl
set_option maxRecDepth 100000 in
theorem s280_16 {d : Nat} {l0 l1 l2 l3 l4 l5 l6 : Value} {st : List Value} {I : am_I} {R : am_R} {Q : am_Q} : am_ev d 280 16 [l0, l1, l2, l3, l4, l5, l6] st I R Q = am_ev d 280 17 [l0, l1, l2, l3, l4, l5, l6] (.int (nI 1) :: st) I R Q := am_ev_nx (am_f280 (pc := 16) (q := (.iconst 1, 1, (0, 0, 1))) rfl) rfl
set_option maxRecDepth 100000 in
theorem s280_17 {d : Nat} {l0 l1 l2 l3 l4 l5 l6 : Value} {st : List Value} {n a k : Nat} {x : Int32} {I : am_I} {R : am_R} {Q : am_Q} (hn : R 127 0 0 = some n) (ho : am_oi n (am_mk a k)) (ha : am_okn 2 a) (hx : x = nI (am_len a)) (h0 : am_new0 (am_len a) (am_mk a k) I R Q) : am_ev d 280 17 [l0, l1, l2, l3, l4, l5, l6] (.int x :: st) I R Q = am_ev d 280 19 [l0, l1, l2, l3, l4, l5, l6] (.ref (am_mk a k) :: st) I (am_sR R 127 0 (fun _ => some (n + 1))) Q := am_ev_nx (am_f280 (pc := 17) (q := (.newarray .long, 2, (2, 0, 0))) rfl) (am_mkA_s hn ho ha hx h0)
set_option maxRecDepth 100000 in
theorem s280_19 {d : Nat} {l0 l1 l2 l3 l4 l5 l6 : Value} {st : List Value} {x : Nat} {I : am_I} {R : am_R} {Q : am_Q} : am_ev d 280 19 [l0, l1, l2, l3, l4, l5, l6] (.ref x :: st) I R Q = am_ev d 280 20 [l0, l1, l2, .ref x, l4, l5, l6] st I R Q := am_ev_nx (am_f280 (pc := 19) (q := (.astore_n 3, 1, (0, 0, 0))) rfl) rfl
set_option maxRecDepth 100000 in
theorem s280_20 {d : Nat} {l0 l1 l2 l3 l4 l5 l6 : Value} {st : List Value} {I : am_I} {R : am_R} {Q : am_Q} : am_ev d 280 20 [l0, l1, l2, l3, l4, l5, l6] st I R Q = am_ev d 280 21 [l0, l1, l2, l3, l4, l5, l6] (.int (nI 0) :: st) I R Q := am_ev_nx (am_f280 (pc := 20) (q := (.iconst 0, 1, (0, 0, 0))) rfl) rfl
set_option maxRecDepth 100000 in
theorem s280_21 {d : Nat} {l0 l1 l2 l3 l4 l5 l6 : Value} {st : List Value} {x : Int32} {I : am_I} {R : am_R} {Q : am_Q} : am_ev d 280 21 [l0, l1, l2, l3, l4, l5, l6] (.int x :: st) I R Q = am_ev d 280 23 [l0, l1, l2, l3, .int x, l5, l6] st I R Q := am_ev_nx (am_f280 (pc := 21) (q := (.istore 4, 2, (0, 0, 0))) rfl) rfl
set_option maxRecDepth 100000 in
theorem s280_23 {d : Nat} {l0 l1 l2 l3 l5 l6 : Value} {st : List Value} {x : Int32} {I : am_I} {R : am_R} {Q : am_Q} : am_ev d 280 23 [l0, l1, l2, l3, .int x, l5, l6] st I R Q = am_ev d 280 25 [l0, l1, l2, l3, .int x, l5, l6] (.int x :: st) I R Q := am_ev_nx (am_f280 (pc := 23) (q := (.iload 4, 2, (0, 0, 0))) rfl) rfl
set_option maxRecDepth 100000 in
theorem s280_25 {d : Nat} {l1 l2 l3 l4 l5 l6 : Value} {st : List Value} {x : Nat} {I : am_I} {R : am_R} {Q : am_Q} : am_ev d 280 25 [.ref x, l1, l2, l3, l4, l5, l6] st I R Q = am_ev d 280 26 [.ref x, l1, l2, l3, l4, l5, l6] (.ref x :: st) I R Q := am_ev_nx (am_f280 (pc := 25) (q := (.aload_n 0, 1, (0, 0, 0))) rfl) rfl
set_option maxRecDepth 100000 in
theorem s280_27 {d : Nat} {l0 l1 l2 l3 l4 l5 l6 : Value} {st : List Value} {I : am_I} {R : am_R} {Q : am_Q} : am_ev d 280 27 [l0, l1, l2, l3, l4, l5, l6] st I R Q = am_ev d 280 29 [l0, l1, l2, l3, l4, l5, l6] (.int (nI 6) :: st) I R Q := am_ev_nx (am_f280 (pc := 27) (q := (.bipush 6, 2, (0, 0, 6))) rfl) rfl
set_option maxRecDepth 100000 in
theorem s280_29 {d : Nat} {l0 l1 l2 l3 l4 l5 l6 : Value} {st : List Value} {x y : Int32} {I : am_I} {R : am_R} {Q : am_Q} : am_ev d 280 29 [l0, l1, l2, l3, l4, l5, l6] (.int y :: .int x :: st) I R Q = am_ev d 280 30 [l0, l1, l2, l3, l4, l5, l6] (.int (x - y) :: st) I R Q := am_ev_nx (am_f280 (pc := 29) (q := (.isub, 1, (0, 0, 0))) rfl) rfl
set_option maxRecDepth 100000 in
theorem s280_30 {d : Nat} {l0 l1 l2 l3 l4 l5 l6 : Value} {st : List Value} {x y : Int32} {I : am_I} {R : am_R} {Q : am_Q} : am_ev d 280 30 [l0, l1, l2, l3, l4, l5, l6] (.int y :: .int x :: st) I R Q = if y < x then am_ev d 280 1581 [l0, l1, l2, l3, l4, l5, l6] st I R Q else am_ev d 280 33 [l0, l1, l2, l3, l4, l5, l6] st I R Q := am_ev_br (am_f280 (pc := 30) (q := (.if_icmp .gt 1551, 3, (0, 0, 0))) rfl) rfl
set_option maxRecDepth 100000 in
theorem s280_33 {d : Nat} {l1 l2 l3 l4 l5 l6 : Value} {st : List Value} {x : Nat} {I : am_I} {R : am_R} {Q : am_Q} : am_ev d 280 33 [.ref x, l1, l2, l3, l4, l5, l6] st I R Q = am_ev d 280 34 [.ref x, l1, l2, l3, l4, l5, l6] (.ref x :: st) I R Q := am_ev_nx (am_f280 (pc := 33) (q := (.aload_n 0, 1, (0, 0, 0))) rfl) rfl
set_option maxRecDepth 100000 in
theorem s280_34 {d : Nat} {l0 l1 l2 l3 l5 l6 : Value} {st : List Value} {x : Int32} {I : am_I} {R : am_R} {Q : am_Q} : am_ev d 280 34 [l0, l1, l2, l3, .int x, l5, l6] st I R Q = am_ev d 280 36 [l0, l1, l2, l3, .int x, l5, l6] (.int x :: st) I R Q := am_ev_nx (am_f280 (pc := 34) (q := (.iload 4, 2, (0, 0, 0))) rfl) rfl
set_option maxRecDepth 100000 in
theorem s280_37 {d : Nat} {l0 l1 l2 l3 l4 l5 l6 : Value} {st : List Value} {I : am_I} {R : am_R} {Q : am_Q} : am_ev d 280 37 [l0, l1, l2, l3, l4, l5, l6] st I R Q = am_ev d 280 39 [l0, l1, l2, l3, l4, l5, l6] (.int (nI 63) :: st) I R Q := am_ev_nx (am_f280 (pc := 37) (q := (.bipush 63, 2, (0, 0, 63))) rfl) rfl
set_option maxRecDepth 100000 in
theorem s280_39 {d : Nat} {l0 l1 l2 l3 l4 l5 l6 : Value} {st : List Value} {x y : Int32} {I : am_I} {R : am_R} {Q : am_Q} : am_ev d 280 39 [l0, l1, l2, l3, l4, l5, l6] (.int y :: .int x :: st) I R Q = am_ev d 280 40 [l0, l1, l2, l3, l4, l5, l6] (.int (x &&& y) :: st) I R Q := am_ev_nx (am_f280 (pc := 39) (q := (.iand, 1, (0, 0, 0))) rfl) rfl
set_option maxRecDepth 100000 in
theorem s280_40c0 {d : Nat} {l0 l1 l2 l3 l4 l5 l6 : Value} {st : List Value} {I : am_I} {R : am_R} {Q : am_Q} : am_ev d 280 40 [l0, l1, l2, l3, l4, l5, l6] (.int 0 :: st) I R Q = am_ev d 280 232 [l0, l1, l2, l3, l4, l5, l6] st I R Q := am_ev_nx (am_f280 (pc := 40) (q := (.tableswitch 1535 0 43 #[192, 265, 290, 315, 340, 365, 433, 470, 495, 532, 545, 586, 623, 648, 673, 742, 767, 780, 817, 842, 867, 880, 929, 966, 991, 1028, 1081, 1118, 1143, 1180, 1205, 1230, 1243, 1280, 1345, 1370, 1383, 1396, 1409, 1422, 1447, 1484, 1497, 1510], 192, (0, 0, 0))) rfl) rfl
set_option maxRecDepth 100000 in
theorem s280_40c1 {d : Nat} {l0 l1 l2 l3 l4 l5 l6 : Value} {st : List Value} {I : am_I} {R : am_R} {Q : am_Q} : am_ev d 280 40 [l0, l1, l2, l3, l4, l5, l6] (.int 1 :: st) I R Q = am_ev d 280 305 [l0, l1, l2, l3, l4, l5, l6] st I R Q := am_ev_nx (am_f280 (pc := 40) (q := (.tableswitch 1535 0 43 #[192, 265, 290, 315, 340, 365, 433, 470, 495, 532, 545, 586, 623, 648, 673, 742, 767, 780, 817, 842, 867, 880, 929, 966, 991, 1028, 1081, 1118, 1143, 1180, 1205, 1230, 1243, 1280, 1345, 1370, 1383, 1396, 1409, 1422, 1447, 1484, 1497, 1510], 192, (0, 0, 0))) rfl) rfl
set_option maxRecDepth 100000 in
theorem s280_40c2 {d : Nat} {l0 l1 l2 l3 l4 l5 l6 : Value} {st : List Value} {I : am_I} {R : am_R} {Q : am_Q} : am_ev d 280 40 [l0, l1, l2, l3, l4, l5, l6] (.int 2 :: st) I R Q = am_ev d 280 330 [l0, l1, l2, l3, l4, l5, l6] st I R Q := am_ev_nx (am_f280 (pc := 40) (q := (.tableswitch 1535 0 43 #[192, 265, 290, 315, 340, 365, 433, 470, 495, 532, 545, 586, 623, 648, 673, 742, 767, 780, 817, 842, 867, 880, 929, 966, 991, 1028, 1081, 1118, 1143, 1180, 1205, 1230, 1243, 1280, 1345, 1370, 1383, 1396, 1409, 1422, 1447, 1484, 1497, 1510], 192, (0, 0, 0))) rfl) rfl
set_option maxRecDepth 100000 in
theorem s280_40c3 {d : Nat} {l0 l1 l2 l3 l4 l5 l6 : Value} {st : List Value} {I : am_I} {R : am_R} {Q : am_Q} : am_ev d 280 40 [l0, l1, l2, l3, l4, l5, l6] (.int 3 :: st) I R Q = am_ev d 280 355 [l0, l1, l2, l3, l4, l5, l6] st I R Q := am_ev_nx (am_f280 (pc := 40) (q := (.tableswitch 1535 0 43 #[192, 265, 290, 315, 340, 365, 433, 470, 495, 532, 545, 586, 623, 648, 673, 742, 767, 780, 817, 842, 867, 880, 929, 966, 991, 1028, 1081, 1118, 1143, 1180, 1205, 1230, 1243, 1280, 1345, 1370, 1383, 1396, 1409, 1422, 1447, 1484, 1497, 1510], 192, (0, 0, 0))) rfl) rfl
set_option maxRecDepth 100000 in
theorem s280_40c4 {d : Nat} {l0 l1 l2 l3 l4 l5 l6 : Value} {st : List Value} {I : am_I} {R : am_R} {Q : am_Q} : am_ev d 280 40 [l0, l1, l2, l3, l4, l5, l6] (.int 4 :: st) I R Q = am_ev d 280 380 [l0, l1, l2, l3, l4, l5, l6] st I R Q := am_ev_nx (am_f280 (pc := 40) (q := (.tableswitch 1535 0 43 #[192, 265, 290, 315, 340, 365, 433, 470, 495, 532, 545, 586, 623, 648, 673, 742, 767, 780, 817, 842, 867, 880, 929, 966, 991, 1028, 1081, 1118, 1143, 1180, 1205, 1230, 1243, 1280, 1345, 1370, 1383, 1396, 1409, 1422, 1447, 1484, 1497, 1510], 192, (0, 0, 0))) rfl) rfl
set_option maxRecDepth 100000 in
theorem s280_40c5 {d : Nat} {l0 l1 l2 l3 l4 l5 l6 : Value} {st : List Value} {I : am_I} {R : am_R} {Q : am_Q} : am_ev d 280 40 [l0, l1, l2, l3, l4, l5, l6] (.int 5 :: st) I R Q = am_ev d 280 405 [l0, l1, l2, l3, l4, l5, l6] st I R Q := am_ev_nx (am_f280 (pc := 40) (q := (.tableswitch 1535 0 43 #[192, 265, 290, 315, 340, 365, 433, 470, 495, 532, 545, 586, 623, 648, 673, 742, 767, 780, 817, 842, 867, 880, 929, 966, 991, 1028, 1081, 1118, 1143, 1180, 1205, 1230, 1243, 1280, 1345, 1370, 1383, 1396, 1409, 1422, 1447, 1484, 1497, 1510], 192, (0, 0, 0))) rfl) rfl
set_option maxRecDepth 100000 in
theorem s280_40c6 {d : Nat} {l0 l1 l2 l3 l4 l5 l6 : Value} {st : List Value} {I : am_I} {R : am_R} {Q : am_Q} : am_ev d 280 40 [l0, l1, l2, l3, l4, l5, l6] (.int 6 :: st) I R Q = am_ev d 280 473 [l0, l1, l2, l3, l4, l5, l6] st I R Q := am_ev_nx (am_f280 (pc := 40) (q := (.tableswitch 1535 0 43 #[192, 265, 290, 315, 340, 365, 433, 470, 495, 532, 545, 586, 623, 648, 673, 742, 767, 780, 817, 842, 867, 880, 929, 966, 991, 1028, 1081, 1118, 1143, 1180, 1205, 1230, 1243, 1280, 1345, 1370, 1383, 1396, 1409, 1422, 1447, 1484, 1497, 1510], 192, (0, 0, 0))) rfl) rfl
set_option maxRecDepth 100000 in
theorem s280_40c7 {d : Nat} {l0 l1 l2 l3 l4 l5 l6 : Value} {st : List Value} {I : am_I} {R : am_R} {Q : am_Q} : am_ev d 280 40 [l0, l1, l2, l3, l4, l5, l6] (.int 7 :: st) I R Q = am_ev d 280 510 [l0, l1, l2, l3, l4, l5, l6] st I R Q := am_ev_nx (am_f280 (pc := 40) (q := (.tableswitch 1535 0 43 #[192, 265, 290, 315, 340, 365, 433, 470, 495, 532, 545, 586, 623, 648, 673, 742, 767, 780, 817, 842, 867, 880, 929, 966, 991, 1028, 1081, 1118, 1143, 1180, 1205, 1230, 1243, 1280, 1345, 1370, 1383, 1396, 1409, 1422, 1447, 1484, 1497, 1510], 192, (0, 0, 0))) rfl) rfl
set_option maxRecDepth 100000 in
theorem s280_40c8 {d : Nat} {l0 l1 l2 l3 l4 l5 l6 : Value} {st : List Value} {I : am_I} {R : am_R} {Q : am_Q} : am_ev d 280 40 [l0, l1, l2, l3, l4, l5, l6] (.int 8 :: st) I R Q = am_ev d 280 535 [l0, l1, l2, l3, l4, l5, l6] st I R Q := am_ev_nx (am_f280 (pc := 40) (q := (.tableswitch 1535 0 43 #[192, 265, 290, 315, 340, 365, 433, 470, 495, 532, 545, 586, 623, 648, 673, 742, 767, 780, 817, 842, 867, 880, 929, 966, 991, 1028, 1081, 1118, 1143, 1180, 1205, 1230, 1243, 1280, 1345, 1370, 1383, 1396, 1409, 1422, 1447, 1484, 1497, 1510], 192, (0, 0, 0))) rfl) rfl
set_option maxRecDepth 100000 in
theorem s280_40c9 {d : Nat} {l0 l1 l2 l3 l4 l5 l6 : Value} {st : List Value} {I : am_I} {R : am_R} {Q : am_Q} : am_ev d 280 40 [l0, l1, l2, l3, l4, l5, l6] (.int 9 :: st) I R Q = am_ev d 280 572 [l0, l1, l2, l3, l4, l5, l6] st I R Q := am_ev_nx (am_f280 (pc := 40) (q := (.tableswitch 1535 0 43 #[192, 265, 290, 315, 340, 365, 433, 470, 495, 532, 545, 586, 623, 648, 673, 742, 767, 780, 817, 842, 867, 880, 929, 966, 991, 1028, 1081, 1118, 1143, 1180, 1205, 1230, 1243, 1280, 1345, 1370, 1383, 1396, 1409, 1422, 1447, 1484, 1497, 1510], 192, (0, 0, 0))) rfl) rfl
set_option maxRecDepth 100000 in
theorem s280_40c10 {d : Nat} {l0 l1 l2 l3 l4 l5 l6 : Value} {st : List Value} {I : am_I} {R : am_R} {Q : am_Q} : am_ev d 280 40 [l0, l1, l2, l3, l4, l5, l6] (.int 10 :: st) I R Q = am_ev d 280 585 [l0, l1, l2, l3, l4, l5, l6] st I R Q := am_ev_nx (am_f280 (pc := 40) (q := (.tableswitch 1535 0 43 #[192, 265, 290, 315, 340, 365, 433, 470, 495, 532, 545, 586, 623, 648, 673, 742, 767, 780, 817, 842, 867, 880, 929, 966, 991, 1028, 1081, 1118, 1143, 1180, 1205, 1230, 1243, 1280, 1345, 1370, 1383, 1396, 1409, 1422, 1447, 1484, 1497, 1510], 192, (0, 0, 0))) rfl) rfl
set_option maxRecDepth 100000 in
theorem s280_40c11 {d : Nat} {l0 l1 l2 l3 l4 l5 l6 : Value} {st : List Value} {I : am_I} {R : am_R} {Q : am_Q} : am_ev d 280 40 [l0, l1, l2, l3, l4, l5, l6] (.int 11 :: st) I R Q = am_ev d 280 626 [l0, l1, l2, l3, l4, l5, l6] st I R Q := am_ev_nx (am_f280 (pc := 40) (q := (.tableswitch 1535 0 43 #[192, 265, 290, 315, 340, 365, 433, 470, 495, 532, 545, 586, 623, 648, 673, 742, 767, 780, 817, 842, 867, 880, 929, 966, 991, 1028, 1081, 1118, 1143, 1180, 1205, 1230, 1243, 1280, 1345, 1370, 1383, 1396, 1409, 1422, 1447, 1484, 1497, 1510], 192, (0, 0, 0))) rfl) rfl
set_option maxRecDepth 100000 in
theorem s280_40c12 {d : Nat} {l0 l1 l2 l3 l4 l5 l6 : Value} {st : List Value} {I : am_I} {R : am_R} {Q : am_Q} : am_ev d 280 40 [l0, l1, l2, l3, l4, l5, l6] (.int 12 :: st) I R Q = am_ev d 280 663 [l0, l1, l2, l3, l4, l5, l6] st I R Q := am_ev_nx (am_f280 (pc := 40) (q := (.tableswitch 1535 0 43 #[192, 265, 290, 315, 340, 365, 433, 470, 495, 532, 545, 586, 623, 648, 673, 742, 767, 780, 817, 842, 867, 880, 929, 966, 991, 1028, 1081, 1118, 1143, 1180, 1205, 1230, 1243, 1280, 1345, 1370, 1383, 1396, 1409, 1422, 1447, 1484, 1497, 1510], 192, (0, 0, 0))) rfl) rfl
set_option maxRecDepth 100000 in
theorem s280_40c13 {d : Nat} {l0 l1 l2 l3 l4 l5 l6 : Value} {st : List Value} {I : am_I} {R : am_R} {Q : am_Q} : am_ev d 280 40 [l0, l1, l2, l3, l4, l5, l6] (.int 13 :: st) I R Q = am_ev d 280 688 [l0, l1, l2, l3, l4, l5, l6] st I R Q := am_ev_nx (am_f280 (pc := 40) (q := (.tableswitch 1535 0 43 #[192, 265, 290, 315, 340, 365, 433, 470, 495, 532, 545, 586, 623, 648, 673, 742, 767, 780, 817, 842, 867, 880, 929, 966, 991, 1028, 1081, 1118, 1143, 1180, 1205, 1230, 1243, 1280, 1345, 1370, 1383, 1396, 1409, 1422, 1447, 1484, 1497, 1510], 192, (0, 0, 0))) rfl) rfl
set_option maxRecDepth 100000 in
theorem s280_40c14 {d : Nat} {l0 l1 l2 l3 l4 l5 l6 : Value} {st : List Value} {I : am_I} {R : am_R} {Q : am_Q} : am_ev d 280 40 [l0, l1, l2, l3, l4, l5, l6] (.int 14 :: st) I R Q = am_ev d 280 713 [l0, l1, l2, l3, l4, l5, l6] st I R Q := am_ev_nx (am_f280 (pc := 40) (q := (.tableswitch 1535 0 43 #[192, 265, 290, 315, 340, 365, 433, 470, 495, 532, 545, 586, 623, 648, 673, 742, 767, 780, 817, 842, 867, 880, 929, 966, 991, 1028, 1081, 1118, 1143, 1180, 1205, 1230, 1243, 1280, 1345, 1370, 1383, 1396, 1409, 1422, 1447, 1484, 1497, 1510], 192, (0, 0, 0))) rfl) rfl
set_option maxRecDepth 100000 in
theorem s280_40c15 {d : Nat} {l0 l1 l2 l3 l4 l5 l6 : Value} {st : List Value} {I : am_I} {R : am_R} {Q : am_Q} : am_ev d 280 40 [l0, l1, l2, l3, l4, l5, l6] (.int 15 :: st) I R Q = am_ev d 280 782 [l0, l1, l2, l3, l4, l5, l6] st I R Q := am_ev_nx (am_f280 (pc := 40) (q := (.tableswitch 1535 0 43 #[192, 265, 290, 315, 340, 365, 433, 470, 495, 532, 545, 586, 623, 648, 673, 742, 767, 780, 817, 842, 867, 880, 929, 966, 991, 1028, 1081, 1118, 1143, 1180, 1205, 1230, 1243, 1280, 1345, 1370, 1383, 1396, 1409, 1422, 1447, 1484, 1497, 1510], 192, (0, 0, 0))) rfl) rfl
set_option maxRecDepth 100000 in
theorem s280_40c16 {d : Nat} {l0 l1 l2 l3 l4 l5 l6 : Value} {st : List Value} {I : am_I} {R : am_R} {Q : am_Q} : am_ev d 280 40 [l0, l1, l2, l3, l4, l5, l6] (.int 16 :: st) I R Q = am_ev d 280 807 [l0, l1, l2, l3, l4, l5, l6] st I R Q := am_ev_nx (am_f280 (pc := 40) (q := (.tableswitch 1535 0 43 #[192, 265, 290, 315, 340, 365, 433, 470, 495, 532, 545, 586, 623, 648, 673, 742, 767, 780, 817, 842, 867, 880, 929, 966, 991, 1028, 1081, 1118, 1143, 1180, 1205, 1230, 1243, 1280, 1345, 1370, 1383, 1396, 1409, 1422, 1447, 1484, 1497, 1510], 192, (0, 0, 0))) rfl) rfl
set_option maxRecDepth 100000 in
theorem s280_40c17 {d : Nat} {l0 l1 l2 l3 l4 l5 l6 : Value} {st : List Value} {I : am_I} {R : am_R} {Q : am_Q} : am_ev d 280 40 [l0, l1, l2, l3, l4, l5, l6] (.int 17 :: st) I R Q = am_ev d 280 820 [l0, l1, l2, l3, l4, l5, l6] st I R Q := am_ev_nx (am_f280 (pc := 40) (q := (.tableswitch 1535 0 43 #[192, 265, 290, 315, 340, 365, 433, 470, 495, 532, 545, 586, 623, 648, 673, 742, 767, 780, 817, 842, 867, 880, 929, 966, 991, 1028, 1081, 1118, 1143, 1180, 1205, 1230, 1243, 1280, 1345, 1370, 1383, 1396, 1409, 1422, 1447, 1484, 1497, 1510], 192, (0, 0, 0))) rfl) rfl
set_option maxRecDepth 100000 in
theorem s280_40c18 {d : Nat} {l0 l1 l2 l3 l4 l5 l6 : Value} {st : List Value} {I : am_I} {R : am_R} {Q : am_Q} : am_ev d 280 40 [l0, l1, l2, l3, l4, l5, l6] (.int 18 :: st) I R Q = am_ev d 280 857 [l0, l1, l2, l3, l4, l5, l6] st I R Q := am_ev_nx (am_f280 (pc := 40) (q := (.tableswitch 1535 0 43 #[192, 265, 290, 315, 340, 365, 433, 470, 495, 532, 545, 586, 623, 648, 673, 742, 767, 780, 817, 842, 867, 880, 929, 966, 991, 1028, 1081, 1118, 1143, 1180, 1205, 1230, 1243, 1280, 1345, 1370, 1383, 1396, 1409, 1422, 1447, 1484, 1497, 1510], 192, (0, 0, 0))) rfl) rfl
set_option maxRecDepth 100000 in
theorem s280_40c19 {d : Nat} {l0 l1 l2 l3 l4 l5 l6 : Value} {st : List Value} {I : am_I} {R : am_R} {Q : am_Q} : am_ev d 280 40 [l0, l1, l2, l3, l4, l5, l6] (.int 19 :: st) I R Q = am_ev d 280 882 [l0, l1, l2, l3, l4, l5, l6] st I R Q := am_ev_nx (am_f280 (pc := 40) (q := (.tableswitch 1535 0 43 #[192, 265, 290, 315, 340, 365, 433, 470, 495, 532, 545, 586, 623, 648, 673, 742, 767, 780, 817, 842, 867, 880, 929, 966, 991, 1028, 1081, 1118, 1143, 1180, 1205, 1230, 1243, 1280, 1345, 1370, 1383, 1396, 1409, 1422, 1447, 1484, 1497, 1510], 192, (0, 0, 0))) rfl) rfl
set_option maxRecDepth 100000 in
theorem s280_40c20 {d : Nat} {l0 l1 l2 l3 l4 l5 l6 : Value} {st : List Value} {I : am_I} {R : am_R} {Q : am_Q} : am_ev d 280 40 [l0, l1, l2, l3, l4, l5, l6] (.int 20 :: st) I R Q = am_ev d 280 907 [l0, l1, l2, l3, l4, l5, l6] st I R Q := am_ev_nx (am_f280 (pc := 40) (q := (.tableswitch 1535 0 43 #[192, 265, 290, 315, 340, 365, 433, 470, 495, 532, 545, 586, 623, 648, 673, 742, 767, 780, 817, 842, 867, 880, 929, 966, 991, 1028, 1081, 1118, 1143, 1180, 1205, 1230, 1243, 1280, 1345, 1370, 1383, 1396, 1409, 1422, 1447, 1484, 1497, 1510], 192, (0, 0, 0))) rfl) rfl
set_option maxRecDepth 100000 in
theorem s280_40c21 {d : Nat} {l0 l1 l2 l3 l4 l5 l6 : Value} {st : List Value} {I : am_I} {R : am_R} {Q : am_Q} : am_ev d 280 40 [l0, l1, l2, l3, l4, l5, l6] (.int 21 :: st) I R Q = am_ev d 280 920 [l0, l1, l2, l3, l4, l5, l6] st I R Q := am_ev_nx (am_f280 (pc := 40) (q := (.tableswitch 1535 0 43 #[192, 265, 290, 315, 340, 365, 433, 470, 495, 532, 545, 586, 623, 648, 673, 742, 767, 780, 817, 842, 867, 880, 929, 966, 991, 1028, 1081, 1118, 1143, 1180, 1205, 1230, 1243, 1280, 1345, 1370, 1383, 1396, 1409, 1422, 1447, 1484, 1497, 1510], 192, (0, 0, 0))) rfl) rfl
set_option maxRecDepth 100000 in
theorem s280_40c22 {d : Nat} {l0 l1 l2 l3 l4 l5 l6 : Value} {st : List Value} {I : am_I} {R : am_R} {Q : am_Q} : am_ev d 280 40 [l0, l1, l2, l3, l4, l5, l6] (.int 22 :: st) I R Q = am_ev d 280 969 [l0, l1, l2, l3, l4, l5, l6] st I R Q := am_ev_nx (am_f280 (pc := 40) (q := (.tableswitch 1535 0 43 #[192, 265, 290, 315, 340, 365, 433, 470, 495, 532, 545, 586, 623, 648, 673, 742, 767, 780, 817, 842, 867, 880, 929, 966, 991, 1028, 1081, 1118, 1143, 1180, 1205, 1230, 1243, 1280, 1345, 1370, 1383, 1396, 1409, 1422, 1447, 1484, 1497, 1510], 192, (0, 0, 0))) rfl) rfl
set_option maxRecDepth 100000 in
theorem s280_40c23 {d : Nat} {l0 l1 l2 l3 l4 l5 l6 : Value} {st : List Value} {I : am_I} {R : am_R} {Q : am_Q} : am_ev d 280 40 [l0, l1, l2, l3, l4, l5, l6] (.int 23 :: st) I R Q = am_ev d 280 1006 [l0, l1, l2, l3, l4, l5, l6] st I R Q := am_ev_nx (am_f280 (pc := 40) (q := (.tableswitch 1535 0 43 #[192, 265, 290, 315, 340, 365, 433, 470, 495, 532, 545, 586, 623, 648, 673, 742, 767, 780, 817, 842, 867, 880, 929, 966, 991, 1028, 1081, 1118, 1143, 1180, 1205, 1230, 1243, 1280, 1345, 1370, 1383, 1396, 1409, 1422, 1447, 1484, 1497, 1510], 192, (0, 0, 0))) rfl) rfl
set_option maxRecDepth 100000 in
theorem s280_40c24 {d : Nat} {l0 l1 l2 l3 l4 l5 l6 : Value} {st : List Value} {I : am_I} {R : am_R} {Q : am_Q} : am_ev d 280 40 [l0, l1, l2, l3, l4, l5, l6] (.int 24 :: st) I R Q = am_ev d 280 1031 [l0, l1, l2, l3, l4, l5, l6] st I R Q := am_ev_nx (am_f280 (pc := 40) (q := (.tableswitch 1535 0 43 #[192, 265, 290, 315, 340, 365, 433, 470, 495, 532, 545, 586, 623, 648, 673, 742, 767, 780, 817, 842, 867, 880, 929, 966, 991, 1028, 1081, 1118, 1143, 1180, 1205, 1230, 1243, 1280, 1345, 1370, 1383, 1396, 1409, 1422, 1447, 1484, 1497, 1510], 192, (0, 0, 0))) rfl) rfl
set_option maxRecDepth 100000 in
theorem s280_40c25 {d : Nat} {l0 l1 l2 l3 l4 l5 l6 : Value} {st : List Value} {I : am_I} {R : am_R} {Q : am_Q} : am_ev d 280 40 [l0, l1, l2, l3, l4, l5, l6] (.int 25 :: st) I R Q = am_ev d 280 1068 [l0, l1, l2, l3, l4, l5, l6] st I R Q := am_ev_nx (am_f280 (pc := 40) (q := (.tableswitch 1535 0 43 #[192, 265, 290, 315, 340, 365, 433, 470, 495, 532, 545, 586, 623, 648, 673, 742, 767, 780, 817, 842, 867, 880, 929, 966, 991, 1028, 1081, 1118, 1143, 1180, 1205, 1230, 1243, 1280, 1345, 1370, 1383, 1396, 1409, 1422, 1447, 1484, 1497, 1510], 192, (0, 0, 0))) rfl) rfl
set_option maxRecDepth 100000 in
theorem s280_40c26 {d : Nat} {l0 l1 l2 l3 l4 l5 l6 : Value} {st : List Value} {I : am_I} {R : am_R} {Q : am_Q} : am_ev d 280 40 [l0, l1, l2, l3, l4, l5, l6] (.int 26 :: st) I R Q = am_ev d 280 1121 [l0, l1, l2, l3, l4, l5, l6] st I R Q := am_ev_nx (am_f280 (pc := 40) (q := (.tableswitch 1535 0 43 #[192, 265, 290, 315, 340, 365, 433, 470, 495, 532, 545, 586, 623, 648, 673, 742, 767, 780, 817, 842, 867, 880, 929, 966, 991, 1028, 1081, 1118, 1143, 1180, 1205, 1230, 1243, 1280, 1345, 1370, 1383, 1396, 1409, 1422, 1447, 1484, 1497, 1510], 192, (0, 0, 0))) rfl) rfl
set_option maxRecDepth 100000 in
theorem s280_40c27 {d : Nat} {l0 l1 l2 l3 l4 l5 l6 : Value} {st : List Value} {I : am_I} {R : am_R} {Q : am_Q} : am_ev d 280 40 [l0, l1, l2, l3, l4, l5, l6] (.int 27 :: st) I R Q = am_ev d 280 1158 [l0, l1, l2, l3, l4, l5, l6] st I R Q := am_ev_nx (am_f280 (pc := 40) (q := (.tableswitch 1535 0 43 #[192, 265, 290, 315, 340, 365, 433, 470, 495, 532, 545, 586, 623, 648, 673, 742, 767, 780, 817, 842, 867, 880, 929, 966, 991, 1028, 1081, 1118, 1143, 1180, 1205, 1230, 1243, 1280, 1345, 1370, 1383, 1396, 1409, 1422, 1447, 1484, 1497, 1510], 192, (0, 0, 0))) rfl) rfl
set_option maxRecDepth 100000 in
theorem s280_40c28 {d : Nat} {l0 l1 l2 l3 l4 l5 l6 : Value} {st : List Value} {I : am_I} {R : am_R} {Q : am_Q} : am_ev d 280 40 [l0, l1, l2, l3, l4, l5, l6] (.int 28 :: st) I R Q = am_ev d 280 1183 [l0, l1, l2, l3, l4, l5, l6] st I R Q := am_ev_nx (am_f280 (pc := 40) (q := (.tableswitch 1535 0 43 #[192, 265, 290, 315, 340, 365, 433, 470, 495, 532, 545, 586, 623, 648, 673, 742, 767, 780, 817, 842, 867, 880, 929, 966, 991, 1028, 1081, 1118, 1143, 1180, 1205, 1230, 1243, 1280, 1345, 1370, 1383, 1396, 1409, 1422, 1447, 1484, 1497, 1510], 192, (0, 0, 0))) rfl) rfl
set_option maxRecDepth 100000 in
theorem s280_40c29 {d : Nat} {l0 l1 l2 l3 l4 l5 l6 : Value} {st : List Value} {I : am_I} {R : am_R} {Q : am_Q} : am_ev d 280 40 [l0, l1, l2, l3, l4, l5, l6] (.int 29 :: st) I R Q = am_ev d 280 1220 [l0, l1, l2, l3, l4, l5, l6] st I R Q := am_ev_nx (am_f280 (pc := 40) (q := (.tableswitch 1535 0 43 #[192, 265, 290, 315, 340, 365, 433, 470, 495, 532, 545, 586, 623, 648, 673, 742, 767, 780, 817, 842, 867, 880, 929, 966, 991, 1028, 1081, 1118, 1143, 1180, 1205, 1230, 1243, 1280, 1345, 1370, 1383, 1396, 1409, 1422, 1447, 1484, 1497, 1510], 192, (0, 0, 0))) rfl) rfl
set_option maxRecDepth 100000 in
theorem s280_40c30 {d : Nat} {l0 l1 l2 l3 l4 l5 l6 : Value} {st : List Value} {I : am_I} {R : am_R} {Q : am_Q} : am_ev d 280 40 [l0, l1, l2, l3, l4, l5, l6] (.int 30 :: st) I R Q = am_ev d 280 1245 [l0, l1, l2, l3, l4, l5, l6] st I R Q := am_ev_nx (am_f280 (pc := 40) (q := (.tableswitch 1535 0 43 #[192, 265, 290, 315, 340, 365, 433, 470, 495, 532, 545, 586, 623, 648, 673, 742, 767, 780, 817, 842, 867, 880, 929, 966, 991, 1028, 1081, 1118, 1143, 1180, 1205, 1230, 1243, 1280, 1345, 1370, 1383, 1396, 1409, 1422, 1447, 1484, 1497, 1510], 192, (0, 0, 0))) rfl) rfl
set_option maxRecDepth 100000 in
theorem s280_40c31 {d : Nat} {l0 l1 l2 l3 l4 l5 l6 : Value} {st : List Value} {I : am_I} {R : am_R} {Q : am_Q} : am_ev d 280 40 [l0, l1, l2, l3, l4, l5, l6] (.int 31 :: st) I R Q = am_ev d 280 1270 [l0, l1, l2, l3, l4, l5, l6] st I R Q := am_ev_nx (am_f280 (pc := 40) (q := (.tableswitch 1535 0 43 #[192, 265, 290, 315, 340, 365, 433, 470, 495, 532, 545, 586, 623, 648, 673, 742, 767, 780, 817, 842, 867, 880, 929, 966, 991, 1028, 1081, 1118, 1143, 1180, 1205, 1230, 1243, 1280, 1345, 1370, 1383, 1396, 1409, 1422, 1447, 1484, 1497, 1510], 192, (0, 0, 0))) rfl) rfl
set_option maxRecDepth 100000 in
theorem s280_40c32 {d : Nat} {l0 l1 l2 l3 l4 l5 l6 : Value} {st : List Value} {I : am_I} {R : am_R} {Q : am_Q} : am_ev d 280 40 [l0, l1, l2, l3, l4, l5, l6] (.int 32 :: st) I R Q = am_ev d 280 1283 [l0, l1, l2, l3, l4, l5, l6] st I R Q := am_ev_nx (am_f280 (pc := 40) (q := (.tableswitch 1535 0 43 #[192, 265, 290, 315, 340, 365, 433, 470, 495, 532, 545, 586, 623, 648, 673, 742, 767, 780, 817, 842, 867, 880, 929, 966, 991, 1028, 1081, 1118, 1143, 1180, 1205, 1230, 1243, 1280, 1345, 1370, 1383, 1396, 1409, 1422, 1447, 1484, 1497, 1510], 192, (0, 0, 0))) rfl) rfl
set_option maxRecDepth 100000 in
theorem s280_40c33 {d : Nat} {l0 l1 l2 l3 l4 l5 l6 : Value} {st : List Value} {I : am_I} {R : am_R} {Q : am_Q} : am_ev d 280 40 [l0, l1, l2, l3, l4, l5, l6] (.int 33 :: st) I R Q = am_ev d 280 1320 [l0, l1, l2, l3, l4, l5, l6] st I R Q := am_ev_nx (am_f280 (pc := 40) (q := (.tableswitch 1535 0 43 #[192, 265, 290, 315, 340, 365, 433, 470, 495, 532, 545, 586, 623, 648, 673, 742, 767, 780, 817, 842, 867, 880, 929, 966, 991, 1028, 1081, 1118, 1143, 1180, 1205, 1230, 1243, 1280, 1345, 1370, 1383, 1396, 1409, 1422, 1447, 1484, 1497, 1510], 192, (0, 0, 0))) rfl) rfl
set_option maxRecDepth 100000 in
theorem s280_40c34 {d : Nat} {l0 l1 l2 l3 l4 l5 l6 : Value} {st : List Value} {I : am_I} {R : am_R} {Q : am_Q} : am_ev d 280 40 [l0, l1, l2, l3, l4, l5, l6] (.int 34 :: st) I R Q = am_ev d 280 1385 [l0, l1, l2, l3, l4, l5, l6] st I R Q := am_ev_nx (am_f280 (pc := 40) (q := (.tableswitch 1535 0 43 #[192, 265, 290, 315, 340, 365, 433, 470, 495, 532, 545, 586, 623, 648, 673, 742, 767, 780, 817, 842, 867, 880, 929, 966, 991, 1028, 1081, 1118, 1143, 1180, 1205, 1230, 1243, 1280, 1345, 1370, 1383, 1396, 1409, 1422, 1447, 1484, 1497, 1510], 192, (0, 0, 0))) rfl) rfl
set_option maxRecDepth 100000 in
theorem s280_40c35 {d : Nat} {l0 l1 l2 l3 l4 l5 l6 : Value} {st : List Value} {I : am_I} {R : am_R} {Q : am_Q} : am_ev d 280 40 [l0, l1, l2, l3, l4, l5, l6] (.int 35 :: st) I R Q = am_ev d 280 1410 [l0, l1, l2, l3, l4, l5, l6] st I R Q := am_ev_nx (am_f280 (pc := 40) (q := (.tableswitch 1535 0 43 #[192, 265, 290, 315, 340, 365, 433, 470, 495, 532, 545, 586, 623, 648, 673, 742, 767, 780, 817, 842, 867, 880, 929, 966, 991, 1028, 1081, 1118, 1143, 1180, 1205, 1230, 1243, 1280, 1345, 1370, 1383, 1396, 1409, 1422, 1447, 1484, 1497, 1510], 192, (0, 0, 0))) rfl) rfl
set_option maxRecDepth 100000 in
theorem s280_40c36 {d : Nat} {l0 l1 l2 l3 l4 l5 l6 : Value} {st : List Value} {I : am_I} {R : am_R} {Q : am_Q} : am_ev d 280 40 [l0, l1, l2, l3, l4, l5, l6] (.int 36 :: st) I R Q = am_ev d 280 1423 [l0, l1, l2, l3, l4, l5, l6] st I R Q := am_ev_nx (am_f280 (pc := 40) (q := (.tableswitch 1535 0 43 #[192, 265, 290, 315, 340, 365, 433, 470, 495, 532, 545, 586, 623, 648, 673, 742, 767, 780, 817, 842, 867, 880, 929, 966, 991, 1028, 1081, 1118, 1143, 1180, 1205, 1230, 1243, 1280, 1345, 1370, 1383, 1396, 1409, 1422, 1447, 1484, 1497, 1510], 192, (0, 0, 0))) rfl) rfl
set_option maxRecDepth 100000 in
theorem s280_40c37 {d : Nat} {l0 l1 l2 l3 l4 l5 l6 : Value} {st : List Value} {I : am_I} {R : am_R} {Q : am_Q} : am_ev d 280 40 [l0, l1, l2, l3, l4, l5, l6] (.int 37 :: st) I R Q = am_ev d 280 1436 [l0, l1, l2, l3, l4, l5, l6] st I R Q := am_ev_nx (am_f280 (pc := 40) (q := (.tableswitch 1535 0 43 #[192, 265, 290, 315, 340, 365, 433, 470, 495, 532, 545, 586, 623, 648, 673, 742, 767, 780, 817, 842, 867, 880, 929, 966, 991, 1028, 1081, 1118, 1143, 1180, 1205, 1230, 1243, 1280, 1345, 1370, 1383, 1396, 1409, 1422, 1447, 1484, 1497, 1510], 192, (0, 0, 0))) rfl) rfl
set_option maxRecDepth 100000 in
theorem s280_40c38 {d : Nat} {l0 l1 l2 l3 l4 l5 l6 : Value} {st : List Value} {I : am_I} {R : am_R} {Q : am_Q} : am_ev d 280 40 [l0, l1, l2, l3, l4, l5, l6] (.int 38 :: st) I R Q = am_ev d 280 1449 [l0, l1, l2, l3, l4, l5, l6] st I R Q := am_ev_nx (am_f280 (pc := 40) (q := (.tableswitch 1535 0 43 #[192, 265, 290, 315, 340, 365, 433, 470, 495, 532, 545, 586, 623, 648, 673, 742, 767, 780, 817, 842, 867, 880, 929, 966, 991, 1028, 1081, 1118, 1143, 1180, 1205, 1230, 1243, 1280, 1345, 1370, 1383, 1396, 1409, 1422, 1447, 1484, 1497, 1510], 192, (0, 0, 0))) rfl) rfl
set_option maxRecDepth 100000 in
theorem s280_40c39 {d : Nat} {l0 l1 l2 l3 l4 l5 l6 : Value} {st : List Value} {I : am_I} {R : am_R} {Q : am_Q} : am_ev d 280 40 [l0, l1, l2, l3, l4, l5, l6] (.int 39 :: st) I R Q = am_ev d 280 1462 [l0, l1, l2, l3, l4, l5, l6] st I R Q := am_ev_nx (am_f280 (pc := 40) (q := (.tableswitch 1535 0 43 #[192, 265, 290, 315, 340, 365, 433, 470, 495, 532, 545, 586, 623, 648, 673, 742, 767, 780, 817, 842, 867, 880, 929, 966, 991, 1028, 1081, 1118, 1143, 1180, 1205, 1230, 1243, 1280, 1345, 1370, 1383, 1396, 1409, 1422, 1447, 1484, 1497, 1510], 192, (0, 0, 0))) rfl) rfl
set_option maxRecDepth 100000 in
theorem s280_40c40 {d : Nat} {l0 l1 l2 l3 l4 l5 l6 : Value} {st : List Value} {I : am_I} {R : am_R} {Q : am_Q} : am_ev d 280 40 [l0, l1, l2, l3, l4, l5, l6] (.int 40 :: st) I R Q = am_ev d 280 1487 [l0, l1, l2, l3, l4, l5, l6] st I R Q := am_ev_nx (am_f280 (pc := 40) (q := (.tableswitch 1535 0 43 #[192, 265, 290, 315, 340, 365, 433, 470, 495, 532, 545, 586, 623, 648, 673, 742, 767, 780, 817, 842, 867, 880, 929, 966, 991, 1028, 1081, 1118, 1143, 1180, 1205, 1230, 1243, 1280, 1345, 1370, 1383, 1396, 1409, 1422, 1447, 1484, 1497, 1510], 192, (0, 0, 0))) rfl) rfl
set_option maxRecDepth 100000 in
theorem s280_40c41 {d : Nat} {l0 l1 l2 l3 l4 l5 l6 : Value} {st : List Value} {I : am_I} {R : am_R} {Q : am_Q} : am_ev d 280 40 [l0, l1, l2, l3, l4, l5, l6] (.int 41 :: st) I R Q = am_ev d 280 1524 [l0, l1, l2, l3, l4, l5, l6] st I R Q := am_ev_nx (am_f280 (pc := 40) (q := (.tableswitch 1535 0 43 #[192, 265, 290, 315, 340, 365, 433, 470, 495, 532, 545, 586, 623, 648, 673, 742, 767, 780, 817, 842, 867, 880, 929, 966, 991, 1028, 1081, 1118, 1143, 1180, 1205, 1230, 1243, 1280, 1345, 1370, 1383, 1396, 1409, 1422, 1447, 1484, 1497, 1510], 192, (0, 0, 0))) rfl) rfl
set_option maxRecDepth 100000 in
theorem s280_40c42 {d : Nat} {l0 l1 l2 l3 l4 l5 l6 : Value} {st : List Value} {I : am_I} {R : am_R} {Q : am_Q} : am_ev d 280 40 [l0, l1, l2, l3, l4, l5, l6] (.int 42 :: st) I R Q = am_ev d 280 1537 [l0, l1, l2, l3, l4, l5, l6] st I R Q := am_ev_nx (am_f280 (pc := 40) (q := (.tableswitch 1535 0 43 #[192, 265, 290, 315, 340, 365, 433, 470, 495, 532, 545, 586, 623, 648, 673, 742, 767, 780, 817, 842, 867, 880, 929, 966, 991, 1028, 1081, 1118, 1143, 1180, 1205, 1230, 1243, 1280, 1345, 1370, 1383, 1396, 1409, 1422, 1447, 1484, 1497, 1510], 192, (0, 0, 0))) rfl) rfl
set_option maxRecDepth 100000 in
theorem s280_40c43 {d : Nat} {l0 l1 l2 l3 l4 l5 l6 : Value} {st : List Value} {I : am_I} {R : am_R} {Q : am_Q} : am_ev d 280 40 [l0, l1, l2, l3, l4, l5, l6] (.int 43 :: st) I R Q = am_ev d 280 1550 [l0, l1, l2, l3, l4, l5, l6] st I R Q := am_ev_nx (am_f280 (pc := 40) (q := (.tableswitch 1535 0 43 #[192, 265, 290, 315, 340, 365, 433, 470, 495, 532, 545, 586, 623, 648, 673, 742, 767, 780, 817, 842, 867, 880, 929, 966, 991, 1028, 1081, 1118, 1143, 1180, 1205, 1230, 1243, 1280, 1345, 1370, 1383, 1396, 1409, 1422, 1447, 1484, 1497, 1510], 192, (0, 0, 0))) rfl) rfl
set_option maxRecDepth 100000 in
theorem s280_40d {d : Nat} {l0 l1 l2 l3 l4 l5 l6 : Value} {st : List Value} {x : Int32} {I : am_I} {R : am_R} {Q : am_Q} (h : x.toInt < 0 ∨ 43 < x.toInt) : am_ev d 280 40 [l0, l1, l2, l3, l4, l5, l6] (.int x :: st) I R Q = am_ev d 280 1575 [l0, l1, l2, l3, l4, l5, l6] st I R Q := am_ev_nx (am_f280 (pc := 40) (q := (.tableswitch 1535 0 43 #[192, 265, 290, 315, 340, 365, 433, 470, 495, 532, 545, 586, 623, 648, 673, 742, 767, 780, 817, 842, 867, 880, 929, 966, 991, 1028, 1081, 1118, 1143, 1180, 1205, 1230, 1243, 1280, 1345, 1370, 1383, 1396, 1409, 1422, 1447, 1484, 1497, 1510], 192, (0, 0, 0))) rfl) (am_sw_out h)
set_option maxRecDepth 100000 in
theorem s280_232 {d : Nat} {l0 l2 l3 l4 l5 l6 : Value} {st : List Value} {x : Nat} {I : am_I} {R : am_R} {Q : am_Q} : am_ev d 280 232 [l0, .ref x, l2, l3, l4, l5, l6] st I R Q = am_ev d 280 233 [l0, .ref x, l2, l3, l4, l5, l6] (.ref x :: st) I R Q := am_ev_nx (am_f280 (pc := 232) (q := (.aload_n 1, 1, (0, 0, 0))) rfl) rfl
set_option maxRecDepth 100000 in
theorem s280_233 {d : Nat} {l1 l2 l3 l4 l5 l6 : Value} {st : List Value} {x : Nat} {I : am_I} {R : am_R} {Q : am_Q} : am_ev d 280 233 [.ref x, l1, l2, l3, l4, l5, l6] st I R Q = am_ev d 280 234 [.ref x, l1, l2, l3, l4, l5, l6] (.ref x :: st) I R Q := am_ev_nx (am_f280 (pc := 233) (q := (.aload_n 0, 1, (0, 0, 0))) rfl) rfl
set_option maxRecDepth 100000 in
theorem s280_234 {d : Nat} {l0 l1 l2 l3 l5 l6 : Value} {st : List Value} {x : Int32} {I : am_I} {R : am_R} {Q : am_Q} : am_ev d 280 234 [l0, l1, l2, l3, .int x, l5, l6] st I R Q = am_ev d 280 236 [l0, l1, l2, l3, .int x, l5, l6] (.int x :: st) I R Q := am_ev_nx (am_f280 (pc := 234) (q := (.iload 4, 2, (0, 0, 0))) rfl) rfl
set_option maxRecDepth 100000 in
theorem s280_236 {d : Nat} {l0 l1 l2 l3 l4 l5 l6 : Value} {st : List Value} {I : am_I} {R : am_R} {Q : am_Q} : am_ev d 280 236 [l0, l1, l2, l3, l4, l5, l6] st I R Q = am_ev d 280 237 [l0, l1, l2, l3, l4, l5, l6] (.int (nI 1) :: st) I R Q := am_ev_nx (am_f280 (pc := 236) (q := (.iconst 1, 1, (0, 0, 1))) rfl) rfl
set_option maxRecDepth 100000 in
theorem s280_237 {d : Nat} {l0 l1 l2 l3 l4 l5 l6 : Value} {st : List Value} {x y : Int32} {I : am_I} {R : am_R} {Q : am_Q} : am_ev d 280 237 [l0, l1, l2, l3, l4, l5, l6] (.int y :: .int x :: st) I R Q = am_ev d 280 238 [l0, l1, l2, l3, l4, l5, l6] (.int (x + y) :: st) I R Q := am_ev_nx (am_f280 (pc := 237) (q := (.iadd, 1, (0, 0, 0))) rfl) rfl
set_option maxRecDepth 100000 in
theorem s280_239 {d : Nat} {l1 l2 l3 l4 l5 l6 : Value} {st : List Value} {x : Nat} {I : am_I} {R : am_R} {Q : am_Q} : am_ev d 280 239 [.ref x, l1, l2, l3, l4, l5, l6] st I R Q = am_ev d 280 240 [.ref x, l1, l2, l3, l4, l5, l6] (.ref x :: st) I R Q := am_ev_nx (am_f280 (pc := 239) (q := (.aload_n 0, 1, (0, 0, 0))) rfl) rfl
set_option maxRecDepth 100000 in
theorem s280_240 {d : Nat} {l0 l1 l2 l3 l5 l6 : Value} {st : List Value} {x : Int32} {I : am_I} {R : am_R} {Q : am_Q} : am_ev d 280 240 [l0, l1, l2, l3, .int x, l5, l6] st I R Q = am_ev d 280 242 [l0, l1, l2, l3, .int x, l5, l6] (.int x :: st) I R Q := am_ev_nx (am_f280 (pc := 240) (q := (.iload 4, 2, (0, 0, 0))) rfl) rfl
set_option maxRecDepth 100000 in
theorem s280_242 {d : Nat} {l0 l1 l2 l3 l4 l5 l6 : Value} {st : List Value} {I : am_I} {R : am_R} {Q : am_Q} : am_ev d 280 242 [l0, l1, l2, l3, l4, l5, l6] st I R Q = am_ev d 280 243 [l0, l1, l2, l3, l4, l5, l6] (.int (nI 2) :: st) I R Q := am_ev_nx (am_f280 (pc := 242) (q := (.iconst 2, 1, (0, 0, 2))) rfl) rfl
set_option maxRecDepth 100000 in
theorem s280_243 {d : Nat} {l0 l1 l2 l3 l4 l5 l6 : Value} {st : List Value} {x y : Int32} {I : am_I} {R : am_R} {Q : am_Q} : am_ev d 280 243 [l0, l1, l2, l3, l4, l5, l6] (.int y :: .int x :: st) I R Q = am_ev d 280 244 [l0, l1, l2, l3, l4, l5, l6] (.int (x + y) :: st) I R Q := am_ev_nx (am_f280 (pc := 243) (q := (.iadd, 1, (0, 0, 0))) rfl) rfl
set_option maxRecDepth 100000 in
theorem s280_245 {d : Nat} {l1 l2 l3 l4 l5 l6 : Value} {st : List Value} {x : Nat} {I : am_I} {R : am_R} {Q : am_Q} : am_ev d 280 245 [.ref x, l1, l2, l3, l4, l5, l6] st I R Q = am_ev d 280 246 [.ref x, l1, l2, l3, l4, l5, l6] (.ref x :: st) I R Q := am_ev_nx (am_f280 (pc := 245) (q := (.aload_n 0, 1, (0, 0, 0))) rfl) rfl
set_option maxRecDepth 100000 in
theorem s280_246 {d : Nat} {l0 l1 l2 l3 l5 l6 : Value} {st : List Value} {x : Int32} {I : am_I} {R : am_R} {Q : am_Q} : am_ev d 280 246 [l0, l1, l2, l3, .int x, l5, l6] st I R Q = am_ev d 280 248 [l0, l1, l2, l3, .int x, l5, l6] (.int x :: st) I R Q := am_ev_nx (am_f280 (pc := 246) (q := (.iload 4, 2, (0, 0, 0))) rfl) rfl
set_option maxRecDepth 100000 in
theorem s280_248 {d : Nat} {l0 l1 l2 l3 l4 l5 l6 : Value} {st : List Value} {I : am_I} {R : am_R} {Q : am_Q} : am_ev d 280 248 [l0, l1, l2, l3, l4, l5, l6] st I R Q = am_ev d 280 249 [l0, l1, l2, l3, l4, l5, l6] (.int (nI 3) :: st) I R Q := am_ev_nx (am_f280 (pc := 248) (q := (.iconst 3, 1, (0, 0, 3))) rfl) rfl
set_option maxRecDepth 100000 in
theorem s280_249 {d : Nat} {l0 l1 l2 l3 l4 l5 l6 : Value} {st : List Value} {x y : Int32} {I : am_I} {R : am_R} {Q : am_Q} : am_ev d 280 249 [l0, l1, l2, l3, l4, l5, l6] (.int y :: .int x :: st) I R Q = am_ev d 280 250 [l0, l1, l2, l3, l4, l5, l6] (.int (x + y) :: st) I R Q := am_ev_nx (am_f280 (pc := 249) (q := (.iadd, 1, (0, 0, 0))) rfl) rfl
set_option maxRecDepth 100000 in
theorem s280_251 {d : Nat} {l1 l2 l3 l4 l5 l6 : Value} {st : List Value} {x : Nat} {I : am_I} {R : am_R} {Q : am_Q} : am_ev d 280 251 [.ref x, l1, l2, l3, l4, l5, l6] st I R Q = am_ev d 280 252 [.ref x, l1, l2, l3, l4, l5, l6] (.ref x :: st) I R Q := am_ev_nx (am_f280 (pc := 251) (q := (.aload_n 0, 1, (0, 0, 0))) rfl) rfl
set_option maxRecDepth 100000 in
theorem s280_252 {d : Nat} {l0 l1 l2 l3 l5 l6 : Value} {st : List Value} {x : Int32} {I : am_I} {R : am_R} {Q : am_Q} : am_ev d 280 252 [l0, l1, l2, l3, .int x, l5, l6] st I R Q = am_ev d 280 254 [l0, l1, l2, l3, .int x, l5, l6] (.int x :: st) I R Q := am_ev_nx (am_f280 (pc := 252) (q := (.iload 4, 2, (0, 0, 0))) rfl) rfl
set_option maxRecDepth 100000 in
theorem s280_254 {d : Nat} {l0 l1 l2 l3 l4 l5 l6 : Value} {st : List Value} {I : am_I} {R : am_R} {Q : am_Q} : am_ev d 280 254 [l0, l1, l2, l3, l4, l5, l6] st I R Q = am_ev d 280 255 [l0, l1, l2, l3, l4, l5, l6] (.int (nI 4) :: st) I R Q := am_ev_nx (am_f280 (pc := 254) (q := (.iconst 4, 1, (0, 0, 4))) rfl) rfl
set_option maxRecDepth 100000 in
theorem s280_255 {d : Nat} {l0 l1 l2 l3 l4 l5 l6 : Value} {st : List Value} {x y : Int32} {I : am_I} {R : am_R} {Q : am_Q} : am_ev d 280 255 [l0, l1, l2, l3, l4, l5, l6] (.int y :: .int x :: st) I R Q = am_ev d 280 256 [l0, l1, l2, l3, l4, l5, l6] (.int (x + y) :: st) I R Q := am_ev_nx (am_f280 (pc := 255) (q := (.iadd, 1, (0, 0, 0))) rfl) rfl
set_option maxRecDepth 100000 in
theorem s280_257 {d : Nat} {l1 l2 l3 l4 l5 l6 : Value} {st : List Value} {x : Nat} {I : am_I} {R : am_R} {Q : am_Q} : am_ev d 280 257 [.ref x, l1, l2, l3, l4, l5, l6] st I R Q = am_ev d 280 258 [.ref x, l1, l2, l3, l4, l5, l6] (.ref x :: st) I R Q := am_ev_nx (am_f280 (pc := 257) (q := (.aload_n 0, 1, (0, 0, 0))) rfl) rfl
set_option maxRecDepth 100000 in
theorem s280_258 {d : Nat} {l0 l1 l2 l3 l5 l6 : Value} {st : List Value} {x : Int32} {I : am_I} {R : am_R} {Q : am_Q} : am_ev d 280 258 [l0, l1, l2, l3, .int x, l5, l6] st I R Q = am_ev d 280 260 [l0, l1, l2, l3, .int x, l5, l6] (.int x :: st) I R Q := am_ev_nx (am_f280 (pc := 258) (q := (.iload 4, 2, (0, 0, 0))) rfl) rfl
set_option maxRecDepth 100000 in
theorem s280_260 {d : Nat} {l0 l1 l2 l3 l4 l5 l6 : Value} {st : List Value} {I : am_I} {R : am_R} {Q : am_Q} : am_ev d 280 260 [l0, l1, l2, l3, l4, l5, l6] st I R Q = am_ev d 280 261 [l0, l1, l2, l3, l4, l5, l6] (.int (nI 5) :: st) I R Q := am_ev_nx (am_f280 (pc := 260) (q := (.iconst 5, 1, (0, 0, 5))) rfl) rfl
set_option maxRecDepth 100000 in
theorem s280_261 {d : Nat} {l0 l1 l2 l3 l4 l5 l6 : Value} {st : List Value} {x y : Int32} {I : am_I} {R : am_R} {Q : am_Q} : am_ev d 280 261 [l0, l1, l2, l3, l4, l5, l6] (.int y :: .int x :: st) I R Q = am_ev d 280 262 [l0, l1, l2, l3, l4, l5, l6] (.int (x + y) :: st) I R Q := am_ev_nx (am_f280 (pc := 261) (q := (.iadd, 1, (0, 0, 0))) rfl) rfl
set_option maxRecDepth 100000 in
theorem s280_263 {d : Nat} {l0 l1 l2 l3 l4 l5 l6 : Value} {a0 : Nat} {a1 : Int32} {a2 : Int32} {a3 : Int32} {a4 : Int32} {a5 : Int32} {I : am_I} {R : am_R} {Q : am_Q} : am_ev (d + 1) 280 263 [l0, l1, l2, l3, l4, l5, l6] [.int a5, .int a4, .int a3, .int a2, .int a1, .ref (am_mk 11 a0)] I R Q = am_th (am_cal d 97 [.ref (am_mk 11 a0), .int a1, .int a2, .int a3, .int a4, .int a5] I R Q) fun r I R Q => am_ev (d + 1) 280 266 [l0, l1, l2, l3, l4, l5, l6] (r.toList ++ []) I R Q := am_ev_call (am_f280 (pc := 263) (q := (.invokevirtual 19, 3, (97, 0, 0))) rfl) (am_inv_v [.int a1, .int a2, .int a3, .int a4, .int a5] [] (by decide) (by decide) rfl rfl rfl (Nat.le_of_ble_eq_true rfl))
set_option maxRecDepth 100000 in
theorem s280_266 {d : Nat} {l0 l1 l3 l4 l5 l6 : Value} {st : List Value} {x : Nat} {I : am_I} {R : am_R} {Q : am_Q} : am_ev d 280 266 [l0, l1, .ref x, l3, l4, l5, l6] st I R Q = am_ev d 280 267 [l0, l1, .ref x, l3, l4, l5, l6] (.ref x :: st) I R Q := am_ev_nx (am_f280 (pc := 266) (q := (.aload_n 2, 1, (0, 0, 0))) rfl) rfl
set_option maxRecDepth 100000 in
theorem s280_267 {d : Nat} {l1 l2 l3 l4 l5 l6 : Value} {st : List Value} {x : Nat} {I : am_I} {R : am_R} {Q : am_Q} : am_ev d 280 267 [.ref x, l1, l2, l3, l4, l5, l6] st I R Q = am_ev d 280 268 [.ref x, l1, l2, l3, l4, l5, l6] (.ref x :: st) I R Q := am_ev_nx (am_f280 (pc := 267) (q := (.aload_n 0, 1, (0, 0, 0))) rfl) rfl
set_option maxRecDepth 100000 in
theorem s280_268 {d : Nat} {l0 l1 l2 l3 l5 l6 : Value} {st : List Value} {x : Int32} {I : am_I} {R : am_R} {Q : am_Q} : am_ev d 280 268 [l0, l1, l2, l3, .int x, l5, l6] st I R Q = am_ev d 280 270 [l0, l1, l2, l3, .int x, l5, l6] (.int x :: st) I R Q := am_ev_nx (am_f280 (pc := 268) (q := (.iload 4, 2, (0, 0, 0))) rfl) rfl
set_option maxRecDepth 100000 in
theorem s280_270 {d : Nat} {l0 l1 l2 l3 l4 l5 l6 : Value} {st : List Value} {I : am_I} {R : am_R} {Q : am_Q} : am_ev d 280 270 [l0, l1, l2, l3, l4, l5, l6] st I R Q = am_ev d 280 271 [l0, l1, l2, l3, l4, l5, l6] (.int (nI 1) :: st) I R Q := am_ev_nx (am_f280 (pc := 270) (q := (.iconst 1, 1, (0, 0, 1))) rfl) rfl
set_option maxRecDepth 100000 in
theorem s280_271 {d : Nat} {l0 l1 l2 l3 l4 l5 l6 : Value} {st : List Value} {x y : Int32} {I : am_I} {R : am_R} {Q : am_Q} : am_ev d 280 271 [l0, l1, l2, l3, l4, l5, l6] (.int y :: .int x :: st) I R Q = am_ev d 280 272 [l0, l1, l2, l3, l4, l5, l6] (.int (x + y) :: st) I R Q := am_ev_nx (am_f280 (pc := 271) (q := (.iadd, 1, (0, 0, 0))) rfl) rfl
set_option maxRecDepth 100000 in
theorem s280_273 {d : Nat} {l1 l2 l3 l4 l5 l6 : Value} {st : List Value} {x : Nat} {I : am_I} {R : am_R} {Q : am_Q} : am_ev d 280 273 [.ref x, l1, l2, l3, l4, l5, l6] st I R Q = am_ev d 280 274 [.ref x, l1, l2, l3, l4, l5, l6] (.ref x :: st) I R Q := am_ev_nx (am_f280 (pc := 273) (q := (.aload_n 0, 1, (0, 0, 0))) rfl) rfl
set_option maxRecDepth 100000 in
theorem s280_274 {d : Nat} {l0 l1 l2 l3 l5 l6 : Value} {st : List Value} {x : Int32} {I : am_I} {R : am_R} {Q : am_Q} : am_ev d 280 274 [l0, l1, l2, l3, .int x, l5, l6] st I R Q = am_ev d 280 276 [l0, l1, l2, l3, .int x, l5, l6] (.int x :: st) I R Q := am_ev_nx (am_f280 (pc := 274) (q := (.iload 4, 2, (0, 0, 0))) rfl) rfl
set_option maxRecDepth 100000 in
theorem s280_276 {d : Nat} {l0 l1 l2 l3 l4 l5 l6 : Value} {st : List Value} {I : am_I} {R : am_R} {Q : am_Q} : am_ev d 280 276 [l0, l1, l2, l3, l4, l5, l6] st I R Q = am_ev d 280 277 [l0, l1, l2, l3, l4, l5, l6] (.int (nI 2) :: st) I R Q := am_ev_nx (am_f280 (pc := 276) (q := (.iconst 2, 1, (0, 0, 2))) rfl) rfl
set_option maxRecDepth 100000 in
theorem s280_277 {d : Nat} {l0 l1 l2 l3 l4 l5 l6 : Value} {st : List Value} {x y : Int32} {I : am_I} {R : am_R} {Q : am_Q} : am_ev d 280 277 [l0, l1, l2, l3, l4, l5, l6] (.int y :: .int x :: st) I R Q = am_ev d 280 278 [l0, l1, l2, l3, l4, l5, l6] (.int (x + y) :: st) I R Q := am_ev_nx (am_f280 (pc := 277) (q := (.iadd, 1, (0, 0, 0))) rfl) rfl
set_option maxRecDepth 100000 in
theorem s280_279 {d : Nat} {l1 l2 l3 l4 l5 l6 : Value} {st : List Value} {x : Nat} {I : am_I} {R : am_R} {Q : am_Q} : am_ev d 280 279 [.ref x, l1, l2, l3, l4, l5, l6] st I R Q = am_ev d 280 280 [.ref x, l1, l2, l3, l4, l5, l6] (.ref x :: st) I R Q := am_ev_nx (am_f280 (pc := 279) (q := (.aload_n 0, 1, (0, 0, 0))) rfl) rfl
set_option maxRecDepth 100000 in
theorem s280_280 {d : Nat} {l0 l1 l2 l3 l5 l6 : Value} {st : List Value} {x : Int32} {I : am_I} {R : am_R} {Q : am_Q} : am_ev d 280 280 [l0, l1, l2, l3, .int x, l5, l6] st I R Q = am_ev d 280 282 [l0, l1, l2, l3, .int x, l5, l6] (.int x :: st) I R Q := am_ev_nx (am_f280 (pc := 280) (q := (.iload 4, 2, (0, 0, 0))) rfl) rfl
set_option maxRecDepth 100000 in
theorem s280_282 {d : Nat} {l0 l1 l2 l3 l4 l5 l6 : Value} {st : List Value} {I : am_I} {R : am_R} {Q : am_Q} : am_ev d 280 282 [l0, l1, l2, l3, l4, l5, l6] st I R Q = am_ev d 280 283 [l0, l1, l2, l3, l4, l5, l6] (.int (nI 3) :: st) I R Q := am_ev_nx (am_f280 (pc := 282) (q := (.iconst 3, 1, (0, 0, 3))) rfl) rfl
set_option maxRecDepth 100000 in
theorem s280_283 {d : Nat} {l0 l1 l2 l3 l4 l5 l6 : Value} {st : List Value} {x y : Int32} {I : am_I} {R : am_R} {Q : am_Q} : am_ev d 280 283 [l0, l1, l2, l3, l4, l5, l6] (.int y :: .int x :: st) I R Q = am_ev d 280 284 [l0, l1, l2, l3, l4, l5, l6] (.int (x + y) :: st) I R Q := am_ev_nx (am_f280 (pc := 283) (q := (.iadd, 1, (0, 0, 0))) rfl) rfl
set_option maxRecDepth 100000 in
theorem s280_285 {d : Nat} {l1 l2 l3 l4 l5 l6 : Value} {st : List Value} {x : Nat} {I : am_I} {R : am_R} {Q : am_Q} : am_ev d 280 285 [.ref x, l1, l2, l3, l4, l5, l6] st I R Q = am_ev d 280 286 [.ref x, l1, l2, l3, l4, l5, l6] (.ref x :: st) I R Q := am_ev_nx (am_f280 (pc := 285) (q := (.aload_n 0, 1, (0, 0, 0))) rfl) rfl
set_option maxRecDepth 100000 in
theorem s280_286 {d : Nat} {l0 l1 l2 l3 l5 l6 : Value} {st : List Value} {x : Int32} {I : am_I} {R : am_R} {Q : am_Q} : am_ev d 280 286 [l0, l1, l2, l3, .int x, l5, l6] st I R Q = am_ev d 280 288 [l0, l1, l2, l3, .int x, l5, l6] (.int x :: st) I R Q := am_ev_nx (am_f280 (pc := 286) (q := (.iload 4, 2, (0, 0, 0))) rfl) rfl
set_option maxRecDepth 100000 in
theorem s280_288 {d : Nat} {l0 l1 l2 l3 l4 l5 l6 : Value} {st : List Value} {I : am_I} {R : am_R} {Q : am_Q} : am_ev d 280 288 [l0, l1, l2, l3, l4, l5, l6] st I R Q = am_ev d 280 289 [l0, l1, l2, l3, l4, l5, l6] (.int (nI 4) :: st) I R Q := am_ev_nx (am_f280 (pc := 288) (q := (.iconst 4, 1, (0, 0, 4))) rfl) rfl
set_option maxRecDepth 100000 in
theorem s280_289 {d : Nat} {l0 l1 l2 l3 l4 l5 l6 : Value} {st : List Value} {x y : Int32} {I : am_I} {R : am_R} {Q : am_Q} : am_ev d 280 289 [l0, l1, l2, l3, l4, l5, l6] (.int y :: .int x :: st) I R Q = am_ev d 280 290 [l0, l1, l2, l3, l4, l5, l6] (.int (x + y) :: st) I R Q := am_ev_nx (am_f280 (pc := 289) (q := (.iadd, 1, (0, 0, 0))) rfl) rfl
set_option maxRecDepth 100000 in
theorem s280_291 {d : Nat} {l1 l2 l3 l4 l5 l6 : Value} {st : List Value} {x : Nat} {I : am_I} {R : am_R} {Q : am_Q} : am_ev d 280 291 [.ref x, l1, l2, l3, l4, l5, l6] st I R Q = am_ev d 280 292 [.ref x, l1, l2, l3, l4, l5, l6] (.ref x :: st) I R Q := am_ev_nx (am_f280 (pc := 291) (q := (.aload_n 0, 1, (0, 0, 0))) rfl) rfl
set_option maxRecDepth 100000 in
theorem s280_292 {d : Nat} {l0 l1 l2 l3 l5 l6 : Value} {st : List Value} {x : Int32} {I : am_I} {R : am_R} {Q : am_Q} : am_ev d 280 292 [l0, l1, l2, l3, .int x, l5, l6] st I R Q = am_ev d 280 294 [l0, l1, l2, l3, .int x, l5, l6] (.int x :: st) I R Q := am_ev_nx (am_f280 (pc := 292) (q := (.iload 4, 2, (0, 0, 0))) rfl) rfl
set_option maxRecDepth 100000 in
theorem s280_294 {d : Nat} {l0 l1 l2 l3 l4 l5 l6 : Value} {st : List Value} {I : am_I} {R : am_R} {Q : am_Q} : am_ev d 280 294 [l0, l1, l2, l3, l4, l5, l6] st I R Q = am_ev d 280 295 [l0, l1, l2, l3, l4, l5, l6] (.int (nI 5) :: st) I R Q := am_ev_nx (am_f280 (pc := 294) (q := (.iconst 5, 1, (0, 0, 5))) rfl) rfl
set_option maxRecDepth 100000 in
theorem s280_295 {d : Nat} {l0 l1 l2 l3 l4 l5 l6 : Value} {st : List Value} {x y : Int32} {I : am_I} {R : am_R} {Q : am_Q} : am_ev d 280 295 [l0, l1, l2, l3, l4, l5, l6] (.int y :: .int x :: st) I R Q = am_ev d 280 296 [l0, l1, l2, l3, l4, l5, l6] (.int (x + y) :: st) I R Q := am_ev_nx (am_f280 (pc := 295) (q := (.iadd, 1, (0, 0, 0))) rfl) rfl
set_option maxRecDepth 100000 in
theorem s280_297 {d : Nat} {l0 l1 l2 l3 l4 l5 l6 : Value} {a0 : Nat} {a1 : Int32} {a2 : Int32} {a3 : Int32} {a4 : Int32} {a5 : Int32} {r0 : Value} {I : am_I} {R : am_R} {Q : am_Q} : am_ev (d + 1) 280 297 [l0, l1, l2, l3, l4, l5, l6] [.int a5, .int a4, .int a3, .int a2, .int a1, .ref (am_mk 12 a0), r0] I R Q = am_th (am_cal d 161 [.ref (am_mk 12 a0), .int a1, .int a2, .int a3, .int a4, .int a5] I R Q) fun r I R Q => am_ev (d + 1) 280 300 [l0, l1, l2, l3, l4, l5, l6] (r.toList ++ [r0]) I R Q := am_ev_call (am_f280 (pc := 297) (q := (.invokevirtual 23, 3, (161, 0, 0))) rfl) (am_inv_v [.int a1, .int a2, .int a3, .int a4, .int a5] [r0] (by decide) (by decide) rfl rfl rfl (Nat.le_of_ble_eq_true rfl))
set_option maxRecDepth 100000 in
theorem s280_300 {d : Nat} {l0 l1 l2 l3 l4 l5 l6 : Value} {st : List Value} {x y : Int32} {I : am_I} {R : am_R} {Q : am_Q} : am_ev d 280 300 [l0, l1, l2, l3, l4, l5, l6] (.int y :: .int x :: st) I R Q = if x = y then am_ev d 280 1575 [l0, l1, l2, l3, l4, l5, l6] st I R Q else am_ev d 280 303 [l0, l1, l2, l3, l4, l5, l6] st I R Q := am_ev_br (am_f280 (pc := 300) (q := (.if_icmp .eq 1275, 3, (0, 0, 0))) rfl) rfl
set_option maxRecDepth 100000 in
theorem s280_303 {d : Nat} {l0 l1 l2 l3 l4 l5 l6 : Value} {st : List Value} {I : am_I} {R : am_R} {Q : am_Q} : am_ev d 280 303 [l0, l1, l2, l3, l4, l5, l6] st I R Q = am_ev d 280 304 [l0, l1, l2, l3, l4, l5, l6] (.int (nI 0) :: st) I R Q := am_ev_nx (am_f280 (pc := 303) (q := (.iconst 0, 1, (0, 0, 0))) rfl) rfl
set_option maxRecDepth 100000 in
theorem s280_304 {d : Nat} {l0 l1 l2 l3 l4 l5 l6 : Value} {x : Int32} {I : am_I} {R : am_R} {Q : am_Q} : am_ev d 280 304 [l0, l1, l2, l3, l4, l5, l6] [.int x] I R Q = if am_bb x then some (some (.int x), I, R, Q) else none := am_ev_ifr (am_f280 (pc := 304) (q := (.ireturn, 1, (1, 0, 0))) rfl) (am_zr_u rfl)
set_option maxRecDepth 100000 in
theorem s280_305 {d : Nat} {l0 l2 l3 l4 l5 l6 : Value} {st : List Value} {x : Nat} {I : am_I} {R : am_R} {Q : am_Q} : am_ev d 280 305 [l0, .ref x, l2, l3, l4, l5, l6] st I R Q = am_ev d 280 306 [l0, .ref x, l2, l3, l4, l5, l6] (.ref x :: st) I R Q := am_ev_nx (am_f280 (pc := 305) (q := (.aload_n 1, 1, (0, 0, 0))) rfl) rfl
set_option maxRecDepth 100000 in
theorem s280_306 {d : Nat} {l1 l2 l3 l4 l5 l6 : Value} {st : List Value} {x : Nat} {I : am_I} {R : am_R} {Q : am_Q} : am_ev d 280 306 [.ref x, l1, l2, l3, l4, l5, l6] st I R Q = am_ev d 280 307 [.ref x, l1, l2, l3, l4, l5, l6] (.ref x :: st) I R Q := am_ev_nx (am_f280 (pc := 306) (q := (.aload_n 0, 1, (0, 0, 0))) rfl) rfl
set_option maxRecDepth 100000 in
theorem s280_307 {d : Nat} {l0 l1 l2 l3 l5 l6 : Value} {st : List Value} {x : Int32} {I : am_I} {R : am_R} {Q : am_Q} : am_ev d 280 307 [l0, l1, l2, l3, .int x, l5, l6] st I R Q = am_ev d 280 309 [l0, l1, l2, l3, .int x, l5, l6] (.int x :: st) I R Q := am_ev_nx (am_f280 (pc := 307) (q := (.iload 4, 2, (0, 0, 0))) rfl) rfl
set_option maxRecDepth 100000 in
theorem s280_309 {d : Nat} {l0 l1 l2 l3 l4 l5 l6 : Value} {st : List Value} {I : am_I} {R : am_R} {Q : am_Q} : am_ev d 280 309 [l0, l1, l2, l3, l4, l5, l6] st I R Q = am_ev d 280 310 [l0, l1, l2, l3, l4, l5, l6] (.int (nI 1) :: st) I R Q := am_ev_nx (am_f280 (pc := 309) (q := (.iconst 1, 1, (0, 0, 1))) rfl) rfl
set_option maxRecDepth 100000 in
theorem s280_310 {d : Nat} {l0 l1 l2 l3 l4 l5 l6 : Value} {st : List Value} {x y : Int32} {I : am_I} {R : am_R} {Q : am_Q} : am_ev d 280 310 [l0, l1, l2, l3, l4, l5, l6] (.int y :: .int x :: st) I R Q = am_ev d 280 311 [l0, l1, l2, l3, l4, l5, l6] (.int (x + y) :: st) I R Q := am_ev_nx (am_f280 (pc := 310) (q := (.iadd, 1, (0, 0, 0))) rfl) rfl
set_option maxRecDepth 100000 in
theorem s280_312 {d : Nat} {l0 l1 l2 l3 l4 l5 l6 : Value} {a0 : Nat} {a1 : Int32} {I : am_I} {R : am_R} {Q : am_Q} : am_ev (d + 1) 280 312 [l0, l1, l2, l3, l4, l5, l6] [.int a1, .ref (am_mk 11 a0)] I R Q = am_th (am_cal d 99 [.ref (am_mk 11 a0), .int a1] I R Q) fun r I R Q => am_ev (d + 1) 280 315 [l0, l1, l2, l3, l4, l5, l6] (r.toList ++ []) I R Q := am_ev_call (am_f280 (pc := 312) (q := (.invokevirtual 24, 3, (99, 0, 0))) rfl) (am_inv_v [.int a1] [] (by decide) (by decide) rfl rfl rfl (Nat.le_of_ble_eq_true rfl))
set_option maxRecDepth 100000 in
theorem s280_315 {d : Nat} {l0 l1 l3 l4 l5 l6 : Value} {st : List Value} {x : Nat} {I : am_I} {R : am_R} {Q : am_Q} : am_ev d 280 315 [l0, l1, .ref x, l3, l4, l5, l6] st I R Q = am_ev d 280 316 [l0, l1, .ref x, l3, l4, l5, l6] (.ref x :: st) I R Q := am_ev_nx (am_f280 (pc := 315) (q := (.aload_n 2, 1, (0, 0, 0))) rfl) rfl
set_option maxRecDepth 100000 in
theorem s280_316 {d : Nat} {l1 l2 l3 l4 l5 l6 : Value} {st : List Value} {x : Nat} {I : am_I} {R : am_R} {Q : am_Q} : am_ev d 280 316 [.ref x, l1, l2, l3, l4, l5, l6] st I R Q = am_ev d 280 317 [.ref x, l1, l2, l3, l4, l5, l6] (.ref x :: st) I R Q := am_ev_nx (am_f280 (pc := 316) (q := (.aload_n 0, 1, (0, 0, 0))) rfl) rfl
set_option maxRecDepth 100000 in
theorem s280_317 {d : Nat} {l0 l1 l2 l3 l5 l6 : Value} {st : List Value} {x : Int32} {I : am_I} {R : am_R} {Q : am_Q} : am_ev d 280 317 [l0, l1, l2, l3, .int x, l5, l6] st I R Q = am_ev d 280 319 [l0, l1, l2, l3, .int x, l5, l6] (.int x :: st) I R Q := am_ev_nx (am_f280 (pc := 317) (q := (.iload 4, 2, (0, 0, 0))) rfl) rfl
set_option maxRecDepth 100000 in
theorem s280_319 {d : Nat} {l0 l1 l2 l3 l4 l5 l6 : Value} {st : List Value} {I : am_I} {R : am_R} {Q : am_Q} : am_ev d 280 319 [l0, l1, l2, l3, l4, l5, l6] st I R Q = am_ev d 280 320 [l0, l1, l2, l3, l4, l5, l6] (.int (nI 1) :: st) I R Q := am_ev_nx (am_f280 (pc := 319) (q := (.iconst 1, 1, (0, 0, 1))) rfl) rfl
set_option maxRecDepth 100000 in
theorem s280_320 {d : Nat} {l0 l1 l2 l3 l4 l5 l6 : Value} {st : List Value} {x y : Int32} {I : am_I} {R : am_R} {Q : am_Q} : am_ev d 280 320 [l0, l1, l2, l3, l4, l5, l6] (.int y :: .int x :: st) I R Q = am_ev d 280 321 [l0, l1, l2, l3, l4, l5, l6] (.int (x + y) :: st) I R Q := am_ev_nx (am_f280 (pc := 320) (q := (.iadd, 1, (0, 0, 0))) rfl) rfl
set_option maxRecDepth 100000 in
theorem s280_322 {d : Nat} {l0 l1 l2 l3 l4 l5 l6 : Value} {a0 : Nat} {a1 : Int32} {r0 : Value} {I : am_I} {R : am_R} {Q : am_Q} : am_ev (d + 1) 280 322 [l0, l1, l2, l3, l4, l5, l6] [.int a1, .ref (am_mk 12 a0), r0] I R Q = am_th (am_cal d 162 [.ref (am_mk 12 a0), .int a1] I R Q) fun r I R Q => am_ev (d + 1) 280 325 [l0, l1, l2, l3, l4, l5, l6] (r.toList ++ [r0]) I R Q := am_ev_call (am_f280 (pc := 322) (q := (.invokevirtual 28, 3, (162, 0, 0))) rfl) (am_inv_v [.int a1] [r0] (by decide) (by decide) rfl rfl rfl (Nat.le_of_ble_eq_true rfl))
set_option maxRecDepth 100000 in
theorem s280_325 {d : Nat} {l0 l1 l2 l3 l4 l5 l6 : Value} {st : List Value} {x y : Int32} {I : am_I} {R : am_R} {Q : am_Q} : am_ev d 280 325 [l0, l1, l2, l3, l4, l5, l6] (.int y :: .int x :: st) I R Q = if x = y then am_ev d 280 1575 [l0, l1, l2, l3, l4, l5, l6] st I R Q else am_ev d 280 328 [l0, l1, l2, l3, l4, l5, l6] st I R Q := am_ev_br (am_f280 (pc := 325) (q := (.if_icmp .eq 1250, 3, (0, 0, 0))) rfl) rfl
set_option maxRecDepth 100000 in
theorem s280_328 {d : Nat} {l0 l1 l2 l3 l4 l5 l6 : Value} {st : List Value} {I : am_I} {R : am_R} {Q : am_Q} : am_ev d 280 328 [l0, l1, l2, l3, l4, l5, l6] st I R Q = am_ev d 280 329 [l0, l1, l2, l3, l4, l5, l6] (.int (nI 0) :: st) I R Q := am_ev_nx (am_f280 (pc := 328) (q := (.iconst 0, 1, (0, 0, 0))) rfl) rfl
set_option maxRecDepth 100000 in
theorem s280_329 {d : Nat} {l0 l1 l2 l3 l4 l5 l6 : Value} {x : Int32} {I : am_I} {R : am_R} {Q : am_Q} : am_ev d 280 329 [l0, l1, l2, l3, l4, l5, l6] [.int x] I R Q = if am_bb x then some (some (.int x), I, R, Q) else none := am_ev_ifr (am_f280 (pc := 329) (q := (.ireturn, 1, (1, 0, 0))) rfl) (am_zr_u rfl)
set_option maxRecDepth 100000 in
theorem s280_330 {d : Nat} {l0 l2 l3 l4 l5 l6 : Value} {st : List Value} {x : Nat} {I : am_I} {R : am_R} {Q : am_Q} : am_ev d 280 330 [l0, .ref x, l2, l3, l4, l5, l6] st I R Q = am_ev d 280 331 [l0, .ref x, l2, l3, l4, l5, l6] (.ref x :: st) I R Q := am_ev_nx (am_f280 (pc := 330) (q := (.aload_n 1, 1, (0, 0, 0))) rfl) rfl
set_option maxRecDepth 100000 in
theorem s280_331 {d : Nat} {l1 l2 l3 l4 l5 l6 : Value} {st : List Value} {x : Nat} {I : am_I} {R : am_R} {Q : am_Q} : am_ev d 280 331 [.ref x, l1, l2, l3, l4, l5, l6] st I R Q = am_ev d 280 332 [.ref x, l1, l2, l3, l4, l5, l6] (.ref x :: st) I R Q := am_ev_nx (am_f280 (pc := 331) (q := (.aload_n 0, 1, (0, 0, 0))) rfl) rfl
set_option maxRecDepth 100000 in
theorem s280_332 {d : Nat} {l0 l1 l2 l3 l5 l6 : Value} {st : List Value} {x : Int32} {I : am_I} {R : am_R} {Q : am_Q} : am_ev d 280 332 [l0, l1, l2, l3, .int x, l5, l6] st I R Q = am_ev d 280 334 [l0, l1, l2, l3, .int x, l5, l6] (.int x :: st) I R Q := am_ev_nx (am_f280 (pc := 332) (q := (.iload 4, 2, (0, 0, 0))) rfl) rfl
set_option maxRecDepth 100000 in
theorem s280_334 {d : Nat} {l0 l1 l2 l3 l4 l5 l6 : Value} {st : List Value} {I : am_I} {R : am_R} {Q : am_Q} : am_ev d 280 334 [l0, l1, l2, l3, l4, l5, l6] st I R Q = am_ev d 280 335 [l0, l1, l2, l3, l4, l5, l6] (.int (nI 1) :: st) I R Q := am_ev_nx (am_f280 (pc := 334) (q := (.iconst 1, 1, (0, 0, 1))) rfl) rfl
set_option maxRecDepth 100000 in
theorem s280_335 {d : Nat} {l0 l1 l2 l3 l4 l5 l6 : Value} {st : List Value} {x y : Int32} {I : am_I} {R : am_R} {Q : am_Q} : am_ev d 280 335 [l0, l1, l2, l3, l4, l5, l6] (.int y :: .int x :: st) I R Q = am_ev d 280 336 [l0, l1, l2, l3, l4, l5, l6] (.int (x + y) :: st) I R Q := am_ev_nx (am_f280 (pc := 335) (q := (.iadd, 1, (0, 0, 0))) rfl) rfl
set_option maxRecDepth 100000 in
theorem s280_337 {d : Nat} {l0 l1 l2 l3 l4 l5 l6 : Value} {a0 : Nat} {a1 : Int32} {I : am_I} {R : am_R} {Q : am_Q} : am_ev (d + 1) 280 337 [l0, l1, l2, l3, l4, l5, l6] [.int a1, .ref (am_mk 11 a0)] I R Q = am_th (am_cal d 100 [.ref (am_mk 11 a0), .int a1] I R Q) fun r I R Q => am_ev (d + 1) 280 340 [l0, l1, l2, l3, l4, l5, l6] (r.toList ++ []) I R Q := am_ev_call (am_f280 (pc := 337) (q := (.invokevirtual 29, 3, (100, 0, 0))) rfl) (am_inv_v [.int a1] [] (by decide) (by decide) rfl rfl rfl (Nat.le_of_ble_eq_true rfl))
set_option maxRecDepth 100000 in
theorem s280_340 {d : Nat} {l0 l1 l3 l4 l5 l6 : Value} {st : List Value} {x : Nat} {I : am_I} {R : am_R} {Q : am_Q} : am_ev d 280 340 [l0, l1, .ref x, l3, l4, l5, l6] st I R Q = am_ev d 280 341 [l0, l1, .ref x, l3, l4, l5, l6] (.ref x :: st) I R Q := am_ev_nx (am_f280 (pc := 340) (q := (.aload_n 2, 1, (0, 0, 0))) rfl) rfl
set_option maxRecDepth 100000 in
theorem s280_341 {d : Nat} {l1 l2 l3 l4 l5 l6 : Value} {st : List Value} {x : Nat} {I : am_I} {R : am_R} {Q : am_Q} : am_ev d 280 341 [.ref x, l1, l2, l3, l4, l5, l6] st I R Q = am_ev d 280 342 [.ref x, l1, l2, l3, l4, l5, l6] (.ref x :: st) I R Q := am_ev_nx (am_f280 (pc := 341) (q := (.aload_n 0, 1, (0, 0, 0))) rfl) rfl
set_option maxRecDepth 100000 in
theorem s280_342 {d : Nat} {l0 l1 l2 l3 l5 l6 : Value} {st : List Value} {x : Int32} {I : am_I} {R : am_R} {Q : am_Q} : am_ev d 280 342 [l0, l1, l2, l3, .int x, l5, l6] st I R Q = am_ev d 280 344 [l0, l1, l2, l3, .int x, l5, l6] (.int x :: st) I R Q := am_ev_nx (am_f280 (pc := 342) (q := (.iload 4, 2, (0, 0, 0))) rfl) rfl
set_option maxRecDepth 100000 in
theorem s280_344 {d : Nat} {l0 l1 l2 l3 l4 l5 l6 : Value} {st : List Value} {I : am_I} {R : am_R} {Q : am_Q} : am_ev d 280 344 [l0, l1, l2, l3, l4, l5, l6] st I R Q = am_ev d 280 345 [l0, l1, l2, l3, l4, l5, l6] (.int (nI 1) :: st) I R Q := am_ev_nx (am_f280 (pc := 344) (q := (.iconst 1, 1, (0, 0, 1))) rfl) rfl
set_option maxRecDepth 100000 in
theorem s280_345 {d : Nat} {l0 l1 l2 l3 l4 l5 l6 : Value} {st : List Value} {x y : Int32} {I : am_I} {R : am_R} {Q : am_Q} : am_ev d 280 345 [l0, l1, l2, l3, l4, l5, l6] (.int y :: .int x :: st) I R Q = am_ev d 280 346 [l0, l1, l2, l3, l4, l5, l6] (.int (x + y) :: st) I R Q := am_ev_nx (am_f280 (pc := 345) (q := (.iadd, 1, (0, 0, 0))) rfl) rfl
set_option maxRecDepth 100000 in
theorem s280_347 {d : Nat} {l0 l1 l2 l3 l4 l5 l6 : Value} {a0 : Nat} {a1 : Int32} {r0 : Value} {I : am_I} {R : am_R} {Q : am_Q} : am_ev (d + 1) 280 347 [l0, l1, l2, l3, l4, l5, l6] [.int a1, .ref (am_mk 12 a0), r0] I R Q = am_th (am_cal d 198 [.ref (am_mk 12 a0), .int a1] I R Q) fun r I R Q => am_ev (d + 1) 280 350 [l0, l1, l2, l3, l4, l5, l6] (r.toList ++ [r0]) I R Q := am_ev_call (am_f280 (pc := 347) (q := (.invokevirtual 33, 3, (198, 0, 0))) rfl) (am_inv_v [.int a1] [r0] (by decide) (by decide) rfl rfl rfl (Nat.le_of_ble_eq_true rfl))
set_option maxRecDepth 100000 in
theorem s280_350 {d : Nat} {l0 l1 l2 l3 l4 l5 l6 : Value} {st : List Value} {x y : Int32} {I : am_I} {R : am_R} {Q : am_Q} : am_ev d 280 350 [l0, l1, l2, l3, l4, l5, l6] (.int y :: .int x :: st) I R Q = if x = y then am_ev d 280 1575 [l0, l1, l2, l3, l4, l5, l6] st I R Q else am_ev d 280 353 [l0, l1, l2, l3, l4, l5, l6] st I R Q := am_ev_br (am_f280 (pc := 350) (q := (.if_icmp .eq 1225, 3, (0, 0, 0))) rfl) rfl
set_option maxRecDepth 100000 in
theorem s280_353 {d : Nat} {l0 l1 l2 l3 l4 l5 l6 : Value} {st : List Value} {I : am_I} {R : am_R} {Q : am_Q} : am_ev d 280 353 [l0, l1, l2, l3, l4, l5, l6] st I R Q = am_ev d 280 354 [l0, l1, l2, l3, l4, l5, l6] (.int (nI 0) :: st) I R Q := am_ev_nx (am_f280 (pc := 353) (q := (.iconst 0, 1, (0, 0, 0))) rfl) rfl
set_option maxRecDepth 100000 in
theorem s280_354 {d : Nat} {l0 l1 l2 l3 l4 l5 l6 : Value} {x : Int32} {I : am_I} {R : am_R} {Q : am_Q} : am_ev d 280 354 [l0, l1, l2, l3, l4, l5, l6] [.int x] I R Q = if am_bb x then some (some (.int x), I, R, Q) else none := am_ev_ifr (am_f280 (pc := 354) (q := (.ireturn, 1, (1, 0, 0))) rfl) (am_zr_u rfl)
set_option maxRecDepth 100000 in
theorem s280_355 {d : Nat} {l0 l2 l3 l4 l5 l6 : Value} {st : List Value} {x : Nat} {I : am_I} {R : am_R} {Q : am_Q} : am_ev d 280 355 [l0, .ref x, l2, l3, l4, l5, l6] st I R Q = am_ev d 280 356 [l0, .ref x, l2, l3, l4, l5, l6] (.ref x :: st) I R Q := am_ev_nx (am_f280 (pc := 355) (q := (.aload_n 1, 1, (0, 0, 0))) rfl) rfl
set_option maxRecDepth 100000 in
theorem s280_356 {d : Nat} {l1 l2 l3 l4 l5 l6 : Value} {st : List Value} {x : Nat} {I : am_I} {R : am_R} {Q : am_Q} : am_ev d 280 356 [.ref x, l1, l2, l3, l4, l5, l6] st I R Q = am_ev d 280 357 [.ref x, l1, l2, l3, l4, l5, l6] (.ref x :: st) I R Q := am_ev_nx (am_f280 (pc := 356) (q := (.aload_n 0, 1, (0, 0, 0))) rfl) rfl
set_option maxRecDepth 100000 in
theorem s280_357 {d : Nat} {l0 l1 l2 l3 l5 l6 : Value} {st : List Value} {x : Int32} {I : am_I} {R : am_R} {Q : am_Q} : am_ev d 280 357 [l0, l1, l2, l3, .int x, l5, l6] st I R Q = am_ev d 280 359 [l0, l1, l2, l3, .int x, l5, l6] (.int x :: st) I R Q := am_ev_nx (am_f280 (pc := 357) (q := (.iload 4, 2, (0, 0, 0))) rfl) rfl
set_option maxRecDepth 100000 in
theorem s280_359 {d : Nat} {l0 l1 l2 l3 l4 l5 l6 : Value} {st : List Value} {I : am_I} {R : am_R} {Q : am_Q} : am_ev d 280 359 [l0, l1, l2, l3, l4, l5, l6] st I R Q = am_ev d 280 360 [l0, l1, l2, l3, l4, l5, l6] (.int (nI 1) :: st) I R Q := am_ev_nx (am_f280 (pc := 359) (q := (.iconst 1, 1, (0, 0, 1))) rfl) rfl
set_option maxRecDepth 100000 in
theorem s280_360 {d : Nat} {l0 l1 l2 l3 l4 l5 l6 : Value} {st : List Value} {x y : Int32} {I : am_I} {R : am_R} {Q : am_Q} : am_ev d 280 360 [l0, l1, l2, l3, l4, l5, l6] (.int y :: .int x :: st) I R Q = am_ev d 280 361 [l0, l1, l2, l3, l4, l5, l6] (.int (x + y) :: st) I R Q := am_ev_nx (am_f280 (pc := 360) (q := (.iadd, 1, (0, 0, 0))) rfl) rfl
set_option maxRecDepth 100000 in
theorem s280_362 {d : Nat} {l0 l1 l2 l3 l4 l5 l6 : Value} {a0 : Nat} {a1 : Int32} {I : am_I} {R : am_R} {Q : am_Q} : am_ev (d + 1) 280 362 [l0, l1, l2, l3, l4, l5, l6] [.int a1, .ref (am_mk 11 a0)] I R Q = am_th (am_cal d 101 [.ref (am_mk 11 a0), .int a1] I R Q) fun r I R Q => am_ev (d + 1) 280 365 [l0, l1, l2, l3, l4, l5, l6] (r.toList ++ []) I R Q := am_ev_call (am_f280 (pc := 362) (q := (.invokevirtual 34, 3, (101, 0, 0))) rfl) (am_inv_v [.int a1] [] (by decide) (by decide) rfl rfl rfl (Nat.le_of_ble_eq_true rfl))
set_option maxRecDepth 100000 in
theorem s280_365 {d : Nat} {l0 l1 l3 l4 l5 l6 : Value} {st : List Value} {x : Nat} {I : am_I} {R : am_R} {Q : am_Q} : am_ev d 280 365 [l0, l1, .ref x, l3, l4, l5, l6] st I R Q = am_ev d 280 366 [l0, l1, .ref x, l3, l4, l5, l6] (.ref x :: st) I R Q := am_ev_nx (am_f280 (pc := 365) (q := (.aload_n 2, 1, (0, 0, 0))) rfl) rfl
set_option maxRecDepth 100000 in
theorem s280_366 {d : Nat} {l1 l2 l3 l4 l5 l6 : Value} {st : List Value} {x : Nat} {I : am_I} {R : am_R} {Q : am_Q} : am_ev d 280 366 [.ref x, l1, l2, l3, l4, l5, l6] st I R Q = am_ev d 280 367 [.ref x, l1, l2, l3, l4, l5, l6] (.ref x :: st) I R Q := am_ev_nx (am_f280 (pc := 366) (q := (.aload_n 0, 1, (0, 0, 0))) rfl) rfl
set_option maxRecDepth 100000 in
theorem s280_367 {d : Nat} {l0 l1 l2 l3 l5 l6 : Value} {st : List Value} {x : Int32} {I : am_I} {R : am_R} {Q : am_Q} : am_ev d 280 367 [l0, l1, l2, l3, .int x, l5, l6] st I R Q = am_ev d 280 369 [l0, l1, l2, l3, .int x, l5, l6] (.int x :: st) I R Q := am_ev_nx (am_f280 (pc := 367) (q := (.iload 4, 2, (0, 0, 0))) rfl) rfl
set_option maxRecDepth 100000 in
theorem s280_369 {d : Nat} {l0 l1 l2 l3 l4 l5 l6 : Value} {st : List Value} {I : am_I} {R : am_R} {Q : am_Q} : am_ev d 280 369 [l0, l1, l2, l3, l4, l5, l6] st I R Q = am_ev d 280 370 [l0, l1, l2, l3, l4, l5, l6] (.int (nI 1) :: st) I R Q := am_ev_nx (am_f280 (pc := 369) (q := (.iconst 1, 1, (0, 0, 1))) rfl) rfl
set_option maxRecDepth 100000 in
theorem s280_370 {d : Nat} {l0 l1 l2 l3 l4 l5 l6 : Value} {st : List Value} {x y : Int32} {I : am_I} {R : am_R} {Q : am_Q} : am_ev d 280 370 [l0, l1, l2, l3, l4, l5, l6] (.int y :: .int x :: st) I R Q = am_ev d 280 371 [l0, l1, l2, l3, l4, l5, l6] (.int (x + y) :: st) I R Q := am_ev_nx (am_f280 (pc := 370) (q := (.iadd, 1, (0, 0, 0))) rfl) rfl
set_option maxRecDepth 100000 in
theorem s280_372 {d : Nat} {l0 l1 l2 l3 l4 l5 l6 : Value} {a0 : Nat} {a1 : Int32} {r0 : Value} {I : am_I} {R : am_R} {Q : am_Q} : am_ev (d + 1) 280 372 [l0, l1, l2, l3, l4, l5, l6] [.int a1, .ref (am_mk 12 a0), r0] I R Q = am_th (am_cal d 201 [.ref (am_mk 12 a0), .int a1] I R Q) fun r I R Q => am_ev (d + 1) 280 375 [l0, l1, l2, l3, l4, l5, l6] (r.toList ++ [r0]) I R Q := am_ev_call (am_f280 (pc := 372) (q := (.invokevirtual 37, 3, (201, 0, 0))) rfl) (am_inv_v [.int a1] [r0] (by decide) (by decide) rfl rfl rfl (Nat.le_of_ble_eq_true rfl))
set_option maxRecDepth 100000 in
theorem s280_375 {d : Nat} {l0 l1 l2 l3 l4 l5 l6 : Value} {st : List Value} {x y : Int32} {I : am_I} {R : am_R} {Q : am_Q} : am_ev d 280 375 [l0, l1, l2, l3, l4, l5, l6] (.int y :: .int x :: st) I R Q = if x = y then am_ev d 280 1575 [l0, l1, l2, l3, l4, l5, l6] st I R Q else am_ev d 280 378 [l0, l1, l2, l3, l4, l5, l6] st I R Q := am_ev_br (am_f280 (pc := 375) (q := (.if_icmp .eq 1200, 3, (0, 0, 0))) rfl) rfl
set_option maxRecDepth 100000 in
theorem s280_378 {d : Nat} {l0 l1 l2 l3 l4 l5 l6 : Value} {st : List Value} {I : am_I} {R : am_R} {Q : am_Q} : am_ev d 280 378 [l0, l1, l2, l3, l4, l5, l6] st I R Q = am_ev d 280 379 [l0, l1, l2, l3, l4, l5, l6] (.int (nI 0) :: st) I R Q := am_ev_nx (am_f280 (pc := 378) (q := (.iconst 0, 1, (0, 0, 0))) rfl) rfl
set_option maxRecDepth 100000 in
theorem s280_379 {d : Nat} {l0 l1 l2 l3 l4 l5 l6 : Value} {x : Int32} {I : am_I} {R : am_R} {Q : am_Q} : am_ev d 280 379 [l0, l1, l2, l3, l4, l5, l6] [.int x] I R Q = if am_bb x then some (some (.int x), I, R, Q) else none := am_ev_ifr (am_f280 (pc := 379) (q := (.ireturn, 1, (1, 0, 0))) rfl) (am_zr_u rfl)
set_option maxRecDepth 100000 in
theorem s280_380 {d : Nat} {l0 l2 l3 l4 l5 l6 : Value} {st : List Value} {x : Nat} {I : am_I} {R : am_R} {Q : am_Q} : am_ev d 280 380 [l0, .ref x, l2, l3, l4, l5, l6] st I R Q = am_ev d 280 381 [l0, .ref x, l2, l3, l4, l5, l6] (.ref x :: st) I R Q := am_ev_nx (am_f280 (pc := 380) (q := (.aload_n 1, 1, (0, 0, 0))) rfl) rfl
set_option maxRecDepth 100000 in
theorem s280_381 {d : Nat} {l1 l2 l3 l4 l5 l6 : Value} {st : List Value} {x : Nat} {I : am_I} {R : am_R} {Q : am_Q} : am_ev d 280 381 [.ref x, l1, l2, l3, l4, l5, l6] st I R Q = am_ev d 280 382 [.ref x, l1, l2, l3, l4, l5, l6] (.ref x :: st) I R Q := am_ev_nx (am_f280 (pc := 381) (q := (.aload_n 0, 1, (0, 0, 0))) rfl) rfl
set_option maxRecDepth 100000 in
theorem s280_382 {d : Nat} {l0 l1 l2 l3 l5 l6 : Value} {st : List Value} {x : Int32} {I : am_I} {R : am_R} {Q : am_Q} : am_ev d 280 382 [l0, l1, l2, l3, .int x, l5, l6] st I R Q = am_ev d 280 384 [l0, l1, l2, l3, .int x, l5, l6] (.int x :: st) I R Q := am_ev_nx (am_f280 (pc := 382) (q := (.iload 4, 2, (0, 0, 0))) rfl) rfl
set_option maxRecDepth 100000 in
theorem s280_384 {d : Nat} {l0 l1 l2 l3 l4 l5 l6 : Value} {st : List Value} {I : am_I} {R : am_R} {Q : am_Q} : am_ev d 280 384 [l0, l1, l2, l3, l4, l5, l6] st I R Q = am_ev d 280 385 [l0, l1, l2, l3, l4, l5, l6] (.int (nI 1) :: st) I R Q := am_ev_nx (am_f280 (pc := 384) (q := (.iconst 1, 1, (0, 0, 1))) rfl) rfl
set_option maxRecDepth 100000 in
theorem s280_385 {d : Nat} {l0 l1 l2 l3 l4 l5 l6 : Value} {st : List Value} {x y : Int32} {I : am_I} {R : am_R} {Q : am_Q} : am_ev d 280 385 [l0, l1, l2, l3, l4, l5, l6] (.int y :: .int x :: st) I R Q = am_ev d 280 386 [l0, l1, l2, l3, l4, l5, l6] (.int (x + y) :: st) I R Q := am_ev_nx (am_f280 (pc := 385) (q := (.iadd, 1, (0, 0, 0))) rfl) rfl
set_option maxRecDepth 100000 in
theorem s280_387 {d : Nat} {l0 l1 l2 l3 l4 l5 l6 : Value} {a0 : Nat} {a1 : Int32} {I : am_I} {R : am_R} {Q : am_Q} : am_ev (d + 1) 280 387 [l0, l1, l2, l3, l4, l5, l6] [.int a1, .ref (am_mk 11 a0)] I R Q = am_th (am_cal d 109 [.ref (am_mk 11 a0), .int a1] I R Q) fun r I R Q => am_ev (d + 1) 280 390 [l0, l1, l2, l3, l4, l5, l6] (r.toList ++ []) I R Q := am_ev_call (am_f280 (pc := 387) (q := (.invokevirtual 38, 3, (109, 0, 0))) rfl) (am_inv_v [.int a1] [] (by decide) (by decide) rfl rfl rfl (Nat.le_of_ble_eq_true rfl))
set_option maxRecDepth 100000 in
theorem s280_390 {d : Nat} {l0 l1 l3 l4 l5 l6 : Value} {st : List Value} {x : Nat} {I : am_I} {R : am_R} {Q : am_Q} : am_ev d 280 390 [l0, l1, .ref x, l3, l4, l5, l6] st I R Q = am_ev d 280 391 [l0, l1, .ref x, l3, l4, l5, l6] (.ref x :: st) I R Q := am_ev_nx (am_f280 (pc := 390) (q := (.aload_n 2, 1, (0, 0, 0))) rfl) rfl
set_option maxRecDepth 100000 in
theorem s280_391 {d : Nat} {l1 l2 l3 l4 l5 l6 : Value} {st : List Value} {x : Nat} {I : am_I} {R : am_R} {Q : am_Q} : am_ev d 280 391 [.ref x, l1, l2, l3, l4, l5, l6] st I R Q = am_ev d 280 392 [.ref x, l1, l2, l3, l4, l5, l6] (.ref x :: st) I R Q := am_ev_nx (am_f280 (pc := 391) (q := (.aload_n 0, 1, (0, 0, 0))) rfl) rfl
set_option maxRecDepth 100000 in
theorem s280_392 {d : Nat} {l0 l1 l2 l3 l5 l6 : Value} {st : List Value} {x : Int32} {I : am_I} {R : am_R} {Q : am_Q} : am_ev d 280 392 [l0, l1, l2, l3, .int x, l5, l6] st I R Q = am_ev d 280 394 [l0, l1, l2, l3, .int x, l5, l6] (.int x :: st) I R Q := am_ev_nx (am_f280 (pc := 392) (q := (.iload 4, 2, (0, 0, 0))) rfl) rfl
set_option maxRecDepth 100000 in
theorem s280_394 {d : Nat} {l0 l1 l2 l3 l4 l5 l6 : Value} {st : List Value} {I : am_I} {R : am_R} {Q : am_Q} : am_ev d 280 394 [l0, l1, l2, l3, l4, l5, l6] st I R Q = am_ev d 280 395 [l0, l1, l2, l3, l4, l5, l6] (.int (nI 1) :: st) I R Q := am_ev_nx (am_f280 (pc := 394) (q := (.iconst 1, 1, (0, 0, 1))) rfl) rfl
set_option maxRecDepth 100000 in
theorem s280_395 {d : Nat} {l0 l1 l2 l3 l4 l5 l6 : Value} {st : List Value} {x y : Int32} {I : am_I} {R : am_R} {Q : am_Q} : am_ev d 280 395 [l0, l1, l2, l3, l4, l5, l6] (.int y :: .int x :: st) I R Q = am_ev d 280 396 [l0, l1, l2, l3, l4, l5, l6] (.int (x + y) :: st) I R Q := am_ev_nx (am_f280 (pc := 395) (q := (.iadd, 1, (0, 0, 0))) rfl) rfl
set_option maxRecDepth 100000 in
theorem s280_397 {d : Nat} {l0 l1 l2 l3 l4 l5 l6 : Value} {a0 : Nat} {a1 : Int32} {r0 : Value} {I : am_I} {R : am_R} {Q : am_Q} : am_ev (d + 1) 280 397 [l0, l1, l2, l3, l4, l5, l6] [.int a1, .ref (am_mk 12 a0), r0] I R Q = am_th (am_cal d 210 [.ref (am_mk 12 a0), .int a1] I R Q) fun r I R Q => am_ev (d + 1) 280 400 [l0, l1, l2, l3, l4, l5, l6] (r.toList ++ [r0]) I R Q := am_ev_call (am_f280 (pc := 397) (q := (.invokevirtual 41, 3, (210, 0, 0))) rfl) (am_inv_v [.int a1] [r0] (by decide) (by decide) rfl rfl rfl (Nat.le_of_ble_eq_true rfl))
set_option maxRecDepth 100000 in
theorem s280_400 {d : Nat} {l0 l1 l2 l3 l4 l5 l6 : Value} {st : List Value} {x y : Int32} {I : am_I} {R : am_R} {Q : am_Q} : am_ev d 280 400 [l0, l1, l2, l3, l4, l5, l6] (.int y :: .int x :: st) I R Q = if x = y then am_ev d 280 1575 [l0, l1, l2, l3, l4, l5, l6] st I R Q else am_ev d 280 403 [l0, l1, l2, l3, l4, l5, l6] st I R Q := am_ev_br (am_f280 (pc := 400) (q := (.if_icmp .eq 1175, 3, (0, 0, 0))) rfl) rfl
set_option maxRecDepth 100000 in
theorem s280_403 {d : Nat} {l0 l1 l2 l3 l4 l5 l6 : Value} {st : List Value} {I : am_I} {R : am_R} {Q : am_Q} : am_ev d 280 403 [l0, l1, l2, l3, l4, l5, l6] st I R Q = am_ev d 280 404 [l0, l1, l2, l3, l4, l5, l6] (.int (nI 0) :: st) I R Q := am_ev_nx (am_f280 (pc := 403) (q := (.iconst 0, 1, (0, 0, 0))) rfl) rfl
set_option maxRecDepth 100000 in
theorem s280_404 {d : Nat} {l0 l1 l2 l3 l4 l5 l6 : Value} {x : Int32} {I : am_I} {R : am_R} {Q : am_Q} : am_ev d 280 404 [l0, l1, l2, l3, l4, l5, l6] [.int x] I R Q = if am_bb x then some (some (.int x), I, R, Q) else none := am_ev_ifr (am_f280 (pc := 404) (q := (.ireturn, 1, (1, 0, 0))) rfl) (am_zr_u rfl)
set_option maxRecDepth 100000 in
theorem s280_405 {d : Nat} {l0 l2 l3 l4 l5 l6 : Value} {st : List Value} {x : Nat} {I : am_I} {R : am_R} {Q : am_Q} : am_ev d 280 405 [l0, .ref x, l2, l3, l4, l5, l6] st I R Q = am_ev d 280 406 [l0, .ref x, l2, l3, l4, l5, l6] (.ref x :: st) I R Q := am_ev_nx (am_f280 (pc := 405) (q := (.aload_n 1, 1, (0, 0, 0))) rfl) rfl
set_option maxRecDepth 100000 in
theorem s280_406 {d : Nat} {l1 l2 l3 l4 l5 l6 : Value} {st : List Value} {x : Nat} {I : am_I} {R : am_R} {Q : am_Q} : am_ev d 280 406 [.ref x, l1, l2, l3, l4, l5, l6] st I R Q = am_ev d 280 407 [.ref x, l1, l2, l3, l4, l5, l6] (.ref x :: st) I R Q := am_ev_nx (am_f280 (pc := 406) (q := (.aload_n 0, 1, (0, 0, 0))) rfl) rfl
set_option maxRecDepth 100000 in
theorem s280_407 {d : Nat} {l0 l1 l2 l3 l5 l6 : Value} {st : List Value} {x : Int32} {I : am_I} {R : am_R} {Q : am_Q} : am_ev d 280 407 [l0, l1, l2, l3, .int x, l5, l6] st I R Q = am_ev d 280 409 [l0, l1, l2, l3, .int x, l5, l6] (.int x :: st) I R Q := am_ev_nx (am_f280 (pc := 407) (q := (.iload 4, 2, (0, 0, 0))) rfl) rfl
set_option maxRecDepth 100000 in
theorem s280_409 {d : Nat} {l0 l1 l2 l3 l4 l5 l6 : Value} {st : List Value} {I : am_I} {R : am_R} {Q : am_Q} : am_ev d 280 409 [l0, l1, l2, l3, l4, l5, l6] st I R Q = am_ev d 280 410 [l0, l1, l2, l3, l4, l5, l6] (.int (nI 1) :: st) I R Q := am_ev_nx (am_f280 (pc := 409) (q := (.iconst 1, 1, (0, 0, 1))) rfl) rfl
set_option maxRecDepth 100000 in
theorem s280_410 {d : Nat} {l0 l1 l2 l3 l4 l5 l6 : Value} {st : List Value} {x y : Int32} {I : am_I} {R : am_R} {Q : am_Q} : am_ev d 280 410 [l0, l1, l2, l3, l4, l5, l6] (.int y :: .int x :: st) I R Q = am_ev d 280 411 [l0, l1, l2, l3, l4, l5, l6] (.int (x + y) :: st) I R Q := am_ev_nx (am_f280 (pc := 410) (q := (.iadd, 1, (0, 0, 0))) rfl) rfl
set_option maxRecDepth 100000 in
theorem s280_412 {d : Nat} {l1 l2 l3 l4 l5 l6 : Value} {st : List Value} {x : Nat} {I : am_I} {R : am_R} {Q : am_Q} : am_ev d 280 412 [.ref x, l1, l2, l3, l4, l5, l6] st I R Q = am_ev d 280 413 [.ref x, l1, l2, l3, l4, l5, l6] (.ref x :: st) I R Q := am_ev_nx (am_f280 (pc := 412) (q := (.aload_n 0, 1, (0, 0, 0))) rfl) rfl
set_option maxRecDepth 100000 in
theorem s280_413 {d : Nat} {l0 l1 l2 l3 l5 l6 : Value} {st : List Value} {x : Int32} {I : am_I} {R : am_R} {Q : am_Q} : am_ev d 280 413 [l0, l1, l2, l3, .int x, l5, l6] st I R Q = am_ev d 280 415 [l0, l1, l2, l3, .int x, l5, l6] (.int x :: st) I R Q := am_ev_nx (am_f280 (pc := 413) (q := (.iload 4, 2, (0, 0, 0))) rfl) rfl
set_option maxRecDepth 100000 in
theorem s280_415 {d : Nat} {l0 l1 l2 l3 l4 l5 l6 : Value} {st : List Value} {I : am_I} {R : am_R} {Q : am_Q} : am_ev d 280 415 [l0, l1, l2, l3, l4, l5, l6] st I R Q = am_ev d 280 416 [l0, l1, l2, l3, l4, l5, l6] (.int (nI 2) :: st) I R Q := am_ev_nx (am_f280 (pc := 415) (q := (.iconst 2, 1, (0, 0, 2))) rfl) rfl
set_option maxRecDepth 100000 in
theorem s280_416 {d : Nat} {l0 l1 l2 l3 l4 l5 l6 : Value} {st : List Value} {x y : Int32} {I : am_I} {R : am_R} {Q : am_Q} : am_ev d 280 416 [l0, l1, l2, l3, l4, l5, l6] (.int y :: .int x :: st) I R Q = am_ev d 280 417 [l0, l1, l2, l3, l4, l5, l6] (.int (x + y) :: st) I R Q := am_ev_nx (am_f280 (pc := 416) (q := (.iadd, 1, (0, 0, 0))) rfl) rfl
set_option maxRecDepth 100000 in
theorem s280_418 {d : Nat} {l0 l1 l2 l4 l5 l6 : Value} {st : List Value} {x : Nat} {I : am_I} {R : am_R} {Q : am_Q} : am_ev d 280 418 [l0, l1, l2, .ref x, l4, l5, l6] st I R Q = am_ev d 280 419 [l0, l1, l2, .ref x, l4, l5, l6] (.ref x :: st) I R Q := am_ev_nx (am_f280 (pc := 418) (q := (.aload_n 3, 1, (0, 0, 0))) rfl) rfl
set_option maxRecDepth 100000 in
theorem s280_419 {d : Nat} {l0 l1 l2 l3 l4 l5 l6 : Value} {a0 : Nat} {a1 : Int32} {a2 : Int32} {a3 : Nat} {I : am_I} {R : am_R} {Q : am_Q} : am_ev (d + 1) 280 419 [l0, l1, l2, l3, l4, l5, l6] [.ref a3, .int a2, .int a1, .ref a0] I R Q = am_th (am_cal d 950 [.ref a0, .int a1, .int a2, .ref a3] I R Q) fun r I R Q => am_ev (d + 1) 280 422 [l0, l1, l2, l3, l4, l5, l6] (r.toList ++ []) I R Q := am_ev_call (am_f280 (pc := 419) (q := (.invokestatic 42, 3, (950, 1, 0))) rfl) rfl
set_option maxRecDepth 100000 in
theorem s280_422 {d : Nat} {l0 l1 l2 l3 l4 l5 l6 : Value} {st : List Value} {x : Int32} {I : am_I} {R : am_R} {Q : am_Q} : am_ev d 280 422 [l0, l1, l2, l3, l4, l5, l6] (.int x :: st) I R Q = am_ev d 280 424 [l0, l1, l2, l3, l4, .int x, l6] st I R Q := am_ev_nx (am_f280 (pc := 422) (q := (.istore 5, 2, (0, 0, 0))) rfl) rfl
set_option maxRecDepth 100000 in
theorem s280_424 {d : Nat} {l0 l1 l3 l4 l5 l6 : Value} {st : List Value} {x : Nat} {I : am_I} {R : am_R} {Q : am_Q} : am_ev d 280 424 [l0, l1, .ref x, l3, l4, l5, l6] st I R Q = am_ev d 280 425 [l0, l1, .ref x, l3, l4, l5, l6] (.ref x :: st) I R Q := am_ev_nx (am_f280 (pc := 424) (q := (.aload_n 2, 1, (0, 0, 0))) rfl) rfl
set_option maxRecDepth 100000 in
theorem s280_425 {d : Nat} {l1 l2 l3 l4 l5 l6 : Value} {st : List Value} {x : Nat} {I : am_I} {R : am_R} {Q : am_Q} : am_ev d 280 425 [.ref x, l1, l2, l3, l4, l5, l6] st I R Q = am_ev d 280 426 [.ref x, l1, l2, l3, l4, l5, l6] (.ref x :: st) I R Q := am_ev_nx (am_f280 (pc := 425) (q := (.aload_n 0, 1, (0, 0, 0))) rfl) rfl
set_option maxRecDepth 100000 in
theorem s280_426 {d : Nat} {l0 l1 l2 l3 l5 l6 : Value} {st : List Value} {x : Int32} {I : am_I} {R : am_R} {Q : am_Q} : am_ev d 280 426 [l0, l1, l2, l3, .int x, l5, l6] st I R Q = am_ev d 280 428 [l0, l1, l2, l3, .int x, l5, l6] (.int x :: st) I R Q := am_ev_nx (am_f280 (pc := 426) (q := (.iload 4, 2, (0, 0, 0))) rfl) rfl
set_option maxRecDepth 100000 in
theorem s280_428 {d : Nat} {l0 l1 l2 l3 l4 l5 l6 : Value} {st : List Value} {I : am_I} {R : am_R} {Q : am_Q} : am_ev d 280 428 [l0, l1, l2, l3, l4, l5, l6] st I R Q = am_ev d 280 429 [l0, l1, l2, l3, l4, l5, l6] (.int (nI 1) :: st) I R Q := am_ev_nx (am_f280 (pc := 428) (q := (.iconst 1, 1, (0, 0, 1))) rfl) rfl
set_option maxRecDepth 100000 in
theorem s280_429 {d : Nat} {l0 l1 l2 l3 l4 l5 l6 : Value} {st : List Value} {x y : Int32} {I : am_I} {R : am_R} {Q : am_Q} : am_ev d 280 429 [l0, l1, l2, l3, l4, l5, l6] (.int y :: .int x :: st) I R Q = am_ev d 280 430 [l0, l1, l2, l3, l4, l5, l6] (.int (x + y) :: st) I R Q := am_ev_nx (am_f280 (pc := 429) (q := (.iadd, 1, (0, 0, 0))) rfl) rfl
set_option maxRecDepth 100000 in
theorem s280_431 {d : Nat} {l1 l2 l3 l4 l5 l6 : Value} {st : List Value} {x : Nat} {I : am_I} {R : am_R} {Q : am_Q} : am_ev d 280 431 [.ref x, l1, l2, l3, l4, l5, l6] st I R Q = am_ev d 280 432 [.ref x, l1, l2, l3, l4, l5, l6] (.ref x :: st) I R Q := am_ev_nx (am_f280 (pc := 431) (q := (.aload_n 0, 1, (0, 0, 0))) rfl) rfl
set_option maxRecDepth 100000 in
theorem s280_432 {d : Nat} {l0 l1 l2 l3 l5 l6 : Value} {st : List Value} {x : Int32} {I : am_I} {R : am_R} {Q : am_Q} : am_ev d 280 432 [l0, l1, l2, l3, .int x, l5, l6] st I R Q = am_ev d 280 434 [l0, l1, l2, l3, .int x, l5, l6] (.int x :: st) I R Q := am_ev_nx (am_f280 (pc := 432) (q := (.iload 4, 2, (0, 0, 0))) rfl) rfl
set_option maxRecDepth 100000 in
theorem s280_434 {d : Nat} {l0 l1 l2 l3 l4 l5 l6 : Value} {st : List Value} {I : am_I} {R : am_R} {Q : am_Q} : am_ev d 280 434 [l0, l1, l2, l3, l4, l5, l6] st I R Q = am_ev d 280 435 [l0, l1, l2, l3, l4, l5, l6] (.int (nI 2) :: st) I R Q := am_ev_nx (am_f280 (pc := 434) (q := (.iconst 2, 1, (0, 0, 2))) rfl) rfl
set_option maxRecDepth 100000 in
theorem s280_435 {d : Nat} {l0 l1 l2 l3 l4 l5 l6 : Value} {st : List Value} {x y : Int32} {I : am_I} {R : am_R} {Q : am_Q} : am_ev d 280 435 [l0, l1, l2, l3, l4, l5, l6] (.int y :: .int x :: st) I R Q = am_ev d 280 436 [l0, l1, l2, l3, l4, l5, l6] (.int (x + y) :: st) I R Q := am_ev_nx (am_f280 (pc := 435) (q := (.iadd, 1, (0, 0, 0))) rfl) rfl
set_option maxRecDepth 100000 in
theorem s280_437 {d : Nat} {l0 l1 l2 l3 l4 l5 l6 : Value} {a0 : Nat} {a1 : Int32} {a2 : Int32} {I : am_I} {R : am_R} {Q : am_Q} : am_ev (d + 1) 280 437 [l0, l1, l2, l3, l4, l5, l6] [.int a2, .int a1, .ref (am_mk 12 a0)] I R Q = am_th (am_cal d 211 [.ref (am_mk 12 a0), .int a1, .int a2] I R Q) fun r I R Q => am_ev (d + 1) 280 440 [l0, l1, l2, l3, l4, l5, l6] (r.toList ++ []) I R Q := am_ev_call (am_f280 (pc := 437) (q := (.invokevirtual 47, 3, (211, 0, 0))) rfl) (am_inv_v [.int a1, .int a2] [] (by decide) (by decide) rfl rfl rfl (Nat.le_of_ble_eq_true rfl))
set_option maxRecDepth 100000 in
theorem s280_440 {d : Nat} {l0 l1 l2 l3 l4 l5 l6 : Value} {st : List Value} {x : Int32} {I : am_I} {R : am_R} {Q : am_Q} : am_ev d 280 440 [l0, l1, l2, l3, l4, l5, l6] (.int x :: st) I R Q = am_ev d 280 442 [l0, l1, l2, l3, l4, l5, .int x] st I R Q := am_ev_nx (am_f280 (pc := 440) (q := (.istore 6, 2, (0, 0, 0))) rfl) rfl
set_option maxRecDepth 100000 in
theorem s280_442 {d : Nat} {l0 l1 l3 l4 l5 l6 : Value} {st : List Value} {x : Nat} {I : am_I} {R : am_R} {Q : am_Q} : am_ev d 280 442 [l0, l1, .ref x, l3, l4, l5, l6] st I R Q = am_ev d 280 443 [l0, l1, .ref x, l3, l4, l5, l6] (.ref x :: st) I R Q := am_ev_nx (am_f280 (pc := 442) (q := (.aload_n 2, 1, (0, 0, 0))) rfl) rfl
set_option maxRecDepth 100000 in
theorem s280_443 {d : Nat} {l0 l1 l2 l3 l4 l5 l6 : Value} {a0 : Nat} {I : am_I} {R : am_R} {Q : am_Q} : am_ev (d + 1) 280 443 [l0, l1, l2, l3, l4, l5, l6] [.ref (am_mk 12 a0)] I R Q = am_th (am_cal d 159 [.ref (am_mk 12 a0)] I R Q) fun r I R Q => am_ev (d + 1) 280 446 [l0, l1, l2, l3, l4, l5, l6] (r.toList ++ []) I R Q := am_ev_call (am_f280 (pc := 443) (q := (.invokevirtual 48, 3, (159, 0, 0))) rfl) (am_inv_v [] [] (by decide) (by decide) rfl rfl rfl (Nat.le_of_ble_eq_true rfl))
set_option maxRecDepth 100000 in
theorem s280_446 {d : Nat} {l0 l1 l2 l3 l4 l6 : Value} {st : List Value} {x : Int32} {I : am_I} {R : am_R} {Q : am_Q} : am_ev d 280 446 [l0, l1, l2, l3, l4, .int x, l6] st I R Q = am_ev d 280 448 [l0, l1, l2, l3, l4, .int x, l6] (.int x :: st) I R Q := am_ev_nx (am_f280 (pc := 446) (q := (.iload 5, 2, (0, 0, 0))) rfl) rfl
set_option maxRecDepth 100000 in
theorem s280_448 {d : Nat} {l0 l1 l2 l3 l4 l5 l6 : Value} {st : List Value} {x y : Int32} {I : am_I} {R : am_R} {Q : am_Q} : am_ev d 280 448 [l0, l1, l2, l3, l4, l5, l6] (.int y :: .int x :: st) I R Q = if x = y then am_ev d 280 453 [l0, l1, l2, l3, l4, l5, l6] st I R Q else am_ev d 280 451 [l0, l1, l2, l3, l4, l5, l6] st I R Q := am_ev_br (am_f280 (pc := 448) (q := (.if_icmp .eq 5, 3, (0, 0, 0))) rfl) rfl
set_option maxRecDepth 100000 in
theorem s280_451 {d : Nat} {l0 l1 l2 l3 l4 l5 l6 : Value} {st : List Value} {I : am_I} {R : am_R} {Q : am_Q} : am_ev d 280 451 [l0, l1, l2, l3, l4, l5, l6] st I R Q = am_ev d 280 452 [l0, l1, l2, l3, l4, l5, l6] (.int (nI 0) :: st) I R Q := am_ev_nx (am_f280 (pc := 451) (q := (.iconst 0, 1, (0, 0, 0))) rfl) rfl
set_option maxRecDepth 100000 in
theorem s280_452 {d : Nat} {l0 l1 l2 l3 l4 l5 l6 : Value} {x : Int32} {I : am_I} {R : am_R} {Q : am_Q} : am_ev d 280 452 [l0, l1, l2, l3, l4, l5, l6] [.int x] I R Q = if am_bb x then some (some (.int x), I, R, Q) else none := am_ev_ifr (am_f280 (pc := 452) (q := (.ireturn, 1, (1, 0, 0))) rfl) (am_zr_u rfl)
set_option maxRecDepth 100000 in
theorem s280_453 {d : Nat} {l0 l1 l2 l3 l4 l6 : Value} {st : List Value} {x : Int32} {I : am_I} {R : am_R} {Q : am_Q} : am_ev d 280 453 [l0, l1, l2, l3, l4, .int x, l6] st I R Q = am_ev d 280 455 [l0, l1, l2, l3, l4, .int x, l6] (.int x :: st) I R Q := am_ev_nx (am_f280 (pc := 453) (q := (.iload 5, 2, (0, 0, 0))) rfl) rfl
set_option maxRecDepth 100000 in
theorem s280_455 {d : Nat} {l0 l1 l2 l3 l4 l5 l6 : Value} {st : List Value} {x : Int32} {I : am_I} {R : am_R} {Q : am_Q} : am_ev d 280 455 [l0, l1, l2, l3, l4, l5, l6] (.int x :: st) I R Q = if x = 0 then am_ev d 280 458 [l0, l1, l2, l3, l4, l5, l6] st I R Q else am_ev d 280 470 [l0, l1, l2, l3, l4, l5, l6] st I R Q := am_ev_br (am_f280 (pc := 455) (q := (.ifCond .ne 15, 3, (0, 0, 0))) rfl) rfl
set_option maxRecDepth 100000 in
theorem s280_458 {d : Nat} {l0 l1 l2 l4 l5 l6 : Value} {st : List Value} {x : Nat} {I : am_I} {R : am_R} {Q : am_Q} : am_ev d 280 458 [l0, l1, l2, .ref x, l4, l5, l6] st I R Q = am_ev d 280 459 [l0, l1, l2, .ref x, l4, l5, l6] (.ref x :: st) I R Q := am_ev_nx (am_f280 (pc := 458) (q := (.aload_n 3, 1, (0, 0, 0))) rfl) rfl
set_option maxRecDepth 100000 in
theorem s280_459 {d : Nat} {l0 l1 l2 l3 l4 l5 l6 : Value} {st : List Value} {I : am_I} {R : am_R} {Q : am_Q} : am_ev d 280 459 [l0, l1, l2, l3, l4, l5, l6] st I R Q = am_ev d 280 460 [l0, l1, l2, l3, l4, l5, l6] (.int (nI 0) :: st) I R Q := am_ev_nx (am_f280 (pc := 459) (q := (.iconst 0, 1, (0, 0, 0))) rfl) rfl
set_option maxRecDepth 100000 in
theorem s280_460 {d : Nat} {l0 l1 l2 l3 l4 l5 l6 : Value} {st : List Value} {a k : Nat} {i : Int32} {I : am_I} {R : am_R} {Q : am_Q} (h : am_ok 2 a) (hi : am_bd i (am_len a)) : am_ev d 280 460 [l0, l1, l2, l3, l4, l5, l6] (.int i :: .ref (am_mk a k) :: st) I R Q = am_ev d 280 461 [l0, l1, l2, l3, l4, l5, l6] (.long (Q a k i.toNatClampNeg) :: st) I R Q := am_ev_nx (am_f280 (pc := 460) (q := (.laload, 1, (0, 0, 0))) rfl) (am_lald_s h hi)
set_option maxRecDepth 100000 in
theorem s280_461 {d : Nat} {l0 l1 l2 l3 l4 l5 : Value} {st : List Value} {x : Int32} {I : am_I} {R : am_R} {Q : am_Q} : am_ev d 280 461 [l0, l1, l2, l3, l4, l5, .int x] st I R Q = am_ev d 280 463 [l0, l1, l2, l3, l4, l5, .int x] (.int x :: st) I R Q := am_ev_nx (am_f280 (pc := 461) (q := (.iload 6, 2, (0, 0, 0))) rfl) rfl
set_option maxRecDepth 100000 in
theorem s280_463 {d : Nat} {l0 l1 l2 l3 l4 l5 l6 : Value} {st : List Value} {x : Int32} {I : am_I} {R : am_R} {Q : am_Q} : am_ev d 280 463 [l0, l1, l2, l3, l4, l5, l6] (.int x :: st) I R Q = am_ev d 280 464 [l0, l1, l2, l3, l4, l5, l6] (.long x.toInt64 :: st) I R Q := am_ev_nx (am_f280 (pc := 463) (q := (.i2l, 1, (0, 0, 0))) rfl) rfl
set_option maxRecDepth 100000 in
theorem s280_464 {d : Nat} {l0 l1 l2 l3 l4 l5 l6 : Value} {st : List Value} {x y : Int64} {I : am_I} {R : am_R} {Q : am_Q} : am_ev d 280 464 [l0, l1, l2, l3, l4, l5, l6] (.long y :: .long x :: st) I R Q = am_ev d 280 465 [l0, l1, l2, l3, l4, l5, l6] (.int (lg_cmp x y) :: st) I R Q := am_ev_nx (am_f280 (pc := 464) (q := (.lcmp, 1, (0, 0, 0))) rfl) rfl
set_option maxRecDepth 100000 in
theorem s280_465 {d : Nat} {l0 l1 l2 l3 l4 l5 l6 : Value} {st : List Value} {x : Int32} {I : am_I} {R : am_R} {Q : am_Q} : am_ev d 280 465 [l0, l1, l2, l3, l4, l5, l6] (.int x :: st) I R Q = if x = 0 then am_ev d 280 470 [l0, l1, l2, l3, l4, l5, l6] st I R Q else am_ev d 280 468 [l0, l1, l2, l3, l4, l5, l6] st I R Q := am_ev_br (am_f280 (pc := 465) (q := (.ifCond .eq 5, 3, (0, 0, 0))) rfl) rfl
set_option maxRecDepth 100000 in
theorem s280_468 {d : Nat} {l0 l1 l2 l3 l4 l5 l6 : Value} {st : List Value} {I : am_I} {R : am_R} {Q : am_Q} : am_ev d 280 468 [l0, l1, l2, l3, l4, l5, l6] st I R Q = am_ev d 280 469 [l0, l1, l2, l3, l4, l5, l6] (.int (nI 0) :: st) I R Q := am_ev_nx (am_f280 (pc := 468) (q := (.iconst 0, 1, (0, 0, 0))) rfl) rfl
set_option maxRecDepth 100000 in
theorem s280_469 {d : Nat} {l0 l1 l2 l3 l4 l5 l6 : Value} {x : Int32} {I : am_I} {R : am_R} {Q : am_Q} : am_ev d 280 469 [l0, l1, l2, l3, l4, l5, l6] [.int x] I R Q = if am_bb x then some (some (.int x), I, R, Q) else none := am_ev_ifr (am_f280 (pc := 469) (q := (.ireturn, 1, (1, 0, 0))) rfl) (am_zr_u rfl)
set_option maxRecDepth 100000 in
theorem s280_470 {d : Nat} {l0 l1 l2 l3 l4 l5 l6 : Value} {st : List Value} {I : am_I} {R : am_R} {Q : am_Q} : am_ev d 280 470 [l0, l1, l2, l3, l4, l5, l6] st I R Q = am_ev d 280 1575 [l0, l1, l2, l3, l4, l5, l6] st I R Q := am_ev_nx (am_f280 (pc := 470) (q := (.goto 1105, 3, (0, 0, 0))) rfl) rfl
set_option maxRecDepth 100000 in
theorem s280_473 {d : Nat} {l0 l2 l3 l4 l5 l6 : Value} {st : List Value} {x : Nat} {I : am_I} {R : am_R} {Q : am_Q} : am_ev d 280 473 [l0, .ref x, l2, l3, l4, l5, l6] st I R Q = am_ev d 280 474 [l0, .ref x, l2, l3, l4, l5, l6] (.ref x :: st) I R Q := am_ev_nx (am_f280 (pc := 473) (q := (.aload_n 1, 1, (0, 0, 0))) rfl) rfl
set_option maxRecDepth 100000 in
theorem s280_474 {d : Nat} {l1 l2 l3 l4 l5 l6 : Value} {st : List Value} {x : Nat} {I : am_I} {R : am_R} {Q : am_Q} : am_ev d 280 474 [.ref x, l1, l2, l3, l4, l5, l6] st I R Q = am_ev d 280 475 [.ref x, l1, l2, l3, l4, l5, l6] (.ref x :: st) I R Q := am_ev_nx (am_f280 (pc := 474) (q := (.aload_n 0, 1, (0, 0, 0))) rfl) rfl
set_option maxRecDepth 100000 in
theorem s280_475 {d : Nat} {l0 l1 l2 l3 l5 l6 : Value} {st : List Value} {x : Int32} {I : am_I} {R : am_R} {Q : am_Q} : am_ev d 280 475 [l0, l1, l2, l3, .int x, l5, l6] st I R Q = am_ev d 280 477 [l0, l1, l2, l3, .int x, l5, l6] (.int x :: st) I R Q := am_ev_nx (am_f280 (pc := 475) (q := (.iload 4, 2, (0, 0, 0))) rfl) rfl
set_option maxRecDepth 100000 in
theorem s280_477 {d : Nat} {l0 l1 l2 l3 l4 l5 l6 : Value} {st : List Value} {I : am_I} {R : am_R} {Q : am_Q} : am_ev d 280 477 [l0, l1, l2, l3, l4, l5, l6] st I R Q = am_ev d 280 478 [l0, l1, l2, l3, l4, l5, l6] (.int (nI 1) :: st) I R Q := am_ev_nx (am_f280 (pc := 477) (q := (.iconst 1, 1, (0, 0, 1))) rfl) rfl
set_option maxRecDepth 100000 in
theorem s280_478 {d : Nat} {l0 l1 l2 l3 l4 l5 l6 : Value} {st : List Value} {x y : Int32} {I : am_I} {R : am_R} {Q : am_Q} : am_ev d 280 478 [l0, l1, l2, l3, l4, l5, l6] (.int y :: .int x :: st) I R Q = am_ev d 280 479 [l0, l1, l2, l3, l4, l5, l6] (.int (x + y) :: st) I R Q := am_ev_nx (am_f280 (pc := 478) (q := (.iadd, 1, (0, 0, 0))) rfl) rfl
set_option maxRecDepth 100000 in
theorem s280_480 {d : Nat} {l1 l2 l3 l4 l5 l6 : Value} {st : List Value} {x : Nat} {I : am_I} {R : am_R} {Q : am_Q} : am_ev d 280 480 [.ref x, l1, l2, l3, l4, l5, l6] st I R Q = am_ev d 280 481 [.ref x, l1, l2, l3, l4, l5, l6] (.ref x :: st) I R Q := am_ev_nx (am_f280 (pc := 480) (q := (.aload_n 0, 1, (0, 0, 0))) rfl) rfl
set_option maxRecDepth 100000 in
theorem s280_481 {d : Nat} {l0 l1 l2 l3 l5 l6 : Value} {st : List Value} {x : Int32} {I : am_I} {R : am_R} {Q : am_Q} : am_ev d 280 481 [l0, l1, l2, l3, .int x, l5, l6] st I R Q = am_ev d 280 483 [l0, l1, l2, l3, .int x, l5, l6] (.int x :: st) I R Q := am_ev_nx (am_f280 (pc := 481) (q := (.iload 4, 2, (0, 0, 0))) rfl) rfl
set_option maxRecDepth 100000 in
theorem s280_483 {d : Nat} {l0 l1 l2 l3 l4 l5 l6 : Value} {st : List Value} {I : am_I} {R : am_R} {Q : am_Q} : am_ev d 280 483 [l0, l1, l2, l3, l4, l5, l6] st I R Q = am_ev d 280 484 [l0, l1, l2, l3, l4, l5, l6] (.int (nI 2) :: st) I R Q := am_ev_nx (am_f280 (pc := 483) (q := (.iconst 2, 1, (0, 0, 2))) rfl) rfl
set_option maxRecDepth 100000 in
theorem s280_484 {d : Nat} {l0 l1 l2 l3 l4 l5 l6 : Value} {st : List Value} {x y : Int32} {I : am_I} {R : am_R} {Q : am_Q} : am_ev d 280 484 [l0, l1, l2, l3, l4, l5, l6] (.int y :: .int x :: st) I R Q = am_ev d 280 485 [l0, l1, l2, l3, l4, l5, l6] (.int (x + y) :: st) I R Q := am_ev_nx (am_f280 (pc := 484) (q := (.iadd, 1, (0, 0, 0))) rfl) rfl
set_option maxRecDepth 100000 in
theorem s280_486 {d : Nat} {l0 l1 l2 l3 l4 l5 l6 : Value} {a0 : Nat} {a1 : Int32} {a2 : Int32} {I : am_I} {R : am_R} {Q : am_Q} : am_ev (d + 1) 280 486 [l0, l1, l2, l3, l4, l5, l6] [.int a2, .int a1, .ref (am_mk 11 a0)] I R Q = am_th (am_cal d 111 [.ref (am_mk 11 a0), .int a1, .int a2] I R Q) fun r I R Q => am_ev (d + 1) 280 489 [l0, l1, l2, l3, l4, l5, l6] (r.toList ++ []) I R Q := am_ev_call (am_f280 (pc := 486) (q := (.invokevirtual 52, 3, (111, 0, 0))) rfl) (am_inv_v [.int a1, .int a2] [] (by decide) (by decide) rfl rfl rfl (Nat.le_of_ble_eq_true rfl))
set_option maxRecDepth 100000 in
theorem s280_489 {d : Nat} {l0 l1 l3 l4 l5 l6 : Value} {st : List Value} {x : Nat} {I : am_I} {R : am_R} {Q : am_Q} : am_ev d 280 489 [l0, l1, .ref x, l3, l4, l5, l6] st I R Q = am_ev d 280 490 [l0, l1, .ref x, l3, l4, l5, l6] (.ref x :: st) I R Q := am_ev_nx (am_f280 (pc := 489) (q := (.aload_n 2, 1, (0, 0, 0))) rfl) rfl
set_option maxRecDepth 100000 in
theorem s280_490 {d : Nat} {l1 l2 l3 l4 l5 l6 : Value} {st : List Value} {x : Nat} {I : am_I} {R : am_R} {Q : am_Q} : am_ev d 280 490 [.ref x, l1, l2, l3, l4, l5, l6] st I R Q = am_ev d 280 491 [.ref x, l1, l2, l3, l4, l5, l6] (.ref x :: st) I R Q := am_ev_nx (am_f280 (pc := 490) (q := (.aload_n 0, 1, (0, 0, 0))) rfl) rfl
set_option maxRecDepth 100000 in
theorem s280_491 {d : Nat} {l0 l1 l2 l3 l5 l6 : Value} {st : List Value} {x : Int32} {I : am_I} {R : am_R} {Q : am_Q} : am_ev d 280 491 [l0, l1, l2, l3, .int x, l5, l6] st I R Q = am_ev d 280 493 [l0, l1, l2, l3, .int x, l5, l6] (.int x :: st) I R Q := am_ev_nx (am_f280 (pc := 491) (q := (.iload 4, 2, (0, 0, 0))) rfl) rfl
set_option maxRecDepth 100000 in
theorem s280_493 {d : Nat} {l0 l1 l2 l3 l4 l5 l6 : Value} {st : List Value} {I : am_I} {R : am_R} {Q : am_Q} : am_ev d 280 493 [l0, l1, l2, l3, l4, l5, l6] st I R Q = am_ev d 280 494 [l0, l1, l2, l3, l4, l5, l6] (.int (nI 1) :: st) I R Q := am_ev_nx (am_f280 (pc := 493) (q := (.iconst 1, 1, (0, 0, 1))) rfl) rfl
set_option maxRecDepth 100000 in
theorem s280_494 {d : Nat} {l0 l1 l2 l3 l4 l5 l6 : Value} {st : List Value} {x y : Int32} {I : am_I} {R : am_R} {Q : am_Q} : am_ev d 280 494 [l0, l1, l2, l3, l4, l5, l6] (.int y :: .int x :: st) I R Q = am_ev d 280 495 [l0, l1, l2, l3, l4, l5, l6] (.int (x + y) :: st) I R Q := am_ev_nx (am_f280 (pc := 494) (q := (.iadd, 1, (0, 0, 0))) rfl) rfl
set_option maxRecDepth 100000 in
theorem s280_496 {d : Nat} {l1 l2 l3 l4 l5 l6 : Value} {st : List Value} {x : Nat} {I : am_I} {R : am_R} {Q : am_Q} : am_ev d 280 496 [.ref x, l1, l2, l3, l4, l5, l6] st I R Q = am_ev d 280 497 [.ref x, l1, l2, l3, l4, l5, l6] (.ref x :: st) I R Q := am_ev_nx (am_f280 (pc := 496) (q := (.aload_n 0, 1, (0, 0, 0))) rfl) rfl
set_option maxRecDepth 100000 in
theorem s280_497 {d : Nat} {l0 l1 l2 l3 l5 l6 : Value} {st : List Value} {x : Int32} {I : am_I} {R : am_R} {Q : am_Q} : am_ev d 280 497 [l0, l1, l2, l3, .int x, l5, l6] st I R Q = am_ev d 280 499 [l0, l1, l2, l3, .int x, l5, l6] (.int x :: st) I R Q := am_ev_nx (am_f280 (pc := 497) (q := (.iload 4, 2, (0, 0, 0))) rfl) rfl
set_option maxRecDepth 100000 in
theorem s280_499 {d : Nat} {l0 l1 l2 l3 l4 l5 l6 : Value} {st : List Value} {I : am_I} {R : am_R} {Q : am_Q} : am_ev d 280 499 [l0, l1, l2, l3, l4, l5, l6] st I R Q = am_ev d 280 500 [l0, l1, l2, l3, l4, l5, l6] (.int (nI 2) :: st) I R Q := am_ev_nx (am_f280 (pc := 499) (q := (.iconst 2, 1, (0, 0, 2))) rfl) rfl
set_option maxRecDepth 100000 in
theorem s280_500 {d : Nat} {l0 l1 l2 l3 l4 l5 l6 : Value} {st : List Value} {x y : Int32} {I : am_I} {R : am_R} {Q : am_Q} : am_ev d 280 500 [l0, l1, l2, l3, l4, l5, l6] (.int y :: .int x :: st) I R Q = am_ev d 280 501 [l0, l1, l2, l3, l4, l5, l6] (.int (x + y) :: st) I R Q := am_ev_nx (am_f280 (pc := 500) (q := (.iadd, 1, (0, 0, 0))) rfl) rfl
set_option maxRecDepth 100000 in
theorem s280_502 {d : Nat} {l0 l1 l2 l3 l4 l5 l6 : Value} {a0 : Nat} {a1 : Int32} {a2 : Int32} {r0 : Value} {I : am_I} {R : am_R} {Q : am_Q} : am_ev (d + 1) 280 502 [l0, l1, l2, l3, l4, l5, l6] [.int a2, .int a1, .ref (am_mk 12 a0), r0] I R Q = am_th (am_cal d 212 [.ref (am_mk 12 a0), .int a1, .int a2] I R Q) fun r I R Q => am_ev (d + 1) 280 505 [l0, l1, l2, l3, l4, l5, l6] (r.toList ++ [r0]) I R Q := am_ev_call (am_f280 (pc := 502) (q := (.invokevirtual 55, 3, (212, 0, 0))) rfl) (am_inv_v [.int a1, .int a2] [r0] (by decide) (by decide) rfl rfl rfl (Nat.le_of_ble_eq_true rfl))
set_option maxRecDepth 100000 in
theorem s280_505 {d : Nat} {l0 l1 l2 l3 l4 l5 l6 : Value} {st : List Value} {x y : Int32} {I : am_I} {R : am_R} {Q : am_Q} : am_ev d 280 505 [l0, l1, l2, l3, l4, l5, l6] (.int y :: .int x :: st) I R Q = if x = y then am_ev d 280 1575 [l0, l1, l2, l3, l4, l5, l6] st I R Q else am_ev d 280 508 [l0, l1, l2, l3, l4, l5, l6] st I R Q := am_ev_br (am_f280 (pc := 505) (q := (.if_icmp .eq 1070, 3, (0, 0, 0))) rfl) rfl
set_option maxRecDepth 100000 in
theorem s280_508 {d : Nat} {l0 l1 l2 l3 l4 l5 l6 : Value} {st : List Value} {I : am_I} {R : am_R} {Q : am_Q} : am_ev d 280 508 [l0, l1, l2, l3, l4, l5, l6] st I R Q = am_ev d 280 509 [l0, l1, l2, l3, l4, l5, l6] (.int (nI 0) :: st) I R Q := am_ev_nx (am_f280 (pc := 508) (q := (.iconst 0, 1, (0, 0, 0))) rfl) rfl
set_option maxRecDepth 100000 in
theorem s280_509 {d : Nat} {l0 l1 l2 l3 l4 l5 l6 : Value} {x : Int32} {I : am_I} {R : am_R} {Q : am_Q} : am_ev d 280 509 [l0, l1, l2, l3, l4, l5, l6] [.int x] I R Q = if am_bb x then some (some (.int x), I, R, Q) else none := am_ev_ifr (am_f280 (pc := 509) (q := (.ireturn, 1, (1, 0, 0))) rfl) (am_zr_u rfl)
set_option maxRecDepth 100000 in
theorem s280_510 {d : Nat} {l0 l2 l3 l4 l5 l6 : Value} {st : List Value} {x : Nat} {I : am_I} {R : am_R} {Q : am_Q} : am_ev d 280 510 [l0, .ref x, l2, l3, l4, l5, l6] st I R Q = am_ev d 280 511 [l0, .ref x, l2, l3, l4, l5, l6] (.ref x :: st) I R Q := am_ev_nx (am_f280 (pc := 510) (q := (.aload_n 1, 1, (0, 0, 0))) rfl) rfl
set_option maxRecDepth 100000 in
theorem s280_511 {d : Nat} {l1 l2 l3 l4 l5 l6 : Value} {st : List Value} {x : Nat} {I : am_I} {R : am_R} {Q : am_Q} : am_ev d 280 511 [.ref x, l1, l2, l3, l4, l5, l6] st I R Q = am_ev d 280 512 [.ref x, l1, l2, l3, l4, l5, l6] (.ref x :: st) I R Q := am_ev_nx (am_f280 (pc := 511) (q := (.aload_n 0, 1, (0, 0, 0))) rfl) rfl
set_option maxRecDepth 100000 in
theorem s280_512 {d : Nat} {l0 l1 l2 l3 l5 l6 : Value} {st : List Value} {x : Int32} {I : am_I} {R : am_R} {Q : am_Q} : am_ev d 280 512 [l0, l1, l2, l3, .int x, l5, l6] st I R Q = am_ev d 280 514 [l0, l1, l2, l3, .int x, l5, l6] (.int x :: st) I R Q := am_ev_nx (am_f280 (pc := 512) (q := (.iload 4, 2, (0, 0, 0))) rfl) rfl
set_option maxRecDepth 100000 in
theorem s280_514 {d : Nat} {l0 l1 l2 l3 l4 l5 l6 : Value} {st : List Value} {I : am_I} {R : am_R} {Q : am_Q} : am_ev d 280 514 [l0, l1, l2, l3, l4, l5, l6] st I R Q = am_ev d 280 515 [l0, l1, l2, l3, l4, l5, l6] (.int (nI 1) :: st) I R Q := am_ev_nx (am_f280 (pc := 514) (q := (.iconst 1, 1, (0, 0, 1))) rfl) rfl
set_option maxRecDepth 100000 in
theorem s280_515 {d : Nat} {l0 l1 l2 l3 l4 l5 l6 : Value} {st : List Value} {x y : Int32} {I : am_I} {R : am_R} {Q : am_Q} : am_ev d 280 515 [l0, l1, l2, l3, l4, l5, l6] (.int y :: .int x :: st) I R Q = am_ev d 280 516 [l0, l1, l2, l3, l4, l5, l6] (.int (x + y) :: st) I R Q := am_ev_nx (am_f280 (pc := 515) (q := (.iadd, 1, (0, 0, 0))) rfl) rfl
set_option maxRecDepth 100000 in
theorem s280_517 {d : Nat} {l0 l1 l2 l3 l4 l5 l6 : Value} {a0 : Nat} {a1 : Int32} {I : am_I} {R : am_R} {Q : am_Q} : am_ev (d + 1) 280 517 [l0, l1, l2, l3, l4, l5, l6] [.int a1, .ref (am_mk 11 a0)] I R Q = am_th (am_cal d 112 [.ref (am_mk 11 a0), .int a1] I R Q) fun r I R Q => am_ev (d + 1) 280 520 [l0, l1, l2, l3, l4, l5, l6] (r.toList ++ []) I R Q := am_ev_call (am_f280 (pc := 517) (q := (.invokevirtual 56, 3, (112, 0, 0))) rfl) (am_inv_v [.int a1] [] (by decide) (by decide) rfl rfl rfl (Nat.le_of_ble_eq_true rfl))
set_option maxRecDepth 100000 in
theorem s280_520 {d : Nat} {l0 l1 l3 l4 l5 l6 : Value} {st : List Value} {x : Nat} {I : am_I} {R : am_R} {Q : am_Q} : am_ev d 280 520 [l0, l1, .ref x, l3, l4, l5, l6] st I R Q = am_ev d 280 521 [l0, l1, .ref x, l3, l4, l5, l6] (.ref x :: st) I R Q := am_ev_nx (am_f280 (pc := 520) (q := (.aload_n 2, 1, (0, 0, 0))) rfl) rfl
set_option maxRecDepth 100000 in
theorem s280_521 {d : Nat} {l1 l2 l3 l4 l5 l6 : Value} {st : List Value} {x : Nat} {I : am_I} {R : am_R} {Q : am_Q} : am_ev d 280 521 [.ref x, l1, l2, l3, l4, l5, l6] st I R Q = am_ev d 280 522 [.ref x, l1, l2, l3, l4, l5, l6] (.ref x :: st) I R Q := am_ev_nx (am_f280 (pc := 521) (q := (.aload_n 0, 1, (0, 0, 0))) rfl) rfl
set_option maxRecDepth 100000 in
theorem s280_522 {d : Nat} {l0 l1 l2 l3 l5 l6 : Value} {st : List Value} {x : Int32} {I : am_I} {R : am_R} {Q : am_Q} : am_ev d 280 522 [l0, l1, l2, l3, .int x, l5, l6] st I R Q = am_ev d 280 524 [l0, l1, l2, l3, .int x, l5, l6] (.int x :: st) I R Q := am_ev_nx (am_f280 (pc := 522) (q := (.iload 4, 2, (0, 0, 0))) rfl) rfl
set_option maxRecDepth 100000 in
theorem s280_524 {d : Nat} {l0 l1 l2 l3 l4 l5 l6 : Value} {st : List Value} {I : am_I} {R : am_R} {Q : am_Q} : am_ev d 280 524 [l0, l1, l2, l3, l4, l5, l6] st I R Q = am_ev d 280 525 [l0, l1, l2, l3, l4, l5, l6] (.int (nI 1) :: st) I R Q := am_ev_nx (am_f280 (pc := 524) (q := (.iconst 1, 1, (0, 0, 1))) rfl) rfl
set_option maxRecDepth 100000 in
theorem s280_525 {d : Nat} {l0 l1 l2 l3 l4 l5 l6 : Value} {st : List Value} {x y : Int32} {I : am_I} {R : am_R} {Q : am_Q} : am_ev d 280 525 [l0, l1, l2, l3, l4, l5, l6] (.int y :: .int x :: st) I R Q = am_ev d 280 526 [l0, l1, l2, l3, l4, l5, l6] (.int (x + y) :: st) I R Q := am_ev_nx (am_f280 (pc := 525) (q := (.iadd, 1, (0, 0, 0))) rfl) rfl
set_option maxRecDepth 100000 in
theorem s280_527 {d : Nat} {l0 l1 l2 l3 l4 l5 l6 : Value} {a0 : Nat} {a1 : Int32} {r0 : Value} {I : am_I} {R : am_R} {Q : am_Q} : am_ev (d + 1) 280 527 [l0, l1, l2, l3, l4, l5, l6] [.int a1, .ref (am_mk 12 a0), r0] I R Q = am_th (am_cal d 213 [.ref (am_mk 12 a0), .int a1] I R Q) fun r I R Q => am_ev (d + 1) 280 530 [l0, l1, l2, l3, l4, l5, l6] (r.toList ++ [r0]) I R Q := am_ev_call (am_f280 (pc := 527) (q := (.invokevirtual 59, 3, (213, 0, 0))) rfl) (am_inv_v [.int a1] [r0] (by decide) (by decide) rfl rfl rfl (Nat.le_of_ble_eq_true rfl))
set_option maxRecDepth 100000 in
theorem s280_530 {d : Nat} {l0 l1 l2 l3 l4 l5 l6 : Value} {st : List Value} {x y : Int32} {I : am_I} {R : am_R} {Q : am_Q} : am_ev d 280 530 [l0, l1, l2, l3, l4, l5, l6] (.int y :: .int x :: st) I R Q = if x = y then am_ev d 280 1575 [l0, l1, l2, l3, l4, l5, l6] st I R Q else am_ev d 280 533 [l0, l1, l2, l3, l4, l5, l6] st I R Q := am_ev_br (am_f280 (pc := 530) (q := (.if_icmp .eq 1045, 3, (0, 0, 0))) rfl) rfl
set_option maxRecDepth 100000 in
theorem s280_533 {d : Nat} {l0 l1 l2 l3 l4 l5 l6 : Value} {st : List Value} {I : am_I} {R : am_R} {Q : am_Q} : am_ev d 280 533 [l0, l1, l2, l3, l4, l5, l6] st I R Q = am_ev d 280 534 [l0, l1, l2, l3, l4, l5, l6] (.int (nI 0) :: st) I R Q := am_ev_nx (am_f280 (pc := 533) (q := (.iconst 0, 1, (0, 0, 0))) rfl) rfl
set_option maxRecDepth 100000 in
theorem s280_534 {d : Nat} {l0 l1 l2 l3 l4 l5 l6 : Value} {x : Int32} {I : am_I} {R : am_R} {Q : am_Q} : am_ev d 280 534 [l0, l1, l2, l3, l4, l5, l6] [.int x] I R Q = if am_bb x then some (some (.int x), I, R, Q) else none := am_ev_ifr (am_f280 (pc := 534) (q := (.ireturn, 1, (1, 0, 0))) rfl) (am_zr_u rfl)
set_option maxRecDepth 100000 in
theorem s280_535 {d : Nat} {l0 l2 l3 l4 l5 l6 : Value} {st : List Value} {x : Nat} {I : am_I} {R : am_R} {Q : am_Q} : am_ev d 280 535 [l0, .ref x, l2, l3, l4, l5, l6] st I R Q = am_ev d 280 536 [l0, .ref x, l2, l3, l4, l5, l6] (.ref x :: st) I R Q := am_ev_nx (am_f280 (pc := 535) (q := (.aload_n 1, 1, (0, 0, 0))) rfl) rfl
set_option maxRecDepth 100000 in
theorem s280_536 {d : Nat} {l1 l2 l3 l4 l5 l6 : Value} {st : List Value} {x : Nat} {I : am_I} {R : am_R} {Q : am_Q} : am_ev d 280 536 [.ref x, l1, l2, l3, l4, l5, l6] st I R Q = am_ev d 280 537 [.ref x, l1, l2, l3, l4, l5, l6] (.ref x :: st) I R Q := am_ev_nx (am_f280 (pc := 536) (q := (.aload_n 0, 1, (0, 0, 0))) rfl) rfl
set_option maxRecDepth 100000 in
theorem s280_537 {d : Nat} {l0 l1 l2 l3 l5 l6 : Value} {st : List Value} {x : Int32} {I : am_I} {R : am_R} {Q : am_Q} : am_ev d 280 537 [l0, l1, l2, l3, .int x, l5, l6] st I R Q = am_ev d 280 539 [l0, l1, l2, l3, .int x, l5, l6] (.int x :: st) I R Q := am_ev_nx (am_f280 (pc := 537) (q := (.iload 4, 2, (0, 0, 0))) rfl) rfl
set_option maxRecDepth 100000 in
theorem s280_539 {d : Nat} {l0 l1 l2 l3 l4 l5 l6 : Value} {st : List Value} {I : am_I} {R : am_R} {Q : am_Q} : am_ev d 280 539 [l0, l1, l2, l3, l4, l5, l6] st I R Q = am_ev d 280 540 [l0, l1, l2, l3, l4, l5, l6] (.int (nI 1) :: st) I R Q := am_ev_nx (am_f280 (pc := 539) (q := (.iconst 1, 1, (0, 0, 1))) rfl) rfl
set_option maxRecDepth 100000 in
theorem s280_540 {d : Nat} {l0 l1 l2 l3 l4 l5 l6 : Value} {st : List Value} {x y : Int32} {I : am_I} {R : am_R} {Q : am_Q} : am_ev d 280 540 [l0, l1, l2, l3, l4, l5, l6] (.int y :: .int x :: st) I R Q = am_ev d 280 541 [l0, l1, l2, l3, l4, l5, l6] (.int (x + y) :: st) I R Q := am_ev_nx (am_f280 (pc := 540) (q := (.iadd, 1, (0, 0, 0))) rfl) rfl
set_option maxRecDepth 100000 in
theorem s280_542 {d : Nat} {l1 l2 l3 l4 l5 l6 : Value} {st : List Value} {x : Nat} {I : am_I} {R : am_R} {Q : am_Q} : am_ev d 280 542 [.ref x, l1, l2, l3, l4, l5, l6] st I R Q = am_ev d 280 543 [.ref x, l1, l2, l3, l4, l5, l6] (.ref x :: st) I R Q := am_ev_nx (am_f280 (pc := 542) (q := (.aload_n 0, 1, (0, 0, 0))) rfl) rfl
set_option maxRecDepth 100000 in
theorem s280_543 {d : Nat} {l0 l1 l2 l3 l5 l6 : Value} {st : List Value} {x : Int32} {I : am_I} {R : am_R} {Q : am_Q} : am_ev d 280 543 [l0, l1, l2, l3, .int x, l5, l6] st I R Q = am_ev d 280 545 [l0, l1, l2, l3, .int x, l5, l6] (.int x :: st) I R Q := am_ev_nx (am_f280 (pc := 543) (q := (.iload 4, 2, (0, 0, 0))) rfl) rfl
set_option maxRecDepth 100000 in
theorem s280_545 {d : Nat} {l0 l1 l2 l3 l4 l5 l6 : Value} {st : List Value} {I : am_I} {R : am_R} {Q : am_Q} : am_ev d 280 545 [l0, l1, l2, l3, l4, l5, l6] st I R Q = am_ev d 280 546 [l0, l1, l2, l3, l4, l5, l6] (.int (nI 2) :: st) I R Q := am_ev_nx (am_f280 (pc := 545) (q := (.iconst 2, 1, (0, 0, 2))) rfl) rfl
set_option maxRecDepth 100000 in
theorem s280_546 {d : Nat} {l0 l1 l2 l3 l4 l5 l6 : Value} {st : List Value} {x y : Int32} {I : am_I} {R : am_R} {Q : am_Q} : am_ev d 280 546 [l0, l1, l2, l3, l4, l5, l6] (.int y :: .int x :: st) I R Q = am_ev d 280 547 [l0, l1, l2, l3, l4, l5, l6] (.int (x + y) :: st) I R Q := am_ev_nx (am_f280 (pc := 546) (q := (.iadd, 1, (0, 0, 0))) rfl) rfl
set_option maxRecDepth 100000 in
theorem s280_548 {d : Nat} {l0 l1 l2 l3 l4 l5 l6 : Value} {a0 : Nat} {a1 : Int32} {a2 : Int32} {I : am_I} {R : am_R} {Q : am_Q} : am_ev (d + 1) 280 548 [l0, l1, l2, l3, l4, l5, l6] [.int a2, .int a1, .ref (am_mk 11 a0)] I R Q = am_th (am_cal d 115 [.ref (am_mk 11 a0), .int a1, .int a2] I R Q) fun r I R Q => am_ev (d + 1) 280 551 [l0, l1, l2, l3, l4, l5, l6] (r.toList ++ []) I R Q := am_ev_call (am_f280 (pc := 548) (q := (.invokevirtual 60, 3, (115, 0, 0))) rfl) (am_inv_v [.int a1, .int a2] [] (by decide) (by decide) rfl rfl rfl (Nat.le_of_ble_eq_true rfl))
set_option maxRecDepth 100000 in
theorem s280_551 {d : Nat} {l0 l1 l3 l4 l5 l6 : Value} {st : List Value} {x : Nat} {I : am_I} {R : am_R} {Q : am_Q} : am_ev d 280 551 [l0, l1, .ref x, l3, l4, l5, l6] st I R Q = am_ev d 280 552 [l0, l1, .ref x, l3, l4, l5, l6] (.ref x :: st) I R Q := am_ev_nx (am_f280 (pc := 551) (q := (.aload_n 2, 1, (0, 0, 0))) rfl) rfl
set_option maxRecDepth 100000 in
theorem s280_552 {d : Nat} {l1 l2 l3 l4 l5 l6 : Value} {st : List Value} {x : Nat} {I : am_I} {R : am_R} {Q : am_Q} : am_ev d 280 552 [.ref x, l1, l2, l3, l4, l5, l6] st I R Q = am_ev d 280 553 [.ref x, l1, l2, l3, l4, l5, l6] (.ref x :: st) I R Q := am_ev_nx (am_f280 (pc := 552) (q := (.aload_n 0, 1, (0, 0, 0))) rfl) rfl
set_option maxRecDepth 100000 in
theorem s280_553 {d : Nat} {l0 l1 l2 l3 l5 l6 : Value} {st : List Value} {x : Int32} {I : am_I} {R : am_R} {Q : am_Q} : am_ev d 280 553 [l0, l1, l2, l3, .int x, l5, l6] st I R Q = am_ev d 280 555 [l0, l1, l2, l3, .int x, l5, l6] (.int x :: st) I R Q := am_ev_nx (am_f280 (pc := 553) (q := (.iload 4, 2, (0, 0, 0))) rfl) rfl
set_option maxRecDepth 100000 in
theorem s280_555 {d : Nat} {l0 l1 l2 l3 l4 l5 l6 : Value} {st : List Value} {I : am_I} {R : am_R} {Q : am_Q} : am_ev d 280 555 [l0, l1, l2, l3, l4, l5, l6] st I R Q = am_ev d 280 556 [l0, l1, l2, l3, l4, l5, l6] (.int (nI 1) :: st) I R Q := am_ev_nx (am_f280 (pc := 555) (q := (.iconst 1, 1, (0, 0, 1))) rfl) rfl
set_option maxRecDepth 100000 in
theorem s280_556 {d : Nat} {l0 l1 l2 l3 l4 l5 l6 : Value} {st : List Value} {x y : Int32} {I : am_I} {R : am_R} {Q : am_Q} : am_ev d 280 556 [l0, l1, l2, l3, l4, l5, l6] (.int y :: .int x :: st) I R Q = am_ev d 280 557 [l0, l1, l2, l3, l4, l5, l6] (.int (x + y) :: st) I R Q := am_ev_nx (am_f280 (pc := 556) (q := (.iadd, 1, (0, 0, 0))) rfl) rfl
set_option maxRecDepth 100000 in
theorem s280_558 {d : Nat} {l1 l2 l3 l4 l5 l6 : Value} {st : List Value} {x : Nat} {I : am_I} {R : am_R} {Q : am_Q} : am_ev d 280 558 [.ref x, l1, l2, l3, l4, l5, l6] st I R Q = am_ev d 280 559 [.ref x, l1, l2, l3, l4, l5, l6] (.ref x :: st) I R Q := am_ev_nx (am_f280 (pc := 558) (q := (.aload_n 0, 1, (0, 0, 0))) rfl) rfl
set_option maxRecDepth 100000 in
theorem s280_559 {d : Nat} {l0 l1 l2 l3 l5 l6 : Value} {st : List Value} {x : Int32} {I : am_I} {R : am_R} {Q : am_Q} : am_ev d 280 559 [l0, l1, l2, l3, .int x, l5, l6] st I R Q = am_ev d 280 561 [l0, l1, l2, l3, .int x, l5, l6] (.int x :: st) I R Q := am_ev_nx (am_f280 (pc := 559) (q := (.iload 4, 2, (0, 0, 0))) rfl) rfl
set_option maxRecDepth 100000 in
theorem s280_561 {d : Nat} {l0 l1 l2 l3 l4 l5 l6 : Value} {st : List Value} {I : am_I} {R : am_R} {Q : am_Q} : am_ev d 280 561 [l0, l1, l2, l3, l4, l5, l6] st I R Q = am_ev d 280 562 [l0, l1, l2, l3, l4, l5, l6] (.int (nI 2) :: st) I R Q := am_ev_nx (am_f280 (pc := 561) (q := (.iconst 2, 1, (0, 0, 2))) rfl) rfl
set_option maxRecDepth 100000 in
theorem s280_562 {d : Nat} {l0 l1 l2 l3 l4 l5 l6 : Value} {st : List Value} {x y : Int32} {I : am_I} {R : am_R} {Q : am_Q} : am_ev d 280 562 [l0, l1, l2, l3, l4, l5, l6] (.int y :: .int x :: st) I R Q = am_ev d 280 563 [l0, l1, l2, l3, l4, l5, l6] (.int (x + y) :: st) I R Q := am_ev_nx (am_f280 (pc := 562) (q := (.iadd, 1, (0, 0, 0))) rfl) rfl
set_option maxRecDepth 100000 in
theorem s280_564 {d : Nat} {l0 l1 l2 l3 l4 l5 l6 : Value} {a0 : Nat} {a1 : Int32} {a2 : Int32} {r0 : Value} {I : am_I} {R : am_R} {Q : am_Q} : am_ev (d + 1) 280 564 [l0, l1, l2, l3, l4, l5, l6] [.int a2, .int a1, .ref (am_mk 12 a0), r0] I R Q = am_th (am_cal d 226 [.ref (am_mk 12 a0), .int a1, .int a2] I R Q) fun r I R Q => am_ev (d + 1) 280 567 [l0, l1, l2, l3, l4, l5, l6] (r.toList ++ [r0]) I R Q := am_ev_call (am_f280 (pc := 564) (q := (.invokevirtual 63, 3, (226, 0, 0))) rfl) (am_inv_v [.int a1, .int a2] [r0] (by decide) (by decide) rfl rfl rfl (Nat.le_of_ble_eq_true rfl))
set_option maxRecDepth 100000 in
theorem s280_567 {d : Nat} {l0 l1 l2 l3 l4 l5 l6 : Value} {st : List Value} {x y : Int32} {I : am_I} {R : am_R} {Q : am_Q} : am_ev d 280 567 [l0, l1, l2, l3, l4, l5, l6] (.int y :: .int x :: st) I R Q = if x = y then am_ev d 280 1575 [l0, l1, l2, l3, l4, l5, l6] st I R Q else am_ev d 280 570 [l0, l1, l2, l3, l4, l5, l6] st I R Q := am_ev_br (am_f280 (pc := 567) (q := (.if_icmp .eq 1008, 3, (0, 0, 0))) rfl) rfl
set_option maxRecDepth 100000 in
theorem s280_570 {d : Nat} {l0 l1 l2 l3 l4 l5 l6 : Value} {st : List Value} {I : am_I} {R : am_R} {Q : am_Q} : am_ev d 280 570 [l0, l1, l2, l3, l4, l5, l6] st I R Q = am_ev d 280 571 [l0, l1, l2, l3, l4, l5, l6] (.int (nI 0) :: st) I R Q := am_ev_nx (am_f280 (pc := 570) (q := (.iconst 0, 1, (0, 0, 0))) rfl) rfl
set_option maxRecDepth 100000 in
theorem s280_571 {d : Nat} {l0 l1 l2 l3 l4 l5 l6 : Value} {x : Int32} {I : am_I} {R : am_R} {Q : am_Q} : am_ev d 280 571 [l0, l1, l2, l3, l4, l5, l6] [.int x] I R Q = if am_bb x then some (some (.int x), I, R, Q) else none := am_ev_ifr (am_f280 (pc := 571) (q := (.ireturn, 1, (1, 0, 0))) rfl) (am_zr_u rfl)
set_option maxRecDepth 100000 in
theorem s280_572 {d : Nat} {l0 l2 l3 l4 l5 l6 : Value} {st : List Value} {x : Nat} {I : am_I} {R : am_R} {Q : am_Q} : am_ev d 280 572 [l0, .ref x, l2, l3, l4, l5, l6] st I R Q = am_ev d 280 573 [l0, .ref x, l2, l3, l4, l5, l6] (.ref x :: st) I R Q := am_ev_nx (am_f280 (pc := 572) (q := (.aload_n 1, 1, (0, 0, 0))) rfl) rfl
set_option maxRecDepth 100000 in
theorem s280_573 {d : Nat} {l0 l1 l2 l3 l4 l5 l6 : Value} {a0 : Nat} {I : am_I} {R : am_R} {Q : am_Q} : am_ev (d + 1) 280 573 [l0, l1, l2, l3, l4, l5, l6] [.ref (am_mk 11 a0)] I R Q = am_th (am_cal d 116 [.ref (am_mk 11 a0)] I R Q) fun r I R Q => am_ev (d + 1) 280 576 [l0, l1, l2, l3, l4, l5, l6] (r.toList ++ []) I R Q := am_ev_call (am_f280 (pc := 573) (q := (.invokevirtual 64, 3, (116, 0, 0))) rfl) (am_inv_v [] [] (by decide) (by decide) rfl rfl rfl (Nat.le_of_ble_eq_true rfl))
set_option maxRecDepth 100000 in
theorem s280_576 {d : Nat} {l0 l1 l3 l4 l5 l6 : Value} {st : List Value} {x : Nat} {I : am_I} {R : am_R} {Q : am_Q} : am_ev d 280 576 [l0, l1, .ref x, l3, l4, l5, l6] st I R Q = am_ev d 280 577 [l0, l1, .ref x, l3, l4, l5, l6] (.ref x :: st) I R Q := am_ev_nx (am_f280 (pc := 576) (q := (.aload_n 2, 1, (0, 0, 0))) rfl) rfl
set_option maxRecDepth 100000 in
theorem s280_577 {d : Nat} {l0 l1 l2 l3 l4 l5 l6 : Value} {a0 : Nat} {r0 : Value} {I : am_I} {R : am_R} {Q : am_Q} : am_ev (d + 1) 280 577 [l0, l1, l2, l3, l4, l5, l6] [.ref (am_mk 12 a0), r0] I R Q = am_th (am_cal d 227 [.ref (am_mk 12 a0)] I R Q) fun r I R Q => am_ev (d + 1) 280 580 [l0, l1, l2, l3, l4, l5, l6] (r.toList ++ [r0]) I R Q := am_ev_call (am_f280 (pc := 577) (q := (.invokevirtual 67, 3, (227, 0, 0))) rfl) (am_inv_v [] [r0] (by decide) (by decide) rfl rfl rfl (Nat.le_of_ble_eq_true rfl))
set_option maxRecDepth 100000 in
theorem s280_580 {d : Nat} {l0 l1 l2 l3 l4 l5 l6 : Value} {st : List Value} {x y : Int32} {I : am_I} {R : am_R} {Q : am_Q} : am_ev d 280 580 [l0, l1, l2, l3, l4, l5, l6] (.int y :: .int x :: st) I R Q = if x = y then am_ev d 280 1575 [l0, l1, l2, l3, l4, l5, l6] st I R Q else am_ev d 280 583 [l0, l1, l2, l3, l4, l5, l6] st I R Q := am_ev_br (am_f280 (pc := 580) (q := (.if_icmp .eq 995, 3, (0, 0, 0))) rfl) rfl
set_option maxRecDepth 100000 in
theorem s280_583 {d : Nat} {l0 l1 l2 l3 l4 l5 l6 : Value} {st : List Value} {I : am_I} {R : am_R} {Q : am_Q} : am_ev d 280 583 [l0, l1, l2, l3, l4, l5, l6] st I R Q = am_ev d 280 584 [l0, l1, l2, l3, l4, l5, l6] (.int (nI 0) :: st) I R Q := am_ev_nx (am_f280 (pc := 583) (q := (.iconst 0, 1, (0, 0, 0))) rfl) rfl
set_option maxRecDepth 100000 in
theorem s280_584 {d : Nat} {l0 l1 l2 l3 l4 l5 l6 : Value} {x : Int32} {I : am_I} {R : am_R} {Q : am_Q} : am_ev d 280 584 [l0, l1, l2, l3, l4, l5, l6] [.int x] I R Q = if am_bb x then some (some (.int x), I, R, Q) else none := am_ev_ifr (am_f280 (pc := 584) (q := (.ireturn, 1, (1, 0, 0))) rfl) (am_zr_u rfl)
set_option maxRecDepth 100000 in
theorem s280_585 {d : Nat} {l0 l2 l3 l4 l5 l6 : Value} {st : List Value} {x : Nat} {I : am_I} {R : am_R} {Q : am_Q} : am_ev d 280 585 [l0, .ref x, l2, l3, l4, l5, l6] st I R Q = am_ev d 280 586 [l0, .ref x, l2, l3, l4, l5, l6] (.ref x :: st) I R Q := am_ev_nx (am_f280 (pc := 585) (q := (.aload_n 1, 1, (0, 0, 0))) rfl) rfl
set_option maxRecDepth 100000 in
theorem s280_586 {d : Nat} {l1 l2 l3 l4 l5 l6 : Value} {st : List Value} {x : Nat} {I : am_I} {R : am_R} {Q : am_Q} : am_ev d 280 586 [.ref x, l1, l2, l3, l4, l5, l6] st I R Q = am_ev d 280 587 [.ref x, l1, l2, l3, l4, l5, l6] (.ref x :: st) I R Q := am_ev_nx (am_f280 (pc := 586) (q := (.aload_n 0, 1, (0, 0, 0))) rfl) rfl
set_option maxRecDepth 100000 in
theorem s280_587 {d : Nat} {l0 l1 l2 l3 l5 l6 : Value} {st : List Value} {x : Int32} {I : am_I} {R : am_R} {Q : am_Q} : am_ev d 280 587 [l0, l1, l2, l3, .int x, l5, l6] st I R Q = am_ev d 280 589 [l0, l1, l2, l3, .int x, l5, l6] (.int x :: st) I R Q := am_ev_nx (am_f280 (pc := 587) (q := (.iload 4, 2, (0, 0, 0))) rfl) rfl
set_option maxRecDepth 100000 in
theorem s280_589 {d : Nat} {l0 l1 l2 l3 l4 l5 l6 : Value} {st : List Value} {I : am_I} {R : am_R} {Q : am_Q} : am_ev d 280 589 [l0, l1, l2, l3, l4, l5, l6] st I R Q = am_ev d 280 590 [l0, l1, l2, l3, l4, l5, l6] (.int (nI 1) :: st) I R Q := am_ev_nx (am_f280 (pc := 589) (q := (.iconst 1, 1, (0, 0, 1))) rfl) rfl
set_option maxRecDepth 100000 in
theorem s280_590 {d : Nat} {l0 l1 l2 l3 l4 l5 l6 : Value} {st : List Value} {x y : Int32} {I : am_I} {R : am_R} {Q : am_Q} : am_ev d 280 590 [l0, l1, l2, l3, l4, l5, l6] (.int y :: .int x :: st) I R Q = am_ev d 280 591 [l0, l1, l2, l3, l4, l5, l6] (.int (x + y) :: st) I R Q := am_ev_nx (am_f280 (pc := 590) (q := (.iadd, 1, (0, 0, 0))) rfl) rfl
set_option maxRecDepth 100000 in
theorem s280_592 {d : Nat} {l0 l1 l2 l3 l4 l5 l6 : Value} {st : List Value} {x : Int32} {I : am_I} {R : am_R} {Q : am_Q} : am_ev d 280 592 [l0, l1, l2, l3, l4, l5, l6] (.int x :: st) I R Q = if x = 0 then am_ev d 280 599 [l0, l1, l2, l3, l4, l5, l6] st I R Q else am_ev d 280 595 [l0, l1, l2, l3, l4, l5, l6] st I R Q := am_ev_br (am_f280 (pc := 592) (q := (.ifCond .eq 7, 3, (0, 0, 0))) rfl) rfl
set_option maxRecDepth 100000 in
theorem s280_595 {d : Nat} {l0 l1 l2 l3 l4 l5 l6 : Value} {st : List Value} {I : am_I} {R : am_R} {Q : am_Q} : am_ev d 280 595 [l0, l1, l2, l3, l4, l5, l6] st I R Q = am_ev d 280 596 [l0, l1, l2, l3, l4, l5, l6] (.int (nI 1) :: st) I R Q := am_ev_nx (am_f280 (pc := 595) (q := (.iconst 1, 1, (0, 0, 1))) rfl) rfl
set_option maxRecDepth 100000 in
theorem s280_596 {d : Nat} {l0 l1 l2 l3 l4 l5 l6 : Value} {st : List Value} {I : am_I} {R : am_R} {Q : am_Q} : am_ev d 280 596 [l0, l1, l2, l3, l4, l5, l6] st I R Q = am_ev d 280 600 [l0, l1, l2, l3, l4, l5, l6] st I R Q := am_ev_nx (am_f280 (pc := 596) (q := (.goto 4, 3, (0, 0, 0))) rfl) rfl
set_option maxRecDepth 100000 in
theorem s280_599 {d : Nat} {l0 l1 l2 l3 l4 l5 l6 : Value} {st : List Value} {I : am_I} {R : am_R} {Q : am_Q} : am_ev d 280 599 [l0, l1, l2, l3, l4, l5, l6] st I R Q = am_ev d 280 600 [l0, l1, l2, l3, l4, l5, l6] (.int (nI 0) :: st) I R Q := am_ev_nx (am_f280 (pc := 599) (q := (.iconst 0, 1, (0, 0, 0))) rfl) rfl
set_option maxRecDepth 100000 in
theorem s280_600 {d : Nat} {l0 l1 l2 l3 l4 l5 l6 : Value} {a0 : Nat} {a1 : Int32} {I : am_I} {R : am_R} {Q : am_Q} : am_ev (d + 1) 280 600 [l0, l1, l2, l3, l4, l5, l6] [.int a1, .ref (am_mk 11 a0)] I R Q = am_th (am_cal d 117 [.ref (am_mk 11 a0), .int a1] I R Q) fun r I R Q => am_ev (d + 1) 280 603 [l0, l1, l2, l3, l4, l5, l6] (r.toList ++ []) I R Q := am_ev_call (am_f280 (pc := 600) (q := (.invokevirtual 68, 3, (117, 0, 0))) rfl) (am_inv_v [.int a1] [] (by decide) (by decide) rfl rfl rfl (Nat.le_of_ble_eq_true rfl))
set_option maxRecDepth 100000 in
theorem s280_603 {d : Nat} {l0 l1 l3 l4 l5 l6 : Value} {st : List Value} {x : Nat} {I : am_I} {R : am_R} {Q : am_Q} : am_ev d 280 603 [l0, l1, .ref x, l3, l4, l5, l6] st I R Q = am_ev d 280 604 [l0, l1, .ref x, l3, l4, l5, l6] (.ref x :: st) I R Q := am_ev_nx (am_f280 (pc := 603) (q := (.aload_n 2, 1, (0, 0, 0))) rfl) rfl
set_option maxRecDepth 100000 in
theorem s280_604 {d : Nat} {l1 l2 l3 l4 l5 l6 : Value} {st : List Value} {x : Nat} {I : am_I} {R : am_R} {Q : am_Q} : am_ev d 280 604 [.ref x, l1, l2, l3, l4, l5, l6] st I R Q = am_ev d 280 605 [.ref x, l1, l2, l3, l4, l5, l6] (.ref x :: st) I R Q := am_ev_nx (am_f280 (pc := 604) (q := (.aload_n 0, 1, (0, 0, 0))) rfl) rfl
set_option maxRecDepth 100000 in
theorem s280_605 {d : Nat} {l0 l1 l2 l3 l5 l6 : Value} {st : List Value} {x : Int32} {I : am_I} {R : am_R} {Q : am_Q} : am_ev d 280 605 [l0, l1, l2, l3, .int x, l5, l6] st I R Q = am_ev d 280 607 [l0, l1, l2, l3, .int x, l5, l6] (.int x :: st) I R Q := am_ev_nx (am_f280 (pc := 605) (q := (.iload 4, 2, (0, 0, 0))) rfl) rfl
set_option maxRecDepth 100000 in
theorem s280_607 {d : Nat} {l0 l1 l2 l3 l4 l5 l6 : Value} {st : List Value} {I : am_I} {R : am_R} {Q : am_Q} : am_ev d 280 607 [l0, l1, l2, l3, l4, l5, l6] st I R Q = am_ev d 280 608 [l0, l1, l2, l3, l4, l5, l6] (.int (nI 1) :: st) I R Q := am_ev_nx (am_f280 (pc := 607) (q := (.iconst 1, 1, (0, 0, 1))) rfl) rfl
set_option maxRecDepth 100000 in
theorem s280_608 {d : Nat} {l0 l1 l2 l3 l4 l5 l6 : Value} {st : List Value} {x y : Int32} {I : am_I} {R : am_R} {Q : am_Q} : am_ev d 280 608 [l0, l1, l2, l3, l4, l5, l6] (.int y :: .int x :: st) I R Q = am_ev d 280 609 [l0, l1, l2, l3, l4, l5, l6] (.int (x + y) :: st) I R Q := am_ev_nx (am_f280 (pc := 608) (q := (.iadd, 1, (0, 0, 0))) rfl) rfl
set_option maxRecDepth 100000 in
theorem s280_610 {d : Nat} {l0 l1 l2 l3 l4 l5 l6 : Value} {st : List Value} {x : Int32} {I : am_I} {R : am_R} {Q : am_Q} : am_ev d 280 610 [l0, l1, l2, l3, l4, l5, l6] (.int x :: st) I R Q = if x = 0 then am_ev d 280 617 [l0, l1, l2, l3, l4, l5, l6] st I R Q else am_ev d 280 613 [l0, l1, l2, l3, l4, l5, l6] st I R Q := am_ev_br (am_f280 (pc := 610) (q := (.ifCond .eq 7, 3, (0, 0, 0))) rfl) rfl
set_option maxRecDepth 100000 in
theorem s280_613 {d : Nat} {l0 l1 l2 l3 l4 l5 l6 : Value} {st : List Value} {I : am_I} {R : am_R} {Q : am_Q} : am_ev d 280 613 [l0, l1, l2, l3, l4, l5, l6] st I R Q = am_ev d 280 614 [l0, l1, l2, l3, l4, l5, l6] (.int (nI 1) :: st) I R Q := am_ev_nx (am_f280 (pc := 613) (q := (.iconst 1, 1, (0, 0, 1))) rfl) rfl
set_option maxRecDepth 100000 in
theorem s280_614 {d : Nat} {l0 l1 l2 l3 l4 l5 l6 : Value} {st : List Value} {I : am_I} {R : am_R} {Q : am_Q} : am_ev d 280 614 [l0, l1, l2, l3, l4, l5, l6] st I R Q = am_ev d 280 618 [l0, l1, l2, l3, l4, l5, l6] st I R Q := am_ev_nx (am_f280 (pc := 614) (q := (.goto 4, 3, (0, 0, 0))) rfl) rfl
set_option maxRecDepth 100000 in
theorem s280_617 {d : Nat} {l0 l1 l2 l3 l4 l5 l6 : Value} {st : List Value} {I : am_I} {R : am_R} {Q : am_Q} : am_ev d 280 617 [l0, l1, l2, l3, l4, l5, l6] st I R Q = am_ev d 280 618 [l0, l1, l2, l3, l4, l5, l6] (.int (nI 0) :: st) I R Q := am_ev_nx (am_f280 (pc := 617) (q := (.iconst 0, 1, (0, 0, 0))) rfl) rfl
set_option maxRecDepth 100000 in
theorem s280_618 {d : Nat} {l0 l1 l2 l3 l4 l5 l6 : Value} {a0 : Nat} {a1 : Int32} {r0 : Value} {I : am_I} {R : am_R} {Q : am_Q} : am_ev (d + 1) 280 618 [l0, l1, l2, l3, l4, l5, l6] [.int a1, .ref (am_mk 12 a0), r0] I R Q = am_th (am_cal d 228 [.ref (am_mk 12 a0), .int a1] I R Q) fun r I R Q => am_ev (d + 1) 280 621 [l0, l1, l2, l3, l4, l5, l6] (r.toList ++ [r0]) I R Q := am_ev_call (am_f280 (pc := 618) (q := (.invokevirtual 72, 3, (228, 0, 0))) rfl) (am_inv_v [.int a1] [r0] (by decide) (by decide) rfl rfl rfl (Nat.le_of_ble_eq_true rfl))
set_option maxRecDepth 100000 in
theorem s280_621 {d : Nat} {l0 l1 l2 l3 l4 l5 l6 : Value} {st : List Value} {x y : Int32} {I : am_I} {R : am_R} {Q : am_Q} : am_ev d 280 621 [l0, l1, l2, l3, l4, l5, l6] (.int y :: .int x :: st) I R Q = if x = y then am_ev d 280 1575 [l0, l1, l2, l3, l4, l5, l6] st I R Q else am_ev d 280 624 [l0, l1, l2, l3, l4, l5, l6] st I R Q := am_ev_br (am_f280 (pc := 621) (q := (.if_icmp .eq 954, 3, (0, 0, 0))) rfl) rfl
set_option maxRecDepth 100000 in
theorem s280_624 {d : Nat} {l0 l1 l2 l3 l4 l5 l6 : Value} {st : List Value} {I : am_I} {R : am_R} {Q : am_Q} : am_ev d 280 624 [l0, l1, l2, l3, l4, l5, l6] st I R Q = am_ev d 280 625 [l0, l1, l2, l3, l4, l5, l6] (.int (nI 0) :: st) I R Q := am_ev_nx (am_f280 (pc := 624) (q := (.iconst 0, 1, (0, 0, 0))) rfl) rfl
set_option maxRecDepth 100000 in
theorem s280_625 {d : Nat} {l0 l1 l2 l3 l4 l5 l6 : Value} {x : Int32} {I : am_I} {R : am_R} {Q : am_Q} : am_ev d 280 625 [l0, l1, l2, l3, l4, l5, l6] [.int x] I R Q = if am_bb x then some (some (.int x), I, R, Q) else none := am_ev_ifr (am_f280 (pc := 625) (q := (.ireturn, 1, (1, 0, 0))) rfl) (am_zr_u rfl)
set_option maxRecDepth 100000 in
theorem s280_626 {d : Nat} {l0 l2 l3 l4 l5 l6 : Value} {st : List Value} {x : Nat} {I : am_I} {R : am_R} {Q : am_Q} : am_ev d 280 626 [l0, .ref x, l2, l3, l4, l5, l6] st I R Q = am_ev d 280 627 [l0, .ref x, l2, l3, l4, l5, l6] (.ref x :: st) I R Q := am_ev_nx (am_f280 (pc := 626) (q := (.aload_n 1, 1, (0, 0, 0))) rfl) rfl
set_option maxRecDepth 100000 in
theorem s280_627 {d : Nat} {l1 l2 l3 l4 l5 l6 : Value} {st : List Value} {x : Nat} {I : am_I} {R : am_R} {Q : am_Q} : am_ev d 280 627 [.ref x, l1, l2, l3, l4, l5, l6] st I R Q = am_ev d 280 628 [.ref x, l1, l2, l3, l4, l5, l6] (.ref x :: st) I R Q := am_ev_nx (am_f280 (pc := 627) (q := (.aload_n 0, 1, (0, 0, 0))) rfl) rfl
set_option maxRecDepth 100000 in
theorem s280_628 {d : Nat} {l0 l1 l2 l3 l5 l6 : Value} {st : List Value} {x : Int32} {I : am_I} {R : am_R} {Q : am_Q} : am_ev d 280 628 [l0, l1, l2, l3, .int x, l5, l6] st I R Q = am_ev d 280 630 [l0, l1, l2, l3, .int x, l5, l6] (.int x :: st) I R Q := am_ev_nx (am_f280 (pc := 628) (q := (.iload 4, 2, (0, 0, 0))) rfl) rfl
set_option maxRecDepth 100000 in
theorem s280_630 {d : Nat} {l0 l1 l2 l3 l4 l5 l6 : Value} {st : List Value} {I : am_I} {R : am_R} {Q : am_Q} : am_ev d 280 630 [l0, l1, l2, l3, l4, l5, l6] st I R Q = am_ev d 280 631 [l0, l1, l2, l3, l4, l5, l6] (.int (nI 1) :: st) I R Q := am_ev_nx (am_f280 (pc := 630) (q := (.iconst 1, 1, (0, 0, 1))) rfl) rfl
set_option maxRecDepth 100000 in
theorem s280_631 {d : Nat} {l0 l1 l2 l3 l4 l5 l6 : Value} {st : List Value} {x y : Int32} {I : am_I} {R : am_R} {Q : am_Q} : am_ev d 280 631 [l0, l1, l2, l3, l4, l5, l6] (.int y :: .int x :: st) I R Q = am_ev d 280 632 [l0, l1, l2, l3, l4, l5, l6] (.int (x + y) :: st) I R Q := am_ev_nx (am_f280 (pc := 631) (q := (.iadd, 1, (0, 0, 0))) rfl) rfl
set_option maxRecDepth 100000 in
theorem s280_633 {d : Nat} {l1 l2 l3 l4 l5 l6 : Value} {st : List Value} {x : Nat} {I : am_I} {R : am_R} {Q : am_Q} : am_ev d 280 633 [.ref x, l1, l2, l3, l4, l5, l6] st I R Q = am_ev d 280 634 [.ref x, l1, l2, l3, l4, l5, l6] (.ref x :: st) I R Q := am_ev_nx (am_f280 (pc := 633) (q := (.aload_n 0, 1, (0, 0, 0))) rfl) rfl
set_option maxRecDepth 100000 in
theorem s280_634 {d : Nat} {l0 l1 l2 l3 l5 l6 : Value} {st : List Value} {x : Int32} {I : am_I} {R : am_R} {Q : am_Q} : am_ev d 280 634 [l0, l1, l2, l3, .int x, l5, l6] st I R Q = am_ev d 280 636 [l0, l1, l2, l3, .int x, l5, l6] (.int x :: st) I R Q := am_ev_nx (am_f280 (pc := 634) (q := (.iload 4, 2, (0, 0, 0))) rfl) rfl
set_option maxRecDepth 100000 in
theorem s280_636 {d : Nat} {l0 l1 l2 l3 l4 l5 l6 : Value} {st : List Value} {I : am_I} {R : am_R} {Q : am_Q} : am_ev d 280 636 [l0, l1, l2, l3, l4, l5, l6] st I R Q = am_ev d 280 637 [l0, l1, l2, l3, l4, l5, l6] (.int (nI 2) :: st) I R Q := am_ev_nx (am_f280 (pc := 636) (q := (.iconst 2, 1, (0, 0, 2))) rfl) rfl
set_option maxRecDepth 100000 in
theorem s280_637 {d : Nat} {l0 l1 l2 l3 l4 l5 l6 : Value} {st : List Value} {x y : Int32} {I : am_I} {R : am_R} {Q : am_Q} : am_ev d 280 637 [l0, l1, l2, l3, l4, l5, l6] (.int y :: .int x :: st) I R Q = am_ev d 280 638 [l0, l1, l2, l3, l4, l5, l6] (.int (x + y) :: st) I R Q := am_ev_nx (am_f280 (pc := 637) (q := (.iadd, 1, (0, 0, 0))) rfl) rfl
set_option maxRecDepth 100000 in
theorem s280_639 {d : Nat} {l0 l1 l2 l3 l4 l5 l6 : Value} {a0 : Nat} {a1 : Int32} {a2 : Int32} {I : am_I} {R : am_R} {Q : am_Q} : am_ev (d + 1) 280 639 [l0, l1, l2, l3, l4, l5, l6] [.int a2, .int a1, .ref (am_mk 11 a0)] I R Q = am_th (am_cal d 118 [.ref (am_mk 11 a0), .int a1, .int a2] I R Q) fun r I R Q => am_ev (d + 1) 280 642 [l0, l1, l2, l3, l4, l5, l6] (r.toList ++ []) I R Q := am_ev_call (am_f280 (pc := 639) (q := (.invokevirtual 73, 3, (118, 0, 0))) rfl) (am_inv_v [.int a1, .int a2] [] (by decide) (by decide) rfl rfl rfl (Nat.le_of_ble_eq_true rfl))
set_option maxRecDepth 100000 in
theorem s280_642 {d : Nat} {l0 l1 l3 l4 l5 l6 : Value} {st : List Value} {x : Nat} {I : am_I} {R : am_R} {Q : am_Q} : am_ev d 280 642 [l0, l1, .ref x, l3, l4, l5, l6] st I R Q = am_ev d 280 643 [l0, l1, .ref x, l3, l4, l5, l6] (.ref x :: st) I R Q := am_ev_nx (am_f280 (pc := 642) (q := (.aload_n 2, 1, (0, 0, 0))) rfl) rfl
set_option maxRecDepth 100000 in
theorem s280_643 {d : Nat} {l1 l2 l3 l4 l5 l6 : Value} {st : List Value} {x : Nat} {I : am_I} {R : am_R} {Q : am_Q} : am_ev d 280 643 [.ref x, l1, l2, l3, l4, l5, l6] st I R Q = am_ev d 280 644 [.ref x, l1, l2, l3, l4, l5, l6] (.ref x :: st) I R Q := am_ev_nx (am_f280 (pc := 643) (q := (.aload_n 0, 1, (0, 0, 0))) rfl) rfl
set_option maxRecDepth 100000 in
theorem s280_644 {d : Nat} {l0 l1 l2 l3 l5 l6 : Value} {st : List Value} {x : Int32} {I : am_I} {R : am_R} {Q : am_Q} : am_ev d 280 644 [l0, l1, l2, l3, .int x, l5, l6] st I R Q = am_ev d 280 646 [l0, l1, l2, l3, .int x, l5, l6] (.int x :: st) I R Q := am_ev_nx (am_f280 (pc := 644) (q := (.iload 4, 2, (0, 0, 0))) rfl) rfl
set_option maxRecDepth 100000 in
theorem s280_646 {d : Nat} {l0 l1 l2 l3 l4 l5 l6 : Value} {st : List Value} {I : am_I} {R : am_R} {Q : am_Q} : am_ev d 280 646 [l0, l1, l2, l3, l4, l5, l6] st I R Q = am_ev d 280 647 [l0, l1, l2, l3, l4, l5, l6] (.int (nI 1) :: st) I R Q := am_ev_nx (am_f280 (pc := 646) (q := (.iconst 1, 1, (0, 0, 1))) rfl) rfl
set_option maxRecDepth 100000 in
theorem s280_647 {d : Nat} {l0 l1 l2 l3 l4 l5 l6 : Value} {st : List Value} {x y : Int32} {I : am_I} {R : am_R} {Q : am_Q} : am_ev d 280 647 [l0, l1, l2, l3, l4, l5, l6] (.int y :: .int x :: st) I R Q = am_ev d 280 648 [l0, l1, l2, l3, l4, l5, l6] (.int (x + y) :: st) I R Q := am_ev_nx (am_f280 (pc := 647) (q := (.iadd, 1, (0, 0, 0))) rfl) rfl
set_option maxRecDepth 100000 in
theorem s280_649 {d : Nat} {l1 l2 l3 l4 l5 l6 : Value} {st : List Value} {x : Nat} {I : am_I} {R : am_R} {Q : am_Q} : am_ev d 280 649 [.ref x, l1, l2, l3, l4, l5, l6] st I R Q = am_ev d 280 650 [.ref x, l1, l2, l3, l4, l5, l6] (.ref x :: st) I R Q := am_ev_nx (am_f280 (pc := 649) (q := (.aload_n 0, 1, (0, 0, 0))) rfl) rfl
set_option maxRecDepth 100000 in
theorem s280_650 {d : Nat} {l0 l1 l2 l3 l5 l6 : Value} {st : List Value} {x : Int32} {I : am_I} {R : am_R} {Q : am_Q} : am_ev d 280 650 [l0, l1, l2, l3, .int x, l5, l6] st I R Q = am_ev d 280 652 [l0, l1, l2, l3, .int x, l5, l6] (.int x :: st) I R Q := am_ev_nx (am_f280 (pc := 650) (q := (.iload 4, 2, (0, 0, 0))) rfl) rfl
set_option maxRecDepth 100000 in
theorem s280_652 {d : Nat} {l0 l1 l2 l3 l4 l5 l6 : Value} {st : List Value} {I : am_I} {R : am_R} {Q : am_Q} : am_ev d 280 652 [l0, l1, l2, l3, l4, l5, l6] st I R Q = am_ev d 280 653 [l0, l1, l2, l3, l4, l5, l6] (.int (nI 2) :: st) I R Q := am_ev_nx (am_f280 (pc := 652) (q := (.iconst 2, 1, (0, 0, 2))) rfl) rfl
set_option maxRecDepth 100000 in
theorem s280_653 {d : Nat} {l0 l1 l2 l3 l4 l5 l6 : Value} {st : List Value} {x y : Int32} {I : am_I} {R : am_R} {Q : am_Q} : am_ev d 280 653 [l0, l1, l2, l3, l4, l5, l6] (.int y :: .int x :: st) I R Q = am_ev d 280 654 [l0, l1, l2, l3, l4, l5, l6] (.int (x + y) :: st) I R Q := am_ev_nx (am_f280 (pc := 653) (q := (.iadd, 1, (0, 0, 0))) rfl) rfl
set_option maxRecDepth 100000 in
theorem s280_655 {d : Nat} {l0 l1 l2 l3 l4 l5 l6 : Value} {a0 : Nat} {a1 : Int32} {a2 : Int32} {r0 : Value} {I : am_I} {R : am_R} {Q : am_Q} : am_ev (d + 1) 280 655 [l0, l1, l2, l3, l4, l5, l6] [.int a2, .int a1, .ref (am_mk 12 a0), r0] I R Q = am_th (am_cal d 230 [.ref (am_mk 12 a0), .int a1, .int a2] I R Q) fun r I R Q => am_ev (d + 1) 280 658 [l0, l1, l2, l3, l4, l5, l6] (r.toList ++ [r0]) I R Q := am_ev_call (am_f280 (pc := 655) (q := (.invokevirtual 76, 3, (230, 0, 0))) rfl) (am_inv_v [.int a1, .int a2] [r0] (by decide) (by decide) rfl rfl rfl (Nat.le_of_ble_eq_true rfl))
set_option maxRecDepth 100000 in
theorem s280_658 {d : Nat} {l0 l1 l2 l3 l4 l5 l6 : Value} {st : List Value} {x y : Int32} {I : am_I} {R : am_R} {Q : am_Q} : am_ev d 280 658 [l0, l1, l2, l3, l4, l5, l6] (.int y :: .int x :: st) I R Q = if x = y then am_ev d 280 1575 [l0, l1, l2, l3, l4, l5, l6] st I R Q else am_ev d 280 661 [l0, l1, l2, l3, l4, l5, l6] st I R Q := am_ev_br (am_f280 (pc := 658) (q := (.if_icmp .eq 917, 3, (0, 0, 0))) rfl) rfl
set_option maxRecDepth 100000 in
theorem s280_661 {d : Nat} {l0 l1 l2 l3 l4 l5 l6 : Value} {st : List Value} {I : am_I} {R : am_R} {Q : am_Q} : am_ev d 280 661 [l0, l1, l2, l3, l4, l5, l6] st I R Q = am_ev d 280 662 [l0, l1, l2, l3, l4, l5, l6] (.int (nI 0) :: st) I R Q := am_ev_nx (am_f280 (pc := 661) (q := (.iconst 0, 1, (0, 0, 0))) rfl) rfl
set_option maxRecDepth 100000 in
theorem s280_662 {d : Nat} {l0 l1 l2 l3 l4 l5 l6 : Value} {x : Int32} {I : am_I} {R : am_R} {Q : am_Q} : am_ev d 280 662 [l0, l1, l2, l3, l4, l5, l6] [.int x] I R Q = if am_bb x then some (some (.int x), I, R, Q) else none := am_ev_ifr (am_f280 (pc := 662) (q := (.ireturn, 1, (1, 0, 0))) rfl) (am_zr_u rfl)
set_option maxRecDepth 100000 in
theorem s280_663 {d : Nat} {l0 l2 l3 l4 l5 l6 : Value} {st : List Value} {x : Nat} {I : am_I} {R : am_R} {Q : am_Q} : am_ev d 280 663 [l0, .ref x, l2, l3, l4, l5, l6] st I R Q = am_ev d 280 664 [l0, .ref x, l2, l3, l4, l5, l6] (.ref x :: st) I R Q := am_ev_nx (am_f280 (pc := 663) (q := (.aload_n 1, 1, (0, 0, 0))) rfl) rfl
set_option maxRecDepth 100000 in
theorem s280_664 {d : Nat} {l1 l2 l3 l4 l5 l6 : Value} {st : List Value} {x : Nat} {I : am_I} {R : am_R} {Q : am_Q} : am_ev d 280 664 [.ref x, l1, l2, l3, l4, l5, l6] st I R Q = am_ev d 280 665 [.ref x, l1, l2, l3, l4, l5, l6] (.ref x :: st) I R Q := am_ev_nx (am_f280 (pc := 664) (q := (.aload_n 0, 1, (0, 0, 0))) rfl) rfl
set_option maxRecDepth 100000 in
theorem s280_665 {d : Nat} {l0 l1 l2 l3 l5 l6 : Value} {st : List Value} {x : Int32} {I : am_I} {R : am_R} {Q : am_Q} : am_ev d 280 665 [l0, l1, l2, l3, .int x, l5, l6] st I R Q = am_ev d 280 667 [l0, l1, l2, l3, .int x, l5, l6] (.int x :: st) I R Q := am_ev_nx (am_f280 (pc := 665) (q := (.iload 4, 2, (0, 0, 0))) rfl) rfl
set_option maxRecDepth 100000 in
theorem s280_667 {d : Nat} {l0 l1 l2 l3 l4 l5 l6 : Value} {st : List Value} {I : am_I} {R : am_R} {Q : am_Q} : am_ev d 280 667 [l0, l1, l2, l3, l4, l5, l6] st I R Q = am_ev d 280 668 [l0, l1, l2, l3, l4, l5, l6] (.int (nI 1) :: st) I R Q := am_ev_nx (am_f280 (pc := 667) (q := (.iconst 1, 1, (0, 0, 1))) rfl) rfl
set_option maxRecDepth 100000 in
theorem s280_668 {d : Nat} {l0 l1 l2 l3 l4 l5 l6 : Value} {st : List Value} {x y : Int32} {I : am_I} {R : am_R} {Q : am_Q} : am_ev d 280 668 [l0, l1, l2, l3, l4, l5, l6] (.int y :: .int x :: st) I R Q = am_ev d 280 669 [l0, l1, l2, l3, l4, l5, l6] (.int (x + y) :: st) I R Q := am_ev_nx (am_f280 (pc := 668) (q := (.iadd, 1, (0, 0, 0))) rfl) rfl
set_option maxRecDepth 100000 in
theorem s280_670 {d : Nat} {l0 l1 l2 l3 l4 l5 l6 : Value} {a0 : Nat} {a1 : Int32} {I : am_I} {R : am_R} {Q : am_Q} : am_ev (d + 1) 280 670 [l0, l1, l2, l3, l4, l5, l6] [.int a1, .ref (am_mk 11 a0)] I R Q = am_th (am_cal d 119 [.ref (am_mk 11 a0), .int a1] I R Q) fun r I R Q => am_ev (d + 1) 280 673 [l0, l1, l2, l3, l4, l5, l6] (r.toList ++ []) I R Q := am_ev_call (am_f280 (pc := 670) (q := (.invokevirtual 77, 3, (119, 0, 0))) rfl) (am_inv_v [.int a1] [] (by decide) (by decide) rfl rfl rfl (Nat.le_of_ble_eq_true rfl))
set_option maxRecDepth 100000 in
theorem s280_673 {d : Nat} {l0 l1 l3 l4 l5 l6 : Value} {st : List Value} {x : Nat} {I : am_I} {R : am_R} {Q : am_Q} : am_ev d 280 673 [l0, l1, .ref x, l3, l4, l5, l6] st I R Q = am_ev d 280 674 [l0, l1, .ref x, l3, l4, l5, l6] (.ref x :: st) I R Q := am_ev_nx (am_f280 (pc := 673) (q := (.aload_n 2, 1, (0, 0, 0))) rfl) rfl
set_option maxRecDepth 100000 in
theorem s280_674 {d : Nat} {l1 l2 l3 l4 l5 l6 : Value} {st : List Value} {x : Nat} {I : am_I} {R : am_R} {Q : am_Q} : am_ev d 280 674 [.ref x, l1, l2, l3, l4, l5, l6] st I R Q = am_ev d 280 675 [.ref x, l1, l2, l3, l4, l5, l6] (.ref x :: st) I R Q := am_ev_nx (am_f280 (pc := 674) (q := (.aload_n 0, 1, (0, 0, 0))) rfl) rfl
set_option maxRecDepth 100000 in
theorem s280_675 {d : Nat} {l0 l1 l2 l3 l5 l6 : Value} {st : List Value} {x : Int32} {I : am_I} {R : am_R} {Q : am_Q} : am_ev d 280 675 [l0, l1, l2, l3, .int x, l5, l6] st I R Q = am_ev d 280 677 [l0, l1, l2, l3, .int x, l5, l6] (.int x :: st) I R Q := am_ev_nx (am_f280 (pc := 675) (q := (.iload 4, 2, (0, 0, 0))) rfl) rfl
set_option maxRecDepth 100000 in
theorem s280_677 {d : Nat} {l0 l1 l2 l3 l4 l5 l6 : Value} {st : List Value} {I : am_I} {R : am_R} {Q : am_Q} : am_ev d 280 677 [l0, l1, l2, l3, l4, l5, l6] st I R Q = am_ev d 280 678 [l0, l1, l2, l3, l4, l5, l6] (.int (nI 1) :: st) I R Q := am_ev_nx (am_f280 (pc := 677) (q := (.iconst 1, 1, (0, 0, 1))) rfl) rfl
set_option maxRecDepth 100000 in
theorem s280_678 {d : Nat} {l0 l1 l2 l3 l4 l5 l6 : Value} {st : List Value} {x y : Int32} {I : am_I} {R : am_R} {Q : am_Q} : am_ev d 280 678 [l0, l1, l2, l3, l4, l5, l6] (.int y :: .int x :: st) I R Q = am_ev d 280 679 [l0, l1, l2, l3, l4, l5, l6] (.int (x + y) :: st) I R Q := am_ev_nx (am_f280 (pc := 678) (q := (.iadd, 1, (0, 0, 0))) rfl) rfl
set_option maxRecDepth 100000 in
theorem s280_680 {d : Nat} {l0 l1 l2 l3 l4 l5 l6 : Value} {a0 : Nat} {a1 : Int32} {r0 : Value} {I : am_I} {R : am_R} {Q : am_Q} : am_ev (d + 1) 280 680 [l0, l1, l2, l3, l4, l5, l6] [.int a1, .ref (am_mk 12 a0), r0] I R Q = am_th (am_cal d 231 [.ref (am_mk 12 a0), .int a1] I R Q) fun r I R Q => am_ev (d + 1) 280 683 [l0, l1, l2, l3, l4, l5, l6] (r.toList ++ [r0]) I R Q := am_ev_call (am_f280 (pc := 680) (q := (.invokevirtual 80, 3, (231, 0, 0))) rfl) (am_inv_v [.int a1] [r0] (by decide) (by decide) rfl rfl rfl (Nat.le_of_ble_eq_true rfl))
set_option maxRecDepth 100000 in
theorem s280_683 {d : Nat} {l0 l1 l2 l3 l4 l5 l6 : Value} {st : List Value} {x y : Int32} {I : am_I} {R : am_R} {Q : am_Q} : am_ev d 280 683 [l0, l1, l2, l3, l4, l5, l6] (.int y :: .int x :: st) I R Q = if x = y then am_ev d 280 1575 [l0, l1, l2, l3, l4, l5, l6] st I R Q else am_ev d 280 686 [l0, l1, l2, l3, l4, l5, l6] st I R Q := am_ev_br (am_f280 (pc := 683) (q := (.if_icmp .eq 892, 3, (0, 0, 0))) rfl) rfl
set_option maxRecDepth 100000 in
theorem s280_686 {d : Nat} {l0 l1 l2 l3 l4 l5 l6 : Value} {st : List Value} {I : am_I} {R : am_R} {Q : am_Q} : am_ev d 280 686 [l0, l1, l2, l3, l4, l5, l6] st I R Q = am_ev d 280 687 [l0, l1, l2, l3, l4, l5, l6] (.int (nI 0) :: st) I R Q := am_ev_nx (am_f280 (pc := 686) (q := (.iconst 0, 1, (0, 0, 0))) rfl) rfl
set_option maxRecDepth 100000 in
theorem s280_687 {d : Nat} {l0 l1 l2 l3 l4 l5 l6 : Value} {x : Int32} {I : am_I} {R : am_R} {Q : am_Q} : am_ev d 280 687 [l0, l1, l2, l3, l4, l5, l6] [.int x] I R Q = if am_bb x then some (some (.int x), I, R, Q) else none := am_ev_ifr (am_f280 (pc := 687) (q := (.ireturn, 1, (1, 0, 0))) rfl) (am_zr_u rfl)
set_option maxRecDepth 100000 in
theorem s280_688 {d : Nat} {l0 l2 l3 l4 l5 l6 : Value} {st : List Value} {x : Nat} {I : am_I} {R : am_R} {Q : am_Q} : am_ev d 280 688 [l0, .ref x, l2, l3, l4, l5, l6] st I R Q = am_ev d 280 689 [l0, .ref x, l2, l3, l4, l5, l6] (.ref x :: st) I R Q := am_ev_nx (am_f280 (pc := 688) (q := (.aload_n 1, 1, (0, 0, 0))) rfl) rfl
set_option maxRecDepth 100000 in
theorem s280_689 {d : Nat} {l1 l2 l3 l4 l5 l6 : Value} {st : List Value} {x : Nat} {I : am_I} {R : am_R} {Q : am_Q} : am_ev d 280 689 [.ref x, l1, l2, l3, l4, l5, l6] st I R Q = am_ev d 280 690 [.ref x, l1, l2, l3, l4, l5, l6] (.ref x :: st) I R Q := am_ev_nx (am_f280 (pc := 689) (q := (.aload_n 0, 1, (0, 0, 0))) rfl) rfl
set_option maxRecDepth 100000 in
theorem s280_690 {d : Nat} {l0 l1 l2 l3 l5 l6 : Value} {st : List Value} {x : Int32} {I : am_I} {R : am_R} {Q : am_Q} : am_ev d 280 690 [l0, l1, l2, l3, .int x, l5, l6] st I R Q = am_ev d 280 692 [l0, l1, l2, l3, .int x, l5, l6] (.int x :: st) I R Q := am_ev_nx (am_f280 (pc := 690) (q := (.iload 4, 2, (0, 0, 0))) rfl) rfl
set_option maxRecDepth 100000 in
theorem s280_692 {d : Nat} {l0 l1 l2 l3 l4 l5 l6 : Value} {st : List Value} {I : am_I} {R : am_R} {Q : am_Q} : am_ev d 280 692 [l0, l1, l2, l3, l4, l5, l6] st I R Q = am_ev d 280 693 [l0, l1, l2, l3, l4, l5, l6] (.int (nI 1) :: st) I R Q := am_ev_nx (am_f280 (pc := 692) (q := (.iconst 1, 1, (0, 0, 1))) rfl) rfl
set_option maxRecDepth 100000 in
theorem s280_693 {d : Nat} {l0 l1 l2 l3 l4 l5 l6 : Value} {st : List Value} {x y : Int32} {I : am_I} {R : am_R} {Q : am_Q} : am_ev d 280 693 [l0, l1, l2, l3, l4, l5, l6] (.int y :: .int x :: st) I R Q = am_ev d 280 694 [l0, l1, l2, l3, l4, l5, l6] (.int (x + y) :: st) I R Q := am_ev_nx (am_f280 (pc := 693) (q := (.iadd, 1, (0, 0, 0))) rfl) rfl
set_option maxRecDepth 100000 in
theorem s280_695 {d : Nat} {l0 l1 l2 l3 l4 l5 l6 : Value} {a0 : Nat} {a1 : Int32} {I : am_I} {R : am_R} {Q : am_Q} : am_ev (d + 1) 280 695 [l0, l1, l2, l3, l4, l5, l6] [.int a1, .ref (am_mk 11 a0)] I R Q = am_th (am_cal d 121 [.ref (am_mk 11 a0), .int a1] I R Q) fun r I R Q => am_ev (d + 1) 280 698 [l0, l1, l2, l3, l4, l5, l6] (r.toList ++ []) I R Q := am_ev_call (am_f280 (pc := 695) (q := (.invokevirtual 81, 3, (121, 0, 0))) rfl) (am_inv_v [.int a1] [] (by decide) (by decide) rfl rfl rfl (Nat.le_of_ble_eq_true rfl))
set_option maxRecDepth 100000 in
theorem s280_698 {d : Nat} {l0 l1 l3 l4 l5 l6 : Value} {st : List Value} {x : Nat} {I : am_I} {R : am_R} {Q : am_Q} : am_ev d 280 698 [l0, l1, .ref x, l3, l4, l5, l6] st I R Q = am_ev d 280 699 [l0, l1, .ref x, l3, l4, l5, l6] (.ref x :: st) I R Q := am_ev_nx (am_f280 (pc := 698) (q := (.aload_n 2, 1, (0, 0, 0))) rfl) rfl
set_option maxRecDepth 100000 in
theorem s280_699 {d : Nat} {l1 l2 l3 l4 l5 l6 : Value} {st : List Value} {x : Nat} {I : am_I} {R : am_R} {Q : am_Q} : am_ev d 280 699 [.ref x, l1, l2, l3, l4, l5, l6] st I R Q = am_ev d 280 700 [.ref x, l1, l2, l3, l4, l5, l6] (.ref x :: st) I R Q := am_ev_nx (am_f280 (pc := 699) (q := (.aload_n 0, 1, (0, 0, 0))) rfl) rfl
set_option maxRecDepth 100000 in
theorem s280_700 {d : Nat} {l0 l1 l2 l3 l5 l6 : Value} {st : List Value} {x : Int32} {I : am_I} {R : am_R} {Q : am_Q} : am_ev d 280 700 [l0, l1, l2, l3, .int x, l5, l6] st I R Q = am_ev d 280 702 [l0, l1, l2, l3, .int x, l5, l6] (.int x :: st) I R Q := am_ev_nx (am_f280 (pc := 700) (q := (.iload 4, 2, (0, 0, 0))) rfl) rfl
set_option maxRecDepth 100000 in
theorem s280_702 {d : Nat} {l0 l1 l2 l3 l4 l5 l6 : Value} {st : List Value} {I : am_I} {R : am_R} {Q : am_Q} : am_ev d 280 702 [l0, l1, l2, l3, l4, l5, l6] st I R Q = am_ev d 280 703 [l0, l1, l2, l3, l4, l5, l6] (.int (nI 1) :: st) I R Q := am_ev_nx (am_f280 (pc := 702) (q := (.iconst 1, 1, (0, 0, 1))) rfl) rfl
set_option maxRecDepth 100000 in
theorem s280_703 {d : Nat} {l0 l1 l2 l3 l4 l5 l6 : Value} {st : List Value} {x y : Int32} {I : am_I} {R : am_R} {Q : am_Q} : am_ev d 280 703 [l0, l1, l2, l3, l4, l5, l6] (.int y :: .int x :: st) I R Q = am_ev d 280 704 [l0, l1, l2, l3, l4, l5, l6] (.int (x + y) :: st) I R Q := am_ev_nx (am_f280 (pc := 703) (q := (.iadd, 1, (0, 0, 0))) rfl) rfl
set_option maxRecDepth 100000 in
theorem s280_705 {d : Nat} {l0 l1 l2 l3 l4 l5 l6 : Value} {a0 : Nat} {a1 : Int32} {r0 : Value} {I : am_I} {R : am_R} {Q : am_Q} : am_ev (d + 1) 280 705 [l0, l1, l2, l3, l4, l5, l6] [.int a1, .ref (am_mk 12 a0), r0] I R Q = am_th (am_cal d 232 [.ref (am_mk 12 a0), .int a1] I R Q) fun r I R Q => am_ev (d + 1) 280 708 [l0, l1, l2, l3, l4, l5, l6] (r.toList ++ [r0]) I R Q := am_ev_call (am_f280 (pc := 705) (q := (.invokevirtual 84, 3, (232, 0, 0))) rfl) (am_inv_v [.int a1] [r0] (by decide) (by decide) rfl rfl rfl (Nat.le_of_ble_eq_true rfl))
set_option maxRecDepth 100000 in
theorem s280_708 {d : Nat} {l0 l1 l2 l3 l4 l5 l6 : Value} {st : List Value} {x y : Int32} {I : am_I} {R : am_R} {Q : am_Q} : am_ev d 280 708 [l0, l1, l2, l3, l4, l5, l6] (.int y :: .int x :: st) I R Q = if x = y then am_ev d 280 1575 [l0, l1, l2, l3, l4, l5, l6] st I R Q else am_ev d 280 711 [l0, l1, l2, l3, l4, l5, l6] st I R Q := am_ev_br (am_f280 (pc := 708) (q := (.if_icmp .eq 867, 3, (0, 0, 0))) rfl) rfl
set_option maxRecDepth 100000 in
theorem s280_711 {d : Nat} {l0 l1 l2 l3 l4 l5 l6 : Value} {st : List Value} {I : am_I} {R : am_R} {Q : am_Q} : am_ev d 280 711 [l0, l1, l2, l3, l4, l5, l6] st I R Q = am_ev d 280 712 [l0, l1, l2, l3, l4, l5, l6] (.int (nI 0) :: st) I R Q := am_ev_nx (am_f280 (pc := 711) (q := (.iconst 0, 1, (0, 0, 0))) rfl) rfl
set_option maxRecDepth 100000 in
theorem s280_712 {d : Nat} {l0 l1 l2 l3 l4 l5 l6 : Value} {x : Int32} {I : am_I} {R : am_R} {Q : am_Q} : am_ev d 280 712 [l0, l1, l2, l3, l4, l5, l6] [.int x] I R Q = if am_bb x then some (some (.int x), I, R, Q) else none := am_ev_ifr (am_f280 (pc := 712) (q := (.ireturn, 1, (1, 0, 0))) rfl) (am_zr_u rfl)
set_option maxRecDepth 100000 in
theorem s280_713 {d : Nat} {l0 l2 l3 l4 l5 l6 : Value} {st : List Value} {x : Nat} {I : am_I} {R : am_R} {Q : am_Q} : am_ev d 280 713 [l0, .ref x, l2, l3, l4, l5, l6] st I R Q = am_ev d 280 714 [l0, .ref x, l2, l3, l4, l5, l6] (.ref x :: st) I R Q := am_ev_nx (am_f280 (pc := 713) (q := (.aload_n 1, 1, (0, 0, 0))) rfl) rfl
set_option maxRecDepth 100000 in
theorem s280_714 {d : Nat} {l1 l2 l3 l4 l5 l6 : Value} {st : List Value} {x : Nat} {I : am_I} {R : am_R} {Q : am_Q} : am_ev d 280 714 [.ref x, l1, l2, l3, l4, l5, l6] st I R Q = am_ev d 280 715 [.ref x, l1, l2, l3, l4, l5, l6] (.ref x :: st) I R Q := am_ev_nx (am_f280 (pc := 714) (q := (.aload_n 0, 1, (0, 0, 0))) rfl) rfl
set_option maxRecDepth 100000 in
theorem s280_715 {d : Nat} {l0 l1 l2 l3 l5 l6 : Value} {st : List Value} {x : Int32} {I : am_I} {R : am_R} {Q : am_Q} : am_ev d 280 715 [l0, l1, l2, l3, .int x, l5, l6] st I R Q = am_ev d 280 717 [l0, l1, l2, l3, .int x, l5, l6] (.int x :: st) I R Q := am_ev_nx (am_f280 (pc := 715) (q := (.iload 4, 2, (0, 0, 0))) rfl) rfl
set_option maxRecDepth 100000 in
theorem s280_717 {d : Nat} {l0 l1 l2 l3 l4 l5 l6 : Value} {st : List Value} {I : am_I} {R : am_R} {Q : am_Q} : am_ev d 280 717 [l0, l1, l2, l3, l4, l5, l6] st I R Q = am_ev d 280 718 [l0, l1, l2, l3, l4, l5, l6] (.int (nI 1) :: st) I R Q := am_ev_nx (am_f280 (pc := 717) (q := (.iconst 1, 1, (0, 0, 1))) rfl) rfl
set_option maxRecDepth 100000 in
theorem s280_718 {d : Nat} {l0 l1 l2 l3 l4 l5 l6 : Value} {st : List Value} {x y : Int32} {I : am_I} {R : am_R} {Q : am_Q} : am_ev d 280 718 [l0, l1, l2, l3, l4, l5, l6] (.int y :: .int x :: st) I R Q = am_ev d 280 719 [l0, l1, l2, l3, l4, l5, l6] (.int (x + y) :: st) I R Q := am_ev_nx (am_f280 (pc := 718) (q := (.iadd, 1, (0, 0, 0))) rfl) rfl
set_option maxRecDepth 100000 in
theorem s280_720 {d : Nat} {l1 l2 l3 l4 l5 l6 : Value} {st : List Value} {x : Nat} {I : am_I} {R : am_R} {Q : am_Q} : am_ev d 280 720 [.ref x, l1, l2, l3, l4, l5, l6] st I R Q = am_ev d 280 721 [.ref x, l1, l2, l3, l4, l5, l6] (.ref x :: st) I R Q := am_ev_nx (am_f280 (pc := 720) (q := (.aload_n 0, 1, (0, 0, 0))) rfl) rfl
set_option maxRecDepth 100000 in
theorem s280_721 {d : Nat} {l0 l1 l2 l3 l5 l6 : Value} {st : List Value} {x : Int32} {I : am_I} {R : am_R} {Q : am_Q} : am_ev d 280 721 [l0, l1, l2, l3, .int x, l5, l6] st I R Q = am_ev d 280 723 [l0, l1, l2, l3, .int x, l5, l6] (.int x :: st) I R Q := am_ev_nx (am_f280 (pc := 721) (q := (.iload 4, 2, (0, 0, 0))) rfl) rfl
set_option maxRecDepth 100000 in
theorem s280_723 {d : Nat} {l0 l1 l2 l3 l4 l5 l6 : Value} {st : List Value} {I : am_I} {R : am_R} {Q : am_Q} : am_ev d 280 723 [l0, l1, l2, l3, l4, l5, l6] st I R Q = am_ev d 280 724 [l0, l1, l2, l3, l4, l5, l6] (.int (nI 2) :: st) I R Q := am_ev_nx (am_f280 (pc := 723) (q := (.iconst 2, 1, (0, 0, 2))) rfl) rfl
set_option maxRecDepth 100000 in
theorem s280_724 {d : Nat} {l0 l1 l2 l3 l4 l5 l6 : Value} {st : List Value} {x y : Int32} {I : am_I} {R : am_R} {Q : am_Q} : am_ev d 280 724 [l0, l1, l2, l3, l4, l5, l6] (.int y :: .int x :: st) I R Q = am_ev d 280 725 [l0, l1, l2, l3, l4, l5, l6] (.int (x + y) :: st) I R Q := am_ev_nx (am_f280 (pc := 724) (q := (.iadd, 1, (0, 0, 0))) rfl) rfl
set_option maxRecDepth 100000 in
theorem s280_726 {d : Nat} {l0 l1 l2 l3 l4 l5 l6 : Value} {st : List Value} {x : Int32} {I : am_I} {R : am_R} {Q : am_Q} : am_ev d 280 726 [l0, l1, l2, l3, l4, l5, l6] (.int x :: st) I R Q = am_ev d 280 727 [l0, l1, l2, l3, l4, l5, l6] (.long x.toInt64 :: st) I R Q := am_ev_nx (am_f280 (pc := 726) (q := (.i2l, 1, (0, 0, 0))) rfl) rfl
set_option maxRecDepth 100000 in
theorem s280_727 {d : Nat} {l0 l1 l2 l3 l4 l5 l6 : Value} {st : List Value} {I : am_I} {R : am_R} {Q : am_Q} : am_ev d 280 727 [l0, l1, l2, l3, l4, l5, l6] st I R Q = am_ev d 280 729 [l0, l1, l2, l3, l4, l5, l6] (.int (nI 32) :: st) I R Q := am_ev_nx (am_f280 (pc := 727) (q := (.bipush 32, 2, (0, 0, 32))) rfl) rfl
set_option maxRecDepth 100000 in
theorem s280_729 {d : Nat} {l0 l1 l2 l3 l4 l5 l6 : Value} {st : List Value} {x : Int64} {y : Int32} {I : am_I} {R : am_R} {Q : am_Q} : am_ev d 280 729 [l0, l1, l2, l3, l4, l5, l6] (.int y :: .long x :: st) I R Q = am_ev d 280 730 [l0, l1, l2, l3, l4, l5, l6] (.long (x <<< (y.toInt64 &&& 63)) :: st) I R Q := am_ev_nx (am_f280 (pc := 729) (q := (.lshl, 1, (0, 0, 0))) rfl) rfl
set_option maxRecDepth 100000 in
theorem s280_730 {d : Nat} {l1 l2 l3 l4 l5 l6 : Value} {st : List Value} {x : Nat} {I : am_I} {R : am_R} {Q : am_Q} : am_ev d 280 730 [.ref x, l1, l2, l3, l4, l5, l6] st I R Q = am_ev d 280 731 [.ref x, l1, l2, l3, l4, l5, l6] (.ref x :: st) I R Q := am_ev_nx (am_f280 (pc := 730) (q := (.aload_n 0, 1, (0, 0, 0))) rfl) rfl
set_option maxRecDepth 100000 in
theorem s280_731 {d : Nat} {l0 l1 l2 l3 l5 l6 : Value} {st : List Value} {x : Int32} {I : am_I} {R : am_R} {Q : am_Q} : am_ev d 280 731 [l0, l1, l2, l3, .int x, l5, l6] st I R Q = am_ev d 280 733 [l0, l1, l2, l3, .int x, l5, l6] (.int x :: st) I R Q := am_ev_nx (am_f280 (pc := 731) (q := (.iload 4, 2, (0, 0, 0))) rfl) rfl
set_option maxRecDepth 100000 in
theorem s280_733 {d : Nat} {l0 l1 l2 l3 l4 l5 l6 : Value} {st : List Value} {I : am_I} {R : am_R} {Q : am_Q} : am_ev d 280 733 [l0, l1, l2, l3, l4, l5, l6] st I R Q = am_ev d 280 734 [l0, l1, l2, l3, l4, l5, l6] (.int (nI 3) :: st) I R Q := am_ev_nx (am_f280 (pc := 733) (q := (.iconst 3, 1, (0, 0, 3))) rfl) rfl
set_option maxRecDepth 100000 in
theorem s280_734 {d : Nat} {l0 l1 l2 l3 l4 l5 l6 : Value} {st : List Value} {x y : Int32} {I : am_I} {R : am_R} {Q : am_Q} : am_ev d 280 734 [l0, l1, l2, l3, l4, l5, l6] (.int y :: .int x :: st) I R Q = am_ev d 280 735 [l0, l1, l2, l3, l4, l5, l6] (.int (x + y) :: st) I R Q := am_ev_nx (am_f280 (pc := 734) (q := (.iadd, 1, (0, 0, 0))) rfl) rfl
set_option maxRecDepth 100000 in
theorem s280_736 {d : Nat} {l0 l1 l2 l3 l4 l5 l6 : Value} {st : List Value} {x : Int32} {I : am_I} {R : am_R} {Q : am_Q} : am_ev d 280 736 [l0, l1, l2, l3, l4, l5, l6] (.int x :: st) I R Q = am_ev d 280 737 [l0, l1, l2, l3, l4, l5, l6] (.long x.toInt64 :: st) I R Q := am_ev_nx (am_f280 (pc := 736) (q := (.i2l, 1, (0, 0, 0))) rfl) rfl
set_option maxRecDepth 100000 in
theorem s280_737 {d : Nat} {l0 l1 l2 l3 l4 l5 l6 : Value} {st : List Value} {I : am_I} {R : am_R} {Q : am_Q} : am_ev d 280 737 [l0, l1, l2, l3, l4, l5, l6] st I R Q = am_ev d 280 740 [l0, l1, l2, l3, l4, l5, l6] (.long 4294967295 :: st) I R Q := am_ev_nx (am_f280 (pc := 737) (q := (.ldc2_w 85, 3, (0, 0, 4294967295))) rfl) rfl
set_option maxRecDepth 100000 in
theorem s280_740 {d : Nat} {l0 l1 l2 l3 l4 l5 l6 : Value} {st : List Value} {x y : Int64} {I : am_I} {R : am_R} {Q : am_Q} : am_ev d 280 740 [l0, l1, l2, l3, l4, l5, l6] (.long y :: .long x :: st) I R Q = am_ev d 280 741 [l0, l1, l2, l3, l4, l5, l6] (.long (x &&& y) :: st) I R Q := am_ev_nx (am_f280 (pc := 740) (q := (.land, 1, (0, 0, 0))) rfl) rfl
set_option maxRecDepth 100000 in
theorem s280_741 {d : Nat} {l0 l1 l2 l3 l4 l5 l6 : Value} {st : List Value} {x y : Int64} {I : am_I} {R : am_R} {Q : am_Q} : am_ev d 280 741 [l0, l1, l2, l3, l4, l5, l6] (.long y :: .long x :: st) I R Q = am_ev d 280 742 [l0, l1, l2, l3, l4, l5, l6] (.long (x ||| y) :: st) I R Q := am_ev_nx (am_f280 (pc := 741) (q := (.lor, 1, (0, 0, 0))) rfl) rfl
set_option maxRecDepth 100000 in
theorem s280_742 {d : Nat} {l0 l1 l2 l3 l4 l5 l6 : Value} {a0 : Nat} {a1 : Int32} {a2 : Int64} {I : am_I} {R : am_R} {Q : am_Q} : am_ev (d + 1) 280 742 [l0, l1, l2, l3, l4, l5, l6] [.long a2, .int a1, .ref (am_mk 11 a0)] I R Q = am_th (am_cal d 122 [.ref (am_mk 11 a0), .int a1, .long a2] I R Q) fun r I R Q => am_ev (d + 1) 280 745 [l0, l1, l2, l3, l4, l5, l6] (r.toList ++ []) I R Q := am_ev_call (am_f280 (pc := 742) (q := (.invokevirtual 87, 3, (122, 0, 0))) rfl) (am_inv_v [.int a1, .long a2] [] (by decide) (by decide) rfl rfl rfl (Nat.le_of_ble_eq_true rfl))
set_option maxRecDepth 100000 in
theorem s280_745 {d : Nat} {l0 l1 l3 l4 l5 l6 : Value} {st : List Value} {x : Nat} {I : am_I} {R : am_R} {Q : am_Q} : am_ev d 280 745 [l0, l1, .ref x, l3, l4, l5, l6] st I R Q = am_ev d 280 746 [l0, l1, .ref x, l3, l4, l5, l6] (.ref x :: st) I R Q := am_ev_nx (am_f280 (pc := 745) (q := (.aload_n 2, 1, (0, 0, 0))) rfl) rfl
set_option maxRecDepth 100000 in
theorem s280_746 {d : Nat} {l1 l2 l3 l4 l5 l6 : Value} {st : List Value} {x : Nat} {I : am_I} {R : am_R} {Q : am_Q} : am_ev d 280 746 [.ref x, l1, l2, l3, l4, l5, l6] st I R Q = am_ev d 280 747 [.ref x, l1, l2, l3, l4, l5, l6] (.ref x :: st) I R Q := am_ev_nx (am_f280 (pc := 746) (q := (.aload_n 0, 1, (0, 0, 0))) rfl) rfl
set_option maxRecDepth 100000 in
theorem s280_747 {d : Nat} {l0 l1 l2 l3 l5 l6 : Value} {st : List Value} {x : Int32} {I : am_I} {R : am_R} {Q : am_Q} : am_ev d 280 747 [l0, l1, l2, l3, .int x, l5, l6] st I R Q = am_ev d 280 749 [l0, l1, l2, l3, .int x, l5, l6] (.int x :: st) I R Q := am_ev_nx (am_f280 (pc := 747) (q := (.iload 4, 2, (0, 0, 0))) rfl) rfl
set_option maxRecDepth 100000 in
theorem s280_749 {d : Nat} {l0 l1 l2 l3 l4 l5 l6 : Value} {st : List Value} {I : am_I} {R : am_R} {Q : am_Q} : am_ev d 280 749 [l0, l1, l2, l3, l4, l5, l6] st I R Q = am_ev d 280 750 [l0, l1, l2, l3, l4, l5, l6] (.int (nI 1) :: st) I R Q := am_ev_nx (am_f280 (pc := 749) (q := (.iconst 1, 1, (0, 0, 1))) rfl) rfl
set_option maxRecDepth 100000 in
theorem s280_750 {d : Nat} {l0 l1 l2 l3 l4 l5 l6 : Value} {st : List Value} {x y : Int32} {I : am_I} {R : am_R} {Q : am_Q} : am_ev d 280 750 [l0, l1, l2, l3, l4, l5, l6] (.int y :: .int x :: st) I R Q = am_ev d 280 751 [l0, l1, l2, l3, l4, l5, l6] (.int (x + y) :: st) I R Q := am_ev_nx (am_f280 (pc := 750) (q := (.iadd, 1, (0, 0, 0))) rfl) rfl
set_option maxRecDepth 100000 in
theorem s280_752 {d : Nat} {l1 l2 l3 l4 l5 l6 : Value} {st : List Value} {x : Nat} {I : am_I} {R : am_R} {Q : am_Q} : am_ev d 280 752 [.ref x, l1, l2, l3, l4, l5, l6] st I R Q = am_ev d 280 753 [.ref x, l1, l2, l3, l4, l5, l6] (.ref x :: st) I R Q := am_ev_nx (am_f280 (pc := 752) (q := (.aload_n 0, 1, (0, 0, 0))) rfl) rfl
set_option maxRecDepth 100000 in
theorem s280_753 {d : Nat} {l0 l1 l2 l3 l5 l6 : Value} {st : List Value} {x : Int32} {I : am_I} {R : am_R} {Q : am_Q} : am_ev d 280 753 [l0, l1, l2, l3, .int x, l5, l6] st I R Q = am_ev d 280 755 [l0, l1, l2, l3, .int x, l5, l6] (.int x :: st) I R Q := am_ev_nx (am_f280 (pc := 753) (q := (.iload 4, 2, (0, 0, 0))) rfl) rfl
set_option maxRecDepth 100000 in
theorem s280_755 {d : Nat} {l0 l1 l2 l3 l4 l5 l6 : Value} {st : List Value} {I : am_I} {R : am_R} {Q : am_Q} : am_ev d 280 755 [l0, l1, l2, l3, l4, l5, l6] st I R Q = am_ev d 280 756 [l0, l1, l2, l3, l4, l5, l6] (.int (nI 2) :: st) I R Q := am_ev_nx (am_f280 (pc := 755) (q := (.iconst 2, 1, (0, 0, 2))) rfl) rfl
set_option maxRecDepth 100000 in
theorem s280_756 {d : Nat} {l0 l1 l2 l3 l4 l5 l6 : Value} {st : List Value} {x y : Int32} {I : am_I} {R : am_R} {Q : am_Q} : am_ev d 280 756 [l0, l1, l2, l3, l4, l5, l6] (.int y :: .int x :: st) I R Q = am_ev d 280 757 [l0, l1, l2, l3, l4, l5, l6] (.int (x + y) :: st) I R Q := am_ev_nx (am_f280 (pc := 756) (q := (.iadd, 1, (0, 0, 0))) rfl) rfl
set_option maxRecDepth 100000 in
theorem s280_758 {d : Nat} {l0 l1 l2 l3 l4 l5 l6 : Value} {st : List Value} {x : Int32} {I : am_I} {R : am_R} {Q : am_Q} : am_ev d 280 758 [l0, l1, l2, l3, l4, l5, l6] (.int x :: st) I R Q = am_ev d 280 759 [l0, l1, l2, l3, l4, l5, l6] (.long x.toInt64 :: st) I R Q := am_ev_nx (am_f280 (pc := 758) (q := (.i2l, 1, (0, 0, 0))) rfl) rfl
set_option maxRecDepth 100000 in
theorem s280_759 {d : Nat} {l0 l1 l2 l3 l4 l5 l6 : Value} {st : List Value} {I : am_I} {R : am_R} {Q : am_Q} : am_ev d 280 759 [l0, l1, l2, l3, l4, l5, l6] st I R Q = am_ev d 280 761 [l0, l1, l2, l3, l4, l5, l6] (.int (nI 32) :: st) I R Q := am_ev_nx (am_f280 (pc := 759) (q := (.bipush 32, 2, (0, 0, 32))) rfl) rfl
set_option maxRecDepth 100000 in
theorem s280_761 {d : Nat} {l0 l1 l2 l3 l4 l5 l6 : Value} {st : List Value} {x : Int64} {y : Int32} {I : am_I} {R : am_R} {Q : am_Q} : am_ev d 280 761 [l0, l1, l2, l3, l4, l5, l6] (.int y :: .long x :: st) I R Q = am_ev d 280 762 [l0, l1, l2, l3, l4, l5, l6] (.long (x <<< (y.toInt64 &&& 63)) :: st) I R Q := am_ev_nx (am_f280 (pc := 761) (q := (.lshl, 1, (0, 0, 0))) rfl) rfl
set_option maxRecDepth 100000 in
theorem s280_762 {d : Nat} {l1 l2 l3 l4 l5 l6 : Value} {st : List Value} {x : Nat} {I : am_I} {R : am_R} {Q : am_Q} : am_ev d 280 762 [.ref x, l1, l2, l3, l4, l5, l6] st I R Q = am_ev d 280 763 [.ref x, l1, l2, l3, l4, l5, l6] (.ref x :: st) I R Q := am_ev_nx (am_f280 (pc := 762) (q := (.aload_n 0, 1, (0, 0, 0))) rfl) rfl
set_option maxRecDepth 100000 in
theorem s280_763 {d : Nat} {l0 l1 l2 l3 l5 l6 : Value} {st : List Value} {x : Int32} {I : am_I} {R : am_R} {Q : am_Q} : am_ev d 280 763 [l0, l1, l2, l3, .int x, l5, l6] st I R Q = am_ev d 280 765 [l0, l1, l2, l3, .int x, l5, l6] (.int x :: st) I R Q := am_ev_nx (am_f280 (pc := 763) (q := (.iload 4, 2, (0, 0, 0))) rfl) rfl
set_option maxRecDepth 100000 in
theorem s280_765 {d : Nat} {l0 l1 l2 l3 l4 l5 l6 : Value} {st : List Value} {I : am_I} {R : am_R} {Q : am_Q} : am_ev d 280 765 [l0, l1, l2, l3, l4, l5, l6] st I R Q = am_ev d 280 766 [l0, l1, l2, l3, l4, l5, l6] (.int (nI 3) :: st) I R Q := am_ev_nx (am_f280 (pc := 765) (q := (.iconst 3, 1, (0, 0, 3))) rfl) rfl
set_option maxRecDepth 100000 in
theorem s280_766 {d : Nat} {l0 l1 l2 l3 l4 l5 l6 : Value} {st : List Value} {x y : Int32} {I : am_I} {R : am_R} {Q : am_Q} : am_ev d 280 766 [l0, l1, l2, l3, l4, l5, l6] (.int y :: .int x :: st) I R Q = am_ev d 280 767 [l0, l1, l2, l3, l4, l5, l6] (.int (x + y) :: st) I R Q := am_ev_nx (am_f280 (pc := 766) (q := (.iadd, 1, (0, 0, 0))) rfl) rfl
set_option maxRecDepth 100000 in
theorem s280_768 {d : Nat} {l0 l1 l2 l3 l4 l5 l6 : Value} {st : List Value} {x : Int32} {I : am_I} {R : am_R} {Q : am_Q} : am_ev d 280 768 [l0, l1, l2, l3, l4, l5, l6] (.int x :: st) I R Q = am_ev d 280 769 [l0, l1, l2, l3, l4, l5, l6] (.long x.toInt64 :: st) I R Q := am_ev_nx (am_f280 (pc := 768) (q := (.i2l, 1, (0, 0, 0))) rfl) rfl
set_option maxRecDepth 100000 in
theorem s280_769 {d : Nat} {l0 l1 l2 l3 l4 l5 l6 : Value} {st : List Value} {I : am_I} {R : am_R} {Q : am_Q} : am_ev d 280 769 [l0, l1, l2, l3, l4, l5, l6] st I R Q = am_ev d 280 772 [l0, l1, l2, l3, l4, l5, l6] (.long 4294967295 :: st) I R Q := am_ev_nx (am_f280 (pc := 769) (q := (.ldc2_w 85, 3, (0, 0, 4294967295))) rfl) rfl
set_option maxRecDepth 100000 in
theorem s280_772 {d : Nat} {l0 l1 l2 l3 l4 l5 l6 : Value} {st : List Value} {x y : Int64} {I : am_I} {R : am_R} {Q : am_Q} : am_ev d 280 772 [l0, l1, l2, l3, l4, l5, l6] (.long y :: .long x :: st) I R Q = am_ev d 280 773 [l0, l1, l2, l3, l4, l5, l6] (.long (x &&& y) :: st) I R Q := am_ev_nx (am_f280 (pc := 772) (q := (.land, 1, (0, 0, 0))) rfl) rfl
set_option maxRecDepth 100000 in
theorem s280_773 {d : Nat} {l0 l1 l2 l3 l4 l5 l6 : Value} {st : List Value} {x y : Int64} {I : am_I} {R : am_R} {Q : am_Q} : am_ev d 280 773 [l0, l1, l2, l3, l4, l5, l6] (.long y :: .long x :: st) I R Q = am_ev d 280 774 [l0, l1, l2, l3, l4, l5, l6] (.long (x ||| y) :: st) I R Q := am_ev_nx (am_f280 (pc := 773) (q := (.lor, 1, (0, 0, 0))) rfl) rfl
set_option maxRecDepth 100000 in
theorem s280_774 {d : Nat} {l0 l1 l2 l3 l4 l5 l6 : Value} {a0 : Nat} {a1 : Int32} {a2 : Int64} {r0 : Value} {I : am_I} {R : am_R} {Q : am_Q} : am_ev (d + 1) 280 774 [l0, l1, l2, l3, l4, l5, l6] [.long a2, .int a1, .ref (am_mk 12 a0), r0] I R Q = am_th (am_cal d 234 [.ref (am_mk 12 a0), .int a1, .long a2] I R Q) fun r I R Q => am_ev (d + 1) 280 777 [l0, l1, l2, l3, l4, l5, l6] (r.toList ++ [r0]) I R Q := am_ev_call (am_f280 (pc := 774) (q := (.invokevirtual 91, 3, (234, 0, 0))) rfl) (am_inv_v [.int a1, .long a2] [r0] (by decide) (by decide) rfl rfl rfl (Nat.le_of_ble_eq_true rfl))
set_option maxRecDepth 100000 in
theorem s280_777 {d : Nat} {l0 l1 l2 l3 l4 l5 l6 : Value} {st : List Value} {x y : Int32} {I : am_I} {R : am_R} {Q : am_Q} : am_ev d 280 777 [l0, l1, l2, l3, l4, l5, l6] (.int y :: .int x :: st) I R Q = if x = y then am_ev d 280 1575 [l0, l1, l2, l3, l4, l5, l6] st I R Q else am_ev d 280 780 [l0, l1, l2, l3, l4, l5, l6] st I R Q := am_ev_br (am_f280 (pc := 777) (q := (.if_icmp .eq 798, 3, (0, 0, 0))) rfl) rfl
set_option maxRecDepth 100000 in
theorem s280_780 {d : Nat} {l0 l1 l2 l3 l4 l5 l6 : Value} {st : List Value} {I : am_I} {R : am_R} {Q : am_Q} : am_ev d 280 780 [l0, l1, l2, l3, l4, l5, l6] st I R Q = am_ev d 280 781 [l0, l1, l2, l3, l4, l5, l6] (.int (nI 0) :: st) I R Q := am_ev_nx (am_f280 (pc := 780) (q := (.iconst 0, 1, (0, 0, 0))) rfl) rfl
set_option maxRecDepth 100000 in
theorem s280_781 {d : Nat} {l0 l1 l2 l3 l4 l5 l6 : Value} {x : Int32} {I : am_I} {R : am_R} {Q : am_Q} : am_ev d 280 781 [l0, l1, l2, l3, l4, l5, l6] [.int x] I R Q = if am_bb x then some (some (.int x), I, R, Q) else none := am_ev_ifr (am_f280 (pc := 781) (q := (.ireturn, 1, (1, 0, 0))) rfl) (am_zr_u rfl)
set_option maxRecDepth 100000 in
theorem s280_782 {d : Nat} {l0 l2 l3 l4 l5 l6 : Value} {st : List Value} {x : Nat} {I : am_I} {R : am_R} {Q : am_Q} : am_ev d 280 782 [l0, .ref x, l2, l3, l4, l5, l6] st I R Q = am_ev d 280 783 [l0, .ref x, l2, l3, l4, l5, l6] (.ref x :: st) I R Q := am_ev_nx (am_f280 (pc := 782) (q := (.aload_n 1, 1, (0, 0, 0))) rfl) rfl
set_option maxRecDepth 100000 in
theorem s280_783 {d : Nat} {l1 l2 l3 l4 l5 l6 : Value} {st : List Value} {x : Nat} {I : am_I} {R : am_R} {Q : am_Q} : am_ev d 280 783 [.ref x, l1, l2, l3, l4, l5, l6] st I R Q = am_ev d 280 784 [.ref x, l1, l2, l3, l4, l5, l6] (.ref x :: st) I R Q := am_ev_nx (am_f280 (pc := 783) (q := (.aload_n 0, 1, (0, 0, 0))) rfl) rfl
set_option maxRecDepth 100000 in
theorem s280_784 {d : Nat} {l0 l1 l2 l3 l5 l6 : Value} {st : List Value} {x : Int32} {I : am_I} {R : am_R} {Q : am_Q} : am_ev d 280 784 [l0, l1, l2, l3, .int x, l5, l6] st I R Q = am_ev d 280 786 [l0, l1, l2, l3, .int x, l5, l6] (.int x :: st) I R Q := am_ev_nx (am_f280 (pc := 784) (q := (.iload 4, 2, (0, 0, 0))) rfl) rfl
set_option maxRecDepth 100000 in
theorem s280_786 {d : Nat} {l0 l1 l2 l3 l4 l5 l6 : Value} {st : List Value} {I : am_I} {R : am_R} {Q : am_Q} : am_ev d 280 786 [l0, l1, l2, l3, l4, l5, l6] st I R Q = am_ev d 280 787 [l0, l1, l2, l3, l4, l5, l6] (.int (nI 1) :: st) I R Q := am_ev_nx (am_f280 (pc := 786) (q := (.iconst 1, 1, (0, 0, 1))) rfl) rfl
set_option maxRecDepth 100000 in
theorem s280_787 {d : Nat} {l0 l1 l2 l3 l4 l5 l6 : Value} {st : List Value} {x y : Int32} {I : am_I} {R : am_R} {Q : am_Q} : am_ev d 280 787 [l0, l1, l2, l3, l4, l5, l6] (.int y :: .int x :: st) I R Q = am_ev d 280 788 [l0, l1, l2, l3, l4, l5, l6] (.int (x + y) :: st) I R Q := am_ev_nx (am_f280 (pc := 787) (q := (.iadd, 1, (0, 0, 0))) rfl) rfl
set_option maxRecDepth 100000 in
theorem s280_789 {d : Nat} {l0 l1 l2 l3 l4 l5 l6 : Value} {a0 : Nat} {a1 : Int32} {I : am_I} {R : am_R} {Q : am_Q} : am_ev (d + 1) 280 789 [l0, l1, l2, l3, l4, l5, l6] [.int a1, .ref (am_mk 11 a0)] I R Q = am_th (am_cal d 125 [.ref (am_mk 11 a0), .int a1] I R Q) fun r I R Q => am_ev (d + 1) 280 792 [l0, l1, l2, l3, l4, l5, l6] (r.toList ++ []) I R Q := am_ev_call (am_f280 (pc := 789) (q := (.invokevirtual 92, 3, (125, 0, 0))) rfl) (am_inv_v [.int a1] [] (by decide) (by decide) rfl rfl rfl (Nat.le_of_ble_eq_true rfl))
set_option maxRecDepth 100000 in
theorem s280_792 {d : Nat} {l0 l1 l3 l4 l5 l6 : Value} {st : List Value} {x : Nat} {I : am_I} {R : am_R} {Q : am_Q} : am_ev d 280 792 [l0, l1, .ref x, l3, l4, l5, l6] st I R Q = am_ev d 280 793 [l0, l1, .ref x, l3, l4, l5, l6] (.ref x :: st) I R Q := am_ev_nx (am_f280 (pc := 792) (q := (.aload_n 2, 1, (0, 0, 0))) rfl) rfl
set_option maxRecDepth 100000 in
theorem s280_793 {d : Nat} {l1 l2 l3 l4 l5 l6 : Value} {st : List Value} {x : Nat} {I : am_I} {R : am_R} {Q : am_Q} : am_ev d 280 793 [.ref x, l1, l2, l3, l4, l5, l6] st I R Q = am_ev d 280 794 [.ref x, l1, l2, l3, l4, l5, l6] (.ref x :: st) I R Q := am_ev_nx (am_f280 (pc := 793) (q := (.aload_n 0, 1, (0, 0, 0))) rfl) rfl
set_option maxRecDepth 100000 in
theorem s280_794 {d : Nat} {l0 l1 l2 l3 l5 l6 : Value} {st : List Value} {x : Int32} {I : am_I} {R : am_R} {Q : am_Q} : am_ev d 280 794 [l0, l1, l2, l3, .int x, l5, l6] st I R Q = am_ev d 280 796 [l0, l1, l2, l3, .int x, l5, l6] (.int x :: st) I R Q := am_ev_nx (am_f280 (pc := 794) (q := (.iload 4, 2, (0, 0, 0))) rfl) rfl
set_option maxRecDepth 100000 in
theorem s280_796 {d : Nat} {l0 l1 l2 l3 l4 l5 l6 : Value} {st : List Value} {I : am_I} {R : am_R} {Q : am_Q} : am_ev d 280 796 [l0, l1, l2, l3, l4, l5, l6] st I R Q = am_ev d 280 797 [l0, l1, l2, l3, l4, l5, l6] (.int (nI 1) :: st) I R Q := am_ev_nx (am_f280 (pc := 796) (q := (.iconst 1, 1, (0, 0, 1))) rfl) rfl
set_option maxRecDepth 100000 in
theorem s280_797 {d : Nat} {l0 l1 l2 l3 l4 l5 l6 : Value} {st : List Value} {x y : Int32} {I : am_I} {R : am_R} {Q : am_Q} : am_ev d 280 797 [l0, l1, l2, l3, l4, l5, l6] (.int y :: .int x :: st) I R Q = am_ev d 280 798 [l0, l1, l2, l3, l4, l5, l6] (.int (x + y) :: st) I R Q := am_ev_nx (am_f280 (pc := 797) (q := (.iadd, 1, (0, 0, 0))) rfl) rfl
set_option maxRecDepth 100000 in
theorem s280_799 {d : Nat} {l0 l1 l2 l3 l4 l5 l6 : Value} {a0 : Nat} {a1 : Int32} {r0 : Value} {I : am_I} {R : am_R} {Q : am_Q} : am_ev (d + 1) 280 799 [l0, l1, l2, l3, l4, l5, l6] [.int a1, .ref (am_mk 12 a0), r0] I R Q = am_th (am_cal d 235 [.ref (am_mk 12 a0), .int a1] I R Q) fun r I R Q => am_ev (d + 1) 280 802 [l0, l1, l2, l3, l4, l5, l6] (r.toList ++ [r0]) I R Q := am_ev_call (am_f280 (pc := 799) (q := (.invokevirtual 95, 3, (235, 0, 0))) rfl) (am_inv_v [.int a1] [r0] (by decide) (by decide) rfl rfl rfl (Nat.le_of_ble_eq_true rfl))
set_option maxRecDepth 100000 in
theorem s280_802 {d : Nat} {l0 l1 l2 l3 l4 l5 l6 : Value} {st : List Value} {x y : Int32} {I : am_I} {R : am_R} {Q : am_Q} : am_ev d 280 802 [l0, l1, l2, l3, l4, l5, l6] (.int y :: .int x :: st) I R Q = if x = y then am_ev d 280 1575 [l0, l1, l2, l3, l4, l5, l6] st I R Q else am_ev d 280 805 [l0, l1, l2, l3, l4, l5, l6] st I R Q := am_ev_br (am_f280 (pc := 802) (q := (.if_icmp .eq 773, 3, (0, 0, 0))) rfl) rfl
set_option maxRecDepth 100000 in
theorem s280_805 {d : Nat} {l0 l1 l2 l3 l4 l5 l6 : Value} {st : List Value} {I : am_I} {R : am_R} {Q : am_Q} : am_ev d 280 805 [l0, l1, l2, l3, l4, l5, l6] st I R Q = am_ev d 280 806 [l0, l1, l2, l3, l4, l5, l6] (.int (nI 0) :: st) I R Q := am_ev_nx (am_f280 (pc := 805) (q := (.iconst 0, 1, (0, 0, 0))) rfl) rfl
set_option maxRecDepth 100000 in
theorem s280_806 {d : Nat} {l0 l1 l2 l3 l4 l5 l6 : Value} {x : Int32} {I : am_I} {R : am_R} {Q : am_Q} : am_ev d 280 806 [l0, l1, l2, l3, l4, l5, l6] [.int x] I R Q = if am_bb x then some (some (.int x), I, R, Q) else none := am_ev_ifr (am_f280 (pc := 806) (q := (.ireturn, 1, (1, 0, 0))) rfl) (am_zr_u rfl)
set_option maxRecDepth 100000 in
theorem s280_807 {d : Nat} {l0 l2 l3 l4 l5 l6 : Value} {st : List Value} {x : Nat} {I : am_I} {R : am_R} {Q : am_Q} : am_ev d 280 807 [l0, .ref x, l2, l3, l4, l5, l6] st I R Q = am_ev d 280 808 [l0, .ref x, l2, l3, l4, l5, l6] (.ref x :: st) I R Q := am_ev_nx (am_f280 (pc := 807) (q := (.aload_n 1, 1, (0, 0, 0))) rfl) rfl
set_option maxRecDepth 100000 in
theorem s280_808 {d : Nat} {l0 l1 l2 l3 l4 l5 l6 : Value} {a0 : Nat} {I : am_I} {R : am_R} {Q : am_Q} : am_ev (d + 1) 280 808 [l0, l1, l2, l3, l4, l5, l6] [.ref (am_mk 11 a0)] I R Q = am_th (am_cal d 126 [.ref (am_mk 11 a0)] I R Q) fun r I R Q => am_ev (d + 1) 280 811 [l0, l1, l2, l3, l4, l5, l6] (r.toList ++ []) I R Q := am_ev_call (am_f280 (pc := 808) (q := (.invokevirtual 96, 3, (126, 0, 0))) rfl) (am_inv_v [] [] (by decide) (by decide) rfl rfl rfl (Nat.le_of_ble_eq_true rfl))
set_option maxRecDepth 100000 in
theorem s280_811 {d : Nat} {l0 l1 l3 l4 l5 l6 : Value} {st : List Value} {x : Nat} {I : am_I} {R : am_R} {Q : am_Q} : am_ev d 280 811 [l0, l1, .ref x, l3, l4, l5, l6] st I R Q = am_ev d 280 812 [l0, l1, .ref x, l3, l4, l5, l6] (.ref x :: st) I R Q := am_ev_nx (am_f280 (pc := 811) (q := (.aload_n 2, 1, (0, 0, 0))) rfl) rfl
set_option maxRecDepth 100000 in
theorem s280_812 {d : Nat} {l0 l1 l2 l3 l4 l5 l6 : Value} {a0 : Nat} {r0 : Value} {I : am_I} {R : am_R} {Q : am_Q} : am_ev (d + 1) 280 812 [l0, l1, l2, l3, l4, l5, l6] [.ref (am_mk 12 a0), r0] I R Q = am_th (am_cal d 236 [.ref (am_mk 12 a0)] I R Q) fun r I R Q => am_ev (d + 1) 280 815 [l0, l1, l2, l3, l4, l5, l6] (r.toList ++ [r0]) I R Q := am_ev_call (am_f280 (pc := 812) (q := (.invokevirtual 99, 3, (236, 0, 0))) rfl) (am_inv_v [] [r0] (by decide) (by decide) rfl rfl rfl (Nat.le_of_ble_eq_true rfl))
set_option maxRecDepth 100000 in
theorem s280_815 {d : Nat} {l0 l1 l2 l3 l4 l5 l6 : Value} {st : List Value} {x y : Int32} {I : am_I} {R : am_R} {Q : am_Q} : am_ev d 280 815 [l0, l1, l2, l3, l4, l5, l6] (.int y :: .int x :: st) I R Q = if x = y then am_ev d 280 1575 [l0, l1, l2, l3, l4, l5, l6] st I R Q else am_ev d 280 818 [l0, l1, l2, l3, l4, l5, l6] st I R Q := am_ev_br (am_f280 (pc := 815) (q := (.if_icmp .eq 760, 3, (0, 0, 0))) rfl) rfl
set_option maxRecDepth 100000 in
theorem s280_818 {d : Nat} {l0 l1 l2 l3 l4 l5 l6 : Value} {st : List Value} {I : am_I} {R : am_R} {Q : am_Q} : am_ev d 280 818 [l0, l1, l2, l3, l4, l5, l6] st I R Q = am_ev d 280 819 [l0, l1, l2, l3, l4, l5, l6] (.int (nI 0) :: st) I R Q := am_ev_nx (am_f280 (pc := 818) (q := (.iconst 0, 1, (0, 0, 0))) rfl) rfl
set_option maxRecDepth 100000 in
theorem s280_819 {d : Nat} {l0 l1 l2 l3 l4 l5 l6 : Value} {x : Int32} {I : am_I} {R : am_R} {Q : am_Q} : am_ev d 280 819 [l0, l1, l2, l3, l4, l5, l6] [.int x] I R Q = if am_bb x then some (some (.int x), I, R, Q) else none := am_ev_ifr (am_f280 (pc := 819) (q := (.ireturn, 1, (1, 0, 0))) rfl) (am_zr_u rfl)
set_option maxRecDepth 100000 in
theorem s280_820 {d : Nat} {l0 l2 l3 l4 l5 l6 : Value} {st : List Value} {x : Nat} {I : am_I} {R : am_R} {Q : am_Q} : am_ev d 280 820 [l0, .ref x, l2, l3, l4, l5, l6] st I R Q = am_ev d 280 821 [l0, .ref x, l2, l3, l4, l5, l6] (.ref x :: st) I R Q := am_ev_nx (am_f280 (pc := 820) (q := (.aload_n 1, 1, (0, 0, 0))) rfl) rfl
set_option maxRecDepth 100000 in
theorem s280_821 {d : Nat} {l1 l2 l3 l4 l5 l6 : Value} {st : List Value} {x : Nat} {I : am_I} {R : am_R} {Q : am_Q} : am_ev d 280 821 [.ref x, l1, l2, l3, l4, l5, l6] st I R Q = am_ev d 280 822 [.ref x, l1, l2, l3, l4, l5, l6] (.ref x :: st) I R Q := am_ev_nx (am_f280 (pc := 821) (q := (.aload_n 0, 1, (0, 0, 0))) rfl) rfl
set_option maxRecDepth 100000 in
theorem s280_822 {d : Nat} {l0 l1 l2 l3 l5 l6 : Value} {st : List Value} {x : Int32} {I : am_I} {R : am_R} {Q : am_Q} : am_ev d 280 822 [l0, l1, l2, l3, .int x, l5, l6] st I R Q = am_ev d 280 824 [l0, l1, l2, l3, .int x, l5, l6] (.int x :: st) I R Q := am_ev_nx (am_f280 (pc := 822) (q := (.iload 4, 2, (0, 0, 0))) rfl) rfl
set_option maxRecDepth 100000 in
theorem s280_824 {d : Nat} {l0 l1 l2 l3 l4 l5 l6 : Value} {st : List Value} {I : am_I} {R : am_R} {Q : am_Q} : am_ev d 280 824 [l0, l1, l2, l3, l4, l5, l6] st I R Q = am_ev d 280 825 [l0, l1, l2, l3, l4, l5, l6] (.int (nI 1) :: st) I R Q := am_ev_nx (am_f280 (pc := 824) (q := (.iconst 1, 1, (0, 0, 1))) rfl) rfl
set_option maxRecDepth 100000 in
theorem s280_825 {d : Nat} {l0 l1 l2 l3 l4 l5 l6 : Value} {st : List Value} {x y : Int32} {I : am_I} {R : am_R} {Q : am_Q} : am_ev d 280 825 [l0, l1, l2, l3, l4, l5, l6] (.int y :: .int x :: st) I R Q = am_ev d 280 826 [l0, l1, l2, l3, l4, l5, l6] (.int (x + y) :: st) I R Q := am_ev_nx (am_f280 (pc := 825) (q := (.iadd, 1, (0, 0, 0))) rfl) rfl
set_option maxRecDepth 100000 in
theorem s280_827 {d : Nat} {l1 l2 l3 l4 l5 l6 : Value} {st : List Value} {x : Nat} {I : am_I} {R : am_R} {Q : am_Q} : am_ev d 280 827 [.ref x, l1, l2, l3, l4, l5, l6] st I R Q = am_ev d 280 828 [.ref x, l1, l2, l3, l4, l5, l6] (.ref x :: st) I R Q := am_ev_nx (am_f280 (pc := 827) (q := (.aload_n 0, 1, (0, 0, 0))) rfl) rfl
set_option maxRecDepth 100000 in
theorem s280_828 {d : Nat} {l0 l1 l2 l3 l5 l6 : Value} {st : List Value} {x : Int32} {I : am_I} {R : am_R} {Q : am_Q} : am_ev d 280 828 [l0, l1, l2, l3, .int x, l5, l6] st I R Q = am_ev d 280 830 [l0, l1, l2, l3, .int x, l5, l6] (.int x :: st) I R Q := am_ev_nx (am_f280 (pc := 828) (q := (.iload 4, 2, (0, 0, 0))) rfl) rfl
set_option maxRecDepth 100000 in
theorem s280_830 {d : Nat} {l0 l1 l2 l3 l4 l5 l6 : Value} {st : List Value} {I : am_I} {R : am_R} {Q : am_Q} : am_ev d 280 830 [l0, l1, l2, l3, l4, l5, l6] st I R Q = am_ev d 280 831 [l0, l1, l2, l3, l4, l5, l6] (.int (nI 2) :: st) I R Q := am_ev_nx (am_f280 (pc := 830) (q := (.iconst 2, 1, (0, 0, 2))) rfl) rfl
set_option maxRecDepth 100000 in
theorem s280_831 {d : Nat} {l0 l1 l2 l3 l4 l5 l6 : Value} {st : List Value} {x y : Int32} {I : am_I} {R : am_R} {Q : am_Q} : am_ev d 280 831 [l0, l1, l2, l3, l4, l5, l6] (.int y :: .int x :: st) I R Q = am_ev d 280 832 [l0, l1, l2, l3, l4, l5, l6] (.int (x + y) :: st) I R Q := am_ev_nx (am_f280 (pc := 831) (q := (.iadd, 1, (0, 0, 0))) rfl) rfl
set_option maxRecDepth 100000 in
theorem s280_833 {d : Nat} {l0 l1 l2 l3 l4 l5 l6 : Value} {a0 : Nat} {a1 : Int32} {a2 : Int32} {I : am_I} {R : am_R} {Q : am_Q} : am_ev (d + 1) 280 833 [l0, l1, l2, l3, l4, l5, l6] [.int a2, .int a1, .ref (am_mk 11 a0)] I R Q = am_th (am_cal d 128 [.ref (am_mk 11 a0), .int a1, .int a2] I R Q) fun r I R Q => am_ev (d + 1) 280 836 [l0, l1, l2, l3, l4, l5, l6] (r.toList ++ []) I R Q := am_ev_call (am_f280 (pc := 833) (q := (.invokevirtual 100, 3, (128, 0, 0))) rfl) (am_inv_v [.int a1, .int a2] [] (by decide) (by decide) rfl rfl rfl (Nat.le_of_ble_eq_true rfl))
set_option maxRecDepth 100000 in
theorem s280_836 {d : Nat} {l0 l1 l3 l4 l5 l6 : Value} {st : List Value} {x : Nat} {I : am_I} {R : am_R} {Q : am_Q} : am_ev d 280 836 [l0, l1, .ref x, l3, l4, l5, l6] st I R Q = am_ev d 280 837 [l0, l1, .ref x, l3, l4, l5, l6] (.ref x :: st) I R Q := am_ev_nx (am_f280 (pc := 836) (q := (.aload_n 2, 1, (0, 0, 0))) rfl) rfl
set_option maxRecDepth 100000 in
theorem s280_837 {d : Nat} {l1 l2 l3 l4 l5 l6 : Value} {st : List Value} {x : Nat} {I : am_I} {R : am_R} {Q : am_Q} : am_ev d 280 837 [.ref x, l1, l2, l3, l4, l5, l6] st I R Q = am_ev d 280 838 [.ref x, l1, l2, l3, l4, l5, l6] (.ref x :: st) I R Q := am_ev_nx (am_f280 (pc := 837) (q := (.aload_n 0, 1, (0, 0, 0))) rfl) rfl
set_option maxRecDepth 100000 in
theorem s280_838 {d : Nat} {l0 l1 l2 l3 l5 l6 : Value} {st : List Value} {x : Int32} {I : am_I} {R : am_R} {Q : am_Q} : am_ev d 280 838 [l0, l1, l2, l3, .int x, l5, l6] st I R Q = am_ev d 280 840 [l0, l1, l2, l3, .int x, l5, l6] (.int x :: st) I R Q := am_ev_nx (am_f280 (pc := 838) (q := (.iload 4, 2, (0, 0, 0))) rfl) rfl
set_option maxRecDepth 100000 in
theorem s280_840 {d : Nat} {l0 l1 l2 l3 l4 l5 l6 : Value} {st : List Value} {I : am_I} {R : am_R} {Q : am_Q} : am_ev d 280 840 [l0, l1, l2, l3, l4, l5, l6] st I R Q = am_ev d 280 841 [l0, l1, l2, l3, l4, l5, l6] (.int (nI 1) :: st) I R Q := am_ev_nx (am_f280 (pc := 840) (q := (.iconst 1, 1, (0, 0, 1))) rfl) rfl
set_option maxRecDepth 100000 in
theorem s280_841 {d : Nat} {l0 l1 l2 l3 l4 l5 l6 : Value} {st : List Value} {x y : Int32} {I : am_I} {R : am_R} {Q : am_Q} : am_ev d 280 841 [l0, l1, l2, l3, l4, l5, l6] (.int y :: .int x :: st) I R Q = am_ev d 280 842 [l0, l1, l2, l3, l4, l5, l6] (.int (x + y) :: st) I R Q := am_ev_nx (am_f280 (pc := 841) (q := (.iadd, 1, (0, 0, 0))) rfl) rfl
set_option maxRecDepth 100000 in
theorem s280_843 {d : Nat} {l1 l2 l3 l4 l5 l6 : Value} {st : List Value} {x : Nat} {I : am_I} {R : am_R} {Q : am_Q} : am_ev d 280 843 [.ref x, l1, l2, l3, l4, l5, l6] st I R Q = am_ev d 280 844 [.ref x, l1, l2, l3, l4, l5, l6] (.ref x :: st) I R Q := am_ev_nx (am_f280 (pc := 843) (q := (.aload_n 0, 1, (0, 0, 0))) rfl) rfl
set_option maxRecDepth 100000 in
theorem s280_844 {d : Nat} {l0 l1 l2 l3 l5 l6 : Value} {st : List Value} {x : Int32} {I : am_I} {R : am_R} {Q : am_Q} : am_ev d 280 844 [l0, l1, l2, l3, .int x, l5, l6] st I R Q = am_ev d 280 846 [l0, l1, l2, l3, .int x, l5, l6] (.int x :: st) I R Q := am_ev_nx (am_f280 (pc := 844) (q := (.iload 4, 2, (0, 0, 0))) rfl) rfl
set_option maxRecDepth 100000 in
theorem s280_846 {d : Nat} {l0 l1 l2 l3 l4 l5 l6 : Value} {st : List Value} {I : am_I} {R : am_R} {Q : am_Q} : am_ev d 280 846 [l0, l1, l2, l3, l4, l5, l6] st I R Q = am_ev d 280 847 [l0, l1, l2, l3, l4, l5, l6] (.int (nI 2) :: st) I R Q := am_ev_nx (am_f280 (pc := 846) (q := (.iconst 2, 1, (0, 0, 2))) rfl) rfl
set_option maxRecDepth 100000 in
theorem s280_847 {d : Nat} {l0 l1 l2 l3 l4 l5 l6 : Value} {st : List Value} {x y : Int32} {I : am_I} {R : am_R} {Q : am_Q} : am_ev d 280 847 [l0, l1, l2, l3, l4, l5, l6] (.int y :: .int x :: st) I R Q = am_ev d 280 848 [l0, l1, l2, l3, l4, l5, l6] (.int (x + y) :: st) I R Q := am_ev_nx (am_f280 (pc := 847) (q := (.iadd, 1, (0, 0, 0))) rfl) rfl
set_option maxRecDepth 100000 in
theorem s280_849 {d : Nat} {l0 l1 l2 l3 l4 l5 l6 : Value} {a0 : Nat} {a1 : Int32} {a2 : Int32} {r0 : Value} {I : am_I} {R : am_R} {Q : am_Q} : am_ev (d + 1) 280 849 [l0, l1, l2, l3, l4, l5, l6] [.int a2, .int a1, .ref (am_mk 12 a0), r0] I R Q = am_th (am_cal d 237 [.ref (am_mk 12 a0), .int a1, .int a2] I R Q) fun r I R Q => am_ev (d + 1) 280 852 [l0, l1, l2, l3, l4, l5, l6] (r.toList ++ [r0]) I R Q := am_ev_call (am_f280 (pc := 849) (q := (.invokevirtual 103, 3, (237, 0, 0))) rfl) (am_inv_v [.int a1, .int a2] [r0] (by decide) (by decide) rfl rfl rfl (Nat.le_of_ble_eq_true rfl))
set_option maxRecDepth 100000 in
theorem s280_852 {d : Nat} {l0 l1 l2 l3 l4 l5 l6 : Value} {st : List Value} {x y : Int32} {I : am_I} {R : am_R} {Q : am_Q} : am_ev d 280 852 [l0, l1, l2, l3, l4, l5, l6] (.int y :: .int x :: st) I R Q = if x = y then am_ev d 280 1575 [l0, l1, l2, l3, l4, l5, l6] st I R Q else am_ev d 280 855 [l0, l1, l2, l3, l4, l5, l6] st I R Q := am_ev_br (am_f280 (pc := 852) (q := (.if_icmp .eq 723, 3, (0, 0, 0))) rfl) rfl
set_option maxRecDepth 100000 in
theorem s280_855 {d : Nat} {l0 l1 l2 l3 l4 l5 l6 : Value} {st : List Value} {I : am_I} {R : am_R} {Q : am_Q} : am_ev d 280 855 [l0, l1, l2, l3, l4, l5, l6] st I R Q = am_ev d 280 856 [l0, l1, l2, l3, l4, l5, l6] (.int (nI 0) :: st) I R Q := am_ev_nx (am_f280 (pc := 855) (q := (.iconst 0, 1, (0, 0, 0))) rfl) rfl
set_option maxRecDepth 100000 in
theorem s280_856 {d : Nat} {l0 l1 l2 l3 l4 l5 l6 : Value} {x : Int32} {I : am_I} {R : am_R} {Q : am_Q} : am_ev d 280 856 [l0, l1, l2, l3, l4, l5, l6] [.int x] I R Q = if am_bb x then some (some (.int x), I, R, Q) else none := am_ev_ifr (am_f280 (pc := 856) (q := (.ireturn, 1, (1, 0, 0))) rfl) (am_zr_u rfl)
set_option maxRecDepth 100000 in
theorem s280_857 {d : Nat} {l0 l2 l3 l4 l5 l6 : Value} {st : List Value} {x : Nat} {I : am_I} {R : am_R} {Q : am_Q} : am_ev d 280 857 [l0, .ref x, l2, l3, l4, l5, l6] st I R Q = am_ev d 280 858 [l0, .ref x, l2, l3, l4, l5, l6] (.ref x :: st) I R Q := am_ev_nx (am_f280 (pc := 857) (q := (.aload_n 1, 1, (0, 0, 0))) rfl) rfl
set_option maxRecDepth 100000 in
theorem s280_858 {d : Nat} {l1 l2 l3 l4 l5 l6 : Value} {st : List Value} {x : Nat} {I : am_I} {R : am_R} {Q : am_Q} : am_ev d 280 858 [.ref x, l1, l2, l3, l4, l5, l6] st I R Q = am_ev d 280 859 [.ref x, l1, l2, l3, l4, l5, l6] (.ref x :: st) I R Q := am_ev_nx (am_f280 (pc := 858) (q := (.aload_n 0, 1, (0, 0, 0))) rfl) rfl
set_option maxRecDepth 100000 in
theorem s280_859 {d : Nat} {l0 l1 l2 l3 l5 l6 : Value} {st : List Value} {x : Int32} {I : am_I} {R : am_R} {Q : am_Q} : am_ev d 280 859 [l0, l1, l2, l3, .int x, l5, l6] st I R Q = am_ev d 280 861 [l0, l1, l2, l3, .int x, l5, l6] (.int x :: st) I R Q := am_ev_nx (am_f280 (pc := 859) (q := (.iload 4, 2, (0, 0, 0))) rfl) rfl
set_option maxRecDepth 100000 in
theorem s280_861 {d : Nat} {l0 l1 l2 l3 l4 l5 l6 : Value} {st : List Value} {I : am_I} {R : am_R} {Q : am_Q} : am_ev d 280 861 [l0, l1, l2, l3, l4, l5, l6] st I R Q = am_ev d 280 862 [l0, l1, l2, l3, l4, l5, l6] (.int (nI 1) :: st) I R Q := am_ev_nx (am_f280 (pc := 861) (q := (.iconst 1, 1, (0, 0, 1))) rfl) rfl
set_option maxRecDepth 100000 in
theorem s280_862 {d : Nat} {l0 l1 l2 l3 l4 l5 l6 : Value} {st : List Value} {x y : Int32} {I : am_I} {R : am_R} {Q : am_Q} : am_ev d 280 862 [l0, l1, l2, l3, l4, l5, l6] (.int y :: .int x :: st) I R Q = am_ev d 280 863 [l0, l1, l2, l3, l4, l5, l6] (.int (x + y) :: st) I R Q := am_ev_nx (am_f280 (pc := 862) (q := (.iadd, 1, (0, 0, 0))) rfl) rfl
set_option maxRecDepth 100000 in
theorem s280_864 {d : Nat} {l0 l1 l2 l3 l4 l5 l6 : Value} {a0 : Nat} {a1 : Int32} {I : am_I} {R : am_R} {Q : am_Q} : am_ev (d + 1) 280 864 [l0, l1, l2, l3, l4, l5, l6] [.int a1, .ref (am_mk 11 a0)] I R Q = am_th (am_cal d 131 [.ref (am_mk 11 a0), .int a1] I R Q) fun r I R Q => am_ev (d + 1) 280 867 [l0, l1, l2, l3, l4, l5, l6] (r.toList ++ []) I R Q := am_ev_call (am_f280 (pc := 864) (q := (.invokevirtual 104, 3, (131, 0, 0))) rfl) (am_inv_v [.int a1] [] (by decide) (by decide) rfl rfl rfl (Nat.le_of_ble_eq_true rfl))
set_option maxRecDepth 100000 in
theorem s280_867 {d : Nat} {l0 l1 l3 l4 l5 l6 : Value} {st : List Value} {x : Nat} {I : am_I} {R : am_R} {Q : am_Q} : am_ev d 280 867 [l0, l1, .ref x, l3, l4, l5, l6] st I R Q = am_ev d 280 868 [l0, l1, .ref x, l3, l4, l5, l6] (.ref x :: st) I R Q := am_ev_nx (am_f280 (pc := 867) (q := (.aload_n 2, 1, (0, 0, 0))) rfl) rfl
set_option maxRecDepth 100000 in
theorem s280_868 {d : Nat} {l1 l2 l3 l4 l5 l6 : Value} {st : List Value} {x : Nat} {I : am_I} {R : am_R} {Q : am_Q} : am_ev d 280 868 [.ref x, l1, l2, l3, l4, l5, l6] st I R Q = am_ev d 280 869 [.ref x, l1, l2, l3, l4, l5, l6] (.ref x :: st) I R Q := am_ev_nx (am_f280 (pc := 868) (q := (.aload_n 0, 1, (0, 0, 0))) rfl) rfl
set_option maxRecDepth 100000 in
theorem s280_869 {d : Nat} {l0 l1 l2 l3 l5 l6 : Value} {st : List Value} {x : Int32} {I : am_I} {R : am_R} {Q : am_Q} : am_ev d 280 869 [l0, l1, l2, l3, .int x, l5, l6] st I R Q = am_ev d 280 871 [l0, l1, l2, l3, .int x, l5, l6] (.int x :: st) I R Q := am_ev_nx (am_f280 (pc := 869) (q := (.iload 4, 2, (0, 0, 0))) rfl) rfl
set_option maxRecDepth 100000 in
theorem s280_871 {d : Nat} {l0 l1 l2 l3 l4 l5 l6 : Value} {st : List Value} {I : am_I} {R : am_R} {Q : am_Q} : am_ev d 280 871 [l0, l1, l2, l3, l4, l5, l6] st I R Q = am_ev d 280 872 [l0, l1, l2, l3, l4, l5, l6] (.int (nI 1) :: st) I R Q := am_ev_nx (am_f280 (pc := 871) (q := (.iconst 1, 1, (0, 0, 1))) rfl) rfl
set_option maxRecDepth 100000 in
theorem s280_872 {d : Nat} {l0 l1 l2 l3 l4 l5 l6 : Value} {st : List Value} {x y : Int32} {I : am_I} {R : am_R} {Q : am_Q} : am_ev d 280 872 [l0, l1, l2, l3, l4, l5, l6] (.int y :: .int x :: st) I R Q = am_ev d 280 873 [l0, l1, l2, l3, l4, l5, l6] (.int (x + y) :: st) I R Q := am_ev_nx (am_f280 (pc := 872) (q := (.iadd, 1, (0, 0, 0))) rfl) rfl
set_option maxRecDepth 100000 in
theorem s280_874 {d : Nat} {l0 l1 l2 l3 l4 l5 l6 : Value} {a0 : Nat} {a1 : Int32} {r0 : Value} {I : am_I} {R : am_R} {Q : am_Q} : am_ev (d + 1) 280 874 [l0, l1, l2, l3, l4, l5, l6] [.int a1, .ref (am_mk 12 a0), r0] I R Q = am_th (am_cal d 242 [.ref (am_mk 12 a0), .int a1] I R Q) fun r I R Q => am_ev (d + 1) 280 877 [l0, l1, l2, l3, l4, l5, l6] (r.toList ++ [r0]) I R Q := am_ev_call (am_f280 (pc := 874) (q := (.invokevirtual 107, 3, (242, 0, 0))) rfl) (am_inv_v [.int a1] [r0] (by decide) (by decide) rfl rfl rfl (Nat.le_of_ble_eq_true rfl))
set_option maxRecDepth 100000 in
theorem s280_877 {d : Nat} {l0 l1 l2 l3 l4 l5 l6 : Value} {st : List Value} {x y : Int32} {I : am_I} {R : am_R} {Q : am_Q} : am_ev d 280 877 [l0, l1, l2, l3, l4, l5, l6] (.int y :: .int x :: st) I R Q = if x = y then am_ev d 280 1575 [l0, l1, l2, l3, l4, l5, l6] st I R Q else am_ev d 280 880 [l0, l1, l2, l3, l4, l5, l6] st I R Q := am_ev_br (am_f280 (pc := 877) (q := (.if_icmp .eq 698, 3, (0, 0, 0))) rfl) rfl
set_option maxRecDepth 100000 in
theorem s280_880 {d : Nat} {l0 l1 l2 l3 l4 l5 l6 : Value} {st : List Value} {I : am_I} {R : am_R} {Q : am_Q} : am_ev d 280 880 [l0, l1, l2, l3, l4, l5, l6] st I R Q = am_ev d 280 881 [l0, l1, l2, l3, l4, l5, l6] (.int (nI 0) :: st) I R Q := am_ev_nx (am_f280 (pc := 880) (q := (.iconst 0, 1, (0, 0, 0))) rfl) rfl
set_option maxRecDepth 100000 in
theorem s280_881 {d : Nat} {l0 l1 l2 l3 l4 l5 l6 : Value} {x : Int32} {I : am_I} {R : am_R} {Q : am_Q} : am_ev d 280 881 [l0, l1, l2, l3, l4, l5, l6] [.int x] I R Q = if am_bb x then some (some (.int x), I, R, Q) else none := am_ev_ifr (am_f280 (pc := 881) (q := (.ireturn, 1, (1, 0, 0))) rfl) (am_zr_u rfl)
set_option maxRecDepth 100000 in
theorem s280_882 {d : Nat} {l0 l2 l3 l4 l5 l6 : Value} {st : List Value} {x : Nat} {I : am_I} {R : am_R} {Q : am_Q} : am_ev d 280 882 [l0, .ref x, l2, l3, l4, l5, l6] st I R Q = am_ev d 280 883 [l0, .ref x, l2, l3, l4, l5, l6] (.ref x :: st) I R Q := am_ev_nx (am_f280 (pc := 882) (q := (.aload_n 1, 1, (0, 0, 0))) rfl) rfl
set_option maxRecDepth 100000 in
theorem s280_883 {d : Nat} {l1 l2 l3 l4 l5 l6 : Value} {st : List Value} {x : Nat} {I : am_I} {R : am_R} {Q : am_Q} : am_ev d 280 883 [.ref x, l1, l2, l3, l4, l5, l6] st I R Q = am_ev d 280 884 [.ref x, l1, l2, l3, l4, l5, l6] (.ref x :: st) I R Q := am_ev_nx (am_f280 (pc := 883) (q := (.aload_n 0, 1, (0, 0, 0))) rfl) rfl
set_option maxRecDepth 100000 in
theorem s280_884 {d : Nat} {l0 l1 l2 l3 l5 l6 : Value} {st : List Value} {x : Int32} {I : am_I} {R : am_R} {Q : am_Q} : am_ev d 280 884 [l0, l1, l2, l3, .int x, l5, l6] st I R Q = am_ev d 280 886 [l0, l1, l2, l3, .int x, l5, l6] (.int x :: st) I R Q := am_ev_nx (am_f280 (pc := 884) (q := (.iload 4, 2, (0, 0, 0))) rfl) rfl
set_option maxRecDepth 100000 in
theorem s280_886 {d : Nat} {l0 l1 l2 l3 l4 l5 l6 : Value} {st : List Value} {I : am_I} {R : am_R} {Q : am_Q} : am_ev d 280 886 [l0, l1, l2, l3, l4, l5, l6] st I R Q = am_ev d 280 887 [l0, l1, l2, l3, l4, l5, l6] (.int (nI 1) :: st) I R Q := am_ev_nx (am_f280 (pc := 886) (q := (.iconst 1, 1, (0, 0, 1))) rfl) rfl
set_option maxRecDepth 100000 in
theorem s280_887 {d : Nat} {l0 l1 l2 l3 l4 l5 l6 : Value} {st : List Value} {x y : Int32} {I : am_I} {R : am_R} {Q : am_Q} : am_ev d 280 887 [l0, l1, l2, l3, l4, l5, l6] (.int y :: .int x :: st) I R Q = am_ev d 280 888 [l0, l1, l2, l3, l4, l5, l6] (.int (x + y) :: st) I R Q := am_ev_nx (am_f280 (pc := 887) (q := (.iadd, 1, (0, 0, 0))) rfl) rfl
set_option maxRecDepth 100000 in
theorem s280_889 {d : Nat} {l0 l1 l2 l3 l4 l5 l6 : Value} {a0 : Nat} {a1 : Int32} {I : am_I} {R : am_R} {Q : am_Q} : am_ev (d + 1) 280 889 [l0, l1, l2, l3, l4, l5, l6] [.int a1, .ref (am_mk 11 a0)] I R Q = am_th (am_cal d 132 [.ref (am_mk 11 a0), .int a1] I R Q) fun r I R Q => am_ev (d + 1) 280 892 [l0, l1, l2, l3, l4, l5, l6] (r.toList ++ []) I R Q := am_ev_call (am_f280 (pc := 889) (q := (.invokevirtual 108, 3, (132, 0, 0))) rfl) (am_inv_v [.int a1] [] (by decide) (by decide) rfl rfl rfl (Nat.le_of_ble_eq_true rfl))
set_option maxRecDepth 100000 in
theorem s280_892 {d : Nat} {l0 l1 l3 l4 l5 l6 : Value} {st : List Value} {x : Nat} {I : am_I} {R : am_R} {Q : am_Q} : am_ev d 280 892 [l0, l1, .ref x, l3, l4, l5, l6] st I R Q = am_ev d 280 893 [l0, l1, .ref x, l3, l4, l5, l6] (.ref x :: st) I R Q := am_ev_nx (am_f280 (pc := 892) (q := (.aload_n 2, 1, (0, 0, 0))) rfl) rfl
set_option maxRecDepth 100000 in
theorem s280_893 {d : Nat} {l1 l2 l3 l4 l5 l6 : Value} {st : List Value} {x : Nat} {I : am_I} {R : am_R} {Q : am_Q} : am_ev d 280 893 [.ref x, l1, l2, l3, l4, l5, l6] st I R Q = am_ev d 280 894 [.ref x, l1, l2, l3, l4, l5, l6] (.ref x :: st) I R Q := am_ev_nx (am_f280 (pc := 893) (q := (.aload_n 0, 1, (0, 0, 0))) rfl) rfl
set_option maxRecDepth 100000 in
theorem s280_894 {d : Nat} {l0 l1 l2 l3 l5 l6 : Value} {st : List Value} {x : Int32} {I : am_I} {R : am_R} {Q : am_Q} : am_ev d 280 894 [l0, l1, l2, l3, .int x, l5, l6] st I R Q = am_ev d 280 896 [l0, l1, l2, l3, .int x, l5, l6] (.int x :: st) I R Q := am_ev_nx (am_f280 (pc := 894) (q := (.iload 4, 2, (0, 0, 0))) rfl) rfl
set_option maxRecDepth 100000 in
theorem s280_896 {d : Nat} {l0 l1 l2 l3 l4 l5 l6 : Value} {st : List Value} {I : am_I} {R : am_R} {Q : am_Q} : am_ev d 280 896 [l0, l1, l2, l3, l4, l5, l6] st I R Q = am_ev d 280 897 [l0, l1, l2, l3, l4, l5, l6] (.int (nI 1) :: st) I R Q := am_ev_nx (am_f280 (pc := 896) (q := (.iconst 1, 1, (0, 0, 1))) rfl) rfl
set_option maxRecDepth 100000 in
theorem s280_897 {d : Nat} {l0 l1 l2 l3 l4 l5 l6 : Value} {st : List Value} {x y : Int32} {I : am_I} {R : am_R} {Q : am_Q} : am_ev d 280 897 [l0, l1, l2, l3, l4, l5, l6] (.int y :: .int x :: st) I R Q = am_ev d 280 898 [l0, l1, l2, l3, l4, l5, l6] (.int (x + y) :: st) I R Q := am_ev_nx (am_f280 (pc := 897) (q := (.iadd, 1, (0, 0, 0))) rfl) rfl
set_option maxRecDepth 100000 in
theorem s280_899 {d : Nat} {l0 l1 l2 l3 l4 l5 l6 : Value} {a0 : Nat} {a1 : Int32} {r0 : Value} {I : am_I} {R : am_R} {Q : am_Q} : am_ev (d + 1) 280 899 [l0, l1, l2, l3, l4, l5, l6] [.int a1, .ref (am_mk 12 a0), r0] I R Q = am_th (am_cal d 245 [.ref (am_mk 12 a0), .int a1] I R Q) fun r I R Q => am_ev (d + 1) 280 902 [l0, l1, l2, l3, l4, l5, l6] (r.toList ++ [r0]) I R Q := am_ev_call (am_f280 (pc := 899) (q := (.invokevirtual 111, 3, (245, 0, 0))) rfl) (am_inv_v [.int a1] [r0] (by decide) (by decide) rfl rfl rfl (Nat.le_of_ble_eq_true rfl))
set_option maxRecDepth 100000 in
theorem s280_902 {d : Nat} {l0 l1 l2 l3 l4 l5 l6 : Value} {st : List Value} {x y : Int32} {I : am_I} {R : am_R} {Q : am_Q} : am_ev d 280 902 [l0, l1, l2, l3, l4, l5, l6] (.int y :: .int x :: st) I R Q = if x = y then am_ev d 280 1575 [l0, l1, l2, l3, l4, l5, l6] st I R Q else am_ev d 280 905 [l0, l1, l2, l3, l4, l5, l6] st I R Q := am_ev_br (am_f280 (pc := 902) (q := (.if_icmp .eq 673, 3, (0, 0, 0))) rfl) rfl
set_option maxRecDepth 100000 in
theorem s280_905 {d : Nat} {l0 l1 l2 l3 l4 l5 l6 : Value} {st : List Value} {I : am_I} {R : am_R} {Q : am_Q} : am_ev d 280 905 [l0, l1, l2, l3, l4, l5, l6] st I R Q = am_ev d 280 906 [l0, l1, l2, l3, l4, l5, l6] (.int (nI 0) :: st) I R Q := am_ev_nx (am_f280 (pc := 905) (q := (.iconst 0, 1, (0, 0, 0))) rfl) rfl
set_option maxRecDepth 100000 in
theorem s280_906 {d : Nat} {l0 l1 l2 l3 l4 l5 l6 : Value} {x : Int32} {I : am_I} {R : am_R} {Q : am_Q} : am_ev d 280 906 [l0, l1, l2, l3, l4, l5, l6] [.int x] I R Q = if am_bb x then some (some (.int x), I, R, Q) else none := am_ev_ifr (am_f280 (pc := 906) (q := (.ireturn, 1, (1, 0, 0))) rfl) (am_zr_u rfl)
set_option maxRecDepth 100000 in
theorem s280_907 {d : Nat} {l0 l2 l3 l4 l5 l6 : Value} {st : List Value} {x : Nat} {I : am_I} {R : am_R} {Q : am_Q} : am_ev d 280 907 [l0, .ref x, l2, l3, l4, l5, l6] st I R Q = am_ev d 280 908 [l0, .ref x, l2, l3, l4, l5, l6] (.ref x :: st) I R Q := am_ev_nx (am_f280 (pc := 907) (q := (.aload_n 1, 1, (0, 0, 0))) rfl) rfl
set_option maxRecDepth 100000 in
theorem s280_908 {d : Nat} {l0 l1 l2 l3 l4 l5 l6 : Value} {a0 : Nat} {I : am_I} {R : am_R} {Q : am_Q} : am_ev (d + 1) 280 908 [l0, l1, l2, l3, l4, l5, l6] [.ref (am_mk 11 a0)] I R Q = am_th (am_cal d 133 [.ref (am_mk 11 a0)] I R Q) fun r I R Q => am_ev (d + 1) 280 911 [l0, l1, l2, l3, l4, l5, l6] (r.toList ++ []) I R Q := am_ev_call (am_f280 (pc := 908) (q := (.invokevirtual 112, 3, (133, 0, 0))) rfl) (am_inv_v [] [] (by decide) (by decide) rfl rfl rfl (Nat.le_of_ble_eq_true rfl))
set_option maxRecDepth 100000 in
theorem s280_911 {d : Nat} {l0 l1 l3 l4 l5 l6 : Value} {st : List Value} {x : Nat} {I : am_I} {R : am_R} {Q : am_Q} : am_ev d 280 911 [l0, l1, .ref x, l3, l4, l5, l6] st I R Q = am_ev d 280 912 [l0, l1, .ref x, l3, l4, l5, l6] (.ref x :: st) I R Q := am_ev_nx (am_f280 (pc := 911) (q := (.aload_n 2, 1, (0, 0, 0))) rfl) rfl
set_option maxRecDepth 100000 in
theorem s280_912 {d : Nat} {l0 l1 l2 l3 l4 l5 l6 : Value} {a0 : Nat} {r0 : Value} {I : am_I} {R : am_R} {Q : am_Q} : am_ev (d + 1) 280 912 [l0, l1, l2, l3, l4, l5, l6] [.ref (am_mk 12 a0), r0] I R Q = am_th (am_cal d 246 [.ref (am_mk 12 a0)] I R Q) fun r I R Q => am_ev (d + 1) 280 915 [l0, l1, l2, l3, l4, l5, l6] (r.toList ++ [r0]) I R Q := am_ev_call (am_f280 (pc := 912) (q := (.invokevirtual 115, 3, (246, 0, 0))) rfl) (am_inv_v [] [r0] (by decide) (by decide) rfl rfl rfl (Nat.le_of_ble_eq_true rfl))
set_option maxRecDepth 100000 in
theorem s280_915 {d : Nat} {l0 l1 l2 l3 l4 l5 l6 : Value} {st : List Value} {x y : Int32} {I : am_I} {R : am_R} {Q : am_Q} : am_ev d 280 915 [l0, l1, l2, l3, l4, l5, l6] (.int y :: .int x :: st) I R Q = if x = y then am_ev d 280 1575 [l0, l1, l2, l3, l4, l5, l6] st I R Q else am_ev d 280 918 [l0, l1, l2, l3, l4, l5, l6] st I R Q := am_ev_br (am_f280 (pc := 915) (q := (.if_icmp .eq 660, 3, (0, 0, 0))) rfl) rfl
set_option maxRecDepth 100000 in
theorem s280_918 {d : Nat} {l0 l1 l2 l3 l4 l5 l6 : Value} {st : List Value} {I : am_I} {R : am_R} {Q : am_Q} : am_ev d 280 918 [l0, l1, l2, l3, l4, l5, l6] st I R Q = am_ev d 280 919 [l0, l1, l2, l3, l4, l5, l6] (.int (nI 0) :: st) I R Q := am_ev_nx (am_f280 (pc := 918) (q := (.iconst 0, 1, (0, 0, 0))) rfl) rfl
set_option maxRecDepth 100000 in
theorem s280_919 {d : Nat} {l0 l1 l2 l3 l4 l5 l6 : Value} {x : Int32} {I : am_I} {R : am_R} {Q : am_Q} : am_ev d 280 919 [l0, l1, l2, l3, l4, l5, l6] [.int x] I R Q = if am_bb x then some (some (.int x), I, R, Q) else none := am_ev_ifr (am_f280 (pc := 919) (q := (.ireturn, 1, (1, 0, 0))) rfl) (am_zr_u rfl)
set_option maxRecDepth 100000 in
theorem s280_920 {d : Nat} {l0 l2 l3 l4 l5 l6 : Value} {st : List Value} {x : Nat} {I : am_I} {R : am_R} {Q : am_Q} : am_ev d 280 920 [l0, .ref x, l2, l3, l4, l5, l6] st I R Q = am_ev d 280 921 [l0, .ref x, l2, l3, l4, l5, l6] (.ref x :: st) I R Q := am_ev_nx (am_f280 (pc := 920) (q := (.aload_n 1, 1, (0, 0, 0))) rfl) rfl
set_option maxRecDepth 100000 in
theorem s280_921 {d : Nat} {l1 l2 l3 l4 l5 l6 : Value} {st : List Value} {x : Nat} {I : am_I} {R : am_R} {Q : am_Q} : am_ev d 280 921 [.ref x, l1, l2, l3, l4, l5, l6] st I R Q = am_ev d 280 922 [.ref x, l1, l2, l3, l4, l5, l6] (.ref x :: st) I R Q := am_ev_nx (am_f280 (pc := 921) (q := (.aload_n 0, 1, (0, 0, 0))) rfl) rfl
set_option maxRecDepth 100000 in
theorem s280_922 {d : Nat} {l0 l1 l2 l3 l5 l6 : Value} {st : List Value} {x : Int32} {I : am_I} {R : am_R} {Q : am_Q} : am_ev d 280 922 [l0, l1, l2, l3, .int x, l5, l6] st I R Q = am_ev d 280 924 [l0, l1, l2, l3, .int x, l5, l6] (.int x :: st) I R Q := am_ev_nx (am_f280 (pc := 922) (q := (.iload 4, 2, (0, 0, 0))) rfl) rfl
set_option maxRecDepth 100000 in
theorem s280_924 {d : Nat} {l0 l1 l2 l3 l4 l5 l6 : Value} {st : List Value} {I : am_I} {R : am_R} {Q : am_Q} : am_ev d 280 924 [l0, l1, l2, l3, l4, l5, l6] st I R Q = am_ev d 280 925 [l0, l1, l2, l3, l4, l5, l6] (.int (nI 1) :: st) I R Q := am_ev_nx (am_f280 (pc := 924) (q := (.iconst 1, 1, (0, 0, 1))) rfl) rfl
set_option maxRecDepth 100000 in
theorem s280_925 {d : Nat} {l0 l1 l2 l3 l4 l5 l6 : Value} {st : List Value} {x y : Int32} {I : am_I} {R : am_R} {Q : am_Q} : am_ev d 280 925 [l0, l1, l2, l3, l4, l5, l6] (.int y :: .int x :: st) I R Q = am_ev d 280 926 [l0, l1, l2, l3, l4, l5, l6] (.int (x + y) :: st) I R Q := am_ev_nx (am_f280 (pc := 925) (q := (.iadd, 1, (0, 0, 0))) rfl) rfl
set_option maxRecDepth 100000 in
theorem s280_927 {d : Nat} {l1 l2 l3 l4 l5 l6 : Value} {st : List Value} {x : Nat} {I : am_I} {R : am_R} {Q : am_Q} : am_ev d 280 927 [.ref x, l1, l2, l3, l4, l5, l6] st I R Q = am_ev d 280 928 [.ref x, l1, l2, l3, l4, l5, l6] (.ref x :: st) I R Q := am_ev_nx (am_f280 (pc := 927) (q := (.aload_n 0, 1, (0, 0, 0))) rfl) rfl
set_option maxRecDepth 100000 in
theorem s280_928 {d : Nat} {l0 l1 l2 l3 l5 l6 : Value} {st : List Value} {x : Int32} {I : am_I} {R : am_R} {Q : am_Q} : am_ev d 280 928 [l0, l1, l2, l3, .int x, l5, l6] st I R Q = am_ev d 280 930 [l0, l1, l2, l3, .int x, l5, l6] (.int x :: st) I R Q := am_ev_nx (am_f280 (pc := 928) (q := (.iload 4, 2, (0, 0, 0))) rfl) rfl
set_option maxRecDepth 100000 in
theorem s280_930 {d : Nat} {l0 l1 l2 l3 l4 l5 l6 : Value} {st : List Value} {I : am_I} {R : am_R} {Q : am_Q} : am_ev d 280 930 [l0, l1, l2, l3, l4, l5, l6] st I R Q = am_ev d 280 931 [l0, l1, l2, l3, l4, l5, l6] (.int (nI 2) :: st) I R Q := am_ev_nx (am_f280 (pc := 930) (q := (.iconst 2, 1, (0, 0, 2))) rfl) rfl
set_option maxRecDepth 100000 in
theorem s280_931 {d : Nat} {l0 l1 l2 l3 l4 l5 l6 : Value} {st : List Value} {x y : Int32} {I : am_I} {R : am_R} {Q : am_Q} : am_ev d 280 931 [l0, l1, l2, l3, l4, l5, l6] (.int y :: .int x :: st) I R Q = am_ev d 280 932 [l0, l1, l2, l3, l4, l5, l6] (.int (x + y) :: st) I R Q := am_ev_nx (am_f280 (pc := 931) (q := (.iadd, 1, (0, 0, 0))) rfl) rfl
set_option maxRecDepth 100000 in
theorem s280_933 {d : Nat} {l1 l2 l3 l4 l5 l6 : Value} {st : List Value} {x : Nat} {I : am_I} {R : am_R} {Q : am_Q} : am_ev d 280 933 [.ref x, l1, l2, l3, l4, l5, l6] st I R Q = am_ev d 280 934 [.ref x, l1, l2, l3, l4, l5, l6] (.ref x :: st) I R Q := am_ev_nx (am_f280 (pc := 933) (q := (.aload_n 0, 1, (0, 0, 0))) rfl) rfl
set_option maxRecDepth 100000 in
theorem s280_934 {d : Nat} {l0 l1 l2 l3 l5 l6 : Value} {st : List Value} {x : Int32} {I : am_I} {R : am_R} {Q : am_Q} : am_ev d 280 934 [l0, l1, l2, l3, .int x, l5, l6] st I R Q = am_ev d 280 936 [l0, l1, l2, l3, .int x, l5, l6] (.int x :: st) I R Q := am_ev_nx (am_f280 (pc := 934) (q := (.iload 4, 2, (0, 0, 0))) rfl) rfl
set_option maxRecDepth 100000 in
theorem s280_936 {d : Nat} {l0 l1 l2 l3 l4 l5 l6 : Value} {st : List Value} {I : am_I} {R : am_R} {Q : am_Q} : am_ev d 280 936 [l0, l1, l2, l3, l4, l5, l6] st I R Q = am_ev d 280 937 [l0, l1, l2, l3, l4, l5, l6] (.int (nI 3) :: st) I R Q := am_ev_nx (am_f280 (pc := 936) (q := (.iconst 3, 1, (0, 0, 3))) rfl) rfl
set_option maxRecDepth 100000 in
theorem s280_937 {d : Nat} {l0 l1 l2 l3 l4 l5 l6 : Value} {st : List Value} {x y : Int32} {I : am_I} {R : am_R} {Q : am_Q} : am_ev d 280 937 [l0, l1, l2, l3, l4, l5, l6] (.int y :: .int x :: st) I R Q = am_ev d 280 938 [l0, l1, l2, l3, l4, l5, l6] (.int (x + y) :: st) I R Q := am_ev_nx (am_f280 (pc := 937) (q := (.iadd, 1, (0, 0, 0))) rfl) rfl
set_option maxRecDepth 100000 in
theorem s280_939 {d : Nat} {l0 l1 l2 l3 l4 l5 l6 : Value} {a0 : Nat} {a1 : Int32} {a2 : Int32} {a3 : Int32} {I : am_I} {R : am_R} {Q : am_Q} : am_ev (d + 1) 280 939 [l0, l1, l2, l3, l4, l5, l6] [.int a3, .int a2, .int a1, .ref (am_mk 11 a0)] I R Q = am_th (am_cal d 134 [.ref (am_mk 11 a0), .int a1, .int a2, .int a3] I R Q) fun r I R Q => am_ev (d + 1) 280 942 [l0, l1, l2, l3, l4, l5, l6] (r.toList ++ []) I R Q := am_ev_call (am_f280 (pc := 939) (q := (.invokevirtual 116, 3, (134, 0, 0))) rfl) (am_inv_v [.int a1, .int a2, .int a3] [] (by decide) (by decide) rfl rfl rfl (Nat.le_of_ble_eq_true rfl))
set_option maxRecDepth 100000 in
theorem s280_942 {d : Nat} {l0 l1 l3 l4 l5 l6 : Value} {st : List Value} {x : Nat} {I : am_I} {R : am_R} {Q : am_Q} : am_ev d 280 942 [l0, l1, .ref x, l3, l4, l5, l6] st I R Q = am_ev d 280 943 [l0, l1, .ref x, l3, l4, l5, l6] (.ref x :: st) I R Q := am_ev_nx (am_f280 (pc := 942) (q := (.aload_n 2, 1, (0, 0, 0))) rfl) rfl
set_option maxRecDepth 100000 in
theorem s280_943 {d : Nat} {l1 l2 l3 l4 l5 l6 : Value} {st : List Value} {x : Nat} {I : am_I} {R : am_R} {Q : am_Q} : am_ev d 280 943 [.ref x, l1, l2, l3, l4, l5, l6] st I R Q = am_ev d 280 944 [.ref x, l1, l2, l3, l4, l5, l6] (.ref x :: st) I R Q := am_ev_nx (am_f280 (pc := 943) (q := (.aload_n 0, 1, (0, 0, 0))) rfl) rfl
set_option maxRecDepth 100000 in
theorem s280_944 {d : Nat} {l0 l1 l2 l3 l5 l6 : Value} {st : List Value} {x : Int32} {I : am_I} {R : am_R} {Q : am_Q} : am_ev d 280 944 [l0, l1, l2, l3, .int x, l5, l6] st I R Q = am_ev d 280 946 [l0, l1, l2, l3, .int x, l5, l6] (.int x :: st) I R Q := am_ev_nx (am_f280 (pc := 944) (q := (.iload 4, 2, (0, 0, 0))) rfl) rfl
set_option maxRecDepth 100000 in
theorem s280_946 {d : Nat} {l0 l1 l2 l3 l4 l5 l6 : Value} {st : List Value} {I : am_I} {R : am_R} {Q : am_Q} : am_ev d 280 946 [l0, l1, l2, l3, l4, l5, l6] st I R Q = am_ev d 280 947 [l0, l1, l2, l3, l4, l5, l6] (.int (nI 1) :: st) I R Q := am_ev_nx (am_f280 (pc := 946) (q := (.iconst 1, 1, (0, 0, 1))) rfl) rfl
set_option maxRecDepth 100000 in
theorem s280_947 {d : Nat} {l0 l1 l2 l3 l4 l5 l6 : Value} {st : List Value} {x y : Int32} {I : am_I} {R : am_R} {Q : am_Q} : am_ev d 280 947 [l0, l1, l2, l3, l4, l5, l6] (.int y :: .int x :: st) I R Q = am_ev d 280 948 [l0, l1, l2, l3, l4, l5, l6] (.int (x + y) :: st) I R Q := am_ev_nx (am_f280 (pc := 947) (q := (.iadd, 1, (0, 0, 0))) rfl) rfl
set_option maxRecDepth 100000 in
theorem s280_949 {d : Nat} {l1 l2 l3 l4 l5 l6 : Value} {st : List Value} {x : Nat} {I : am_I} {R : am_R} {Q : am_Q} : am_ev d 280 949 [.ref x, l1, l2, l3, l4, l5, l6] st I R Q = am_ev d 280 950 [.ref x, l1, l2, l3, l4, l5, l6] (.ref x :: st) I R Q := am_ev_nx (am_f280 (pc := 949) (q := (.aload_n 0, 1, (0, 0, 0))) rfl) rfl
set_option maxRecDepth 100000 in
theorem s280_950 {d : Nat} {l0 l1 l2 l3 l5 l6 : Value} {st : List Value} {x : Int32} {I : am_I} {R : am_R} {Q : am_Q} : am_ev d 280 950 [l0, l1, l2, l3, .int x, l5, l6] st I R Q = am_ev d 280 952 [l0, l1, l2, l3, .int x, l5, l6] (.int x :: st) I R Q := am_ev_nx (am_f280 (pc := 950) (q := (.iload 4, 2, (0, 0, 0))) rfl) rfl
set_option maxRecDepth 100000 in
theorem s280_952 {d : Nat} {l0 l1 l2 l3 l4 l5 l6 : Value} {st : List Value} {I : am_I} {R : am_R} {Q : am_Q} : am_ev d 280 952 [l0, l1, l2, l3, l4, l5, l6] st I R Q = am_ev d 280 953 [l0, l1, l2, l3, l4, l5, l6] (.int (nI 2) :: st) I R Q := am_ev_nx (am_f280 (pc := 952) (q := (.iconst 2, 1, (0, 0, 2))) rfl) rfl
set_option maxRecDepth 100000 in
theorem s280_953 {d : Nat} {l0 l1 l2 l3 l4 l5 l6 : Value} {st : List Value} {x y : Int32} {I : am_I} {R : am_R} {Q : am_Q} : am_ev d 280 953 [l0, l1, l2, l3, l4, l5, l6] (.int y :: .int x :: st) I R Q = am_ev d 280 954 [l0, l1, l2, l3, l4, l5, l6] (.int (x + y) :: st) I R Q := am_ev_nx (am_f280 (pc := 953) (q := (.iadd, 1, (0, 0, 0))) rfl) rfl
set_option maxRecDepth 100000 in
theorem s280_955 {d : Nat} {l1 l2 l3 l4 l5 l6 : Value} {st : List Value} {x : Nat} {I : am_I} {R : am_R} {Q : am_Q} : am_ev d 280 955 [.ref x, l1, l2, l3, l4, l5, l6] st I R Q = am_ev d 280 956 [.ref x, l1, l2, l3, l4, l5, l6] (.ref x :: st) I R Q := am_ev_nx (am_f280 (pc := 955) (q := (.aload_n 0, 1, (0, 0, 0))) rfl) rfl
set_option maxRecDepth 100000 in
theorem s280_956 {d : Nat} {l0 l1 l2 l3 l5 l6 : Value} {st : List Value} {x : Int32} {I : am_I} {R : am_R} {Q : am_Q} : am_ev d 280 956 [l0, l1, l2, l3, .int x, l5, l6] st I R Q = am_ev d 280 958 [l0, l1, l2, l3, .int x, l5, l6] (.int x :: st) I R Q := am_ev_nx (am_f280 (pc := 956) (q := (.iload 4, 2, (0, 0, 0))) rfl) rfl
set_option maxRecDepth 100000 in
theorem s280_958 {d : Nat} {l0 l1 l2 l3 l4 l5 l6 : Value} {st : List Value} {I : am_I} {R : am_R} {Q : am_Q} : am_ev d 280 958 [l0, l1, l2, l3, l4, l5, l6] st I R Q = am_ev d 280 959 [l0, l1, l2, l3, l4, l5, l6] (.int (nI 3) :: st) I R Q := am_ev_nx (am_f280 (pc := 958) (q := (.iconst 3, 1, (0, 0, 3))) rfl) rfl
set_option maxRecDepth 100000 in
theorem s280_959 {d : Nat} {l0 l1 l2 l3 l4 l5 l6 : Value} {st : List Value} {x y : Int32} {I : am_I} {R : am_R} {Q : am_Q} : am_ev d 280 959 [l0, l1, l2, l3, l4, l5, l6] (.int y :: .int x :: st) I R Q = am_ev d 280 960 [l0, l1, l2, l3, l4, l5, l6] (.int (x + y) :: st) I R Q := am_ev_nx (am_f280 (pc := 959) (q := (.iadd, 1, (0, 0, 0))) rfl) rfl
set_option maxRecDepth 100000 in
theorem s280_961 {d : Nat} {l0 l1 l2 l3 l4 l5 l6 : Value} {a0 : Nat} {a1 : Int32} {a2 : Int32} {a3 : Int32} {r0 : Value} {I : am_I} {R : am_R} {Q : am_Q} : am_ev (d + 1) 280 961 [l0, l1, l2, l3, l4, l5, l6] [.int a3, .int a2, .int a1, .ref (am_mk 12 a0), r0] I R Q = am_th (am_cal d 247 [.ref (am_mk 12 a0), .int a1, .int a2, .int a3] I R Q) fun r I R Q => am_ev (d + 1) 280 964 [l0, l1, l2, l3, l4, l5, l6] (r.toList ++ [r0]) I R Q := am_ev_call (am_f280 (pc := 961) (q := (.invokevirtual 120, 3, (247, 0, 0))) rfl) (am_inv_v [.int a1, .int a2, .int a3] [r0] (by decide) (by decide) rfl rfl rfl (Nat.le_of_ble_eq_true rfl))
set_option maxRecDepth 100000 in
theorem s280_964 {d : Nat} {l0 l1 l2 l3 l4 l5 l6 : Value} {st : List Value} {x y : Int32} {I : am_I} {R : am_R} {Q : am_Q} : am_ev d 280 964 [l0, l1, l2, l3, l4, l5, l6] (.int y :: .int x :: st) I R Q = if x = y then am_ev d 280 1575 [l0, l1, l2, l3, l4, l5, l6] st I R Q else am_ev d 280 967 [l0, l1, l2, l3, l4, l5, l6] st I R Q := am_ev_br (am_f280 (pc := 964) (q := (.if_icmp .eq 611, 3, (0, 0, 0))) rfl) rfl
set_option maxRecDepth 100000 in
theorem s280_967 {d : Nat} {l0 l1 l2 l3 l4 l5 l6 : Value} {st : List Value} {I : am_I} {R : am_R} {Q : am_Q} : am_ev d 280 967 [l0, l1, l2, l3, l4, l5, l6] st I R Q = am_ev d 280 968 [l0, l1, l2, l3, l4, l5, l6] (.int (nI 0) :: st) I R Q := am_ev_nx (am_f280 (pc := 967) (q := (.iconst 0, 1, (0, 0, 0))) rfl) rfl
set_option maxRecDepth 100000 in
theorem s280_968 {d : Nat} {l0 l1 l2 l3 l4 l5 l6 : Value} {x : Int32} {I : am_I} {R : am_R} {Q : am_Q} : am_ev d 280 968 [l0, l1, l2, l3, l4, l5, l6] [.int x] I R Q = if am_bb x then some (some (.int x), I, R, Q) else none := am_ev_ifr (am_f280 (pc := 968) (q := (.ireturn, 1, (1, 0, 0))) rfl) (am_zr_u rfl)
set_option maxRecDepth 100000 in
theorem s280_969 {d : Nat} {l0 l2 l3 l4 l5 l6 : Value} {st : List Value} {x : Nat} {I : am_I} {R : am_R} {Q : am_Q} : am_ev d 280 969 [l0, .ref x, l2, l3, l4, l5, l6] st I R Q = am_ev d 280 970 [l0, .ref x, l2, l3, l4, l5, l6] (.ref x :: st) I R Q := am_ev_nx (am_f280 (pc := 969) (q := (.aload_n 1, 1, (0, 0, 0))) rfl) rfl
set_option maxRecDepth 100000 in
theorem s280_970 {d : Nat} {l1 l2 l3 l4 l5 l6 : Value} {st : List Value} {x : Nat} {I : am_I} {R : am_R} {Q : am_Q} : am_ev d 280 970 [.ref x, l1, l2, l3, l4, l5, l6] st I R Q = am_ev d 280 971 [.ref x, l1, l2, l3, l4, l5, l6] (.ref x :: st) I R Q := am_ev_nx (am_f280 (pc := 970) (q := (.aload_n 0, 1, (0, 0, 0))) rfl) rfl
set_option maxRecDepth 100000 in
theorem s280_971 {d : Nat} {l0 l1 l2 l3 l5 l6 : Value} {st : List Value} {x : Int32} {I : am_I} {R : am_R} {Q : am_Q} : am_ev d 280 971 [l0, l1, l2, l3, .int x, l5, l6] st I R Q = am_ev d 280 973 [l0, l1, l2, l3, .int x, l5, l6] (.int x :: st) I R Q := am_ev_nx (am_f280 (pc := 971) (q := (.iload 4, 2, (0, 0, 0))) rfl) rfl
set_option maxRecDepth 100000 in
theorem s280_973 {d : Nat} {l0 l1 l2 l3 l4 l5 l6 : Value} {st : List Value} {I : am_I} {R : am_R} {Q : am_Q} : am_ev d 280 973 [l0, l1, l2, l3, l4, l5, l6] st I R Q = am_ev d 280 974 [l0, l1, l2, l3, l4, l5, l6] (.int (nI 1) :: st) I R Q := am_ev_nx (am_f280 (pc := 973) (q := (.iconst 1, 1, (0, 0, 1))) rfl) rfl
set_option maxRecDepth 100000 in
theorem s280_974 {d : Nat} {l0 l1 l2 l3 l4 l5 l6 : Value} {st : List Value} {x y : Int32} {I : am_I} {R : am_R} {Q : am_Q} : am_ev d 280 974 [l0, l1, l2, l3, l4, l5, l6] (.int y :: .int x :: st) I R Q = am_ev d 280 975 [l0, l1, l2, l3, l4, l5, l6] (.int (x + y) :: st) I R Q := am_ev_nx (am_f280 (pc := 974) (q := (.iadd, 1, (0, 0, 0))) rfl) rfl
set_option maxRecDepth 100000 in
theorem s280_976 {d : Nat} {l1 l2 l3 l4 l5 l6 : Value} {st : List Value} {x : Nat} {I : am_I} {R : am_R} {Q : am_Q} : am_ev d 280 976 [.ref x, l1, l2, l3, l4, l5, l6] st I R Q = am_ev d 280 977 [.ref x, l1, l2, l3, l4, l5, l6] (.ref x :: st) I R Q := am_ev_nx (am_f280 (pc := 976) (q := (.aload_n 0, 1, (0, 0, 0))) rfl) rfl
set_option maxRecDepth 100000 in
theorem s280_977 {d : Nat} {l0 l1 l2 l3 l5 l6 : Value} {st : List Value} {x : Int32} {I : am_I} {R : am_R} {Q : am_Q} : am_ev d 280 977 [l0, l1, l2, l3, .int x, l5, l6] st I R Q = am_ev d 280 979 [l0, l1, l2, l3, .int x, l5, l6] (.int x :: st) I R Q := am_ev_nx (am_f280 (pc := 977) (q := (.iload 4, 2, (0, 0, 0))) rfl) rfl
set_option maxRecDepth 100000 in
theorem s280_979 {d : Nat} {l0 l1 l2 l3 l4 l5 l6 : Value} {st : List Value} {I : am_I} {R : am_R} {Q : am_Q} : am_ev d 280 979 [l0, l1, l2, l3, l4, l5, l6] st I R Q = am_ev d 280 980 [l0, l1, l2, l3, l4, l5, l6] (.int (nI 2) :: st) I R Q := am_ev_nx (am_f280 (pc := 979) (q := (.iconst 2, 1, (0, 0, 2))) rfl) rfl
set_option maxRecDepth 100000 in
theorem s280_980 {d : Nat} {l0 l1 l2 l3 l4 l5 l6 : Value} {st : List Value} {x y : Int32} {I : am_I} {R : am_R} {Q : am_Q} : am_ev d 280 980 [l0, l1, l2, l3, l4, l5, l6] (.int y :: .int x :: st) I R Q = am_ev d 280 981 [l0, l1, l2, l3, l4, l5, l6] (.int (x + y) :: st) I R Q := am_ev_nx (am_f280 (pc := 980) (q := (.iadd, 1, (0, 0, 0))) rfl) rfl
set_option maxRecDepth 100000 in
theorem s280_982 {d : Nat} {l0 l1 l2 l3 l4 l5 l6 : Value} {a0 : Nat} {a1 : Int32} {a2 : Int32} {I : am_I} {R : am_R} {Q : am_Q} : am_ev (d + 1) 280 982 [l0, l1, l2, l3, l4, l5, l6] [.int a2, .int a1, .ref (am_mk 11 a0)] I R Q = am_th (am_cal d 135 [.ref (am_mk 11 a0), .int a1, .int a2] I R Q) fun r I R Q => am_ev (d + 1) 280 985 [l0, l1, l2, l3, l4, l5, l6] (r.toList ++ []) I R Q := am_ev_call (am_f280 (pc := 982) (q := (.invokevirtual 121, 3, (135, 0, 0))) rfl) (am_inv_v [.int a1, .int a2] [] (by decide) (by decide) rfl rfl rfl (Nat.le_of_ble_eq_true rfl))
set_option maxRecDepth 100000 in
theorem s280_985 {d : Nat} {l0 l1 l3 l4 l5 l6 : Value} {st : List Value} {x : Nat} {I : am_I} {R : am_R} {Q : am_Q} : am_ev d 280 985 [l0, l1, .ref x, l3, l4, l5, l6] st I R Q = am_ev d 280 986 [l0, l1, .ref x, l3, l4, l5, l6] (.ref x :: st) I R Q := am_ev_nx (am_f280 (pc := 985) (q := (.aload_n 2, 1, (0, 0, 0))) rfl) rfl
set_option maxRecDepth 100000 in
theorem s280_986 {d : Nat} {l1 l2 l3 l4 l5 l6 : Value} {st : List Value} {x : Nat} {I : am_I} {R : am_R} {Q : am_Q} : am_ev d 280 986 [.ref x, l1, l2, l3, l4, l5, l6] st I R Q = am_ev d 280 987 [.ref x, l1, l2, l3, l4, l5, l6] (.ref x :: st) I R Q := am_ev_nx (am_f280 (pc := 986) (q := (.aload_n 0, 1, (0, 0, 0))) rfl) rfl
set_option maxRecDepth 100000 in
theorem s280_987 {d : Nat} {l0 l1 l2 l3 l5 l6 : Value} {st : List Value} {x : Int32} {I : am_I} {R : am_R} {Q : am_Q} : am_ev d 280 987 [l0, l1, l2, l3, .int x, l5, l6] st I R Q = am_ev d 280 989 [l0, l1, l2, l3, .int x, l5, l6] (.int x :: st) I R Q := am_ev_nx (am_f280 (pc := 987) (q := (.iload 4, 2, (0, 0, 0))) rfl) rfl
set_option maxRecDepth 100000 in
theorem s280_989 {d : Nat} {l0 l1 l2 l3 l4 l5 l6 : Value} {st : List Value} {I : am_I} {R : am_R} {Q : am_Q} : am_ev d 280 989 [l0, l1, l2, l3, l4, l5, l6] st I R Q = am_ev d 280 990 [l0, l1, l2, l3, l4, l5, l6] (.int (nI 1) :: st) I R Q := am_ev_nx (am_f280 (pc := 989) (q := (.iconst 1, 1, (0, 0, 1))) rfl) rfl
set_option maxRecDepth 100000 in
theorem s280_990 {d : Nat} {l0 l1 l2 l3 l4 l5 l6 : Value} {st : List Value} {x y : Int32} {I : am_I} {R : am_R} {Q : am_Q} : am_ev d 280 990 [l0, l1, l2, l3, l4, l5, l6] (.int y :: .int x :: st) I R Q = am_ev d 280 991 [l0, l1, l2, l3, l4, l5, l6] (.int (x + y) :: st) I R Q := am_ev_nx (am_f280 (pc := 990) (q := (.iadd, 1, (0, 0, 0))) rfl) rfl
set_option maxRecDepth 100000 in
theorem s280_992 {d : Nat} {l1 l2 l3 l4 l5 l6 : Value} {st : List Value} {x : Nat} {I : am_I} {R : am_R} {Q : am_Q} : am_ev d 280 992 [.ref x, l1, l2, l3, l4, l5, l6] st I R Q = am_ev d 280 993 [.ref x, l1, l2, l3, l4, l5, l6] (.ref x :: st) I R Q := am_ev_nx (am_f280 (pc := 992) (q := (.aload_n 0, 1, (0, 0, 0))) rfl) rfl
set_option maxRecDepth 100000 in
theorem s280_993 {d : Nat} {l0 l1 l2 l3 l5 l6 : Value} {st : List Value} {x : Int32} {I : am_I} {R : am_R} {Q : am_Q} : am_ev d 280 993 [l0, l1, l2, l3, .int x, l5, l6] st I R Q = am_ev d 280 995 [l0, l1, l2, l3, .int x, l5, l6] (.int x :: st) I R Q := am_ev_nx (am_f280 (pc := 993) (q := (.iload 4, 2, (0, 0, 0))) rfl) rfl
set_option maxRecDepth 100000 in
theorem s280_995 {d : Nat} {l0 l1 l2 l3 l4 l5 l6 : Value} {st : List Value} {I : am_I} {R : am_R} {Q : am_Q} : am_ev d 280 995 [l0, l1, l2, l3, l4, l5, l6] st I R Q = am_ev d 280 996 [l0, l1, l2, l3, l4, l5, l6] (.int (nI 2) :: st) I R Q := am_ev_nx (am_f280 (pc := 995) (q := (.iconst 2, 1, (0, 0, 2))) rfl) rfl
set_option maxRecDepth 100000 in
theorem s280_996 {d : Nat} {l0 l1 l2 l3 l4 l5 l6 : Value} {st : List Value} {x y : Int32} {I : am_I} {R : am_R} {Q : am_Q} : am_ev d 280 996 [l0, l1, l2, l3, l4, l5, l6] (.int y :: .int x :: st) I R Q = am_ev d 280 997 [l0, l1, l2, l3, l4, l5, l6] (.int (x + y) :: st) I R Q := am_ev_nx (am_f280 (pc := 996) (q := (.iadd, 1, (0, 0, 0))) rfl) rfl
set_option maxRecDepth 100000 in
theorem s280_998 {d : Nat} {l0 l1 l2 l3 l4 l5 l6 : Value} {a0 : Nat} {a1 : Int32} {a2 : Int32} {r0 : Value} {I : am_I} {R : am_R} {Q : am_Q} : am_ev (d + 1) 280 998 [l0, l1, l2, l3, l4, l5, l6] [.int a2, .int a1, .ref (am_mk 12 a0), r0] I R Q = am_th (am_cal d 248 [.ref (am_mk 12 a0), .int a1, .int a2] I R Q) fun r I R Q => am_ev (d + 1) 280 1001 [l0, l1, l2, l3, l4, l5, l6] (r.toList ++ [r0]) I R Q := am_ev_call (am_f280 (pc := 998) (q := (.invokevirtual 124, 3, (248, 0, 0))) rfl) (am_inv_v [.int a1, .int a2] [r0] (by decide) (by decide) rfl rfl rfl (Nat.le_of_ble_eq_true rfl))
set_option maxRecDepth 100000 in
theorem s280_1001 {d : Nat} {l0 l1 l2 l3 l4 l5 l6 : Value} {st : List Value} {x y : Int32} {I : am_I} {R : am_R} {Q : am_Q} : am_ev d 280 1001 [l0, l1, l2, l3, l4, l5, l6] (.int y :: .int x :: st) I R Q = if x = y then am_ev d 280 1575 [l0, l1, l2, l3, l4, l5, l6] st I R Q else am_ev d 280 1004 [l0, l1, l2, l3, l4, l5, l6] st I R Q := am_ev_br (am_f280 (pc := 1001) (q := (.if_icmp .eq 574, 3, (0, 0, 0))) rfl) rfl
set_option maxRecDepth 100000 in
theorem s280_1004 {d : Nat} {l0 l1 l2 l3 l4 l5 l6 : Value} {st : List Value} {I : am_I} {R : am_R} {Q : am_Q} : am_ev d 280 1004 [l0, l1, l2, l3, l4, l5, l6] st I R Q = am_ev d 280 1005 [l0, l1, l2, l3, l4, l5, l6] (.int (nI 0) :: st) I R Q := am_ev_nx (am_f280 (pc := 1004) (q := (.iconst 0, 1, (0, 0, 0))) rfl) rfl
set_option maxRecDepth 100000 in
theorem s280_1005 {d : Nat} {l0 l1 l2 l3 l4 l5 l6 : Value} {x : Int32} {I : am_I} {R : am_R} {Q : am_Q} : am_ev d 280 1005 [l0, l1, l2, l3, l4, l5, l6] [.int x] I R Q = if am_bb x then some (some (.int x), I, R, Q) else none := am_ev_ifr (am_f280 (pc := 1005) (q := (.ireturn, 1, (1, 0, 0))) rfl) (am_zr_u rfl)
set_option maxRecDepth 100000 in
theorem s280_1006 {d : Nat} {l0 l2 l3 l4 l5 l6 : Value} {st : List Value} {x : Nat} {I : am_I} {R : am_R} {Q : am_Q} : am_ev d 280 1006 [l0, .ref x, l2, l3, l4, l5, l6] st I R Q = am_ev d 280 1007 [l0, .ref x, l2, l3, l4, l5, l6] (.ref x :: st) I R Q := am_ev_nx (am_f280 (pc := 1006) (q := (.aload_n 1, 1, (0, 0, 0))) rfl) rfl
set_option maxRecDepth 100000 in
theorem s280_1007 {d : Nat} {l1 l2 l3 l4 l5 l6 : Value} {st : List Value} {x : Nat} {I : am_I} {R : am_R} {Q : am_Q} : am_ev d 280 1007 [.ref x, l1, l2, l3, l4, l5, l6] st I R Q = am_ev d 280 1008 [.ref x, l1, l2, l3, l4, l5, l6] (.ref x :: st) I R Q := am_ev_nx (am_f280 (pc := 1007) (q := (.aload_n 0, 1, (0, 0, 0))) rfl) rfl
set_option maxRecDepth 100000 in
theorem s280_1008 {d : Nat} {l0 l1 l2 l3 l5 l6 : Value} {st : List Value} {x : Int32} {I : am_I} {R : am_R} {Q : am_Q} : am_ev d 280 1008 [l0, l1, l2, l3, .int x, l5, l6] st I R Q = am_ev d 280 1010 [l0, l1, l2, l3, .int x, l5, l6] (.int x :: st) I R Q := am_ev_nx (am_f280 (pc := 1008) (q := (.iload 4, 2, (0, 0, 0))) rfl) rfl
set_option maxRecDepth 100000 in
theorem s280_1010 {d : Nat} {l0 l1 l2 l3 l4 l5 l6 : Value} {st : List Value} {I : am_I} {R : am_R} {Q : am_Q} : am_ev d 280 1010 [l0, l1, l2, l3, l4, l5, l6] st I R Q = am_ev d 280 1011 [l0, l1, l2, l3, l4, l5, l6] (.int (nI 1) :: st) I R Q := am_ev_nx (am_f280 (pc := 1010) (q := (.iconst 1, 1, (0, 0, 1))) rfl) rfl
set_option maxRecDepth 100000 in
theorem s280_1011 {d : Nat} {l0 l1 l2 l3 l4 l5 l6 : Value} {st : List Value} {x y : Int32} {I : am_I} {R : am_R} {Q : am_Q} : am_ev d 280 1011 [l0, l1, l2, l3, l4, l5, l6] (.int y :: .int x :: st) I R Q = am_ev d 280 1012 [l0, l1, l2, l3, l4, l5, l6] (.int (x + y) :: st) I R Q := am_ev_nx (am_f280 (pc := 1011) (q := (.iadd, 1, (0, 0, 0))) rfl) rfl
set_option maxRecDepth 100000 in
theorem s280_1013 {d : Nat} {l0 l1 l2 l3 l4 l5 l6 : Value} {a0 : Nat} {a1 : Int32} {I : am_I} {R : am_R} {Q : am_Q} : am_ev (d + 1) 280 1013 [l0, l1, l2, l3, l4, l5, l6] [.int a1, .ref (am_mk 11 a0)] I R Q = am_th (am_cal d 136 [.ref (am_mk 11 a0), .int a1] I R Q) fun r I R Q => am_ev (d + 1) 280 1016 [l0, l1, l2, l3, l4, l5, l6] (r.toList ++ []) I R Q := am_ev_call (am_f280 (pc := 1013) (q := (.invokevirtual 125, 3, (136, 0, 0))) rfl) (am_inv_v [.int a1] [] (by decide) (by decide) rfl rfl rfl (Nat.le_of_ble_eq_true rfl))
set_option maxRecDepth 100000 in
theorem s280_1016 {d : Nat} {l0 l1 l3 l4 l5 l6 : Value} {st : List Value} {x : Nat} {I : am_I} {R : am_R} {Q : am_Q} : am_ev d 280 1016 [l0, l1, .ref x, l3, l4, l5, l6] st I R Q = am_ev d 280 1017 [l0, l1, .ref x, l3, l4, l5, l6] (.ref x :: st) I R Q := am_ev_nx (am_f280 (pc := 1016) (q := (.aload_n 2, 1, (0, 0, 0))) rfl) rfl
set_option maxRecDepth 100000 in
theorem s280_1017 {d : Nat} {l1 l2 l3 l4 l5 l6 : Value} {st : List Value} {x : Nat} {I : am_I} {R : am_R} {Q : am_Q} : am_ev d 280 1017 [.ref x, l1, l2, l3, l4, l5, l6] st I R Q = am_ev d 280 1018 [.ref x, l1, l2, l3, l4, l5, l6] (.ref x :: st) I R Q := am_ev_nx (am_f280 (pc := 1017) (q := (.aload_n 0, 1, (0, 0, 0))) rfl) rfl
set_option maxRecDepth 100000 in
theorem s280_1018 {d : Nat} {l0 l1 l2 l3 l5 l6 : Value} {st : List Value} {x : Int32} {I : am_I} {R : am_R} {Q : am_Q} : am_ev d 280 1018 [l0, l1, l2, l3, .int x, l5, l6] st I R Q = am_ev d 280 1020 [l0, l1, l2, l3, .int x, l5, l6] (.int x :: st) I R Q := am_ev_nx (am_f280 (pc := 1018) (q := (.iload 4, 2, (0, 0, 0))) rfl) rfl
set_option maxRecDepth 100000 in
theorem s280_1020 {d : Nat} {l0 l1 l2 l3 l4 l5 l6 : Value} {st : List Value} {I : am_I} {R : am_R} {Q : am_Q} : am_ev d 280 1020 [l0, l1, l2, l3, l4, l5, l6] st I R Q = am_ev d 280 1021 [l0, l1, l2, l3, l4, l5, l6] (.int (nI 1) :: st) I R Q := am_ev_nx (am_f280 (pc := 1020) (q := (.iconst 1, 1, (0, 0, 1))) rfl) rfl
set_option maxRecDepth 100000 in
theorem s280_1021 {d : Nat} {l0 l1 l2 l3 l4 l5 l6 : Value} {st : List Value} {x y : Int32} {I : am_I} {R : am_R} {Q : am_Q} : am_ev d 280 1021 [l0, l1, l2, l3, l4, l5, l6] (.int y :: .int x :: st) I R Q = am_ev d 280 1022 [l0, l1, l2, l3, l4, l5, l6] (.int (x + y) :: st) I R Q := am_ev_nx (am_f280 (pc := 1021) (q := (.iadd, 1, (0, 0, 0))) rfl) rfl
set_option maxRecDepth 100000 in
theorem s280_1023 {d : Nat} {l0 l1 l2 l3 l4 l5 l6 : Value} {a0 : Nat} {a1 : Int32} {r0 : Value} {I : am_I} {R : am_R} {Q : am_Q} : am_ev (d + 1) 280 1023 [l0, l1, l2, l3, l4, l5, l6] [.int a1, .ref (am_mk 12 a0), r0] I R Q = am_th (am_cal d 250 [.ref (am_mk 12 a0), .int a1] I R Q) fun r I R Q => am_ev (d + 1) 280 1026 [l0, l1, l2, l3, l4, l5, l6] (r.toList ++ [r0]) I R Q := am_ev_call (am_f280 (pc := 1023) (q := (.invokevirtual 128, 3, (250, 0, 0))) rfl) (am_inv_v [.int a1] [r0] (by decide) (by decide) rfl rfl rfl (Nat.le_of_ble_eq_true rfl))
set_option maxRecDepth 100000 in
theorem s280_1026 {d : Nat} {l0 l1 l2 l3 l4 l5 l6 : Value} {st : List Value} {x y : Int32} {I : am_I} {R : am_R} {Q : am_Q} : am_ev d 280 1026 [l0, l1, l2, l3, l4, l5, l6] (.int y :: .int x :: st) I R Q = if x = y then am_ev d 280 1575 [l0, l1, l2, l3, l4, l5, l6] st I R Q else am_ev d 280 1029 [l0, l1, l2, l3, l4, l5, l6] st I R Q := am_ev_br (am_f280 (pc := 1026) (q := (.if_icmp .eq 549, 3, (0, 0, 0))) rfl) rfl
set_option maxRecDepth 100000 in
theorem s280_1029 {d : Nat} {l0 l1 l2 l3 l4 l5 l6 : Value} {st : List Value} {I : am_I} {R : am_R} {Q : am_Q} : am_ev d 280 1029 [l0, l1, l2, l3, l4, l5, l6] st I R Q = am_ev d 280 1030 [l0, l1, l2, l3, l4, l5, l6] (.int (nI 0) :: st) I R Q := am_ev_nx (am_f280 (pc := 1029) (q := (.iconst 0, 1, (0, 0, 0))) rfl) rfl
set_option maxRecDepth 100000 in
theorem s280_1030 {d : Nat} {l0 l1 l2 l3 l4 l5 l6 : Value} {x : Int32} {I : am_I} {R : am_R} {Q : am_Q} : am_ev d 280 1030 [l0, l1, l2, l3, l4, l5, l6] [.int x] I R Q = if am_bb x then some (some (.int x), I, R, Q) else none := am_ev_ifr (am_f280 (pc := 1030) (q := (.ireturn, 1, (1, 0, 0))) rfl) (am_zr_u rfl)
set_option maxRecDepth 100000 in
theorem s280_1031 {d : Nat} {l0 l2 l3 l4 l5 l6 : Value} {st : List Value} {x : Nat} {I : am_I} {R : am_R} {Q : am_Q} : am_ev d 280 1031 [l0, .ref x, l2, l3, l4, l5, l6] st I R Q = am_ev d 280 1032 [l0, .ref x, l2, l3, l4, l5, l6] (.ref x :: st) I R Q := am_ev_nx (am_f280 (pc := 1031) (q := (.aload_n 1, 1, (0, 0, 0))) rfl) rfl
set_option maxRecDepth 100000 in
theorem s280_1032 {d : Nat} {l1 l2 l3 l4 l5 l6 : Value} {st : List Value} {x : Nat} {I : am_I} {R : am_R} {Q : am_Q} : am_ev d 280 1032 [.ref x, l1, l2, l3, l4, l5, l6] st I R Q = am_ev d 280 1033 [.ref x, l1, l2, l3, l4, l5, l6] (.ref x :: st) I R Q := am_ev_nx (am_f280 (pc := 1032) (q := (.aload_n 0, 1, (0, 0, 0))) rfl) rfl
set_option maxRecDepth 100000 in
theorem s280_1033 {d : Nat} {l0 l1 l2 l3 l5 l6 : Value} {st : List Value} {x : Int32} {I : am_I} {R : am_R} {Q : am_Q} : am_ev d 280 1033 [l0, l1, l2, l3, .int x, l5, l6] st I R Q = am_ev d 280 1035 [l0, l1, l2, l3, .int x, l5, l6] (.int x :: st) I R Q := am_ev_nx (am_f280 (pc := 1033) (q := (.iload 4, 2, (0, 0, 0))) rfl) rfl
set_option maxRecDepth 100000 in
theorem s280_1035 {d : Nat} {l0 l1 l2 l3 l4 l5 l6 : Value} {st : List Value} {I : am_I} {R : am_R} {Q : am_Q} : am_ev d 280 1035 [l0, l1, l2, l3, l4, l5, l6] st I R Q = am_ev d 280 1036 [l0, l1, l2, l3, l4, l5, l6] (.int (nI 1) :: st) I R Q := am_ev_nx (am_f280 (pc := 1035) (q := (.iconst 1, 1, (0, 0, 1))) rfl) rfl
set_option maxRecDepth 100000 in
theorem s280_1036 {d : Nat} {l0 l1 l2 l3 l4 l5 l6 : Value} {st : List Value} {x y : Int32} {I : am_I} {R : am_R} {Q : am_Q} : am_ev d 280 1036 [l0, l1, l2, l3, l4, l5, l6] (.int y :: .int x :: st) I R Q = am_ev d 280 1037 [l0, l1, l2, l3, l4, l5, l6] (.int (x + y) :: st) I R Q := am_ev_nx (am_f280 (pc := 1036) (q := (.iadd, 1, (0, 0, 0))) rfl) rfl
set_option maxRecDepth 100000 in
theorem s280_1038 {d : Nat} {l1 l2 l3 l4 l5 l6 : Value} {st : List Value} {x : Nat} {I : am_I} {R : am_R} {Q : am_Q} : am_ev d 280 1038 [.ref x, l1, l2, l3, l4, l5, l6] st I R Q = am_ev d 280 1039 [.ref x, l1, l2, l3, l4, l5, l6] (.ref x :: st) I R Q := am_ev_nx (am_f280 (pc := 1038) (q := (.aload_n 0, 1, (0, 0, 0))) rfl) rfl
set_option maxRecDepth 100000 in
theorem s280_1039 {d : Nat} {l0 l1 l2 l3 l5 l6 : Value} {st : List Value} {x : Int32} {I : am_I} {R : am_R} {Q : am_Q} : am_ev d 280 1039 [l0, l1, l2, l3, .int x, l5, l6] st I R Q = am_ev d 280 1041 [l0, l1, l2, l3, .int x, l5, l6] (.int x :: st) I R Q := am_ev_nx (am_f280 (pc := 1039) (q := (.iload 4, 2, (0, 0, 0))) rfl) rfl
set_option maxRecDepth 100000 in
theorem s280_1041 {d : Nat} {l0 l1 l2 l3 l4 l5 l6 : Value} {st : List Value} {I : am_I} {R : am_R} {Q : am_Q} : am_ev d 280 1041 [l0, l1, l2, l3, l4, l5, l6] st I R Q = am_ev d 280 1042 [l0, l1, l2, l3, l4, l5, l6] (.int (nI 2) :: st) I R Q := am_ev_nx (am_f280 (pc := 1041) (q := (.iconst 2, 1, (0, 0, 2))) rfl) rfl
set_option maxRecDepth 100000 in
theorem s280_1042 {d : Nat} {l0 l1 l2 l3 l4 l5 l6 : Value} {st : List Value} {x y : Int32} {I : am_I} {R : am_R} {Q : am_Q} : am_ev d 280 1042 [l0, l1, l2, l3, l4, l5, l6] (.int y :: .int x :: st) I R Q = am_ev d 280 1043 [l0, l1, l2, l3, l4, l5, l6] (.int (x + y) :: st) I R Q := am_ev_nx (am_f280 (pc := 1042) (q := (.iadd, 1, (0, 0, 0))) rfl) rfl
set_option maxRecDepth 100000 in
theorem s280_1044 {d : Nat} {l0 l1 l2 l3 l4 l5 l6 : Value} {a0 : Nat} {a1 : Int32} {a2 : Int32} {I : am_I} {R : am_R} {Q : am_Q} : am_ev (d + 1) 280 1044 [l0, l1, l2, l3, l4, l5, l6] [.int a2, .int a1, .ref (am_mk 11 a0)] I R Q = am_th (am_cal d 137 [.ref (am_mk 11 a0), .int a1, .int a2] I R Q) fun r I R Q => am_ev (d + 1) 280 1047 [l0, l1, l2, l3, l4, l5, l6] (r.toList ++ []) I R Q := am_ev_call (am_f280 (pc := 1044) (q := (.invokevirtual 129, 3, (137, 0, 0))) rfl) (am_inv_v [.int a1, .int a2] [] (by decide) (by decide) rfl rfl rfl (Nat.le_of_ble_eq_true rfl))
set_option maxRecDepth 100000 in
theorem s280_1047 {d : Nat} {l0 l1 l3 l4 l5 l6 : Value} {st : List Value} {x : Nat} {I : am_I} {R : am_R} {Q : am_Q} : am_ev d 280 1047 [l0, l1, .ref x, l3, l4, l5, l6] st I R Q = am_ev d 280 1048 [l0, l1, .ref x, l3, l4, l5, l6] (.ref x :: st) I R Q := am_ev_nx (am_f280 (pc := 1047) (q := (.aload_n 2, 1, (0, 0, 0))) rfl) rfl
set_option maxRecDepth 100000 in
theorem s280_1048 {d : Nat} {l1 l2 l3 l4 l5 l6 : Value} {st : List Value} {x : Nat} {I : am_I} {R : am_R} {Q : am_Q} : am_ev d 280 1048 [.ref x, l1, l2, l3, l4, l5, l6] st I R Q = am_ev d 280 1049 [.ref x, l1, l2, l3, l4, l5, l6] (.ref x :: st) I R Q := am_ev_nx (am_f280 (pc := 1048) (q := (.aload_n 0, 1, (0, 0, 0))) rfl) rfl
set_option maxRecDepth 100000 in
theorem s280_1049 {d : Nat} {l0 l1 l2 l3 l5 l6 : Value} {st : List Value} {x : Int32} {I : am_I} {R : am_R} {Q : am_Q} : am_ev d 280 1049 [l0, l1, l2, l3, .int x, l5, l6] st I R Q = am_ev d 280 1051 [l0, l1, l2, l3, .int x, l5, l6] (.int x :: st) I R Q := am_ev_nx (am_f280 (pc := 1049) (q := (.iload 4, 2, (0, 0, 0))) rfl) rfl
set_option maxRecDepth 100000 in
theorem s280_1051 {d : Nat} {l0 l1 l2 l3 l4 l5 l6 : Value} {st : List Value} {I : am_I} {R : am_R} {Q : am_Q} : am_ev d 280 1051 [l0, l1, l2, l3, l4, l5, l6] st I R Q = am_ev d 280 1052 [l0, l1, l2, l3, l4, l5, l6] (.int (nI 1) :: st) I R Q := am_ev_nx (am_f280 (pc := 1051) (q := (.iconst 1, 1, (0, 0, 1))) rfl) rfl
set_option maxRecDepth 100000 in
theorem s280_1052 {d : Nat} {l0 l1 l2 l3 l4 l5 l6 : Value} {st : List Value} {x y : Int32} {I : am_I} {R : am_R} {Q : am_Q} : am_ev d 280 1052 [l0, l1, l2, l3, l4, l5, l6] (.int y :: .int x :: st) I R Q = am_ev d 280 1053 [l0, l1, l2, l3, l4, l5, l6] (.int (x + y) :: st) I R Q := am_ev_nx (am_f280 (pc := 1052) (q := (.iadd, 1, (0, 0, 0))) rfl) rfl
set_option maxRecDepth 100000 in
theorem s280_1054 {d : Nat} {l1 l2 l3 l4 l5 l6 : Value} {st : List Value} {x : Nat} {I : am_I} {R : am_R} {Q : am_Q} : am_ev d 280 1054 [.ref x, l1, l2, l3, l4, l5, l6] st I R Q = am_ev d 280 1055 [.ref x, l1, l2, l3, l4, l5, l6] (.ref x :: st) I R Q := am_ev_nx (am_f280 (pc := 1054) (q := (.aload_n 0, 1, (0, 0, 0))) rfl) rfl
set_option maxRecDepth 100000 in
theorem s280_1055 {d : Nat} {l0 l1 l2 l3 l5 l6 : Value} {st : List Value} {x : Int32} {I : am_I} {R : am_R} {Q : am_Q} : am_ev d 280 1055 [l0, l1, l2, l3, .int x, l5, l6] st I R Q = am_ev d 280 1057 [l0, l1, l2, l3, .int x, l5, l6] (.int x :: st) I R Q := am_ev_nx (am_f280 (pc := 1055) (q := (.iload 4, 2, (0, 0, 0))) rfl) rfl
set_option maxRecDepth 100000 in
theorem s280_1057 {d : Nat} {l0 l1 l2 l3 l4 l5 l6 : Value} {st : List Value} {I : am_I} {R : am_R} {Q : am_Q} : am_ev d 280 1057 [l0, l1, l2, l3, l4, l5, l6] st I R Q = am_ev d 280 1058 [l0, l1, l2, l3, l4, l5, l6] (.int (nI 2) :: st) I R Q := am_ev_nx (am_f280 (pc := 1057) (q := (.iconst 2, 1, (0, 0, 2))) rfl) rfl
set_option maxRecDepth 100000 in
theorem s280_1058 {d : Nat} {l0 l1 l2 l3 l4 l5 l6 : Value} {st : List Value} {x y : Int32} {I : am_I} {R : am_R} {Q : am_Q} : am_ev d 280 1058 [l0, l1, l2, l3, l4, l5, l6] (.int y :: .int x :: st) I R Q = am_ev d 280 1059 [l0, l1, l2, l3, l4, l5, l6] (.int (x + y) :: st) I R Q := am_ev_nx (am_f280 (pc := 1058) (q := (.iadd, 1, (0, 0, 0))) rfl) rfl
set_option maxRecDepth 100000 in
theorem s280_1060 {d : Nat} {l0 l1 l2 l3 l4 l5 l6 : Value} {a0 : Nat} {a1 : Int32} {a2 : Int32} {r0 : Value} {I : am_I} {R : am_R} {Q : am_Q} : am_ev (d + 1) 280 1060 [l0, l1, l2, l3, l4, l5, l6] [.int a2, .int a1, .ref (am_mk 12 a0), r0] I R Q = am_th (am_cal d 252 [.ref (am_mk 12 a0), .int a1, .int a2] I R Q) fun r I R Q => am_ev (d + 1) 280 1063 [l0, l1, l2, l3, l4, l5, l6] (r.toList ++ [r0]) I R Q := am_ev_call (am_f280 (pc := 1060) (q := (.invokevirtual 132, 3, (252, 0, 0))) rfl) (am_inv_v [.int a1, .int a2] [r0] (by decide) (by decide) rfl rfl rfl (Nat.le_of_ble_eq_true rfl))
set_option maxRecDepth 100000 in
theorem s280_1063 {d : Nat} {l0 l1 l2 l3 l4 l5 l6 : Value} {st : List Value} {x y : Int32} {I : am_I} {R : am_R} {Q : am_Q} : am_ev d 280 1063 [l0, l1, l2, l3, l4, l5, l6] (.int y :: .int x :: st) I R Q = if x = y then am_ev d 280 1575 [l0, l1, l2, l3, l4, l5, l6] st I R Q else am_ev d 280 1066 [l0, l1, l2, l3, l4, l5, l6] st I R Q := am_ev_br (am_f280 (pc := 1063) (q := (.if_icmp .eq 512, 3, (0, 0, 0))) rfl) rfl
set_option maxRecDepth 100000 in
theorem s280_1066 {d : Nat} {l0 l1 l2 l3 l4 l5 l6 : Value} {st : List Value} {I : am_I} {R : am_R} {Q : am_Q} : am_ev d 280 1066 [l0, l1, l2, l3, l4, l5, l6] st I R Q = am_ev d 280 1067 [l0, l1, l2, l3, l4, l5, l6] (.int (nI 0) :: st) I R Q := am_ev_nx (am_f280 (pc := 1066) (q := (.iconst 0, 1, (0, 0, 0))) rfl) rfl
set_option maxRecDepth 100000 in
theorem s280_1067 {d : Nat} {l0 l1 l2 l3 l4 l5 l6 : Value} {x : Int32} {I : am_I} {R : am_R} {Q : am_Q} : am_ev d 280 1067 [l0, l1, l2, l3, l4, l5, l6] [.int x] I R Q = if am_bb x then some (some (.int x), I, R, Q) else none := am_ev_ifr (am_f280 (pc := 1067) (q := (.ireturn, 1, (1, 0, 0))) rfl) (am_zr_u rfl)
set_option maxRecDepth 100000 in
theorem s280_1068 {d : Nat} {l0 l2 l3 l4 l5 l6 : Value} {st : List Value} {x : Nat} {I : am_I} {R : am_R} {Q : am_Q} : am_ev d 280 1068 [l0, .ref x, l2, l3, l4, l5, l6] st I R Q = am_ev d 280 1069 [l0, .ref x, l2, l3, l4, l5, l6] (.ref x :: st) I R Q := am_ev_nx (am_f280 (pc := 1068) (q := (.aload_n 1, 1, (0, 0, 0))) rfl) rfl
set_option maxRecDepth 100000 in
theorem s280_1069 {d : Nat} {l1 l2 l3 l4 l5 l6 : Value} {st : List Value} {x : Nat} {I : am_I} {R : am_R} {Q : am_Q} : am_ev d 280 1069 [.ref x, l1, l2, l3, l4, l5, l6] st I R Q = am_ev d 280 1070 [.ref x, l1, l2, l3, l4, l5, l6] (.ref x :: st) I R Q := am_ev_nx (am_f280 (pc := 1069) (q := (.aload_n 0, 1, (0, 0, 0))) rfl) rfl
set_option maxRecDepth 100000 in
theorem s280_1070 {d : Nat} {l0 l1 l2 l3 l5 l6 : Value} {st : List Value} {x : Int32} {I : am_I} {R : am_R} {Q : am_Q} : am_ev d 280 1070 [l0, l1, l2, l3, .int x, l5, l6] st I R Q = am_ev d 280 1072 [l0, l1, l2, l3, .int x, l5, l6] (.int x :: st) I R Q := am_ev_nx (am_f280 (pc := 1070) (q := (.iload 4, 2, (0, 0, 0))) rfl) rfl
set_option maxRecDepth 100000 in
theorem s280_1072 {d : Nat} {l0 l1 l2 l3 l4 l5 l6 : Value} {st : List Value} {I : am_I} {R : am_R} {Q : am_Q} : am_ev d 280 1072 [l0, l1, l2, l3, l4, l5, l6] st I R Q = am_ev d 280 1073 [l0, l1, l2, l3, l4, l5, l6] (.int (nI 1) :: st) I R Q := am_ev_nx (am_f280 (pc := 1072) (q := (.iconst 1, 1, (0, 0, 1))) rfl) rfl
set_option maxRecDepth 100000 in
theorem s280_1073 {d : Nat} {l0 l1 l2 l3 l4 l5 l6 : Value} {st : List Value} {x y : Int32} {I : am_I} {R : am_R} {Q : am_Q} : am_ev d 280 1073 [l0, l1, l2, l3, l4, l5, l6] (.int y :: .int x :: st) I R Q = am_ev d 280 1074 [l0, l1, l2, l3, l4, l5, l6] (.int (x + y) :: st) I R Q := am_ev_nx (am_f280 (pc := 1073) (q := (.iadd, 1, (0, 0, 0))) rfl) rfl
set_option maxRecDepth 100000 in
theorem s280_1075 {d : Nat} {l1 l2 l3 l4 l5 l6 : Value} {st : List Value} {x : Nat} {I : am_I} {R : am_R} {Q : am_Q} : am_ev d 280 1075 [.ref x, l1, l2, l3, l4, l5, l6] st I R Q = am_ev d 280 1076 [.ref x, l1, l2, l3, l4, l5, l6] (.ref x :: st) I R Q := am_ev_nx (am_f280 (pc := 1075) (q := (.aload_n 0, 1, (0, 0, 0))) rfl) rfl
set_option maxRecDepth 100000 in
theorem s280_1076 {d : Nat} {l0 l1 l2 l3 l5 l6 : Value} {st : List Value} {x : Int32} {I : am_I} {R : am_R} {Q : am_Q} : am_ev d 280 1076 [l0, l1, l2, l3, .int x, l5, l6] st I R Q = am_ev d 280 1078 [l0, l1, l2, l3, .int x, l5, l6] (.int x :: st) I R Q := am_ev_nx (am_f280 (pc := 1076) (q := (.iload 4, 2, (0, 0, 0))) rfl) rfl
set_option maxRecDepth 100000 in
theorem s280_1078 {d : Nat} {l0 l1 l2 l3 l4 l5 l6 : Value} {st : List Value} {I : am_I} {R : am_R} {Q : am_Q} : am_ev d 280 1078 [l0, l1, l2, l3, l4, l5, l6] st I R Q = am_ev d 280 1079 [l0, l1, l2, l3, l4, l5, l6] (.int (nI 2) :: st) I R Q := am_ev_nx (am_f280 (pc := 1078) (q := (.iconst 2, 1, (0, 0, 2))) rfl) rfl
set_option maxRecDepth 100000 in
theorem s280_1079 {d : Nat} {l0 l1 l2 l3 l4 l5 l6 : Value} {st : List Value} {x y : Int32} {I : am_I} {R : am_R} {Q : am_Q} : am_ev d 280 1079 [l0, l1, l2, l3, l4, l5, l6] (.int y :: .int x :: st) I R Q = am_ev d 280 1080 [l0, l1, l2, l3, l4, l5, l6] (.int (x + y) :: st) I R Q := am_ev_nx (am_f280 (pc := 1079) (q := (.iadd, 1, (0, 0, 0))) rfl) rfl
set_option maxRecDepth 100000 in
theorem s280_1081 {d : Nat} {l0 l1 l2 l3 l4 l5 l6 : Value} {st : List Value} {x : Int32} {I : am_I} {R : am_R} {Q : am_Q} : am_ev d 280 1081 [l0, l1, l2, l3, l4, l5, l6] (.int x :: st) I R Q = if x = 0 then am_ev d 280 1088 [l0, l1, l2, l3, l4, l5, l6] st I R Q else am_ev d 280 1084 [l0, l1, l2, l3, l4, l5, l6] st I R Q := am_ev_br (am_f280 (pc := 1081) (q := (.ifCond .eq 7, 3, (0, 0, 0))) rfl) rfl
set_option maxRecDepth 100000 in
theorem s280_1084 {d : Nat} {l0 l1 l2 l3 l4 l5 l6 : Value} {st : List Value} {I : am_I} {R : am_R} {Q : am_Q} : am_ev d 280 1084 [l0, l1, l2, l3, l4, l5, l6] st I R Q = am_ev d 280 1085 [l0, l1, l2, l3, l4, l5, l6] (.int (nI 1) :: st) I R Q := am_ev_nx (am_f280 (pc := 1084) (q := (.iconst 1, 1, (0, 0, 1))) rfl) rfl
set_option maxRecDepth 100000 in
theorem s280_1085 {d : Nat} {l0 l1 l2 l3 l4 l5 l6 : Value} {st : List Value} {I : am_I} {R : am_R} {Q : am_Q} : am_ev d 280 1085 [l0, l1, l2, l3, l4, l5, l6] st I R Q = am_ev d 280 1089 [l0, l1, l2, l3, l4, l5, l6] st I R Q := am_ev_nx (am_f280 (pc := 1085) (q := (.goto 4, 3, (0, 0, 0))) rfl) rfl
set_option maxRecDepth 100000 in
theorem s280_1088 {d : Nat} {l0 l1 l2 l3 l4 l5 l6 : Value} {st : List Value} {I : am_I} {R : am_R} {Q : am_Q} : am_ev d 280 1088 [l0, l1, l2, l3, l4, l5, l6] st I R Q = am_ev d 280 1089 [l0, l1, l2, l3, l4, l5, l6] (.int (nI 0) :: st) I R Q := am_ev_nx (am_f280 (pc := 1088) (q := (.iconst 0, 1, (0, 0, 0))) rfl) rfl
set_option maxRecDepth 100000 in
theorem s280_1089 {d : Nat} {l0 l1 l2 l3 l4 l5 l6 : Value} {a0 : Nat} {a1 : Int32} {a2 : Int32} {I : am_I} {R : am_R} {Q : am_Q} : am_ev (d + 1) 280 1089 [l0, l1, l2, l3, l4, l5, l6] [.int a2, .int a1, .ref (am_mk 11 a0)] I R Q = am_th (am_cal d 138 [.ref (am_mk 11 a0), .int a1, .int a2] I R Q) fun r I R Q => am_ev (d + 1) 280 1092 [l0, l1, l2, l3, l4, l5, l6] (r.toList ++ []) I R Q := am_ev_call (am_f280 (pc := 1089) (q := (.invokevirtual 133, 3, (138, 0, 0))) rfl) (am_inv_v [.int a1, .int a2] [] (by decide) (by decide) rfl rfl rfl (Nat.le_of_ble_eq_true rfl))
set_option maxRecDepth 100000 in
theorem s280_1092 {d : Nat} {l0 l1 l3 l4 l5 l6 : Value} {st : List Value} {x : Nat} {I : am_I} {R : am_R} {Q : am_Q} : am_ev d 280 1092 [l0, l1, .ref x, l3, l4, l5, l6] st I R Q = am_ev d 280 1093 [l0, l1, .ref x, l3, l4, l5, l6] (.ref x :: st) I R Q := am_ev_nx (am_f280 (pc := 1092) (q := (.aload_n 2, 1, (0, 0, 0))) rfl) rfl
set_option maxRecDepth 100000 in
theorem s280_1093 {d : Nat} {l1 l2 l3 l4 l5 l6 : Value} {st : List Value} {x : Nat} {I : am_I} {R : am_R} {Q : am_Q} : am_ev d 280 1093 [.ref x, l1, l2, l3, l4, l5, l6] st I R Q = am_ev d 280 1094 [.ref x, l1, l2, l3, l4, l5, l6] (.ref x :: st) I R Q := am_ev_nx (am_f280 (pc := 1093) (q := (.aload_n 0, 1, (0, 0, 0))) rfl) rfl
set_option maxRecDepth 100000 in
theorem s280_1094 {d : Nat} {l0 l1 l2 l3 l5 l6 : Value} {st : List Value} {x : Int32} {I : am_I} {R : am_R} {Q : am_Q} : am_ev d 280 1094 [l0, l1, l2, l3, .int x, l5, l6] st I R Q = am_ev d 280 1096 [l0, l1, l2, l3, .int x, l5, l6] (.int x :: st) I R Q := am_ev_nx (am_f280 (pc := 1094) (q := (.iload 4, 2, (0, 0, 0))) rfl) rfl
set_option maxRecDepth 100000 in
theorem s280_1096 {d : Nat} {l0 l1 l2 l3 l4 l5 l6 : Value} {st : List Value} {I : am_I} {R : am_R} {Q : am_Q} : am_ev d 280 1096 [l0, l1, l2, l3, l4, l5, l6] st I R Q = am_ev d 280 1097 [l0, l1, l2, l3, l4, l5, l6] (.int (nI 1) :: st) I R Q := am_ev_nx (am_f280 (pc := 1096) (q := (.iconst 1, 1, (0, 0, 1))) rfl) rfl
set_option maxRecDepth 100000 in
theorem s280_1097 {d : Nat} {l0 l1 l2 l3 l4 l5 l6 : Value} {st : List Value} {x y : Int32} {I : am_I} {R : am_R} {Q : am_Q} : am_ev d 280 1097 [l0, l1, l2, l3, l4, l5, l6] (.int y :: .int x :: st) I R Q = am_ev d 280 1098 [l0, l1, l2, l3, l4, l5, l6] (.int (x + y) :: st) I R Q := am_ev_nx (am_f280 (pc := 1097) (q := (.iadd, 1, (0, 0, 0))) rfl) rfl
set_option maxRecDepth 100000 in
theorem s280_1099 {d : Nat} {l1 l2 l3 l4 l5 l6 : Value} {st : List Value} {x : Nat} {I : am_I} {R : am_R} {Q : am_Q} : am_ev d 280 1099 [.ref x, l1, l2, l3, l4, l5, l6] st I R Q = am_ev d 280 1100 [.ref x, l1, l2, l3, l4, l5, l6] (.ref x :: st) I R Q := am_ev_nx (am_f280 (pc := 1099) (q := (.aload_n 0, 1, (0, 0, 0))) rfl) rfl
set_option maxRecDepth 100000 in
theorem s280_1100 {d : Nat} {l0 l1 l2 l3 l5 l6 : Value} {st : List Value} {x : Int32} {I : am_I} {R : am_R} {Q : am_Q} : am_ev d 280 1100 [l0, l1, l2, l3, .int x, l5, l6] st I R Q = am_ev d 280 1102 [l0, l1, l2, l3, .int x, l5, l6] (.int x :: st) I R Q := am_ev_nx (am_f280 (pc := 1100) (q := (.iload 4, 2, (0, 0, 0))) rfl) rfl
set_option maxRecDepth 100000 in
theorem s280_1102 {d : Nat} {l0 l1 l2 l3 l4 l5 l6 : Value} {st : List Value} {I : am_I} {R : am_R} {Q : am_Q} : am_ev d 280 1102 [l0, l1, l2, l3, l4, l5, l6] st I R Q = am_ev d 280 1103 [l0, l1, l2, l3, l4, l5, l6] (.int (nI 2) :: st) I R Q := am_ev_nx (am_f280 (pc := 1102) (q := (.iconst 2, 1, (0, 0, 2))) rfl) rfl
set_option maxRecDepth 100000 in
theorem s280_1103 {d : Nat} {l0 l1 l2 l3 l4 l5 l6 : Value} {st : List Value} {x y : Int32} {I : am_I} {R : am_R} {Q : am_Q} : am_ev d 280 1103 [l0, l1, l2, l3, l4, l5, l6] (.int y :: .int x :: st) I R Q = am_ev d 280 1104 [l0, l1, l2, l3, l4, l5, l6] (.int (x + y) :: st) I R Q := am_ev_nx (am_f280 (pc := 1103) (q := (.iadd, 1, (0, 0, 0))) rfl) rfl
set_option maxRecDepth 100000 in
theorem s280_1105 {d : Nat} {l0 l1 l2 l3 l4 l5 l6 : Value} {st : List Value} {x : Int32} {I : am_I} {R : am_R} {Q : am_Q} : am_ev d 280 1105 [l0, l1, l2, l3, l4, l5, l6] (.int x :: st) I R Q = if x = 0 then am_ev d 280 1112 [l0, l1, l2, l3, l4, l5, l6] st I R Q else am_ev d 280 1108 [l0, l1, l2, l3, l4, l5, l6] st I R Q := am_ev_br (am_f280 (pc := 1105) (q := (.ifCond .eq 7, 3, (0, 0, 0))) rfl) rfl
set_option maxRecDepth 100000 in
theorem s280_1108 {d : Nat} {l0 l1 l2 l3 l4 l5 l6 : Value} {st : List Value} {I : am_I} {R : am_R} {Q : am_Q} : am_ev d 280 1108 [l0, l1, l2, l3, l4, l5, l6] st I R Q = am_ev d 280 1109 [l0, l1, l2, l3, l4, l5, l6] (.int (nI 1) :: st) I R Q := am_ev_nx (am_f280 (pc := 1108) (q := (.iconst 1, 1, (0, 0, 1))) rfl) rfl
set_option maxRecDepth 100000 in
theorem s280_1109 {d : Nat} {l0 l1 l2 l3 l4 l5 l6 : Value} {st : List Value} {I : am_I} {R : am_R} {Q : am_Q} : am_ev d 280 1109 [l0, l1, l2, l3, l4, l5, l6] st I R Q = am_ev d 280 1113 [l0, l1, l2, l3, l4, l5, l6] st I R Q := am_ev_nx (am_f280 (pc := 1109) (q := (.goto 4, 3, (0, 0, 0))) rfl) rfl
set_option maxRecDepth 100000 in
theorem s280_1112 {d : Nat} {l0 l1 l2 l3 l4 l5 l6 : Value} {st : List Value} {I : am_I} {R : am_R} {Q : am_Q} : am_ev d 280 1112 [l0, l1, l2, l3, l4, l5, l6] st I R Q = am_ev d 280 1113 [l0, l1, l2, l3, l4, l5, l6] (.int (nI 0) :: st) I R Q := am_ev_nx (am_f280 (pc := 1112) (q := (.iconst 0, 1, (0, 0, 0))) rfl) rfl
set_option maxRecDepth 100000 in
theorem s280_1113 {d : Nat} {l0 l1 l2 l3 l4 l5 l6 : Value} {a0 : Nat} {a1 : Int32} {a2 : Int32} {r0 : Value} {I : am_I} {R : am_R} {Q : am_Q} : am_ev (d + 1) 280 1113 [l0, l1, l2, l3, l4, l5, l6] [.int a2, .int a1, .ref (am_mk 12 a0), r0] I R Q = am_th (am_cal d 253 [.ref (am_mk 12 a0), .int a1, .int a2] I R Q) fun r I R Q => am_ev (d + 1) 280 1116 [l0, l1, l2, l3, l4, l5, l6] (r.toList ++ [r0]) I R Q := am_ev_call (am_f280 (pc := 1113) (q := (.invokevirtual 137, 3, (253, 0, 0))) rfl) (am_inv_v [.int a1, .int a2] [r0] (by decide) (by decide) rfl rfl rfl (Nat.le_of_ble_eq_true rfl))
set_option maxRecDepth 100000 in
theorem s280_1116 {d : Nat} {l0 l1 l2 l3 l4 l5 l6 : Value} {st : List Value} {x y : Int32} {I : am_I} {R : am_R} {Q : am_Q} : am_ev d 280 1116 [l0, l1, l2, l3, l4, l5, l6] (.int y :: .int x :: st) I R Q = if x = y then am_ev d 280 1575 [l0, l1, l2, l3, l4, l5, l6] st I R Q else am_ev d 280 1119 [l0, l1, l2, l3, l4, l5, l6] st I R Q := am_ev_br (am_f280 (pc := 1116) (q := (.if_icmp .eq 459, 3, (0, 0, 0))) rfl) rfl
set_option maxRecDepth 100000 in
theorem s280_1119 {d : Nat} {l0 l1 l2 l3 l4 l5 l6 : Value} {st : List Value} {I : am_I} {R : am_R} {Q : am_Q} : am_ev d 280 1119 [l0, l1, l2, l3, l4, l5, l6] st I R Q = am_ev d 280 1120 [l0, l1, l2, l3, l4, l5, l6] (.int (nI 0) :: st) I R Q := am_ev_nx (am_f280 (pc := 1119) (q := (.iconst 0, 1, (0, 0, 0))) rfl) rfl
set_option maxRecDepth 100000 in
theorem s280_1120 {d : Nat} {l0 l1 l2 l3 l4 l5 l6 : Value} {x : Int32} {I : am_I} {R : am_R} {Q : am_Q} : am_ev d 280 1120 [l0, l1, l2, l3, l4, l5, l6] [.int x] I R Q = if am_bb x then some (some (.int x), I, R, Q) else none := am_ev_ifr (am_f280 (pc := 1120) (q := (.ireturn, 1, (1, 0, 0))) rfl) (am_zr_u rfl)
set_option maxRecDepth 100000 in
theorem s280_1121 {d : Nat} {l0 l2 l3 l4 l5 l6 : Value} {st : List Value} {x : Nat} {I : am_I} {R : am_R} {Q : am_Q} : am_ev d 280 1121 [l0, .ref x, l2, l3, l4, l5, l6] st I R Q = am_ev d 280 1122 [l0, .ref x, l2, l3, l4, l5, l6] (.ref x :: st) I R Q := am_ev_nx (am_f280 (pc := 1121) (q := (.aload_n 1, 1, (0, 0, 0))) rfl) rfl
set_option maxRecDepth 100000 in
theorem s280_1122 {d : Nat} {l1 l2 l3 l4 l5 l6 : Value} {st : List Value} {x : Nat} {I : am_I} {R : am_R} {Q : am_Q} : am_ev d 280 1122 [.ref x, l1, l2, l3, l4, l5, l6] st I R Q = am_ev d 280 1123 [.ref x, l1, l2, l3, l4, l5, l6] (.ref x :: st) I R Q := am_ev_nx (am_f280 (pc := 1122) (q := (.aload_n 0, 1, (0, 0, 0))) rfl) rfl
set_option maxRecDepth 100000 in
theorem s280_1123 {d : Nat} {l0 l1 l2 l3 l5 l6 : Value} {st : List Value} {x : Int32} {I : am_I} {R : am_R} {Q : am_Q} : am_ev d 280 1123 [l0, l1, l2, l3, .int x, l5, l6] st I R Q = am_ev d 280 1125 [l0, l1, l2, l3, .int x, l5, l6] (.int x :: st) I R Q := am_ev_nx (am_f280 (pc := 1123) (q := (.iload 4, 2, (0, 0, 0))) rfl) rfl
set_option maxRecDepth 100000 in
theorem s280_1125 {d : Nat} {l0 l1 l2 l3 l4 l5 l6 : Value} {st : List Value} {I : am_I} {R : am_R} {Q : am_Q} : am_ev d 280 1125 [l0, l1, l2, l3, l4, l5, l6] st I R Q = am_ev d 280 1126 [l0, l1, l2, l3, l4, l5, l6] (.int (nI 1) :: st) I R Q := am_ev_nx (am_f280 (pc := 1125) (q := (.iconst 1, 1, (0, 0, 1))) rfl) rfl
set_option maxRecDepth 100000 in
theorem s280_1126 {d : Nat} {l0 l1 l2 l3 l4 l5 l6 : Value} {st : List Value} {x y : Int32} {I : am_I} {R : am_R} {Q : am_Q} : am_ev d 280 1126 [l0, l1, l2, l3, l4, l5, l6] (.int y :: .int x :: st) I R Q = am_ev d 280 1127 [l0, l1, l2, l3, l4, l5, l6] (.int (x + y) :: st) I R Q := am_ev_nx (am_f280 (pc := 1126) (q := (.iadd, 1, (0, 0, 0))) rfl) rfl
set_option maxRecDepth 100000 in
theorem s280_1128 {d : Nat} {l1 l2 l3 l4 l5 l6 : Value} {st : List Value} {x : Nat} {I : am_I} {R : am_R} {Q : am_Q} : am_ev d 280 1128 [.ref x, l1, l2, l3, l4, l5, l6] st I R Q = am_ev d 280 1129 [.ref x, l1, l2, l3, l4, l5, l6] (.ref x :: st) I R Q := am_ev_nx (am_f280 (pc := 1128) (q := (.aload_n 0, 1, (0, 0, 0))) rfl) rfl
set_option maxRecDepth 100000 in
theorem s280_1129 {d : Nat} {l0 l1 l2 l3 l5 l6 : Value} {st : List Value} {x : Int32} {I : am_I} {R : am_R} {Q : am_Q} : am_ev d 280 1129 [l0, l1, l2, l3, .int x, l5, l6] st I R Q = am_ev d 280 1131 [l0, l1, l2, l3, .int x, l5, l6] (.int x :: st) I R Q := am_ev_nx (am_f280 (pc := 1129) (q := (.iload 4, 2, (0, 0, 0))) rfl) rfl
set_option maxRecDepth 100000 in
theorem s280_1131 {d : Nat} {l0 l1 l2 l3 l4 l5 l6 : Value} {st : List Value} {I : am_I} {R : am_R} {Q : am_Q} : am_ev d 280 1131 [l0, l1, l2, l3, l4, l5, l6] st I R Q = am_ev d 280 1132 [l0, l1, l2, l3, l4, l5, l6] (.int (nI 2) :: st) I R Q := am_ev_nx (am_f280 (pc := 1131) (q := (.iconst 2, 1, (0, 0, 2))) rfl) rfl
set_option maxRecDepth 100000 in
theorem s280_1132 {d : Nat} {l0 l1 l2 l3 l4 l5 l6 : Value} {st : List Value} {x y : Int32} {I : am_I} {R : am_R} {Q : am_Q} : am_ev d 280 1132 [l0, l1, l2, l3, l4, l5, l6] (.int y :: .int x :: st) I R Q = am_ev d 280 1133 [l0, l1, l2, l3, l4, l5, l6] (.int (x + y) :: st) I R Q := am_ev_nx (am_f280 (pc := 1132) (q := (.iadd, 1, (0, 0, 0))) rfl) rfl
set_option maxRecDepth 100000 in
theorem s280_1134 {d : Nat} {l0 l1 l2 l3 l4 l5 l6 : Value} {a0 : Nat} {a1 : Int32} {a2 : Int32} {I : am_I} {R : am_R} {Q : am_Q} : am_ev (d + 1) 280 1134 [l0, l1, l2, l3, l4, l5, l6] [.int a2, .int a1, .ref (am_mk 11 a0)] I R Q = am_th (am_cal d 139 [.ref (am_mk 11 a0), .int a1, .int a2] I R Q) fun r I R Q => am_ev (d + 1) 280 1137 [l0, l1, l2, l3, l4, l5, l6] (r.toList ++ []) I R Q := am_ev_call (am_f280 (pc := 1134) (q := (.invokevirtual 138, 3, (139, 0, 0))) rfl) (am_inv_v [.int a1, .int a2] [] (by decide) (by decide) rfl rfl rfl (Nat.le_of_ble_eq_true rfl))
set_option maxRecDepth 100000 in
theorem s280_1137 {d : Nat} {l0 l1 l3 l4 l5 l6 : Value} {st : List Value} {x : Nat} {I : am_I} {R : am_R} {Q : am_Q} : am_ev d 280 1137 [l0, l1, .ref x, l3, l4, l5, l6] st I R Q = am_ev d 280 1138 [l0, l1, .ref x, l3, l4, l5, l6] (.ref x :: st) I R Q := am_ev_nx (am_f280 (pc := 1137) (q := (.aload_n 2, 1, (0, 0, 0))) rfl) rfl
set_option maxRecDepth 100000 in
theorem s280_1138 {d : Nat} {l1 l2 l3 l4 l5 l6 : Value} {st : List Value} {x : Nat} {I : am_I} {R : am_R} {Q : am_Q} : am_ev d 280 1138 [.ref x, l1, l2, l3, l4, l5, l6] st I R Q = am_ev d 280 1139 [.ref x, l1, l2, l3, l4, l5, l6] (.ref x :: st) I R Q := am_ev_nx (am_f280 (pc := 1138) (q := (.aload_n 0, 1, (0, 0, 0))) rfl) rfl
set_option maxRecDepth 100000 in
theorem s280_1139 {d : Nat} {l0 l1 l2 l3 l5 l6 : Value} {st : List Value} {x : Int32} {I : am_I} {R : am_R} {Q : am_Q} : am_ev d 280 1139 [l0, l1, l2, l3, .int x, l5, l6] st I R Q = am_ev d 280 1141 [l0, l1, l2, l3, .int x, l5, l6] (.int x :: st) I R Q := am_ev_nx (am_f280 (pc := 1139) (q := (.iload 4, 2, (0, 0, 0))) rfl) rfl
set_option maxRecDepth 100000 in
theorem s280_1141 {d : Nat} {l0 l1 l2 l3 l4 l5 l6 : Value} {st : List Value} {I : am_I} {R : am_R} {Q : am_Q} : am_ev d 280 1141 [l0, l1, l2, l3, l4, l5, l6] st I R Q = am_ev d 280 1142 [l0, l1, l2, l3, l4, l5, l6] (.int (nI 1) :: st) I R Q := am_ev_nx (am_f280 (pc := 1141) (q := (.iconst 1, 1, (0, 0, 1))) rfl) rfl
set_option maxRecDepth 100000 in
theorem s280_1142 {d : Nat} {l0 l1 l2 l3 l4 l5 l6 : Value} {st : List Value} {x y : Int32} {I : am_I} {R : am_R} {Q : am_Q} : am_ev d 280 1142 [l0, l1, l2, l3, l4, l5, l6] (.int y :: .int x :: st) I R Q = am_ev d 280 1143 [l0, l1, l2, l3, l4, l5, l6] (.int (x + y) :: st) I R Q := am_ev_nx (am_f280 (pc := 1142) (q := (.iadd, 1, (0, 0, 0))) rfl) rfl
set_option maxRecDepth 100000 in
theorem s280_1144 {d : Nat} {l1 l2 l3 l4 l5 l6 : Value} {st : List Value} {x : Nat} {I : am_I} {R : am_R} {Q : am_Q} : am_ev d 280 1144 [.ref x, l1, l2, l3, l4, l5, l6] st I R Q = am_ev d 280 1145 [.ref x, l1, l2, l3, l4, l5, l6] (.ref x :: st) I R Q := am_ev_nx (am_f280 (pc := 1144) (q := (.aload_n 0, 1, (0, 0, 0))) rfl) rfl
set_option maxRecDepth 100000 in
theorem s280_1145 {d : Nat} {l0 l1 l2 l3 l5 l6 : Value} {st : List Value} {x : Int32} {I : am_I} {R : am_R} {Q : am_Q} : am_ev d 280 1145 [l0, l1, l2, l3, .int x, l5, l6] st I R Q = am_ev d 280 1147 [l0, l1, l2, l3, .int x, l5, l6] (.int x :: st) I R Q := am_ev_nx (am_f280 (pc := 1145) (q := (.iload 4, 2, (0, 0, 0))) rfl) rfl
set_option maxRecDepth 100000 in
theorem s280_1147 {d : Nat} {l0 l1 l2 l3 l4 l5 l6 : Value} {st : List Value} {I : am_I} {R : am_R} {Q : am_Q} : am_ev d 280 1147 [l0, l1, l2, l3, l4, l5, l6] st I R Q = am_ev d 280 1148 [l0, l1, l2, l3, l4, l5, l6] (.int (nI 2) :: st) I R Q := am_ev_nx (am_f280 (pc := 1147) (q := (.iconst 2, 1, (0, 0, 2))) rfl) rfl
set_option maxRecDepth 100000 in
theorem s280_1148 {d : Nat} {l0 l1 l2 l3 l4 l5 l6 : Value} {st : List Value} {x y : Int32} {I : am_I} {R : am_R} {Q : am_Q} : am_ev d 280 1148 [l0, l1, l2, l3, l4, l5, l6] (.int y :: .int x :: st) I R Q = am_ev d 280 1149 [l0, l1, l2, l3, l4, l5, l6] (.int (x + y) :: st) I R Q := am_ev_nx (am_f280 (pc := 1148) (q := (.iadd, 1, (0, 0, 0))) rfl) rfl
set_option maxRecDepth 100000 in
theorem s280_1150 {d : Nat} {l0 l1 l2 l3 l4 l5 l6 : Value} {a0 : Nat} {a1 : Int32} {a2 : Int32} {r0 : Value} {I : am_I} {R : am_R} {Q : am_Q} : am_ev (d + 1) 280 1150 [l0, l1, l2, l3, l4, l5, l6] [.int a2, .int a1, .ref (am_mk 12 a0), r0] I R Q = am_th (am_cal d 257 [.ref (am_mk 12 a0), .int a1, .int a2] I R Q) fun r I R Q => am_ev (d + 1) 280 1153 [l0, l1, l2, l3, l4, l5, l6] (r.toList ++ [r0]) I R Q := am_ev_call (am_f280 (pc := 1150) (q := (.invokevirtual 141, 3, (257, 0, 0))) rfl) (am_inv_v [.int a1, .int a2] [r0] (by decide) (by decide) rfl rfl rfl (Nat.le_of_ble_eq_true rfl))
set_option maxRecDepth 100000 in
theorem s280_1153 {d : Nat} {l0 l1 l2 l3 l4 l5 l6 : Value} {st : List Value} {x y : Int32} {I : am_I} {R : am_R} {Q : am_Q} : am_ev d 280 1153 [l0, l1, l2, l3, l4, l5, l6] (.int y :: .int x :: st) I R Q = if x = y then am_ev d 280 1575 [l0, l1, l2, l3, l4, l5, l6] st I R Q else am_ev d 280 1156 [l0, l1, l2, l3, l4, l5, l6] st I R Q := am_ev_br (am_f280 (pc := 1153) (q := (.if_icmp .eq 422, 3, (0, 0, 0))) rfl) rfl
set_option maxRecDepth 100000 in
theorem s280_1156 {d : Nat} {l0 l1 l2 l3 l4 l5 l6 : Value} {st : List Value} {I : am_I} {R : am_R} {Q : am_Q} : am_ev d 280 1156 [l0, l1, l2, l3, l4, l5, l6] st I R Q = am_ev d 280 1157 [l0, l1, l2, l3, l4, l5, l6] (.int (nI 0) :: st) I R Q := am_ev_nx (am_f280 (pc := 1156) (q := (.iconst 0, 1, (0, 0, 0))) rfl) rfl
set_option maxRecDepth 100000 in
theorem s280_1157 {d : Nat} {l0 l1 l2 l3 l4 l5 l6 : Value} {x : Int32} {I : am_I} {R : am_R} {Q : am_Q} : am_ev d 280 1157 [l0, l1, l2, l3, l4, l5, l6] [.int x] I R Q = if am_bb x then some (some (.int x), I, R, Q) else none := am_ev_ifr (am_f280 (pc := 1157) (q := (.ireturn, 1, (1, 0, 0))) rfl) (am_zr_u rfl)
set_option maxRecDepth 100000 in
theorem s280_1158 {d : Nat} {l0 l2 l3 l4 l5 l6 : Value} {st : List Value} {x : Nat} {I : am_I} {R : am_R} {Q : am_Q} : am_ev d 280 1158 [l0, .ref x, l2, l3, l4, l5, l6] st I R Q = am_ev d 280 1159 [l0, .ref x, l2, l3, l4, l5, l6] (.ref x :: st) I R Q := am_ev_nx (am_f280 (pc := 1158) (q := (.aload_n 1, 1, (0, 0, 0))) rfl) rfl
set_option maxRecDepth 100000 in
theorem s280_1159 {d : Nat} {l1 l2 l3 l4 l5 l6 : Value} {st : List Value} {x : Nat} {I : am_I} {R : am_R} {Q : am_Q} : am_ev d 280 1159 [.ref x, l1, l2, l3, l4, l5, l6] st I R Q = am_ev d 280 1160 [.ref x, l1, l2, l3, l4, l5, l6] (.ref x :: st) I R Q := am_ev_nx (am_f280 (pc := 1159) (q := (.aload_n 0, 1, (0, 0, 0))) rfl) rfl
set_option maxRecDepth 100000 in
theorem s280_1160 {d : Nat} {l0 l1 l2 l3 l5 l6 : Value} {st : List Value} {x : Int32} {I : am_I} {R : am_R} {Q : am_Q} : am_ev d 280 1160 [l0, l1, l2, l3, .int x, l5, l6] st I R Q = am_ev d 280 1162 [l0, l1, l2, l3, .int x, l5, l6] (.int x :: st) I R Q := am_ev_nx (am_f280 (pc := 1160) (q := (.iload 4, 2, (0, 0, 0))) rfl) rfl
set_option maxRecDepth 100000 in
theorem s280_1162 {d : Nat} {l0 l1 l2 l3 l4 l5 l6 : Value} {st : List Value} {I : am_I} {R : am_R} {Q : am_Q} : am_ev d 280 1162 [l0, l1, l2, l3, l4, l5, l6] st I R Q = am_ev d 280 1163 [l0, l1, l2, l3, l4, l5, l6] (.int (nI 1) :: st) I R Q := am_ev_nx (am_f280 (pc := 1162) (q := (.iconst 1, 1, (0, 0, 1))) rfl) rfl
set_option maxRecDepth 100000 in
theorem s280_1163 {d : Nat} {l0 l1 l2 l3 l4 l5 l6 : Value} {st : List Value} {x y : Int32} {I : am_I} {R : am_R} {Q : am_Q} : am_ev d 280 1163 [l0, l1, l2, l3, l4, l5, l6] (.int y :: .int x :: st) I R Q = am_ev d 280 1164 [l0, l1, l2, l3, l4, l5, l6] (.int (x + y) :: st) I R Q := am_ev_nx (am_f280 (pc := 1163) (q := (.iadd, 1, (0, 0, 0))) rfl) rfl
set_option maxRecDepth 100000 in
theorem s280_1165 {d : Nat} {l0 l1 l2 l3 l4 l5 l6 : Value} {a0 : Nat} {a1 : Int32} {I : am_I} {R : am_R} {Q : am_Q} : am_ev (d + 1) 280 1165 [l0, l1, l2, l3, l4, l5, l6] [.int a1, .ref (am_mk 11 a0)] I R Q = am_th (am_cal d 140 [.ref (am_mk 11 a0), .int a1] I R Q) fun r I R Q => am_ev (d + 1) 280 1168 [l0, l1, l2, l3, l4, l5, l6] (r.toList ++ []) I R Q := am_ev_call (am_f280 (pc := 1165) (q := (.invokevirtual 142, 3, (140, 0, 0))) rfl) (am_inv_v [.int a1] [] (by decide) (by decide) rfl rfl rfl (Nat.le_of_ble_eq_true rfl))
set_option maxRecDepth 100000 in
theorem s280_1168 {d : Nat} {l0 l1 l3 l4 l5 l6 : Value} {st : List Value} {x : Nat} {I : am_I} {R : am_R} {Q : am_Q} : am_ev d 280 1168 [l0, l1, .ref x, l3, l4, l5, l6] st I R Q = am_ev d 280 1169 [l0, l1, .ref x, l3, l4, l5, l6] (.ref x :: st) I R Q := am_ev_nx (am_f280 (pc := 1168) (q := (.aload_n 2, 1, (0, 0, 0))) rfl) rfl
set_option maxRecDepth 100000 in
theorem s280_1169 {d : Nat} {l1 l2 l3 l4 l5 l6 : Value} {st : List Value} {x : Nat} {I : am_I} {R : am_R} {Q : am_Q} : am_ev d 280 1169 [.ref x, l1, l2, l3, l4, l5, l6] st I R Q = am_ev d 280 1170 [.ref x, l1, l2, l3, l4, l5, l6] (.ref x :: st) I R Q := am_ev_nx (am_f280 (pc := 1169) (q := (.aload_n 0, 1, (0, 0, 0))) rfl) rfl
set_option maxRecDepth 100000 in
theorem s280_1170 {d : Nat} {l0 l1 l2 l3 l5 l6 : Value} {st : List Value} {x : Int32} {I : am_I} {R : am_R} {Q : am_Q} : am_ev d 280 1170 [l0, l1, l2, l3, .int x, l5, l6] st I R Q = am_ev d 280 1172 [l0, l1, l2, l3, .int x, l5, l6] (.int x :: st) I R Q := am_ev_nx (am_f280 (pc := 1170) (q := (.iload 4, 2, (0, 0, 0))) rfl) rfl
set_option maxRecDepth 100000 in
theorem s280_1172 {d : Nat} {l0 l1 l2 l3 l4 l5 l6 : Value} {st : List Value} {I : am_I} {R : am_R} {Q : am_Q} : am_ev d 280 1172 [l0, l1, l2, l3, l4, l5, l6] st I R Q = am_ev d 280 1173 [l0, l1, l2, l3, l4, l5, l6] (.int (nI 1) :: st) I R Q := am_ev_nx (am_f280 (pc := 1172) (q := (.iconst 1, 1, (0, 0, 1))) rfl) rfl
set_option maxRecDepth 100000 in
theorem s280_1173 {d : Nat} {l0 l1 l2 l3 l4 l5 l6 : Value} {st : List Value} {x y : Int32} {I : am_I} {R : am_R} {Q : am_Q} : am_ev d 280 1173 [l0, l1, l2, l3, l4, l5, l6] (.int y :: .int x :: st) I R Q = am_ev d 280 1174 [l0, l1, l2, l3, l4, l5, l6] (.int (x + y) :: st) I R Q := am_ev_nx (am_f280 (pc := 1173) (q := (.iadd, 1, (0, 0, 0))) rfl) rfl
set_option maxRecDepth 100000 in
theorem s280_1175 {d : Nat} {l0 l1 l2 l3 l4 l5 l6 : Value} {a0 : Nat} {a1 : Int32} {r0 : Value} {I : am_I} {R : am_R} {Q : am_Q} : am_ev (d + 1) 280 1175 [l0, l1, l2, l3, l4, l5, l6] [.int a1, .ref (am_mk 12 a0), r0] I R Q = am_th (am_cal d 258 [.ref (am_mk 12 a0), .int a1] I R Q) fun r I R Q => am_ev (d + 1) 280 1178 [l0, l1, l2, l3, l4, l5, l6] (r.toList ++ [r0]) I R Q := am_ev_call (am_f280 (pc := 1175) (q := (.invokevirtual 145, 3, (258, 0, 0))) rfl) (am_inv_v [.int a1] [r0] (by decide) (by decide) rfl rfl rfl (Nat.le_of_ble_eq_true rfl))
set_option maxRecDepth 100000 in
theorem s280_1178 {d : Nat} {l0 l1 l2 l3 l4 l5 l6 : Value} {st : List Value} {x y : Int32} {I : am_I} {R : am_R} {Q : am_Q} : am_ev d 280 1178 [l0, l1, l2, l3, l4, l5, l6] (.int y :: .int x :: st) I R Q = if x = y then am_ev d 280 1575 [l0, l1, l2, l3, l4, l5, l6] st I R Q else am_ev d 280 1181 [l0, l1, l2, l3, l4, l5, l6] st I R Q := am_ev_br (am_f280 (pc := 1178) (q := (.if_icmp .eq 397, 3, (0, 0, 0))) rfl) rfl
set_option maxRecDepth 100000 in
theorem s280_1181 {d : Nat} {l0 l1 l2 l3 l4 l5 l6 : Value} {st : List Value} {I : am_I} {R : am_R} {Q : am_Q} : am_ev d 280 1181 [l0, l1, l2, l3, l4, l5, l6] st I R Q = am_ev d 280 1182 [l0, l1, l2, l3, l4, l5, l6] (.int (nI 0) :: st) I R Q := am_ev_nx (am_f280 (pc := 1181) (q := (.iconst 0, 1, (0, 0, 0))) rfl) rfl
set_option maxRecDepth 100000 in
theorem s280_1182 {d : Nat} {l0 l1 l2 l3 l4 l5 l6 : Value} {x : Int32} {I : am_I} {R : am_R} {Q : am_Q} : am_ev d 280 1182 [l0, l1, l2, l3, l4, l5, l6] [.int x] I R Q = if am_bb x then some (some (.int x), I, R, Q) else none := am_ev_ifr (am_f280 (pc := 1182) (q := (.ireturn, 1, (1, 0, 0))) rfl) (am_zr_u rfl)
set_option maxRecDepth 100000 in
theorem s280_1183 {d : Nat} {l0 l2 l3 l4 l5 l6 : Value} {st : List Value} {x : Nat} {I : am_I} {R : am_R} {Q : am_Q} : am_ev d 280 1183 [l0, .ref x, l2, l3, l4, l5, l6] st I R Q = am_ev d 280 1184 [l0, .ref x, l2, l3, l4, l5, l6] (.ref x :: st) I R Q := am_ev_nx (am_f280 (pc := 1183) (q := (.aload_n 1, 1, (0, 0, 0))) rfl) rfl
set_option maxRecDepth 100000 in
theorem s280_1184 {d : Nat} {l1 l2 l3 l4 l5 l6 : Value} {st : List Value} {x : Nat} {I : am_I} {R : am_R} {Q : am_Q} : am_ev d 280 1184 [.ref x, l1, l2, l3, l4, l5, l6] st I R Q = am_ev d 280 1185 [.ref x, l1, l2, l3, l4, l5, l6] (.ref x :: st) I R Q := am_ev_nx (am_f280 (pc := 1184) (q := (.aload_n 0, 1, (0, 0, 0))) rfl) rfl
set_option maxRecDepth 100000 in
theorem s280_1185 {d : Nat} {l0 l1 l2 l3 l5 l6 : Value} {st : List Value} {x : Int32} {I : am_I} {R : am_R} {Q : am_Q} : am_ev d 280 1185 [l0, l1, l2, l3, .int x, l5, l6] st I R Q = am_ev d 280 1187 [l0, l1, l2, l3, .int x, l5, l6] (.int x :: st) I R Q := am_ev_nx (am_f280 (pc := 1185) (q := (.iload 4, 2, (0, 0, 0))) rfl) rfl
set_option maxRecDepth 100000 in
theorem s280_1187 {d : Nat} {l0 l1 l2 l3 l4 l5 l6 : Value} {st : List Value} {I : am_I} {R : am_R} {Q : am_Q} : am_ev d 280 1187 [l0, l1, l2, l3, l4, l5, l6] st I R Q = am_ev d 280 1188 [l0, l1, l2, l3, l4, l5, l6] (.int (nI 1) :: st) I R Q := am_ev_nx (am_f280 (pc := 1187) (q := (.iconst 1, 1, (0, 0, 1))) rfl) rfl
set_option maxRecDepth 100000 in
theorem s280_1188 {d : Nat} {l0 l1 l2 l3 l4 l5 l6 : Value} {st : List Value} {x y : Int32} {I : am_I} {R : am_R} {Q : am_Q} : am_ev d 280 1188 [l0, l1, l2, l3, l4, l5, l6] (.int y :: .int x :: st) I R Q = am_ev d 280 1189 [l0, l1, l2, l3, l4, l5, l6] (.int (x + y) :: st) I R Q := am_ev_nx (am_f280 (pc := 1188) (q := (.iadd, 1, (0, 0, 0))) rfl) rfl
set_option maxRecDepth 100000 in
theorem s280_1190 {d : Nat} {l1 l2 l3 l4 l5 l6 : Value} {st : List Value} {x : Nat} {I : am_I} {R : am_R} {Q : am_Q} : am_ev d 280 1190 [.ref x, l1, l2, l3, l4, l5, l6] st I R Q = am_ev d 280 1191 [.ref x, l1, l2, l3, l4, l5, l6] (.ref x :: st) I R Q := am_ev_nx (am_f280 (pc := 1190) (q := (.aload_n 0, 1, (0, 0, 0))) rfl) rfl
set_option maxRecDepth 100000 in
theorem s280_1191 {d : Nat} {l0 l1 l2 l3 l5 l6 : Value} {st : List Value} {x : Int32} {I : am_I} {R : am_R} {Q : am_Q} : am_ev d 280 1191 [l0, l1, l2, l3, .int x, l5, l6] st I R Q = am_ev d 280 1193 [l0, l1, l2, l3, .int x, l5, l6] (.int x :: st) I R Q := am_ev_nx (am_f280 (pc := 1191) (q := (.iload 4, 2, (0, 0, 0))) rfl) rfl
set_option maxRecDepth 100000 in
theorem s280_1193 {d : Nat} {l0 l1 l2 l3 l4 l5 l6 : Value} {st : List Value} {I : am_I} {R : am_R} {Q : am_Q} : am_ev d 280 1193 [l0, l1, l2, l3, l4, l5, l6] st I R Q = am_ev d 280 1194 [l0, l1, l2, l3, l4, l5, l6] (.int (nI 2) :: st) I R Q := am_ev_nx (am_f280 (pc := 1193) (q := (.iconst 2, 1, (0, 0, 2))) rfl) rfl
set_option maxRecDepth 100000 in
theorem s280_1194 {d : Nat} {l0 l1 l2 l3 l4 l5 l6 : Value} {st : List Value} {x y : Int32} {I : am_I} {R : am_R} {Q : am_Q} : am_ev d 280 1194 [l0, l1, l2, l3, l4, l5, l6] (.int y :: .int x :: st) I R Q = am_ev d 280 1195 [l0, l1, l2, l3, l4, l5, l6] (.int (x + y) :: st) I R Q := am_ev_nx (am_f280 (pc := 1194) (q := (.iadd, 1, (0, 0, 0))) rfl) rfl
set_option maxRecDepth 100000 in
theorem s280_1196 {d : Nat} {l0 l1 l2 l3 l4 l5 l6 : Value} {a0 : Nat} {a1 : Int32} {a2 : Int32} {I : am_I} {R : am_R} {Q : am_Q} : am_ev (d + 1) 280 1196 [l0, l1, l2, l3, l4, l5, l6] [.int a2, .int a1, .ref (am_mk 11 a0)] I R Q = am_th (am_cal d 141 [.ref (am_mk 11 a0), .int a1, .int a2] I R Q) fun r I R Q => am_ev (d + 1) 280 1199 [l0, l1, l2, l3, l4, l5, l6] (r.toList ++ []) I R Q := am_ev_call (am_f280 (pc := 1196) (q := (.invokevirtual 146, 3, (141, 0, 0))) rfl) (am_inv_v [.int a1, .int a2] [] (by decide) (by decide) rfl rfl rfl (Nat.le_of_ble_eq_true rfl))
set_option maxRecDepth 100000 in
theorem s280_1199 {d : Nat} {l0 l1 l3 l4 l5 l6 : Value} {st : List Value} {x : Nat} {I : am_I} {R : am_R} {Q : am_Q} : am_ev d 280 1199 [l0, l1, .ref x, l3, l4, l5, l6] st I R Q = am_ev d 280 1200 [l0, l1, .ref x, l3, l4, l5, l6] (.ref x :: st) I R Q := am_ev_nx (am_f280 (pc := 1199) (q := (.aload_n 2, 1, (0, 0, 0))) rfl) rfl
set_option maxRecDepth 100000 in
theorem s280_1200 {d : Nat} {l1 l2 l3 l4 l5 l6 : Value} {st : List Value} {x : Nat} {I : am_I} {R : am_R} {Q : am_Q} : am_ev d 280 1200 [.ref x, l1, l2, l3, l4, l5, l6] st I R Q = am_ev d 280 1201 [.ref x, l1, l2, l3, l4, l5, l6] (.ref x :: st) I R Q := am_ev_nx (am_f280 (pc := 1200) (q := (.aload_n 0, 1, (0, 0, 0))) rfl) rfl
set_option maxRecDepth 100000 in
theorem s280_1201 {d : Nat} {l0 l1 l2 l3 l5 l6 : Value} {st : List Value} {x : Int32} {I : am_I} {R : am_R} {Q : am_Q} : am_ev d 280 1201 [l0, l1, l2, l3, .int x, l5, l6] st I R Q = am_ev d 280 1203 [l0, l1, l2, l3, .int x, l5, l6] (.int x :: st) I R Q := am_ev_nx (am_f280 (pc := 1201) (q := (.iload 4, 2, (0, 0, 0))) rfl) rfl
set_option maxRecDepth 100000 in
theorem s280_1203 {d : Nat} {l0 l1 l2 l3 l4 l5 l6 : Value} {st : List Value} {I : am_I} {R : am_R} {Q : am_Q} : am_ev d 280 1203 [l0, l1, l2, l3, l4, l5, l6] st I R Q = am_ev d 280 1204 [l0, l1, l2, l3, l4, l5, l6] (.int (nI 1) :: st) I R Q := am_ev_nx (am_f280 (pc := 1203) (q := (.iconst 1, 1, (0, 0, 1))) rfl) rfl
set_option maxRecDepth 100000 in
theorem s280_1204 {d : Nat} {l0 l1 l2 l3 l4 l5 l6 : Value} {st : List Value} {x y : Int32} {I : am_I} {R : am_R} {Q : am_Q} : am_ev d 280 1204 [l0, l1, l2, l3, l4, l5, l6] (.int y :: .int x :: st) I R Q = am_ev d 280 1205 [l0, l1, l2, l3, l4, l5, l6] (.int (x + y) :: st) I R Q := am_ev_nx (am_f280 (pc := 1204) (q := (.iadd, 1, (0, 0, 0))) rfl) rfl
set_option maxRecDepth 100000 in
theorem s280_1206 {d : Nat} {l1 l2 l3 l4 l5 l6 : Value} {st : List Value} {x : Nat} {I : am_I} {R : am_R} {Q : am_Q} : am_ev d 280 1206 [.ref x, l1, l2, l3, l4, l5, l6] st I R Q = am_ev d 280 1207 [.ref x, l1, l2, l3, l4, l5, l6] (.ref x :: st) I R Q := am_ev_nx (am_f280 (pc := 1206) (q := (.aload_n 0, 1, (0, 0, 0))) rfl) rfl
set_option maxRecDepth 100000 in
theorem s280_1207 {d : Nat} {l0 l1 l2 l3 l5 l6 : Value} {st : List Value} {x : Int32} {I : am_I} {R : am_R} {Q : am_Q} : am_ev d 280 1207 [l0, l1, l2, l3, .int x, l5, l6] st I R Q = am_ev d 280 1209 [l0, l1, l2, l3, .int x, l5, l6] (.int x :: st) I R Q := am_ev_nx (am_f280 (pc := 1207) (q := (.iload 4, 2, (0, 0, 0))) rfl) rfl
set_option maxRecDepth 100000 in
theorem s280_1209 {d : Nat} {l0 l1 l2 l3 l4 l5 l6 : Value} {st : List Value} {I : am_I} {R : am_R} {Q : am_Q} : am_ev d 280 1209 [l0, l1, l2, l3, l4, l5, l6] st I R Q = am_ev d 280 1210 [l0, l1, l2, l3, l4, l5, l6] (.int (nI 2) :: st) I R Q := am_ev_nx (am_f280 (pc := 1209) (q := (.iconst 2, 1, (0, 0, 2))) rfl) rfl
set_option maxRecDepth 100000 in
theorem s280_1210 {d : Nat} {l0 l1 l2 l3 l4 l5 l6 : Value} {st : List Value} {x y : Int32} {I : am_I} {R : am_R} {Q : am_Q} : am_ev d 280 1210 [l0, l1, l2, l3, l4, l5, l6] (.int y :: .int x :: st) I R Q = am_ev d 280 1211 [l0, l1, l2, l3, l4, l5, l6] (.int (x + y) :: st) I R Q := am_ev_nx (am_f280 (pc := 1210) (q := (.iadd, 1, (0, 0, 0))) rfl) rfl
set_option maxRecDepth 100000 in
theorem s280_1212 {d : Nat} {l0 l1 l2 l3 l4 l5 l6 : Value} {a0 : Nat} {a1 : Int32} {a2 : Int32} {r0 : Value} {I : am_I} {R : am_R} {Q : am_Q} : am_ev (d + 1) 280 1212 [l0, l1, l2, l3, l4, l5, l6] [.int a2, .int a1, .ref (am_mk 12 a0), r0] I R Q = am_th (am_cal d 259 [.ref (am_mk 12 a0), .int a1, .int a2] I R Q) fun r I R Q => am_ev (d + 1) 280 1215 [l0, l1, l2, l3, l4, l5, l6] (r.toList ++ [r0]) I R Q := am_ev_call (am_f280 (pc := 1212) (q := (.invokevirtual 149, 3, (259, 0, 0))) rfl) (am_inv_v [.int a1, .int a2] [r0] (by decide) (by decide) rfl rfl rfl (Nat.le_of_ble_eq_true rfl))
set_option maxRecDepth 100000 in
theorem s280_1215 {d : Nat} {l0 l1 l2 l3 l4 l5 l6 : Value} {st : List Value} {x y : Int32} {I : am_I} {R : am_R} {Q : am_Q} : am_ev d 280 1215 [l0, l1, l2, l3, l4, l5, l6] (.int y :: .int x :: st) I R Q = if x = y then am_ev d 280 1575 [l0, l1, l2, l3, l4, l5, l6] st I R Q else am_ev d 280 1218 [l0, l1, l2, l3, l4, l5, l6] st I R Q := am_ev_br (am_f280 (pc := 1215) (q := (.if_icmp .eq 360, 3, (0, 0, 0))) rfl) rfl
set_option maxRecDepth 100000 in
theorem s280_1218 {d : Nat} {l0 l1 l2 l3 l4 l5 l6 : Value} {st : List Value} {I : am_I} {R : am_R} {Q : am_Q} : am_ev d 280 1218 [l0, l1, l2, l3, l4, l5, l6] st I R Q = am_ev d 280 1219 [l0, l1, l2, l3, l4, l5, l6] (.int (nI 0) :: st) I R Q := am_ev_nx (am_f280 (pc := 1218) (q := (.iconst 0, 1, (0, 0, 0))) rfl) rfl
set_option maxRecDepth 100000 in
theorem s280_1219 {d : Nat} {l0 l1 l2 l3 l4 l5 l6 : Value} {x : Int32} {I : am_I} {R : am_R} {Q : am_Q} : am_ev d 280 1219 [l0, l1, l2, l3, l4, l5, l6] [.int x] I R Q = if am_bb x then some (some (.int x), I, R, Q) else none := am_ev_ifr (am_f280 (pc := 1219) (q := (.ireturn, 1, (1, 0, 0))) rfl) (am_zr_u rfl)
set_option maxRecDepth 100000 in
theorem s280_1220 {d : Nat} {l0 l2 l3 l4 l5 l6 : Value} {st : List Value} {x : Nat} {I : am_I} {R : am_R} {Q : am_Q} : am_ev d 280 1220 [l0, .ref x, l2, l3, l4, l5, l6] st I R Q = am_ev d 280 1221 [l0, .ref x, l2, l3, l4, l5, l6] (.ref x :: st) I R Q := am_ev_nx (am_f280 (pc := 1220) (q := (.aload_n 1, 1, (0, 0, 0))) rfl) rfl
set_option maxRecDepth 100000 in
theorem s280_1221 {d : Nat} {l1 l2 l3 l4 l5 l6 : Value} {st : List Value} {x : Nat} {I : am_I} {R : am_R} {Q : am_Q} : am_ev d 280 1221 [.ref x, l1, l2, l3, l4, l5, l6] st I R Q = am_ev d 280 1222 [.ref x, l1, l2, l3, l4, l5, l6] (.ref x :: st) I R Q := am_ev_nx (am_f280 (pc := 1221) (q := (.aload_n 0, 1, (0, 0, 0))) rfl) rfl
set_option maxRecDepth 100000 in
theorem s280_1222 {d : Nat} {l0 l1 l2 l3 l5 l6 : Value} {st : List Value} {x : Int32} {I : am_I} {R : am_R} {Q : am_Q} : am_ev d 280 1222 [l0, l1, l2, l3, .int x, l5, l6] st I R Q = am_ev d 280 1224 [l0, l1, l2, l3, .int x, l5, l6] (.int x :: st) I R Q := am_ev_nx (am_f280 (pc := 1222) (q := (.iload 4, 2, (0, 0, 0))) rfl) rfl
set_option maxRecDepth 100000 in
theorem s280_1224 {d : Nat} {l0 l1 l2 l3 l4 l5 l6 : Value} {st : List Value} {I : am_I} {R : am_R} {Q : am_Q} : am_ev d 280 1224 [l0, l1, l2, l3, l4, l5, l6] st I R Q = am_ev d 280 1225 [l0, l1, l2, l3, l4, l5, l6] (.int (nI 1) :: st) I R Q := am_ev_nx (am_f280 (pc := 1224) (q := (.iconst 1, 1, (0, 0, 1))) rfl) rfl
set_option maxRecDepth 100000 in
theorem s280_1225 {d : Nat} {l0 l1 l2 l3 l4 l5 l6 : Value} {st : List Value} {x y : Int32} {I : am_I} {R : am_R} {Q : am_Q} : am_ev d 280 1225 [l0, l1, l2, l3, l4, l5, l6] (.int y :: .int x :: st) I R Q = am_ev d 280 1226 [l0, l1, l2, l3, l4, l5, l6] (.int (x + y) :: st) I R Q := am_ev_nx (am_f280 (pc := 1225) (q := (.iadd, 1, (0, 0, 0))) rfl) rfl
set_option maxRecDepth 100000 in
theorem s280_1227 {d : Nat} {l0 l1 l2 l3 l4 l5 l6 : Value} {a0 : Nat} {a1 : Int32} {I : am_I} {R : am_R} {Q : am_Q} : am_ev (d + 1) 280 1227 [l0, l1, l2, l3, l4, l5, l6] [.int a1, .ref (am_mk 11 a0)] I R Q = am_th (am_cal d 142 [.ref (am_mk 11 a0), .int a1] I R Q) fun r I R Q => am_ev (d + 1) 280 1230 [l0, l1, l2, l3, l4, l5, l6] (r.toList ++ []) I R Q := am_ev_call (am_f280 (pc := 1227) (q := (.invokevirtual 150, 3, (142, 0, 0))) rfl) (am_inv_v [.int a1] [] (by decide) (by decide) rfl rfl rfl (Nat.le_of_ble_eq_true rfl))
set_option maxRecDepth 100000 in
theorem s280_1230 {d : Nat} {l0 l1 l3 l4 l5 l6 : Value} {st : List Value} {x : Nat} {I : am_I} {R : am_R} {Q : am_Q} : am_ev d 280 1230 [l0, l1, .ref x, l3, l4, l5, l6] st I R Q = am_ev d 280 1231 [l0, l1, .ref x, l3, l4, l5, l6] (.ref x :: st) I R Q := am_ev_nx (am_f280 (pc := 1230) (q := (.aload_n 2, 1, (0, 0, 0))) rfl) rfl
set_option maxRecDepth 100000 in
theorem s280_1231 {d : Nat} {l1 l2 l3 l4 l5 l6 : Value} {st : List Value} {x : Nat} {I : am_I} {R : am_R} {Q : am_Q} : am_ev d 280 1231 [.ref x, l1, l2, l3, l4, l5, l6] st I R Q = am_ev d 280 1232 [.ref x, l1, l2, l3, l4, l5, l6] (.ref x :: st) I R Q := am_ev_nx (am_f280 (pc := 1231) (q := (.aload_n 0, 1, (0, 0, 0))) rfl) rfl
set_option maxRecDepth 100000 in
theorem s280_1232 {d : Nat} {l0 l1 l2 l3 l5 l6 : Value} {st : List Value} {x : Int32} {I : am_I} {R : am_R} {Q : am_Q} : am_ev d 280 1232 [l0, l1, l2, l3, .int x, l5, l6] st I R Q = am_ev d 280 1234 [l0, l1, l2, l3, .int x, l5, l6] (.int x :: st) I R Q := am_ev_nx (am_f280 (pc := 1232) (q := (.iload 4, 2, (0, 0, 0))) rfl) rfl
set_option maxRecDepth 100000 in
theorem s280_1234 {d : Nat} {l0 l1 l2 l3 l4 l5 l6 : Value} {st : List Value} {I : am_I} {R : am_R} {Q : am_Q} : am_ev d 280 1234 [l0, l1, l2, l3, l4, l5, l6] st I R Q = am_ev d 280 1235 [l0, l1, l2, l3, l4, l5, l6] (.int (nI 1) :: st) I R Q := am_ev_nx (am_f280 (pc := 1234) (q := (.iconst 1, 1, (0, 0, 1))) rfl) rfl
set_option maxRecDepth 100000 in
theorem s280_1235 {d : Nat} {l0 l1 l2 l3 l4 l5 l6 : Value} {st : List Value} {x y : Int32} {I : am_I} {R : am_R} {Q : am_Q} : am_ev d 280 1235 [l0, l1, l2, l3, l4, l5, l6] (.int y :: .int x :: st) I R Q = am_ev d 280 1236 [l0, l1, l2, l3, l4, l5, l6] (.int (x + y) :: st) I R Q := am_ev_nx (am_f280 (pc := 1235) (q := (.iadd, 1, (0, 0, 0))) rfl) rfl
set_option maxRecDepth 100000 in
theorem s280_1237 {d : Nat} {l0 l1 l2 l3 l4 l5 l6 : Value} {a0 : Nat} {a1 : Int32} {r0 : Value} {I : am_I} {R : am_R} {Q : am_Q} : am_ev (d + 1) 280 1237 [l0, l1, l2, l3, l4, l5, l6] [.int a1, .ref (am_mk 12 a0), r0] I R Q = am_th (am_cal d 261 [.ref (am_mk 12 a0), .int a1] I R Q) fun r I R Q => am_ev (d + 1) 280 1240 [l0, l1, l2, l3, l4, l5, l6] (r.toList ++ [r0]) I R Q := am_ev_call (am_f280 (pc := 1237) (q := (.invokevirtual 153, 3, (261, 0, 0))) rfl) (am_inv_v [.int a1] [r0] (by decide) (by decide) rfl rfl rfl (Nat.le_of_ble_eq_true rfl))
set_option maxRecDepth 100000 in
theorem s280_1240 {d : Nat} {l0 l1 l2 l3 l4 l5 l6 : Value} {st : List Value} {x y : Int32} {I : am_I} {R : am_R} {Q : am_Q} : am_ev d 280 1240 [l0, l1, l2, l3, l4, l5, l6] (.int y :: .int x :: st) I R Q = if x = y then am_ev d 280 1575 [l0, l1, l2, l3, l4, l5, l6] st I R Q else am_ev d 280 1243 [l0, l1, l2, l3, l4, l5, l6] st I R Q := am_ev_br (am_f280 (pc := 1240) (q := (.if_icmp .eq 335, 3, (0, 0, 0))) rfl) rfl
set_option maxRecDepth 100000 in
theorem s280_1243 {d : Nat} {l0 l1 l2 l3 l4 l5 l6 : Value} {st : List Value} {I : am_I} {R : am_R} {Q : am_Q} : am_ev d 280 1243 [l0, l1, l2, l3, l4, l5, l6] st I R Q = am_ev d 280 1244 [l0, l1, l2, l3, l4, l5, l6] (.int (nI 0) :: st) I R Q := am_ev_nx (am_f280 (pc := 1243) (q := (.iconst 0, 1, (0, 0, 0))) rfl) rfl
set_option maxRecDepth 100000 in
theorem s280_1244 {d : Nat} {l0 l1 l2 l3 l4 l5 l6 : Value} {x : Int32} {I : am_I} {R : am_R} {Q : am_Q} : am_ev d 280 1244 [l0, l1, l2, l3, l4, l5, l6] [.int x] I R Q = if am_bb x then some (some (.int x), I, R, Q) else none := am_ev_ifr (am_f280 (pc := 1244) (q := (.ireturn, 1, (1, 0, 0))) rfl) (am_zr_u rfl)
set_option maxRecDepth 100000 in
theorem s280_1245 {d : Nat} {l0 l2 l3 l4 l5 l6 : Value} {st : List Value} {x : Nat} {I : am_I} {R : am_R} {Q : am_Q} : am_ev d 280 1245 [l0, .ref x, l2, l3, l4, l5, l6] st I R Q = am_ev d 280 1246 [l0, .ref x, l2, l3, l4, l5, l6] (.ref x :: st) I R Q := am_ev_nx (am_f280 (pc := 1245) (q := (.aload_n 1, 1, (0, 0, 0))) rfl) rfl
set_option maxRecDepth 100000 in
theorem s280_1246 {d : Nat} {l1 l2 l3 l4 l5 l6 : Value} {st : List Value} {x : Nat} {I : am_I} {R : am_R} {Q : am_Q} : am_ev d 280 1246 [.ref x, l1, l2, l3, l4, l5, l6] st I R Q = am_ev d 280 1247 [.ref x, l1, l2, l3, l4, l5, l6] (.ref x :: st) I R Q := am_ev_nx (am_f280 (pc := 1246) (q := (.aload_n 0, 1, (0, 0, 0))) rfl) rfl
set_option maxRecDepth 100000 in
theorem s280_1247 {d : Nat} {l0 l1 l2 l3 l5 l6 : Value} {st : List Value} {x : Int32} {I : am_I} {R : am_R} {Q : am_Q} : am_ev d 280 1247 [l0, l1, l2, l3, .int x, l5, l6] st I R Q = am_ev d 280 1249 [l0, l1, l2, l3, .int x, l5, l6] (.int x :: st) I R Q := am_ev_nx (am_f280 (pc := 1247) (q := (.iload 4, 2, (0, 0, 0))) rfl) rfl
set_option maxRecDepth 100000 in
theorem s280_1249 {d : Nat} {l0 l1 l2 l3 l4 l5 l6 : Value} {st : List Value} {I : am_I} {R : am_R} {Q : am_Q} : am_ev d 280 1249 [l0, l1, l2, l3, l4, l5, l6] st I R Q = am_ev d 280 1250 [l0, l1, l2, l3, l4, l5, l6] (.int (nI 1) :: st) I R Q := am_ev_nx (am_f280 (pc := 1249) (q := (.iconst 1, 1, (0, 0, 1))) rfl) rfl
set_option maxRecDepth 100000 in
theorem s280_1250 {d : Nat} {l0 l1 l2 l3 l4 l5 l6 : Value} {st : List Value} {x y : Int32} {I : am_I} {R : am_R} {Q : am_Q} : am_ev d 280 1250 [l0, l1, l2, l3, l4, l5, l6] (.int y :: .int x :: st) I R Q = am_ev d 280 1251 [l0, l1, l2, l3, l4, l5, l6] (.int (x + y) :: st) I R Q := am_ev_nx (am_f280 (pc := 1250) (q := (.iadd, 1, (0, 0, 0))) rfl) rfl
set_option maxRecDepth 100000 in
theorem s280_1252 {d : Nat} {l0 l1 l2 l3 l4 l5 l6 : Value} {a0 : Nat} {a1 : Int32} {I : am_I} {R : am_R} {Q : am_Q} : am_ev (d + 1) 280 1252 [l0, l1, l2, l3, l4, l5, l6] [.int a1, .ref (am_mk 11 a0)] I R Q = am_th (am_cal d 143 [.ref (am_mk 11 a0), .int a1] I R Q) fun r I R Q => am_ev (d + 1) 280 1255 [l0, l1, l2, l3, l4, l5, l6] (r.toList ++ []) I R Q := am_ev_call (am_f280 (pc := 1252) (q := (.invokevirtual 154, 3, (143, 0, 0))) rfl) (am_inv_v [.int a1] [] (by decide) (by decide) rfl rfl rfl (Nat.le_of_ble_eq_true rfl))
set_option maxRecDepth 100000 in
theorem s280_1255 {d : Nat} {l0 l1 l3 l4 l5 l6 : Value} {st : List Value} {x : Nat} {I : am_I} {R : am_R} {Q : am_Q} : am_ev d 280 1255 [l0, l1, .ref x, l3, l4, l5, l6] st I R Q = am_ev d 280 1256 [l0, l1, .ref x, l3, l4, l5, l6] (.ref x :: st) I R Q := am_ev_nx (am_f280 (pc := 1255) (q := (.aload_n 2, 1, (0, 0, 0))) rfl) rfl
set_option maxRecDepth 100000 in
theorem s280_1256 {d : Nat} {l1 l2 l3 l4 l5 l6 : Value} {st : List Value} {x : Nat} {I : am_I} {R : am_R} {Q : am_Q} : am_ev d 280 1256 [.ref x, l1, l2, l3, l4, l5, l6] st I R Q = am_ev d 280 1257 [.ref x, l1, l2, l3, l4, l5, l6] (.ref x :: st) I R Q := am_ev_nx (am_f280 (pc := 1256) (q := (.aload_n 0, 1, (0, 0, 0))) rfl) rfl
set_option maxRecDepth 100000 in
theorem s280_1257 {d : Nat} {l0 l1 l2 l3 l5 l6 : Value} {st : List Value} {x : Int32} {I : am_I} {R : am_R} {Q : am_Q} : am_ev d 280 1257 [l0, l1, l2, l3, .int x, l5, l6] st I R Q = am_ev d 280 1259 [l0, l1, l2, l3, .int x, l5, l6] (.int x :: st) I R Q := am_ev_nx (am_f280 (pc := 1257) (q := (.iload 4, 2, (0, 0, 0))) rfl) rfl
set_option maxRecDepth 100000 in
theorem s280_1259 {d : Nat} {l0 l1 l2 l3 l4 l5 l6 : Value} {st : List Value} {I : am_I} {R : am_R} {Q : am_Q} : am_ev d 280 1259 [l0, l1, l2, l3, l4, l5, l6] st I R Q = am_ev d 280 1260 [l0, l1, l2, l3, l4, l5, l6] (.int (nI 1) :: st) I R Q := am_ev_nx (am_f280 (pc := 1259) (q := (.iconst 1, 1, (0, 0, 1))) rfl) rfl
set_option maxRecDepth 100000 in
theorem s280_1260 {d : Nat} {l0 l1 l2 l3 l4 l5 l6 : Value} {st : List Value} {x y : Int32} {I : am_I} {R : am_R} {Q : am_Q} : am_ev d 280 1260 [l0, l1, l2, l3, l4, l5, l6] (.int y :: .int x :: st) I R Q = am_ev d 280 1261 [l0, l1, l2, l3, l4, l5, l6] (.int (x + y) :: st) I R Q := am_ev_nx (am_f280 (pc := 1260) (q := (.iadd, 1, (0, 0, 0))) rfl) rfl
set_option maxRecDepth 100000 in
theorem s280_1262 {d : Nat} {l0 l1 l2 l3 l4 l5 l6 : Value} {a0 : Nat} {a1 : Int32} {r0 : Value} {I : am_I} {R : am_R} {Q : am_Q} : am_ev (d + 1) 280 1262 [l0, l1, l2, l3, l4, l5, l6] [.int a1, .ref (am_mk 12 a0), r0] I R Q = am_th (am_cal d 263 [.ref (am_mk 12 a0), .int a1] I R Q) fun r I R Q => am_ev (d + 1) 280 1265 [l0, l1, l2, l3, l4, l5, l6] (r.toList ++ [r0]) I R Q := am_ev_call (am_f280 (pc := 1262) (q := (.invokevirtual 157, 3, (263, 0, 0))) rfl) (am_inv_v [.int a1] [r0] (by decide) (by decide) rfl rfl rfl (Nat.le_of_ble_eq_true rfl))
set_option maxRecDepth 100000 in
theorem s280_1265 {d : Nat} {l0 l1 l2 l3 l4 l5 l6 : Value} {st : List Value} {x y : Int32} {I : am_I} {R : am_R} {Q : am_Q} : am_ev d 280 1265 [l0, l1, l2, l3, l4, l5, l6] (.int y :: .int x :: st) I R Q = if x = y then am_ev d 280 1575 [l0, l1, l2, l3, l4, l5, l6] st I R Q else am_ev d 280 1268 [l0, l1, l2, l3, l4, l5, l6] st I R Q := am_ev_br (am_f280 (pc := 1265) (q := (.if_icmp .eq 310, 3, (0, 0, 0))) rfl) rfl
set_option maxRecDepth 100000 in
theorem s280_1268 {d : Nat} {l0 l1 l2 l3 l4 l5 l6 : Value} {st : List Value} {I : am_I} {R : am_R} {Q : am_Q} : am_ev d 280 1268 [l0, l1, l2, l3, l4, l5, l6] st I R Q = am_ev d 280 1269 [l0, l1, l2, l3, l4, l5, l6] (.int (nI 0) :: st) I R Q := am_ev_nx (am_f280 (pc := 1268) (q := (.iconst 0, 1, (0, 0, 0))) rfl) rfl
set_option maxRecDepth 100000 in
theorem s280_1269 {d : Nat} {l0 l1 l2 l3 l4 l5 l6 : Value} {x : Int32} {I : am_I} {R : am_R} {Q : am_Q} : am_ev d 280 1269 [l0, l1, l2, l3, l4, l5, l6] [.int x] I R Q = if am_bb x then some (some (.int x), I, R, Q) else none := am_ev_ifr (am_f280 (pc := 1269) (q := (.ireturn, 1, (1, 0, 0))) rfl) (am_zr_u rfl)
set_option maxRecDepth 100000 in
theorem s280_1270 {d : Nat} {l0 l2 l3 l4 l5 l6 : Value} {st : List Value} {x : Nat} {I : am_I} {R : am_R} {Q : am_Q} : am_ev d 280 1270 [l0, .ref x, l2, l3, l4, l5, l6] st I R Q = am_ev d 280 1271 [l0, .ref x, l2, l3, l4, l5, l6] (.ref x :: st) I R Q := am_ev_nx (am_f280 (pc := 1270) (q := (.aload_n 1, 1, (0, 0, 0))) rfl) rfl
set_option maxRecDepth 100000 in
theorem s280_1271 {d : Nat} {l0 l1 l2 l3 l4 l5 l6 : Value} {a0 : Nat} {I : am_I} {R : am_R} {Q : am_Q} : am_ev (d + 1) 280 1271 [l0, l1, l2, l3, l4, l5, l6] [.ref (am_mk 11 a0)] I R Q = am_th (am_cal d 144 [.ref (am_mk 11 a0)] I R Q) fun r I R Q => am_ev (d + 1) 280 1274 [l0, l1, l2, l3, l4, l5, l6] (r.toList ++ []) I R Q := am_ev_call (am_f280 (pc := 1271) (q := (.invokevirtual 158, 3, (144, 0, 0))) rfl) (am_inv_v [] [] (by decide) (by decide) rfl rfl rfl (Nat.le_of_ble_eq_true rfl))
set_option maxRecDepth 100000 in
theorem s280_1274 {d : Nat} {l0 l1 l3 l4 l5 l6 : Value} {st : List Value} {x : Nat} {I : am_I} {R : am_R} {Q : am_Q} : am_ev d 280 1274 [l0, l1, .ref x, l3, l4, l5, l6] st I R Q = am_ev d 280 1275 [l0, l1, .ref x, l3, l4, l5, l6] (.ref x :: st) I R Q := am_ev_nx (am_f280 (pc := 1274) (q := (.aload_n 2, 1, (0, 0, 0))) rfl) rfl
set_option maxRecDepth 100000 in
theorem s280_1275 {d : Nat} {l0 l1 l2 l3 l4 l5 l6 : Value} {a0 : Nat} {r0 : Value} {I : am_I} {R : am_R} {Q : am_Q} : am_ev (d + 1) 280 1275 [l0, l1, l2, l3, l4, l5, l6] [.ref (am_mk 12 a0), r0] I R Q = am_th (am_cal d 264 [.ref (am_mk 12 a0)] I R Q) fun r I R Q => am_ev (d + 1) 280 1278 [l0, l1, l2, l3, l4, l5, l6] (r.toList ++ [r0]) I R Q := am_ev_call (am_f280 (pc := 1275) (q := (.invokevirtual 161, 3, (264, 0, 0))) rfl) (am_inv_v [] [r0] (by decide) (by decide) rfl rfl rfl (Nat.le_of_ble_eq_true rfl))
set_option maxRecDepth 100000 in
theorem s280_1278 {d : Nat} {l0 l1 l2 l3 l4 l5 l6 : Value} {st : List Value} {x y : Int32} {I : am_I} {R : am_R} {Q : am_Q} : am_ev d 280 1278 [l0, l1, l2, l3, l4, l5, l6] (.int y :: .int x :: st) I R Q = if x = y then am_ev d 280 1575 [l0, l1, l2, l3, l4, l5, l6] st I R Q else am_ev d 280 1281 [l0, l1, l2, l3, l4, l5, l6] st I R Q := am_ev_br (am_f280 (pc := 1278) (q := (.if_icmp .eq 297, 3, (0, 0, 0))) rfl) rfl
set_option maxRecDepth 100000 in
theorem s280_1281 {d : Nat} {l0 l1 l2 l3 l4 l5 l6 : Value} {st : List Value} {I : am_I} {R : am_R} {Q : am_Q} : am_ev d 280 1281 [l0, l1, l2, l3, l4, l5, l6] st I R Q = am_ev d 280 1282 [l0, l1, l2, l3, l4, l5, l6] (.int (nI 0) :: st) I R Q := am_ev_nx (am_f280 (pc := 1281) (q := (.iconst 0, 1, (0, 0, 0))) rfl) rfl
set_option maxRecDepth 100000 in
theorem s280_1282 {d : Nat} {l0 l1 l2 l3 l4 l5 l6 : Value} {x : Int32} {I : am_I} {R : am_R} {Q : am_Q} : am_ev d 280 1282 [l0, l1, l2, l3, l4, l5, l6] [.int x] I R Q = if am_bb x then some (some (.int x), I, R, Q) else none := am_ev_ifr (am_f280 (pc := 1282) (q := (.ireturn, 1, (1, 0, 0))) rfl) (am_zr_u rfl)
set_option maxRecDepth 100000 in
theorem s280_1283 {d : Nat} {l0 l2 l3 l4 l5 l6 : Value} {st : List Value} {x : Nat} {I : am_I} {R : am_R} {Q : am_Q} : am_ev d 280 1283 [l0, .ref x, l2, l3, l4, l5, l6] st I R Q = am_ev d 280 1284 [l0, .ref x, l2, l3, l4, l5, l6] (.ref x :: st) I R Q := am_ev_nx (am_f280 (pc := 1283) (q := (.aload_n 1, 1, (0, 0, 0))) rfl) rfl
set_option maxRecDepth 100000 in
theorem s280_1284 {d : Nat} {l1 l2 l3 l4 l5 l6 : Value} {st : List Value} {x : Nat} {I : am_I} {R : am_R} {Q : am_Q} : am_ev d 280 1284 [.ref x, l1, l2, l3, l4, l5, l6] st I R Q = am_ev d 280 1285 [.ref x, l1, l2, l3, l4, l5, l6] (.ref x :: st) I R Q := am_ev_nx (am_f280 (pc := 1284) (q := (.aload_n 0, 1, (0, 0, 0))) rfl) rfl
set_option maxRecDepth 100000 in
theorem s280_1285 {d : Nat} {l0 l1 l2 l3 l5 l6 : Value} {st : List Value} {x : Int32} {I : am_I} {R : am_R} {Q : am_Q} : am_ev d 280 1285 [l0, l1, l2, l3, .int x, l5, l6] st I R Q = am_ev d 280 1287 [l0, l1, l2, l3, .int x, l5, l6] (.int x :: st) I R Q := am_ev_nx (am_f280 (pc := 1285) (q := (.iload 4, 2, (0, 0, 0))) rfl) rfl
set_option maxRecDepth 100000 in
theorem s280_1287 {d : Nat} {l0 l1 l2 l3 l4 l5 l6 : Value} {st : List Value} {I : am_I} {R : am_R} {Q : am_Q} : am_ev d 280 1287 [l0, l1, l2, l3, l4, l5, l6] st I R Q = am_ev d 280 1288 [l0, l1, l2, l3, l4, l5, l6] (.int (nI 1) :: st) I R Q := am_ev_nx (am_f280 (pc := 1287) (q := (.iconst 1, 1, (0, 0, 1))) rfl) rfl
set_option maxRecDepth 100000 in
theorem s280_1288 {d : Nat} {l0 l1 l2 l3 l4 l5 l6 : Value} {st : List Value} {x y : Int32} {I : am_I} {R : am_R} {Q : am_Q} : am_ev d 280 1288 [l0, l1, l2, l3, l4, l5, l6] (.int y :: .int x :: st) I R Q = am_ev d 280 1289 [l0, l1, l2, l3, l4, l5, l6] (.int (x + y) :: st) I R Q := am_ev_nx (am_f280 (pc := 1288) (q := (.iadd, 1, (0, 0, 0))) rfl) rfl
set_option maxRecDepth 100000 in
theorem s280_1290 {d : Nat} {l1 l2 l3 l4 l5 l6 : Value} {st : List Value} {x : Nat} {I : am_I} {R : am_R} {Q : am_Q} : am_ev d 280 1290 [.ref x, l1, l2, l3, l4, l5, l6] st I R Q = am_ev d 280 1291 [.ref x, l1, l2, l3, l4, l5, l6] (.ref x :: st) I R Q := am_ev_nx (am_f280 (pc := 1290) (q := (.aload_n 0, 1, (0, 0, 0))) rfl) rfl
set_option maxRecDepth 100000 in
theorem s280_1291 {d : Nat} {l0 l1 l2 l3 l5 l6 : Value} {st : List Value} {x : Int32} {I : am_I} {R : am_R} {Q : am_Q} : am_ev d 280 1291 [l0, l1, l2, l3, .int x, l5, l6] st I R Q = am_ev d 280 1293 [l0, l1, l2, l3, .int x, l5, l6] (.int x :: st) I R Q := am_ev_nx (am_f280 (pc := 1291) (q := (.iload 4, 2, (0, 0, 0))) rfl) rfl
set_option maxRecDepth 100000 in
theorem s280_1293 {d : Nat} {l0 l1 l2 l3 l4 l5 l6 : Value} {st : List Value} {I : am_I} {R : am_R} {Q : am_Q} : am_ev d 280 1293 [l0, l1, l2, l3, l4, l5, l6] st I R Q = am_ev d 280 1294 [l0, l1, l2, l3, l4, l5, l6] (.int (nI 2) :: st) I R Q := am_ev_nx (am_f280 (pc := 1293) (q := (.iconst 2, 1, (0, 0, 2))) rfl) rfl
set_option maxRecDepth 100000 in
theorem s280_1294 {d : Nat} {l0 l1 l2 l3 l4 l5 l6 : Value} {st : List Value} {x y : Int32} {I : am_I} {R : am_R} {Q : am_Q} : am_ev d 280 1294 [l0, l1, l2, l3, l4, l5, l6] (.int y :: .int x :: st) I R Q = am_ev d 280 1295 [l0, l1, l2, l3, l4, l5, l6] (.int (x + y) :: st) I R Q := am_ev_nx (am_f280 (pc := 1294) (q := (.iadd, 1, (0, 0, 0))) rfl) rfl
set_option maxRecDepth 100000 in
theorem s280_1296 {d : Nat} {l0 l1 l2 l3 l4 l5 l6 : Value} {a0 : Nat} {a1 : Int32} {a2 : Int32} {I : am_I} {R : am_R} {Q : am_Q} : am_ev (d + 1) 280 1296 [l0, l1, l2, l3, l4, l5, l6] [.int a2, .int a1, .ref (am_mk 11 a0)] I R Q = am_th (am_cal d 146 [.ref (am_mk 11 a0), .int a1, .int a2] I R Q) fun r I R Q => am_ev (d + 1) 280 1299 [l0, l1, l2, l3, l4, l5, l6] (r.toList ++ []) I R Q := am_ev_call (am_f280 (pc := 1296) (q := (.invokevirtual 162, 3, (146, 0, 0))) rfl) (am_inv_v [.int a1, .int a2] [] (by decide) (by decide) rfl rfl rfl (Nat.le_of_ble_eq_true rfl))
set_option maxRecDepth 100000 in
theorem s280_1299 {d : Nat} {l0 l1 l3 l4 l5 l6 : Value} {st : List Value} {x : Nat} {I : am_I} {R : am_R} {Q : am_Q} : am_ev d 280 1299 [l0, l1, .ref x, l3, l4, l5, l6] st I R Q = am_ev d 280 1300 [l0, l1, .ref x, l3, l4, l5, l6] (.ref x :: st) I R Q := am_ev_nx (am_f280 (pc := 1299) (q := (.aload_n 2, 1, (0, 0, 0))) rfl) rfl
set_option maxRecDepth 100000 in
theorem s280_1300 {d : Nat} {l1 l2 l3 l4 l5 l6 : Value} {st : List Value} {x : Nat} {I : am_I} {R : am_R} {Q : am_Q} : am_ev d 280 1300 [.ref x, l1, l2, l3, l4, l5, l6] st I R Q = am_ev d 280 1301 [.ref x, l1, l2, l3, l4, l5, l6] (.ref x :: st) I R Q := am_ev_nx (am_f280 (pc := 1300) (q := (.aload_n 0, 1, (0, 0, 0))) rfl) rfl
set_option maxRecDepth 100000 in
theorem s280_1301 {d : Nat} {l0 l1 l2 l3 l5 l6 : Value} {st : List Value} {x : Int32} {I : am_I} {R : am_R} {Q : am_Q} : am_ev d 280 1301 [l0, l1, l2, l3, .int x, l5, l6] st I R Q = am_ev d 280 1303 [l0, l1, l2, l3, .int x, l5, l6] (.int x :: st) I R Q := am_ev_nx (am_f280 (pc := 1301) (q := (.iload 4, 2, (0, 0, 0))) rfl) rfl
set_option maxRecDepth 100000 in
theorem s280_1303 {d : Nat} {l0 l1 l2 l3 l4 l5 l6 : Value} {st : List Value} {I : am_I} {R : am_R} {Q : am_Q} : am_ev d 280 1303 [l0, l1, l2, l3, l4, l5, l6] st I R Q = am_ev d 280 1304 [l0, l1, l2, l3, l4, l5, l6] (.int (nI 1) :: st) I R Q := am_ev_nx (am_f280 (pc := 1303) (q := (.iconst 1, 1, (0, 0, 1))) rfl) rfl
set_option maxRecDepth 100000 in
theorem s280_1304 {d : Nat} {l0 l1 l2 l3 l4 l5 l6 : Value} {st : List Value} {x y : Int32} {I : am_I} {R : am_R} {Q : am_Q} : am_ev d 280 1304 [l0, l1, l2, l3, l4, l5, l6] (.int y :: .int x :: st) I R Q = am_ev d 280 1305 [l0, l1, l2, l3, l4, l5, l6] (.int (x + y) :: st) I R Q := am_ev_nx (am_f280 (pc := 1304) (q := (.iadd, 1, (0, 0, 0))) rfl) rfl
set_option maxRecDepth 100000 in
theorem s280_1306 {d : Nat} {l1 l2 l3 l4 l5 l6 : Value} {st : List Value} {x : Nat} {I : am_I} {R : am_R} {Q : am_Q} : am_ev d 280 1306 [.ref x, l1, l2, l3, l4, l5, l6] st I R Q = am_ev d 280 1307 [.ref x, l1, l2, l3, l4, l5, l6] (.ref x :: st) I R Q := am_ev_nx (am_f280 (pc := 1306) (q := (.aload_n 0, 1, (0, 0, 0))) rfl) rfl
set_option maxRecDepth 100000 in
theorem s280_1307 {d : Nat} {l0 l1 l2 l3 l5 l6 : Value} {st : List Value} {x : Int32} {I : am_I} {R : am_R} {Q : am_Q} : am_ev d 280 1307 [l0, l1, l2, l3, .int x, l5, l6] st I R Q = am_ev d 280 1309 [l0, l1, l2, l3, .int x, l5, l6] (.int x :: st) I R Q := am_ev_nx (am_f280 (pc := 1307) (q := (.iload 4, 2, (0, 0, 0))) rfl) rfl
set_option maxRecDepth 100000 in
theorem s280_1309 {d : Nat} {l0 l1 l2 l3 l4 l5 l6 : Value} {st : List Value} {I : am_I} {R : am_R} {Q : am_Q} : am_ev d 280 1309 [l0, l1, l2, l3, l4, l5, l6] st I R Q = am_ev d 280 1310 [l0, l1, l2, l3, l4, l5, l6] (.int (nI 2) :: st) I R Q := am_ev_nx (am_f280 (pc := 1309) (q := (.iconst 2, 1, (0, 0, 2))) rfl) rfl
set_option maxRecDepth 100000 in
theorem s280_1310 {d : Nat} {l0 l1 l2 l3 l4 l5 l6 : Value} {st : List Value} {x y : Int32} {I : am_I} {R : am_R} {Q : am_Q} : am_ev d 280 1310 [l0, l1, l2, l3, l4, l5, l6] (.int y :: .int x :: st) I R Q = am_ev d 280 1311 [l0, l1, l2, l3, l4, l5, l6] (.int (x + y) :: st) I R Q := am_ev_nx (am_f280 (pc := 1310) (q := (.iadd, 1, (0, 0, 0))) rfl) rfl
set_option maxRecDepth 100000 in
theorem s280_1312 {d : Nat} {l0 l1 l2 l3 l4 l5 l6 : Value} {a0 : Nat} {a1 : Int32} {a2 : Int32} {r0 : Value} {I : am_I} {R : am_R} {Q : am_Q} : am_ev (d + 1) 280 1312 [l0, l1, l2, l3, l4, l5, l6] [.int a2, .int a1, .ref (am_mk 12 a0), r0] I R Q = am_th (am_cal d 266 [.ref (am_mk 12 a0), .int a1, .int a2] I R Q) fun r I R Q => am_ev (d + 1) 280 1315 [l0, l1, l2, l3, l4, l5, l6] (r.toList ++ [r0]) I R Q := am_ev_call (am_f280 (pc := 1312) (q := (.invokevirtual 165, 3, (266, 0, 0))) rfl) (am_inv_v [.int a1, .int a2] [r0] (by decide) (by decide) rfl rfl rfl (Nat.le_of_ble_eq_true rfl))
set_option maxRecDepth 100000 in
theorem s280_1315 {d : Nat} {l0 l1 l2 l3 l4 l5 l6 : Value} {st : List Value} {x y : Int32} {I : am_I} {R : am_R} {Q : am_Q} : am_ev d 280 1315 [l0, l1, l2, l3, l4, l5, l6] (.int y :: .int x :: st) I R Q = if x = y then am_ev d 280 1575 [l0, l1, l2, l3, l4, l5, l6] st I R Q else am_ev d 280 1318 [l0, l1, l2, l3, l4, l5, l6] st I R Q := am_ev_br (am_f280 (pc := 1315) (q := (.if_icmp .eq 260, 3, (0, 0, 0))) rfl) rfl
set_option maxRecDepth 100000 in
theorem s280_1318 {d : Nat} {l0 l1 l2 l3 l4 l5 l6 : Value} {st : List Value} {I : am_I} {R : am_R} {Q : am_Q} : am_ev d 280 1318 [l0, l1, l2, l3, l4, l5, l6] st I R Q = am_ev d 280 1319 [l0, l1, l2, l3, l4, l5, l6] (.int (nI 0) :: st) I R Q := am_ev_nx (am_f280 (pc := 1318) (q := (.iconst 0, 1, (0, 0, 0))) rfl) rfl
set_option maxRecDepth 100000 in
theorem s280_1319 {d : Nat} {l0 l1 l2 l3 l4 l5 l6 : Value} {x : Int32} {I : am_I} {R : am_R} {Q : am_Q} : am_ev d 280 1319 [l0, l1, l2, l3, l4, l5, l6] [.int x] I R Q = if am_bb x then some (some (.int x), I, R, Q) else none := am_ev_ifr (am_f280 (pc := 1319) (q := (.ireturn, 1, (1, 0, 0))) rfl) (am_zr_u rfl)
set_option maxRecDepth 100000 in
theorem s280_1320 {d : Nat} {l0 l2 l3 l4 l5 l6 : Value} {st : List Value} {x : Nat} {I : am_I} {R : am_R} {Q : am_Q} : am_ev d 280 1320 [l0, .ref x, l2, l3, l4, l5, l6] st I R Q = am_ev d 280 1321 [l0, .ref x, l2, l3, l4, l5, l6] (.ref x :: st) I R Q := am_ev_nx (am_f280 (pc := 1320) (q := (.aload_n 1, 1, (0, 0, 0))) rfl) rfl
set_option maxRecDepth 100000 in
theorem s280_1321 {d : Nat} {l1 l2 l3 l4 l5 l6 : Value} {st : List Value} {x : Nat} {I : am_I} {R : am_R} {Q : am_Q} : am_ev d 280 1321 [.ref x, l1, l2, l3, l4, l5, l6] st I R Q = am_ev d 280 1322 [.ref x, l1, l2, l3, l4, l5, l6] (.ref x :: st) I R Q := am_ev_nx (am_f280 (pc := 1321) (q := (.aload_n 0, 1, (0, 0, 0))) rfl) rfl
set_option maxRecDepth 100000 in
theorem s280_1322 {d : Nat} {l0 l1 l2 l3 l5 l6 : Value} {st : List Value} {x : Int32} {I : am_I} {R : am_R} {Q : am_Q} : am_ev d 280 1322 [l0, l1, l2, l3, .int x, l5, l6] st I R Q = am_ev d 280 1324 [l0, l1, l2, l3, .int x, l5, l6] (.int x :: st) I R Q := am_ev_nx (am_f280 (pc := 1322) (q := (.iload 4, 2, (0, 0, 0))) rfl) rfl
set_option maxRecDepth 100000 in
theorem s280_1324 {d : Nat} {l0 l1 l2 l3 l4 l5 l6 : Value} {st : List Value} {I : am_I} {R : am_R} {Q : am_Q} : am_ev d 280 1324 [l0, l1, l2, l3, l4, l5, l6] st I R Q = am_ev d 280 1325 [l0, l1, l2, l3, l4, l5, l6] (.int (nI 1) :: st) I R Q := am_ev_nx (am_f280 (pc := 1324) (q := (.iconst 1, 1, (0, 0, 1))) rfl) rfl
set_option maxRecDepth 100000 in
theorem s280_1325 {d : Nat} {l0 l1 l2 l3 l4 l5 l6 : Value} {st : List Value} {x y : Int32} {I : am_I} {R : am_R} {Q : am_Q} : am_ev d 280 1325 [l0, l1, l2, l3, l4, l5, l6] (.int y :: .int x :: st) I R Q = am_ev d 280 1326 [l0, l1, l2, l3, l4, l5, l6] (.int (x + y) :: st) I R Q := am_ev_nx (am_f280 (pc := 1325) (q := (.iadd, 1, (0, 0, 0))) rfl) rfl
set_option maxRecDepth 100000 in
theorem s280_1327 {d : Nat} {l1 l2 l3 l4 l5 l6 : Value} {st : List Value} {x : Nat} {I : am_I} {R : am_R} {Q : am_Q} : am_ev d 280 1327 [.ref x, l1, l2, l3, l4, l5, l6] st I R Q = am_ev d 280 1328 [.ref x, l1, l2, l3, l4, l5, l6] (.ref x :: st) I R Q := am_ev_nx (am_f280 (pc := 1327) (q := (.aload_n 0, 1, (0, 0, 0))) rfl) rfl
set_option maxRecDepth 100000 in
theorem s280_1328 {d : Nat} {l0 l1 l2 l3 l5 l6 : Value} {st : List Value} {x : Int32} {I : am_I} {R : am_R} {Q : am_Q} : am_ev d 280 1328 [l0, l1, l2, l3, .int x, l5, l6] st I R Q = am_ev d 280 1330 [l0, l1, l2, l3, .int x, l5, l6] (.int x :: st) I R Q := am_ev_nx (am_f280 (pc := 1328) (q := (.iload 4, 2, (0, 0, 0))) rfl) rfl
set_option maxRecDepth 100000 in
theorem s280_1330 {d : Nat} {l0 l1 l2 l3 l4 l5 l6 : Value} {st : List Value} {I : am_I} {R : am_R} {Q : am_Q} : am_ev d 280 1330 [l0, l1, l2, l3, l4, l5, l6] st I R Q = am_ev d 280 1331 [l0, l1, l2, l3, l4, l5, l6] (.int (nI 2) :: st) I R Q := am_ev_nx (am_f280 (pc := 1330) (q := (.iconst 2, 1, (0, 0, 2))) rfl) rfl
set_option maxRecDepth 100000 in
theorem s280_1331 {d : Nat} {l0 l1 l2 l3 l4 l5 l6 : Value} {st : List Value} {x y : Int32} {I : am_I} {R : am_R} {Q : am_Q} : am_ev d 280 1331 [l0, l1, l2, l3, l4, l5, l6] (.int y :: .int x :: st) I R Q = am_ev d 280 1332 [l0, l1, l2, l3, l4, l5, l6] (.int (x + y) :: st) I R Q := am_ev_nx (am_f280 (pc := 1331) (q := (.iadd, 1, (0, 0, 0))) rfl) rfl
set_option maxRecDepth 100000 in
theorem s280_1333 {d : Nat} {l1 l2 l3 l4 l5 l6 : Value} {st : List Value} {x : Nat} {I : am_I} {R : am_R} {Q : am_Q} : am_ev d 280 1333 [.ref x, l1, l2, l3, l4, l5, l6] st I R Q = am_ev d 280 1334 [.ref x, l1, l2, l3, l4, l5, l6] (.ref x :: st) I R Q := am_ev_nx (am_f280 (pc := 1333) (q := (.aload_n 0, 1, (0, 0, 0))) rfl) rfl
set_option maxRecDepth 100000 in
theorem s280_1334 {d : Nat} {l0 l1 l2 l3 l5 l6 : Value} {st : List Value} {x : Int32} {I : am_I} {R : am_R} {Q : am_Q} : am_ev d 280 1334 [l0, l1, l2, l3, .int x, l5, l6] st I R Q = am_ev d 280 1336 [l0, l1, l2, l3, .int x, l5, l6] (.int x :: st) I R Q := am_ev_nx (am_f280 (pc := 1334) (q := (.iload 4, 2, (0, 0, 0))) rfl) rfl
set_option maxRecDepth 100000 in
theorem s280_1336 {d : Nat} {l0 l1 l2 l3 l4 l5 l6 : Value} {st : List Value} {I : am_I} {R : am_R} {Q : am_Q} : am_ev d 280 1336 [l0, l1, l2, l3, l4, l5, l6] st I R Q = am_ev d 280 1337 [l0, l1, l2, l3, l4, l5, l6] (.int (nI 3) :: st) I R Q := am_ev_nx (am_f280 (pc := 1336) (q := (.iconst 3, 1, (0, 0, 3))) rfl) rfl
set_option maxRecDepth 100000 in
theorem s280_1337 {d : Nat} {l0 l1 l2 l3 l4 l5 l6 : Value} {st : List Value} {x y : Int32} {I : am_I} {R : am_R} {Q : am_Q} : am_ev d 280 1337 [l0, l1, l2, l3, l4, l5, l6] (.int y :: .int x :: st) I R Q = am_ev d 280 1338 [l0, l1, l2, l3, l4, l5, l6] (.int (x + y) :: st) I R Q := am_ev_nx (am_f280 (pc := 1337) (q := (.iadd, 1, (0, 0, 0))) rfl) rfl
set_option maxRecDepth 100000 in
theorem s280_1339 {d : Nat} {l0 l1 l2 l3 l4 l5 l6 : Value} {st : List Value} {x : Int32} {I : am_I} {R : am_R} {Q : am_Q} : am_ev d 280 1339 [l0, l1, l2, l3, l4, l5, l6] (.int x :: st) I R Q = if x = 0 then am_ev d 280 1346 [l0, l1, l2, l3, l4, l5, l6] st I R Q else am_ev d 280 1342 [l0, l1, l2, l3, l4, l5, l6] st I R Q := am_ev_br (am_f280 (pc := 1339) (q := (.ifCond .eq 7, 3, (0, 0, 0))) rfl) rfl
set_option maxRecDepth 100000 in
theorem s280_1342 {d : Nat} {l0 l1 l2 l3 l4 l5 l6 : Value} {st : List Value} {I : am_I} {R : am_R} {Q : am_Q} : am_ev d 280 1342 [l0, l1, l2, l3, l4, l5, l6] st I R Q = am_ev d 280 1343 [l0, l1, l2, l3, l4, l5, l6] (.int (nI 1) :: st) I R Q := am_ev_nx (am_f280 (pc := 1342) (q := (.iconst 1, 1, (0, 0, 1))) rfl) rfl
set_option maxRecDepth 100000 in
theorem s280_1343 {d : Nat} {l0 l1 l2 l3 l4 l5 l6 : Value} {st : List Value} {I : am_I} {R : am_R} {Q : am_Q} : am_ev d 280 1343 [l0, l1, l2, l3, l4, l5, l6] st I R Q = am_ev d 280 1347 [l0, l1, l2, l3, l4, l5, l6] st I R Q := am_ev_nx (am_f280 (pc := 1343) (q := (.goto 4, 3, (0, 0, 0))) rfl) rfl
set_option maxRecDepth 100000 in
theorem s280_1346 {d : Nat} {l0 l1 l2 l3 l4 l5 l6 : Value} {st : List Value} {I : am_I} {R : am_R} {Q : am_Q} : am_ev d 280 1346 [l0, l1, l2, l3, l4, l5, l6] st I R Q = am_ev d 280 1347 [l0, l1, l2, l3, l4, l5, l6] (.int (nI 0) :: st) I R Q := am_ev_nx (am_f280 (pc := 1346) (q := (.iconst 0, 1, (0, 0, 0))) rfl) rfl
set_option maxRecDepth 100000 in
theorem s280_1347 {d : Nat} {l0 l1 l2 l3 l4 l5 l6 : Value} {a0 : Nat} {a1 : Int32} {a2 : Int32} {a3 : Int32} {I : am_I} {R : am_R} {Q : am_Q} : am_ev (d + 1) 280 1347 [l0, l1, l2, l3, l4, l5, l6] [.int a3, .int a2, .int a1, .ref (am_mk 11 a0)] I R Q = am_th (am_cal d 147 [.ref (am_mk 11 a0), .int a1, .int a2, .int a3] I R Q) fun r I R Q => am_ev (d + 1) 280 1350 [l0, l1, l2, l3, l4, l5, l6] (r.toList ++ []) I R Q := am_ev_call (am_f280 (pc := 1347) (q := (.invokevirtual 166, 3, (147, 0, 0))) rfl) (am_inv_v [.int a1, .int a2, .int a3] [] (by decide) (by decide) rfl rfl rfl (Nat.le_of_ble_eq_true rfl))
set_option maxRecDepth 100000 in
theorem s280_1350 {d : Nat} {l0 l1 l3 l4 l5 l6 : Value} {st : List Value} {x : Nat} {I : am_I} {R : am_R} {Q : am_Q} : am_ev d 280 1350 [l0, l1, .ref x, l3, l4, l5, l6] st I R Q = am_ev d 280 1351 [l0, l1, .ref x, l3, l4, l5, l6] (.ref x :: st) I R Q := am_ev_nx (am_f280 (pc := 1350) (q := (.aload_n 2, 1, (0, 0, 0))) rfl) rfl
set_option maxRecDepth 100000 in
theorem s280_1351 {d : Nat} {l1 l2 l3 l4 l5 l6 : Value} {st : List Value} {x : Nat} {I : am_I} {R : am_R} {Q : am_Q} : am_ev d 280 1351 [.ref x, l1, l2, l3, l4, l5, l6] st I R Q = am_ev d 280 1352 [.ref x, l1, l2, l3, l4, l5, l6] (.ref x :: st) I R Q := am_ev_nx (am_f280 (pc := 1351) (q := (.aload_n 0, 1, (0, 0, 0))) rfl) rfl
set_option maxRecDepth 100000 in
theorem s280_1352 {d : Nat} {l0 l1 l2 l3 l5 l6 : Value} {st : List Value} {x : Int32} {I : am_I} {R : am_R} {Q : am_Q} : am_ev d 280 1352 [l0, l1, l2, l3, .int x, l5, l6] st I R Q = am_ev d 280 1354 [l0, l1, l2, l3, .int x, l5, l6] (.int x :: st) I R Q := am_ev_nx (am_f280 (pc := 1352) (q := (.iload 4, 2, (0, 0, 0))) rfl) rfl
set_option maxRecDepth 100000 in
theorem s280_1354 {d : Nat} {l0 l1 l2 l3 l4 l5 l6 : Value} {st : List Value} {I : am_I} {R : am_R} {Q : am_Q} : am_ev d 280 1354 [l0, l1, l2, l3, l4, l5, l6] st I R Q = am_ev d 280 1355 [l0, l1, l2, l3, l4, l5, l6] (.int (nI 1) :: st) I R Q := am_ev_nx (am_f280 (pc := 1354) (q := (.iconst 1, 1, (0, 0, 1))) rfl) rfl
set_option maxRecDepth 100000 in
theorem s280_1355 {d : Nat} {l0 l1 l2 l3 l4 l5 l6 : Value} {st : List Value} {x y : Int32} {I : am_I} {R : am_R} {Q : am_Q} : am_ev d 280 1355 [l0, l1, l2, l3, l4, l5, l6] (.int y :: .int x :: st) I R Q = am_ev d 280 1356 [l0, l1, l2, l3, l4, l5, l6] (.int (x + y) :: st) I R Q := am_ev_nx (am_f280 (pc := 1355) (q := (.iadd, 1, (0, 0, 0))) rfl) rfl
set_option maxRecDepth 100000 in
theorem s280_1357 {d : Nat} {l1 l2 l3 l4 l5 l6 : Value} {st : List Value} {x : Nat} {I : am_I} {R : am_R} {Q : am_Q} : am_ev d 280 1357 [.ref x, l1, l2, l3, l4, l5, l6] st I R Q = am_ev d 280 1358 [.ref x, l1, l2, l3, l4, l5, l6] (.ref x :: st) I R Q := am_ev_nx (am_f280 (pc := 1357) (q := (.aload_n 0, 1, (0, 0, 0))) rfl) rfl
set_option maxRecDepth 100000 in
theorem s280_1358 {d : Nat} {l0 l1 l2 l3 l5 l6 : Value} {st : List Value} {x : Int32} {I : am_I} {R : am_R} {Q : am_Q} : am_ev d 280 1358 [l0, l1, l2, l3, .int x, l5, l6] st I R Q = am_ev d 280 1360 [l0, l1, l2, l3, .int x, l5, l6] (.int x :: st) I R Q := am_ev_nx (am_f280 (pc := 1358) (q := (.iload 4, 2, (0, 0, 0))) rfl) rfl
set_option maxRecDepth 100000 in
theorem s280_1360 {d : Nat} {l0 l1 l2 l3 l4 l5 l6 : Value} {st : List Value} {I : am_I} {R : am_R} {Q : am_Q} : am_ev d 280 1360 [l0, l1, l2, l3, l4, l5, l6] st I R Q = am_ev d 280 1361 [l0, l1, l2, l3, l4, l5, l6] (.int (nI 2) :: st) I R Q := am_ev_nx (am_f280 (pc := 1360) (q := (.iconst 2, 1, (0, 0, 2))) rfl) rfl
set_option maxRecDepth 100000 in
theorem s280_1361 {d : Nat} {l0 l1 l2 l3 l4 l5 l6 : Value} {st : List Value} {x y : Int32} {I : am_I} {R : am_R} {Q : am_Q} : am_ev d 280 1361 [l0, l1, l2, l3, l4, l5, l6] (.int y :: .int x :: st) I R Q = am_ev d 280 1362 [l0, l1, l2, l3, l4, l5, l6] (.int (x + y) :: st) I R Q := am_ev_nx (am_f280 (pc := 1361) (q := (.iadd, 1, (0, 0, 0))) rfl) rfl
set_option maxRecDepth 100000 in
theorem s280_1363 {d : Nat} {l1 l2 l3 l4 l5 l6 : Value} {st : List Value} {x : Nat} {I : am_I} {R : am_R} {Q : am_Q} : am_ev d 280 1363 [.ref x, l1, l2, l3, l4, l5, l6] st I R Q = am_ev d 280 1364 [.ref x, l1, l2, l3, l4, l5, l6] (.ref x :: st) I R Q := am_ev_nx (am_f280 (pc := 1363) (q := (.aload_n 0, 1, (0, 0, 0))) rfl) rfl
set_option maxRecDepth 100000 in
theorem s280_1364 {d : Nat} {l0 l1 l2 l3 l5 l6 : Value} {st : List Value} {x : Int32} {I : am_I} {R : am_R} {Q : am_Q} : am_ev d 280 1364 [l0, l1, l2, l3, .int x, l5, l6] st I R Q = am_ev d 280 1366 [l0, l1, l2, l3, .int x, l5, l6] (.int x :: st) I R Q := am_ev_nx (am_f280 (pc := 1364) (q := (.iload 4, 2, (0, 0, 0))) rfl) rfl
set_option maxRecDepth 100000 in
theorem s280_1366 {d : Nat} {l0 l1 l2 l3 l4 l5 l6 : Value} {st : List Value} {I : am_I} {R : am_R} {Q : am_Q} : am_ev d 280 1366 [l0, l1, l2, l3, l4, l5, l6] st I R Q = am_ev d 280 1367 [l0, l1, l2, l3, l4, l5, l6] (.int (nI 3) :: st) I R Q := am_ev_nx (am_f280 (pc := 1366) (q := (.iconst 3, 1, (0, 0, 3))) rfl) rfl
set_option maxRecDepth 100000 in
theorem s280_1367 {d : Nat} {l0 l1 l2 l3 l4 l5 l6 : Value} {st : List Value} {x y : Int32} {I : am_I} {R : am_R} {Q : am_Q} : am_ev d 280 1367 [l0, l1, l2, l3, l4, l5, l6] (.int y :: .int x :: st) I R Q = am_ev d 280 1368 [l0, l1, l2, l3, l4, l5, l6] (.int (x + y) :: st) I R Q := am_ev_nx (am_f280 (pc := 1367) (q := (.iadd, 1, (0, 0, 0))) rfl) rfl
set_option maxRecDepth 100000 in
theorem s280_1369 {d : Nat} {l0 l1 l2 l3 l4 l5 l6 : Value} {st : List Value} {x : Int32} {I : am_I} {R : am_R} {Q : am_Q} : am_ev d 280 1369 [l0, l1, l2, l3, l4, l5, l6] (.int x :: st) I R Q = if x = 0 then am_ev d 280 1376 [l0, l1, l2, l3, l4, l5, l6] st I R Q else am_ev d 280 1372 [l0, l1, l2, l3, l4, l5, l6] st I R Q := am_ev_br (am_f280 (pc := 1369) (q := (.ifCond .eq 7, 3, (0, 0, 0))) rfl) rfl
set_option maxRecDepth 100000 in
theorem s280_1372 {d : Nat} {l0 l1 l2 l3 l4 l5 l6 : Value} {st : List Value} {I : am_I} {R : am_R} {Q : am_Q} : am_ev d 280 1372 [l0, l1, l2, l3, l4, l5, l6] st I R Q = am_ev d 280 1373 [l0, l1, l2, l3, l4, l5, l6] (.int (nI 1) :: st) I R Q := am_ev_nx (am_f280 (pc := 1372) (q := (.iconst 1, 1, (0, 0, 1))) rfl) rfl
set_option maxRecDepth 100000 in
theorem s280_1373 {d : Nat} {l0 l1 l2 l3 l4 l5 l6 : Value} {st : List Value} {I : am_I} {R : am_R} {Q : am_Q} : am_ev d 280 1373 [l0, l1, l2, l3, l4, l5, l6] st I R Q = am_ev d 280 1377 [l0, l1, l2, l3, l4, l5, l6] st I R Q := am_ev_nx (am_f280 (pc := 1373) (q := (.goto 4, 3, (0, 0, 0))) rfl) rfl
set_option maxRecDepth 100000 in
theorem s280_1376 {d : Nat} {l0 l1 l2 l3 l4 l5 l6 : Value} {st : List Value} {I : am_I} {R : am_R} {Q : am_Q} : am_ev d 280 1376 [l0, l1, l2, l3, l4, l5, l6] st I R Q = am_ev d 280 1377 [l0, l1, l2, l3, l4, l5, l6] (.int (nI 0) :: st) I R Q := am_ev_nx (am_f280 (pc := 1376) (q := (.iconst 0, 1, (0, 0, 0))) rfl) rfl
set_option maxRecDepth 100000 in
theorem s280_1377 {d : Nat} {l0 l1 l2 l3 l4 l5 l6 : Value} {a0 : Nat} {a1 : Int32} {a2 : Int32} {a3 : Int32} {r0 : Value} {I : am_I} {R : am_R} {Q : am_Q} : am_ev (d + 1) 280 1377 [l0, l1, l2, l3, l4, l5, l6] [.int a3, .int a2, .int a1, .ref (am_mk 12 a0), r0] I R Q = am_th (am_cal d 268 [.ref (am_mk 12 a0), .int a1, .int a2, .int a3] I R Q) fun r I R Q => am_ev (d + 1) 280 1380 [l0, l1, l2, l3, l4, l5, l6] (r.toList ++ [r0]) I R Q := am_ev_call (am_f280 (pc := 1377) (q := (.invokevirtual 170, 3, (268, 0, 0))) rfl) (am_inv_v [.int a1, .int a2, .int a3] [r0] (by decide) (by decide) rfl rfl rfl (Nat.le_of_ble_eq_true rfl))
set_option maxRecDepth 100000 in
theorem s280_1380 {d : Nat} {l0 l1 l2 l3 l4 l5 l6 : Value} {st : List Value} {x y : Int32} {I : am_I} {R : am_R} {Q : am_Q} : am_ev d 280 1380 [l0, l1, l2, l3, l4, l5, l6] (.int y :: .int x :: st) I R Q = if x = y then am_ev d 280 1575 [l0, l1, l2, l3, l4, l5, l6] st I R Q else am_ev d 280 1383 [l0, l1, l2, l3, l4, l5, l6] st I R Q := am_ev_br (am_f280 (pc := 1380) (q := (.if_icmp .eq 195, 3, (0, 0, 0))) rfl) rfl
set_option maxRecDepth 100000 in
theorem s280_1383 {d : Nat} {l0 l1 l2 l3 l4 l5 l6 : Value} {st : List Value} {I : am_I} {R : am_R} {Q : am_Q} : am_ev d 280 1383 [l0, l1, l2, l3, l4, l5, l6] st I R Q = am_ev d 280 1384 [l0, l1, l2, l3, l4, l5, l6] (.int (nI 0) :: st) I R Q := am_ev_nx (am_f280 (pc := 1383) (q := (.iconst 0, 1, (0, 0, 0))) rfl) rfl
set_option maxRecDepth 100000 in
theorem s280_1384 {d : Nat} {l0 l1 l2 l3 l4 l5 l6 : Value} {x : Int32} {I : am_I} {R : am_R} {Q : am_Q} : am_ev d 280 1384 [l0, l1, l2, l3, l4, l5, l6] [.int x] I R Q = if am_bb x then some (some (.int x), I, R, Q) else none := am_ev_ifr (am_f280 (pc := 1384) (q := (.ireturn, 1, (1, 0, 0))) rfl) (am_zr_u rfl)
set_option maxRecDepth 100000 in
theorem s280_1385 {d : Nat} {l0 l2 l3 l4 l5 l6 : Value} {st : List Value} {x : Nat} {I : am_I} {R : am_R} {Q : am_Q} : am_ev d 280 1385 [l0, .ref x, l2, l3, l4, l5, l6] st I R Q = am_ev d 280 1386 [l0, .ref x, l2, l3, l4, l5, l6] (.ref x :: st) I R Q := am_ev_nx (am_f280 (pc := 1385) (q := (.aload_n 1, 1, (0, 0, 0))) rfl) rfl
set_option maxRecDepth 100000 in
theorem s280_1386 {d : Nat} {l1 l2 l3 l4 l5 l6 : Value} {st : List Value} {x : Nat} {I : am_I} {R : am_R} {Q : am_Q} : am_ev d 280 1386 [.ref x, l1, l2, l3, l4, l5, l6] st I R Q = am_ev d 280 1387 [.ref x, l1, l2, l3, l4, l5, l6] (.ref x :: st) I R Q := am_ev_nx (am_f280 (pc := 1386) (q := (.aload_n 0, 1, (0, 0, 0))) rfl) rfl
set_option maxRecDepth 100000 in
theorem s280_1387 {d : Nat} {l0 l1 l2 l3 l5 l6 : Value} {st : List Value} {x : Int32} {I : am_I} {R : am_R} {Q : am_Q} : am_ev d 280 1387 [l0, l1, l2, l3, .int x, l5, l6] st I R Q = am_ev d 280 1389 [l0, l1, l2, l3, .int x, l5, l6] (.int x :: st) I R Q := am_ev_nx (am_f280 (pc := 1387) (q := (.iload 4, 2, (0, 0, 0))) rfl) rfl
set_option maxRecDepth 100000 in
theorem s280_1389 {d : Nat} {l0 l1 l2 l3 l4 l5 l6 : Value} {st : List Value} {I : am_I} {R : am_R} {Q : am_Q} : am_ev d 280 1389 [l0, l1, l2, l3, l4, l5, l6] st I R Q = am_ev d 280 1390 [l0, l1, l2, l3, l4, l5, l6] (.int (nI 1) :: st) I R Q := am_ev_nx (am_f280 (pc := 1389) (q := (.iconst 1, 1, (0, 0, 1))) rfl) rfl
set_option maxRecDepth 100000 in
theorem s280_1390 {d : Nat} {l0 l1 l2 l3 l4 l5 l6 : Value} {st : List Value} {x y : Int32} {I : am_I} {R : am_R} {Q : am_Q} : am_ev d 280 1390 [l0, l1, l2, l3, l4, l5, l6] (.int y :: .int x :: st) I R Q = am_ev d 280 1391 [l0, l1, l2, l3, l4, l5, l6] (.int (x + y) :: st) I R Q := am_ev_nx (am_f280 (pc := 1390) (q := (.iadd, 1, (0, 0, 0))) rfl) rfl
set_option maxRecDepth 100000 in
theorem s280_1392 {d : Nat} {l0 l1 l2 l3 l4 l5 l6 : Value} {a0 : Nat} {a1 : Int32} {I : am_I} {R : am_R} {Q : am_Q} : am_ev (d + 1) 280 1392 [l0, l1, l2, l3, l4, l5, l6] [.int a1, .ref (am_mk 11 a0)] I R Q = am_th (am_cal d 148 [.ref (am_mk 11 a0), .int a1] I R Q) fun r I R Q => am_ev (d + 1) 280 1395 [l0, l1, l2, l3, l4, l5, l6] (r.toList ++ []) I R Q := am_ev_call (am_f280 (pc := 1392) (q := (.invokevirtual 171, 3, (148, 0, 0))) rfl) (am_inv_v [.int a1] [] (by decide) (by decide) rfl rfl rfl (Nat.le_of_ble_eq_true rfl))
set_option maxRecDepth 100000 in
theorem s280_1395 {d : Nat} {l0 l1 l3 l4 l5 l6 : Value} {st : List Value} {x : Nat} {I : am_I} {R : am_R} {Q : am_Q} : am_ev d 280 1395 [l0, l1, .ref x, l3, l4, l5, l6] st I R Q = am_ev d 280 1396 [l0, l1, .ref x, l3, l4, l5, l6] (.ref x :: st) I R Q := am_ev_nx (am_f280 (pc := 1395) (q := (.aload_n 2, 1, (0, 0, 0))) rfl) rfl
set_option maxRecDepth 100000 in
theorem s280_1396 {d : Nat} {l1 l2 l3 l4 l5 l6 : Value} {st : List Value} {x : Nat} {I : am_I} {R : am_R} {Q : am_Q} : am_ev d 280 1396 [.ref x, l1, l2, l3, l4, l5, l6] st I R Q = am_ev d 280 1397 [.ref x, l1, l2, l3, l4, l5, l6] (.ref x :: st) I R Q := am_ev_nx (am_f280 (pc := 1396) (q := (.aload_n 0, 1, (0, 0, 0))) rfl) rfl
set_option maxRecDepth 100000 in
theorem s280_1397 {d : Nat} {l0 l1 l2 l3 l5 l6 : Value} {st : List Value} {x : Int32} {I : am_I} {R : am_R} {Q : am_Q} : am_ev d 280 1397 [l0, l1, l2, l3, .int x, l5, l6] st I R Q = am_ev d 280 1399 [l0, l1, l2, l3, .int x, l5, l6] (.int x :: st) I R Q := am_ev_nx (am_f280 (pc := 1397) (q := (.iload 4, 2, (0, 0, 0))) rfl) rfl
set_option maxRecDepth 100000 in
theorem s280_1399 {d : Nat} {l0 l1 l2 l3 l4 l5 l6 : Value} {st : List Value} {I : am_I} {R : am_R} {Q : am_Q} : am_ev d 280 1399 [l0, l1, l2, l3, l4, l5, l6] st I R Q = am_ev d 280 1400 [l0, l1, l2, l3, l4, l5, l6] (.int (nI 1) :: st) I R Q := am_ev_nx (am_f280 (pc := 1399) (q := (.iconst 1, 1, (0, 0, 1))) rfl) rfl
set_option maxRecDepth 100000 in
theorem s280_1400 {d : Nat} {l0 l1 l2 l3 l4 l5 l6 : Value} {st : List Value} {x y : Int32} {I : am_I} {R : am_R} {Q : am_Q} : am_ev d 280 1400 [l0, l1, l2, l3, l4, l5, l6] (.int y :: .int x :: st) I R Q = am_ev d 280 1401 [l0, l1, l2, l3, l4, l5, l6] (.int (x + y) :: st) I R Q := am_ev_nx (am_f280 (pc := 1400) (q := (.iadd, 1, (0, 0, 0))) rfl) rfl
set_option maxRecDepth 100000 in
theorem s280_1402 {d : Nat} {l0 l1 l2 l3 l4 l5 l6 : Value} {a0 : Nat} {a1 : Int32} {r0 : Value} {I : am_I} {R : am_R} {Q : am_Q} : am_ev (d + 1) 280 1402 [l0, l1, l2, l3, l4, l5, l6] [.int a1, .ref (am_mk 12 a0), r0] I R Q = am_th (am_cal d 270 [.ref (am_mk 12 a0), .int a1] I R Q) fun r I R Q => am_ev (d + 1) 280 1405 [l0, l1, l2, l3, l4, l5, l6] (r.toList ++ [r0]) I R Q := am_ev_call (am_f280 (pc := 1402) (q := (.invokevirtual 174, 3, (270, 0, 0))) rfl) (am_inv_v [.int a1] [r0] (by decide) (by decide) rfl rfl rfl (Nat.le_of_ble_eq_true rfl))
set_option maxRecDepth 100000 in
theorem s280_1405 {d : Nat} {l0 l1 l2 l3 l4 l5 l6 : Value} {st : List Value} {x y : Int32} {I : am_I} {R : am_R} {Q : am_Q} : am_ev d 280 1405 [l0, l1, l2, l3, l4, l5, l6] (.int y :: .int x :: st) I R Q = if x = y then am_ev d 280 1575 [l0, l1, l2, l3, l4, l5, l6] st I R Q else am_ev d 280 1408 [l0, l1, l2, l3, l4, l5, l6] st I R Q := am_ev_br (am_f280 (pc := 1405) (q := (.if_icmp .eq 170, 3, (0, 0, 0))) rfl) rfl
set_option maxRecDepth 100000 in
theorem s280_1408 {d : Nat} {l0 l1 l2 l3 l4 l5 l6 : Value} {st : List Value} {I : am_I} {R : am_R} {Q : am_Q} : am_ev d 280 1408 [l0, l1, l2, l3, l4, l5, l6] st I R Q = am_ev d 280 1409 [l0, l1, l2, l3, l4, l5, l6] (.int (nI 0) :: st) I R Q := am_ev_nx (am_f280 (pc := 1408) (q := (.iconst 0, 1, (0, 0, 0))) rfl) rfl
set_option maxRecDepth 100000 in
theorem s280_1409 {d : Nat} {l0 l1 l2 l3 l4 l5 l6 : Value} {x : Int32} {I : am_I} {R : am_R} {Q : am_Q} : am_ev d 280 1409 [l0, l1, l2, l3, l4, l5, l6] [.int x] I R Q = if am_bb x then some (some (.int x), I, R, Q) else none := am_ev_ifr (am_f280 (pc := 1409) (q := (.ireturn, 1, (1, 0, 0))) rfl) (am_zr_u rfl)
set_option maxRecDepth 100000 in
theorem s280_1410 {d : Nat} {l0 l2 l3 l4 l5 l6 : Value} {st : List Value} {x : Nat} {I : am_I} {R : am_R} {Q : am_Q} : am_ev d 280 1410 [l0, .ref x, l2, l3, l4, l5, l6] st I R Q = am_ev d 280 1411 [l0, .ref x, l2, l3, l4, l5, l6] (.ref x :: st) I R Q := am_ev_nx (am_f280 (pc := 1410) (q := (.aload_n 1, 1, (0, 0, 0))) rfl) rfl
set_option maxRecDepth 100000 in
theorem s280_1411 {d : Nat} {l0 l1 l2 l3 l4 l5 l6 : Value} {a0 : Nat} {I : am_I} {R : am_R} {Q : am_Q} : am_ev (d + 1) 280 1411 [l0, l1, l2, l3, l4, l5, l6] [.ref (am_mk 11 a0)] I R Q = am_th (am_cal d 149 [.ref (am_mk 11 a0)] I R Q) fun r I R Q => am_ev (d + 1) 280 1414 [l0, l1, l2, l3, l4, l5, l6] (r.toList ++ []) I R Q := am_ev_call (am_f280 (pc := 1411) (q := (.invokevirtual 175, 3, (149, 0, 0))) rfl) (am_inv_v [] [] (by decide) (by decide) rfl rfl rfl (Nat.le_of_ble_eq_true rfl))
set_option maxRecDepth 100000 in
theorem s280_1414 {d : Nat} {l0 l1 l3 l4 l5 l6 : Value} {st : List Value} {x : Nat} {I : am_I} {R : am_R} {Q : am_Q} : am_ev d 280 1414 [l0, l1, .ref x, l3, l4, l5, l6] st I R Q = am_ev d 280 1415 [l0, l1, .ref x, l3, l4, l5, l6] (.ref x :: st) I R Q := am_ev_nx (am_f280 (pc := 1414) (q := (.aload_n 2, 1, (0, 0, 0))) rfl) rfl
set_option maxRecDepth 100000 in
theorem s280_1415 {d : Nat} {l0 l1 l2 l3 l4 l5 l6 : Value} {a0 : Nat} {r0 : Value} {I : am_I} {R : am_R} {Q : am_Q} : am_ev (d + 1) 280 1415 [l0, l1, l2, l3, l4, l5, l6] [.ref (am_mk 12 a0), r0] I R Q = am_th (am_cal d 271 [.ref (am_mk 12 a0)] I R Q) fun r I R Q => am_ev (d + 1) 280 1418 [l0, l1, l2, l3, l4, l5, l6] (r.toList ++ [r0]) I R Q := am_ev_call (am_f280 (pc := 1415) (q := (.invokevirtual 178, 3, (271, 0, 0))) rfl) (am_inv_v [] [r0] (by decide) (by decide) rfl rfl rfl (Nat.le_of_ble_eq_true rfl))
set_option maxRecDepth 100000 in
theorem s280_1418 {d : Nat} {l0 l1 l2 l3 l4 l5 l6 : Value} {st : List Value} {x y : Int32} {I : am_I} {R : am_R} {Q : am_Q} : am_ev d 280 1418 [l0, l1, l2, l3, l4, l5, l6] (.int y :: .int x :: st) I R Q = if x = y then am_ev d 280 1575 [l0, l1, l2, l3, l4, l5, l6] st I R Q else am_ev d 280 1421 [l0, l1, l2, l3, l4, l5, l6] st I R Q := am_ev_br (am_f280 (pc := 1418) (q := (.if_icmp .eq 157, 3, (0, 0, 0))) rfl) rfl
set_option maxRecDepth 100000 in
theorem s280_1421 {d : Nat} {l0 l1 l2 l3 l4 l5 l6 : Value} {st : List Value} {I : am_I} {R : am_R} {Q : am_Q} : am_ev d 280 1421 [l0, l1, l2, l3, l4, l5, l6] st I R Q = am_ev d 280 1422 [l0, l1, l2, l3, l4, l5, l6] (.int (nI 0) :: st) I R Q := am_ev_nx (am_f280 (pc := 1421) (q := (.iconst 0, 1, (0, 0, 0))) rfl) rfl
set_option maxRecDepth 100000 in
theorem s280_1422 {d : Nat} {l0 l1 l2 l3 l4 l5 l6 : Value} {x : Int32} {I : am_I} {R : am_R} {Q : am_Q} : am_ev d 280 1422 [l0, l1, l2, l3, l4, l5, l6] [.int x] I R Q = if am_bb x then some (some (.int x), I, R, Q) else none := am_ev_ifr (am_f280 (pc := 1422) (q := (.ireturn, 1, (1, 0, 0))) rfl) (am_zr_u rfl)
set_option maxRecDepth 100000 in
theorem s280_1423 {d : Nat} {l0 l2 l3 l4 l5 l6 : Value} {st : List Value} {x : Nat} {I : am_I} {R : am_R} {Q : am_Q} : am_ev d 280 1423 [l0, .ref x, l2, l3, l4, l5, l6] st I R Q = am_ev d 280 1424 [l0, .ref x, l2, l3, l4, l5, l6] (.ref x :: st) I R Q := am_ev_nx (am_f280 (pc := 1423) (q := (.aload_n 1, 1, (0, 0, 0))) rfl) rfl
set_option maxRecDepth 100000 in
theorem s280_1424 {d : Nat} {l0 l1 l2 l3 l4 l5 l6 : Value} {a0 : Nat} {I : am_I} {R : am_R} {Q : am_Q} : am_ev (d + 1) 280 1424 [l0, l1, l2, l3, l4, l5, l6] [.ref (am_mk 11 a0)] I R Q = am_th (am_cal d 150 [.ref (am_mk 11 a0)] I R Q) fun r I R Q => am_ev (d + 1) 280 1427 [l0, l1, l2, l3, l4, l5, l6] (r.toList ++ []) I R Q := am_ev_call (am_f280 (pc := 1424) (q := (.invokevirtual 179, 3, (150, 0, 0))) rfl) (am_inv_v [] [] (by decide) (by decide) rfl rfl rfl (Nat.le_of_ble_eq_true rfl))
set_option maxRecDepth 100000 in
theorem s280_1427 {d : Nat} {l0 l1 l3 l4 l5 l6 : Value} {st : List Value} {x : Nat} {I : am_I} {R : am_R} {Q : am_Q} : am_ev d 280 1427 [l0, l1, .ref x, l3, l4, l5, l6] st I R Q = am_ev d 280 1428 [l0, l1, .ref x, l3, l4, l5, l6] (.ref x :: st) I R Q := am_ev_nx (am_f280 (pc := 1427) (q := (.aload_n 2, 1, (0, 0, 0))) rfl) rfl
set_option maxRecDepth 100000 in
theorem s280_1428 {d : Nat} {l0 l1 l2 l3 l4 l5 l6 : Value} {a0 : Nat} {r0 : Value} {I : am_I} {R : am_R} {Q : am_Q} : am_ev (d + 1) 280 1428 [l0, l1, l2, l3, l4, l5, l6] [.ref (am_mk 12 a0), r0] I R Q = am_th (am_cal d 272 [.ref (am_mk 12 a0)] I R Q) fun r I R Q => am_ev (d + 1) 280 1431 [l0, l1, l2, l3, l4, l5, l6] (r.toList ++ [r0]) I R Q := am_ev_call (am_f280 (pc := 1428) (q := (.invokevirtual 182, 3, (272, 0, 0))) rfl) (am_inv_v [] [r0] (by decide) (by decide) rfl rfl rfl (Nat.le_of_ble_eq_true rfl))
set_option maxRecDepth 100000 in
theorem s280_1431 {d : Nat} {l0 l1 l2 l3 l4 l5 l6 : Value} {st : List Value} {x y : Int32} {I : am_I} {R : am_R} {Q : am_Q} : am_ev d 280 1431 [l0, l1, l2, l3, l4, l5, l6] (.int y :: .int x :: st) I R Q = if x = y then am_ev d 280 1575 [l0, l1, l2, l3, l4, l5, l6] st I R Q else am_ev d 280 1434 [l0, l1, l2, l3, l4, l5, l6] st I R Q := am_ev_br (am_f280 (pc := 1431) (q := (.if_icmp .eq 144, 3, (0, 0, 0))) rfl) rfl
set_option maxRecDepth 100000 in
theorem s280_1434 {d : Nat} {l0 l1 l2 l3 l4 l5 l6 : Value} {st : List Value} {I : am_I} {R : am_R} {Q : am_Q} : am_ev d 280 1434 [l0, l1, l2, l3, l4, l5, l6] st I R Q = am_ev d 280 1435 [l0, l1, l2, l3, l4, l5, l6] (.int (nI 0) :: st) I R Q := am_ev_nx (am_f280 (pc := 1434) (q := (.iconst 0, 1, (0, 0, 0))) rfl) rfl
set_option maxRecDepth 100000 in
theorem s280_1435 {d : Nat} {l0 l1 l2 l3 l4 l5 l6 : Value} {x : Int32} {I : am_I} {R : am_R} {Q : am_Q} : am_ev d 280 1435 [l0, l1, l2, l3, l4, l5, l6] [.int x] I R Q = if am_bb x then some (some (.int x), I, R, Q) else none := am_ev_ifr (am_f280 (pc := 1435) (q := (.ireturn, 1, (1, 0, 0))) rfl) (am_zr_u rfl)
set_option maxRecDepth 100000 in
theorem s280_1436 {d : Nat} {l0 l2 l3 l4 l5 l6 : Value} {st : List Value} {x : Nat} {I : am_I} {R : am_R} {Q : am_Q} : am_ev d 280 1436 [l0, .ref x, l2, l3, l4, l5, l6] st I R Q = am_ev d 280 1437 [l0, .ref x, l2, l3, l4, l5, l6] (.ref x :: st) I R Q := am_ev_nx (am_f280 (pc := 1436) (q := (.aload_n 1, 1, (0, 0, 0))) rfl) rfl
set_option maxRecDepth 100000 in
theorem s280_1437 {d : Nat} {l0 l1 l2 l3 l4 l5 l6 : Value} {a0 : Nat} {I : am_I} {R : am_R} {Q : am_Q} : am_ev (d + 1) 280 1437 [l0, l1, l2, l3, l4, l5, l6] [.ref (am_mk 11 a0)] I R Q = am_th (am_cal d 151 [.ref (am_mk 11 a0)] I R Q) fun r I R Q => am_ev (d + 1) 280 1440 [l0, l1, l2, l3, l4, l5, l6] (r.toList ++ []) I R Q := am_ev_call (am_f280 (pc := 1437) (q := (.invokevirtual 183, 3, (151, 0, 0))) rfl) (am_inv_v [] [] (by decide) (by decide) rfl rfl rfl (Nat.le_of_ble_eq_true rfl))
set_option maxRecDepth 100000 in
theorem s280_1440 {d : Nat} {l0 l1 l3 l4 l5 l6 : Value} {st : List Value} {x : Nat} {I : am_I} {R : am_R} {Q : am_Q} : am_ev d 280 1440 [l0, l1, .ref x, l3, l4, l5, l6] st I R Q = am_ev d 280 1441 [l0, l1, .ref x, l3, l4, l5, l6] (.ref x :: st) I R Q := am_ev_nx (am_f280 (pc := 1440) (q := (.aload_n 2, 1, (0, 0, 0))) rfl) rfl
set_option maxRecDepth 100000 in
theorem s280_1441 {d : Nat} {l0 l1 l2 l3 l4 l5 l6 : Value} {a0 : Nat} {r0 : Value} {I : am_I} {R : am_R} {Q : am_Q} : am_ev (d + 1) 280 1441 [l0, l1, l2, l3, l4, l5, l6] [.ref (am_mk 12 a0), r0] I R Q = am_th (am_cal d 273 [.ref (am_mk 12 a0)] I R Q) fun r I R Q => am_ev (d + 1) 280 1444 [l0, l1, l2, l3, l4, l5, l6] (r.toList ++ [r0]) I R Q := am_ev_call (am_f280 (pc := 1441) (q := (.invokevirtual 186, 3, (273, 0, 0))) rfl) (am_inv_v [] [r0] (by decide) (by decide) rfl rfl rfl (Nat.le_of_ble_eq_true rfl))
set_option maxRecDepth 100000 in
theorem s280_1444 {d : Nat} {l0 l1 l2 l3 l4 l5 l6 : Value} {st : List Value} {x y : Int32} {I : am_I} {R : am_R} {Q : am_Q} : am_ev d 280 1444 [l0, l1, l2, l3, l4, l5, l6] (.int y :: .int x :: st) I R Q = if x = y then am_ev d 280 1575 [l0, l1, l2, l3, l4, l5, l6] st I R Q else am_ev d 280 1447 [l0, l1, l2, l3, l4, l5, l6] st I R Q := am_ev_br (am_f280 (pc := 1444) (q := (.if_icmp .eq 131, 3, (0, 0, 0))) rfl) rfl
set_option maxRecDepth 100000 in
theorem s280_1447 {d : Nat} {l0 l1 l2 l3 l4 l5 l6 : Value} {st : List Value} {I : am_I} {R : am_R} {Q : am_Q} : am_ev d 280 1447 [l0, l1, l2, l3, l4, l5, l6] st I R Q = am_ev d 280 1448 [l0, l1, l2, l3, l4, l5, l6] (.int (nI 0) :: st) I R Q := am_ev_nx (am_f280 (pc := 1447) (q := (.iconst 0, 1, (0, 0, 0))) rfl) rfl
set_option maxRecDepth 100000 in
theorem s280_1448 {d : Nat} {l0 l1 l2 l3 l4 l5 l6 : Value} {x : Int32} {I : am_I} {R : am_R} {Q : am_Q} : am_ev d 280 1448 [l0, l1, l2, l3, l4, l5, l6] [.int x] I R Q = if am_bb x then some (some (.int x), I, R, Q) else none := am_ev_ifr (am_f280 (pc := 1448) (q := (.ireturn, 1, (1, 0, 0))) rfl) (am_zr_u rfl)
set_option maxRecDepth 100000 in
theorem s280_1449 {d : Nat} {l0 l2 l3 l4 l5 l6 : Value} {st : List Value} {x : Nat} {I : am_I} {R : am_R} {Q : am_Q} : am_ev d 280 1449 [l0, .ref x, l2, l3, l4, l5, l6] st I R Q = am_ev d 280 1450 [l0, .ref x, l2, l3, l4, l5, l6] (.ref x :: st) I R Q := am_ev_nx (am_f280 (pc := 1449) (q := (.aload_n 1, 1, (0, 0, 0))) rfl) rfl
set_option maxRecDepth 100000 in
theorem s280_1450 {d : Nat} {l0 l1 l2 l3 l4 l5 l6 : Value} {a0 : Nat} {I : am_I} {R : am_R} {Q : am_Q} : am_ev (d + 1) 280 1450 [l0, l1, l2, l3, l4, l5, l6] [.ref (am_mk 11 a0)] I R Q = am_th (am_cal d 152 [.ref (am_mk 11 a0)] I R Q) fun r I R Q => am_ev (d + 1) 280 1453 [l0, l1, l2, l3, l4, l5, l6] (r.toList ++ []) I R Q := am_ev_call (am_f280 (pc := 1450) (q := (.invokevirtual 187, 3, (152, 0, 0))) rfl) (am_inv_v [] [] (by decide) (by decide) rfl rfl rfl (Nat.le_of_ble_eq_true rfl))
set_option maxRecDepth 100000 in
theorem s280_1453 {d : Nat} {l0 l1 l3 l4 l5 l6 : Value} {st : List Value} {x : Nat} {I : am_I} {R : am_R} {Q : am_Q} : am_ev d 280 1453 [l0, l1, .ref x, l3, l4, l5, l6] st I R Q = am_ev d 280 1454 [l0, l1, .ref x, l3, l4, l5, l6] (.ref x :: st) I R Q := am_ev_nx (am_f280 (pc := 1453) (q := (.aload_n 2, 1, (0, 0, 0))) rfl) rfl
set_option maxRecDepth 100000 in
theorem s280_1454 {d : Nat} {l0 l1 l2 l3 l4 l5 l6 : Value} {a0 : Nat} {r0 : Value} {I : am_I} {R : am_R} {Q : am_Q} : am_ev (d + 1) 280 1454 [l0, l1, l2, l3, l4, l5, l6] [.ref (am_mk 12 a0), r0] I R Q = am_th (am_cal d 274 [.ref (am_mk 12 a0)] I R Q) fun r I R Q => am_ev (d + 1) 280 1457 [l0, l1, l2, l3, l4, l5, l6] (r.toList ++ [r0]) I R Q := am_ev_call (am_f280 (pc := 1454) (q := (.invokevirtual 190, 3, (274, 0, 0))) rfl) (am_inv_v [] [r0] (by decide) (by decide) rfl rfl rfl (Nat.le_of_ble_eq_true rfl))
set_option maxRecDepth 100000 in
theorem s280_1457 {d : Nat} {l0 l1 l2 l3 l4 l5 l6 : Value} {st : List Value} {x y : Int32} {I : am_I} {R : am_R} {Q : am_Q} : am_ev d 280 1457 [l0, l1, l2, l3, l4, l5, l6] (.int y :: .int x :: st) I R Q = if x = y then am_ev d 280 1575 [l0, l1, l2, l3, l4, l5, l6] st I R Q else am_ev d 280 1460 [l0, l1, l2, l3, l4, l5, l6] st I R Q := am_ev_br (am_f280 (pc := 1457) (q := (.if_icmp .eq 118, 3, (0, 0, 0))) rfl) rfl
set_option maxRecDepth 100000 in
theorem s280_1460 {d : Nat} {l0 l1 l2 l3 l4 l5 l6 : Value} {st : List Value} {I : am_I} {R : am_R} {Q : am_Q} : am_ev d 280 1460 [l0, l1, l2, l3, l4, l5, l6] st I R Q = am_ev d 280 1461 [l0, l1, l2, l3, l4, l5, l6] (.int (nI 0) :: st) I R Q := am_ev_nx (am_f280 (pc := 1460) (q := (.iconst 0, 1, (0, 0, 0))) rfl) rfl
set_option maxRecDepth 100000 in
theorem s280_1461 {d : Nat} {l0 l1 l2 l3 l4 l5 l6 : Value} {x : Int32} {I : am_I} {R : am_R} {Q : am_Q} : am_ev d 280 1461 [l0, l1, l2, l3, l4, l5, l6] [.int x] I R Q = if am_bb x then some (some (.int x), I, R, Q) else none := am_ev_ifr (am_f280 (pc := 1461) (q := (.ireturn, 1, (1, 0, 0))) rfl) (am_zr_u rfl)
set_option maxRecDepth 100000 in
theorem s280_1462 {d : Nat} {l0 l2 l3 l4 l5 l6 : Value} {st : List Value} {x : Nat} {I : am_I} {R : am_R} {Q : am_Q} : am_ev d 280 1462 [l0, .ref x, l2, l3, l4, l5, l6] st I R Q = am_ev d 280 1463 [l0, .ref x, l2, l3, l4, l5, l6] (.ref x :: st) I R Q := am_ev_nx (am_f280 (pc := 1462) (q := (.aload_n 1, 1, (0, 0, 0))) rfl) rfl
set_option maxRecDepth 100000 in
theorem s280_1463 {d : Nat} {l1 l2 l3 l4 l5 l6 : Value} {st : List Value} {x : Nat} {I : am_I} {R : am_R} {Q : am_Q} : am_ev d 280 1463 [.ref x, l1, l2, l3, l4, l5, l6] st I R Q = am_ev d 280 1464 [.ref x, l1, l2, l3, l4, l5, l6] (.ref x :: st) I R Q := am_ev_nx (am_f280 (pc := 1463) (q := (.aload_n 0, 1, (0, 0, 0))) rfl) rfl
set_option maxRecDepth 100000 in
theorem s280_1464 {d : Nat} {l0 l1 l2 l3 l5 l6 : Value} {st : List Value} {x : Int32} {I : am_I} {R : am_R} {Q : am_Q} : am_ev d 280 1464 [l0, l1, l2, l3, .int x, l5, l6] st I R Q = am_ev d 280 1466 [l0, l1, l2, l3, .int x, l5, l6] (.int x :: st) I R Q := am_ev_nx (am_f280 (pc := 1464) (q := (.iload 4, 2, (0, 0, 0))) rfl) rfl
set_option maxRecDepth 100000 in
theorem s280_1466 {d : Nat} {l0 l1 l2 l3 l4 l5 l6 : Value} {st : List Value} {I : am_I} {R : am_R} {Q : am_Q} : am_ev d 280 1466 [l0, l1, l2, l3, l4, l5, l6] st I R Q = am_ev d 280 1467 [l0, l1, l2, l3, l4, l5, l6] (.int (nI 1) :: st) I R Q := am_ev_nx (am_f280 (pc := 1466) (q := (.iconst 1, 1, (0, 0, 1))) rfl) rfl
set_option maxRecDepth 100000 in
theorem s280_1467 {d : Nat} {l0 l1 l2 l3 l4 l5 l6 : Value} {st : List Value} {x y : Int32} {I : am_I} {R : am_R} {Q : am_Q} : am_ev d 280 1467 [l0, l1, l2, l3, l4, l5, l6] (.int y :: .int x :: st) I R Q = am_ev d 280 1468 [l0, l1, l2, l3, l4, l5, l6] (.int (x + y) :: st) I R Q := am_ev_nx (am_f280 (pc := 1467) (q := (.iadd, 1, (0, 0, 0))) rfl) rfl
set_option maxRecDepth 100000 in
theorem s280_1469 {d : Nat} {l0 l1 l2 l3 l4 l5 l6 : Value} {a0 : Nat} {a1 : Int32} {I : am_I} {R : am_R} {Q : am_Q} : am_ev (d + 1) 280 1469 [l0, l1, l2, l3, l4, l5, l6] [.int a1, .ref (am_mk 11 a0)] I R Q = am_th (am_cal d 153 [.ref (am_mk 11 a0), .int a1] I R Q) fun r I R Q => am_ev (d + 1) 280 1472 [l0, l1, l2, l3, l4, l5, l6] (r.toList ++ []) I R Q := am_ev_call (am_f280 (pc := 1469) (q := (.invokevirtual 191, 3, (153, 0, 0))) rfl) (am_inv_v [.int a1] [] (by decide) (by decide) rfl rfl rfl (Nat.le_of_ble_eq_true rfl))
set_option maxRecDepth 100000 in
theorem s280_1472 {d : Nat} {l0 l1 l3 l4 l5 l6 : Value} {st : List Value} {x : Nat} {I : am_I} {R : am_R} {Q : am_Q} : am_ev d 280 1472 [l0, l1, .ref x, l3, l4, l5, l6] st I R Q = am_ev d 280 1473 [l0, l1, .ref x, l3, l4, l5, l6] (.ref x :: st) I R Q := am_ev_nx (am_f280 (pc := 1472) (q := (.aload_n 2, 1, (0, 0, 0))) rfl) rfl
set_option maxRecDepth 100000 in
theorem s280_1473 {d : Nat} {l1 l2 l3 l4 l5 l6 : Value} {st : List Value} {x : Nat} {I : am_I} {R : am_R} {Q : am_Q} : am_ev d 280 1473 [.ref x, l1, l2, l3, l4, l5, l6] st I R Q = am_ev d 280 1474 [.ref x, l1, l2, l3, l4, l5, l6] (.ref x :: st) I R Q := am_ev_nx (am_f280 (pc := 1473) (q := (.aload_n 0, 1, (0, 0, 0))) rfl) rfl
set_option maxRecDepth 100000 in
theorem s280_1474 {d : Nat} {l0 l1 l2 l3 l5 l6 : Value} {st : List Value} {x : Int32} {I : am_I} {R : am_R} {Q : am_Q} : am_ev d 280 1474 [l0, l1, l2, l3, .int x, l5, l6] st I R Q = am_ev d 280 1476 [l0, l1, l2, l3, .int x, l5, l6] (.int x :: st) I R Q := am_ev_nx (am_f280 (pc := 1474) (q := (.iload 4, 2, (0, 0, 0))) rfl) rfl
set_option maxRecDepth 100000 in
theorem s280_1476 {d : Nat} {l0 l1 l2 l3 l4 l5 l6 : Value} {st : List Value} {I : am_I} {R : am_R} {Q : am_Q} : am_ev d 280 1476 [l0, l1, l2, l3, l4, l5, l6] st I R Q = am_ev d 280 1477 [l0, l1, l2, l3, l4, l5, l6] (.int (nI 1) :: st) I R Q := am_ev_nx (am_f280 (pc := 1476) (q := (.iconst 1, 1, (0, 0, 1))) rfl) rfl
set_option maxRecDepth 100000 in
theorem s280_1477 {d : Nat} {l0 l1 l2 l3 l4 l5 l6 : Value} {st : List Value} {x y : Int32} {I : am_I} {R : am_R} {Q : am_Q} : am_ev d 280 1477 [l0, l1, l2, l3, l4, l5, l6] (.int y :: .int x :: st) I R Q = am_ev d 280 1478 [l0, l1, l2, l3, l4, l5, l6] (.int (x + y) :: st) I R Q := am_ev_nx (am_f280 (pc := 1477) (q := (.iadd, 1, (0, 0, 0))) rfl) rfl
set_option maxRecDepth 100000 in
theorem s280_1479 {d : Nat} {l0 l1 l2 l3 l4 l5 l6 : Value} {a0 : Nat} {a1 : Int32} {r0 : Value} {I : am_I} {R : am_R} {Q : am_Q} : am_ev (d + 1) 280 1479 [l0, l1, l2, l3, l4, l5, l6] [.int a1, .ref (am_mk 12 a0), r0] I R Q = am_th (am_cal d 275 [.ref (am_mk 12 a0), .int a1] I R Q) fun r I R Q => am_ev (d + 1) 280 1482 [l0, l1, l2, l3, l4, l5, l6] (r.toList ++ [r0]) I R Q := am_ev_call (am_f280 (pc := 1479) (q := (.invokevirtual 194, 3, (275, 0, 0))) rfl) (am_inv_v [.int a1] [r0] (by decide) (by decide) rfl rfl rfl (Nat.le_of_ble_eq_true rfl))
set_option maxRecDepth 100000 in
theorem s280_1482 {d : Nat} {l0 l1 l2 l3 l4 l5 l6 : Value} {st : List Value} {x y : Int32} {I : am_I} {R : am_R} {Q : am_Q} : am_ev d 280 1482 [l0, l1, l2, l3, l4, l5, l6] (.int y :: .int x :: st) I R Q = if x = y then am_ev d 280 1575 [l0, l1, l2, l3, l4, l5, l6] st I R Q else am_ev d 280 1485 [l0, l1, l2, l3, l4, l5, l6] st I R Q := am_ev_br (am_f280 (pc := 1482) (q := (.if_icmp .eq 93, 3, (0, 0, 0))) rfl) rfl
set_option maxRecDepth 100000 in
theorem s280_1485 {d : Nat} {l0 l1 l2 l3 l4 l5 l6 : Value} {st : List Value} {I : am_I} {R : am_R} {Q : am_Q} : am_ev d 280 1485 [l0, l1, l2, l3, l4, l5, l6] st I R Q = am_ev d 280 1486 [l0, l1, l2, l3, l4, l5, l6] (.int (nI 0) :: st) I R Q := am_ev_nx (am_f280 (pc := 1485) (q := (.iconst 0, 1, (0, 0, 0))) rfl) rfl
set_option maxRecDepth 100000 in
theorem s280_1486 {d : Nat} {l0 l1 l2 l3 l4 l5 l6 : Value} {x : Int32} {I : am_I} {R : am_R} {Q : am_Q} : am_ev d 280 1486 [l0, l1, l2, l3, l4, l5, l6] [.int x] I R Q = if am_bb x then some (some (.int x), I, R, Q) else none := am_ev_ifr (am_f280 (pc := 1486) (q := (.ireturn, 1, (1, 0, 0))) rfl) (am_zr_u rfl)
set_option maxRecDepth 100000 in
theorem s280_1487 {d : Nat} {l0 l2 l3 l4 l5 l6 : Value} {st : List Value} {x : Nat} {I : am_I} {R : am_R} {Q : am_Q} : am_ev d 280 1487 [l0, .ref x, l2, l3, l4, l5, l6] st I R Q = am_ev d 280 1488 [l0, .ref x, l2, l3, l4, l5, l6] (.ref x :: st) I R Q := am_ev_nx (am_f280 (pc := 1487) (q := (.aload_n 1, 1, (0, 0, 0))) rfl) rfl
set_option maxRecDepth 100000 in
theorem s280_1488 {d : Nat} {l1 l2 l3 l4 l5 l6 : Value} {st : List Value} {x : Nat} {I : am_I} {R : am_R} {Q : am_Q} : am_ev d 280 1488 [.ref x, l1, l2, l3, l4, l5, l6] st I R Q = am_ev d 280 1489 [.ref x, l1, l2, l3, l4, l5, l6] (.ref x :: st) I R Q := am_ev_nx (am_f280 (pc := 1488) (q := (.aload_n 0, 1, (0, 0, 0))) rfl) rfl
set_option maxRecDepth 100000 in
theorem s280_1489 {d : Nat} {l0 l1 l2 l3 l5 l6 : Value} {st : List Value} {x : Int32} {I : am_I} {R : am_R} {Q : am_Q} : am_ev d 280 1489 [l0, l1, l2, l3, .int x, l5, l6] st I R Q = am_ev d 280 1491 [l0, l1, l2, l3, .int x, l5, l6] (.int x :: st) I R Q := am_ev_nx (am_f280 (pc := 1489) (q := (.iload 4, 2, (0, 0, 0))) rfl) rfl
set_option maxRecDepth 100000 in
theorem s280_1491 {d : Nat} {l0 l1 l2 l3 l4 l5 l6 : Value} {st : List Value} {I : am_I} {R : am_R} {Q : am_Q} : am_ev d 280 1491 [l0, l1, l2, l3, l4, l5, l6] st I R Q = am_ev d 280 1492 [l0, l1, l2, l3, l4, l5, l6] (.int (nI 1) :: st) I R Q := am_ev_nx (am_f280 (pc := 1491) (q := (.iconst 1, 1, (0, 0, 1))) rfl) rfl
set_option maxRecDepth 100000 in
theorem s280_1492 {d : Nat} {l0 l1 l2 l3 l4 l5 l6 : Value} {st : List Value} {x y : Int32} {I : am_I} {R : am_R} {Q : am_Q} : am_ev d 280 1492 [l0, l1, l2, l3, l4, l5, l6] (.int y :: .int x :: st) I R Q = am_ev d 280 1493 [l0, l1, l2, l3, l4, l5, l6] (.int (x + y) :: st) I R Q := am_ev_nx (am_f280 (pc := 1492) (q := (.iadd, 1, (0, 0, 0))) rfl) rfl
set_option maxRecDepth 100000 in
theorem s280_1494 {d : Nat} {l1 l2 l3 l4 l5 l6 : Value} {st : List Value} {x : Nat} {I : am_I} {R : am_R} {Q : am_Q} : am_ev d 280 1494 [.ref x, l1, l2, l3, l4, l5, l6] st I R Q = am_ev d 280 1495 [.ref x, l1, l2, l3, l4, l5, l6] (.ref x :: st) I R Q := am_ev_nx (am_f280 (pc := 1494) (q := (.aload_n 0, 1, (0, 0, 0))) rfl) rfl
set_option maxRecDepth 100000 in
theorem s280_1495 {d : Nat} {l0 l1 l2 l3 l5 l6 : Value} {st : List Value} {x : Int32} {I : am_I} {R : am_R} {Q : am_Q} : am_ev d 280 1495 [l0, l1, l2, l3, .int x, l5, l6] st I R Q = am_ev d 280 1497 [l0, l1, l2, l3, .int x, l5, l6] (.int x :: st) I R Q := am_ev_nx (am_f280 (pc := 1495) (q := (.iload 4, 2, (0, 0, 0))) rfl) rfl
set_option maxRecDepth 100000 in
theorem s280_1497 {d : Nat} {l0 l1 l2 l3 l4 l5 l6 : Value} {st : List Value} {I : am_I} {R : am_R} {Q : am_Q} : am_ev d 280 1497 [l0, l1, l2, l3, l4, l5, l6] st I R Q = am_ev d 280 1498 [l0, l1, l2, l3, l4, l5, l6] (.int (nI 2) :: st) I R Q := am_ev_nx (am_f280 (pc := 1497) (q := (.iconst 2, 1, (0, 0, 2))) rfl) rfl
set_option maxRecDepth 100000 in
theorem s280_1498 {d : Nat} {l0 l1 l2 l3 l4 l5 l6 : Value} {st : List Value} {x y : Int32} {I : am_I} {R : am_R} {Q : am_Q} : am_ev d 280 1498 [l0, l1, l2, l3, l4, l5, l6] (.int y :: .int x :: st) I R Q = am_ev d 280 1499 [l0, l1, l2, l3, l4, l5, l6] (.int (x + y) :: st) I R Q := am_ev_nx (am_f280 (pc := 1498) (q := (.iadd, 1, (0, 0, 0))) rfl) rfl
set_option maxRecDepth 100000 in
theorem s280_1500 {d : Nat} {l0 l1 l2 l3 l4 l5 l6 : Value} {a0 : Nat} {a1 : Int32} {a2 : Int32} {I : am_I} {R : am_R} {Q : am_Q} : am_ev (d + 1) 280 1500 [l0, l1, l2, l3, l4, l5, l6] [.int a2, .int a1, .ref (am_mk 11 a0)] I R Q = am_th (am_cal d 154 [.ref (am_mk 11 a0), .int a1, .int a2] I R Q) fun r I R Q => am_ev (d + 1) 280 1503 [l0, l1, l2, l3, l4, l5, l6] (r.toList ++ []) I R Q := am_ev_call (am_f280 (pc := 1500) (q := (.invokevirtual 195, 3, (154, 0, 0))) rfl) (am_inv_v [.int a1, .int a2] [] (by decide) (by decide) rfl rfl rfl (Nat.le_of_ble_eq_true rfl))
set_option maxRecDepth 100000 in
theorem s280_1503 {d : Nat} {l0 l1 l3 l4 l5 l6 : Value} {st : List Value} {x : Nat} {I : am_I} {R : am_R} {Q : am_Q} : am_ev d 280 1503 [l0, l1, .ref x, l3, l4, l5, l6] st I R Q = am_ev d 280 1504 [l0, l1, .ref x, l3, l4, l5, l6] (.ref x :: st) I R Q := am_ev_nx (am_f280 (pc := 1503) (q := (.aload_n 2, 1, (0, 0, 0))) rfl) rfl
set_option maxRecDepth 100000 in
theorem s280_1504 {d : Nat} {l1 l2 l3 l4 l5 l6 : Value} {st : List Value} {x : Nat} {I : am_I} {R : am_R} {Q : am_Q} : am_ev d 280 1504 [.ref x, l1, l2, l3, l4, l5, l6] st I R Q = am_ev d 280 1505 [.ref x, l1, l2, l3, l4, l5, l6] (.ref x :: st) I R Q := am_ev_nx (am_f280 (pc := 1504) (q := (.aload_n 0, 1, (0, 0, 0))) rfl) rfl
set_option maxRecDepth 100000 in
theorem s280_1505 {d : Nat} {l0 l1 l2 l3 l5 l6 : Value} {st : List Value} {x : Int32} {I : am_I} {R : am_R} {Q : am_Q} : am_ev d 280 1505 [l0, l1, l2, l3, .int x, l5, l6] st I R Q = am_ev d 280 1507 [l0, l1, l2, l3, .int x, l5, l6] (.int x :: st) I R Q := am_ev_nx (am_f280 (pc := 1505) (q := (.iload 4, 2, (0, 0, 0))) rfl) rfl
set_option maxRecDepth 100000 in
theorem s280_1507 {d : Nat} {l0 l1 l2 l3 l4 l5 l6 : Value} {st : List Value} {I : am_I} {R : am_R} {Q : am_Q} : am_ev d 280 1507 [l0, l1, l2, l3, l4, l5, l6] st I R Q = am_ev d 280 1508 [l0, l1, l2, l3, l4, l5, l6] (.int (nI 1) :: st) I R Q := am_ev_nx (am_f280 (pc := 1507) (q := (.iconst 1, 1, (0, 0, 1))) rfl) rfl
set_option maxRecDepth 100000 in
theorem s280_1508 {d : Nat} {l0 l1 l2 l3 l4 l5 l6 : Value} {st : List Value} {x y : Int32} {I : am_I} {R : am_R} {Q : am_Q} : am_ev d 280 1508 [l0, l1, l2, l3, l4, l5, l6] (.int y :: .int x :: st) I R Q = am_ev d 280 1509 [l0, l1, l2, l3, l4, l5, l6] (.int (x + y) :: st) I R Q := am_ev_nx (am_f280 (pc := 1508) (q := (.iadd, 1, (0, 0, 0))) rfl) rfl
set_option maxRecDepth 100000 in
theorem s280_1510 {d : Nat} {l1 l2 l3 l4 l5 l6 : Value} {st : List Value} {x : Nat} {I : am_I} {R : am_R} {Q : am_Q} : am_ev d 280 1510 [.ref x, l1, l2, l3, l4, l5, l6] st I R Q = am_ev d 280 1511 [.ref x, l1, l2, l3, l4, l5, l6] (.ref x :: st) I R Q := am_ev_nx (am_f280 (pc := 1510) (q := (.aload_n 0, 1, (0, 0, 0))) rfl) rfl
set_option maxRecDepth 100000 in
theorem s280_1511 {d : Nat} {l0 l1 l2 l3 l5 l6 : Value} {st : List Value} {x : Int32} {I : am_I} {R : am_R} {Q : am_Q} : am_ev d 280 1511 [l0, l1, l2, l3, .int x, l5, l6] st I R Q = am_ev d 280 1513 [l0, l1, l2, l3, .int x, l5, l6] (.int x :: st) I R Q := am_ev_nx (am_f280 (pc := 1511) (q := (.iload 4, 2, (0, 0, 0))) rfl) rfl
set_option maxRecDepth 100000 in
theorem s280_1513 {d : Nat} {l0 l1 l2 l3 l4 l5 l6 : Value} {st : List Value} {I : am_I} {R : am_R} {Q : am_Q} : am_ev d 280 1513 [l0, l1, l2, l3, l4, l5, l6] st I R Q = am_ev d 280 1514 [l0, l1, l2, l3, l4, l5, l6] (.int (nI 2) :: st) I R Q := am_ev_nx (am_f280 (pc := 1513) (q := (.iconst 2, 1, (0, 0, 2))) rfl) rfl
set_option maxRecDepth 100000 in
theorem s280_1514 {d : Nat} {l0 l1 l2 l3 l4 l5 l6 : Value} {st : List Value} {x y : Int32} {I : am_I} {R : am_R} {Q : am_Q} : am_ev d 280 1514 [l0, l1, l2, l3, l4, l5, l6] (.int y :: .int x :: st) I R Q = am_ev d 280 1515 [l0, l1, l2, l3, l4, l5, l6] (.int (x + y) :: st) I R Q := am_ev_nx (am_f280 (pc := 1514) (q := (.iadd, 1, (0, 0, 0))) rfl) rfl
set_option maxRecDepth 100000 in
theorem s280_1516 {d : Nat} {l0 l1 l2 l3 l4 l5 l6 : Value} {a0 : Nat} {a1 : Int32} {a2 : Int32} {r0 : Value} {I : am_I} {R : am_R} {Q : am_Q} : am_ev (d + 1) 280 1516 [l0, l1, l2, l3, l4, l5, l6] [.int a2, .int a1, .ref (am_mk 12 a0), r0] I R Q = am_th (am_cal d 276 [.ref (am_mk 12 a0), .int a1, .int a2] I R Q) fun r I R Q => am_ev (d + 1) 280 1519 [l0, l1, l2, l3, l4, l5, l6] (r.toList ++ [r0]) I R Q := am_ev_call (am_f280 (pc := 1516) (q := (.invokevirtual 198, 3, (276, 0, 0))) rfl) (am_inv_v [.int a1, .int a2] [r0] (by decide) (by decide) rfl rfl rfl (Nat.le_of_ble_eq_true rfl))
set_option maxRecDepth 100000 in
theorem s280_1519 {d : Nat} {l0 l1 l2 l3 l4 l5 l6 : Value} {st : List Value} {x y : Int32} {I : am_I} {R : am_R} {Q : am_Q} : am_ev d 280 1519 [l0, l1, l2, l3, l4, l5, l6] (.int y :: .int x :: st) I R Q = if x = y then am_ev d 280 1575 [l0, l1, l2, l3, l4, l5, l6] st I R Q else am_ev d 280 1522 [l0, l1, l2, l3, l4, l5, l6] st I R Q := am_ev_br (am_f280 (pc := 1519) (q := (.if_icmp .eq 56, 3, (0, 0, 0))) rfl) rfl
set_option maxRecDepth 100000 in
theorem s280_1522 {d : Nat} {l0 l1 l2 l3 l4 l5 l6 : Value} {st : List Value} {I : am_I} {R : am_R} {Q : am_Q} : am_ev d 280 1522 [l0, l1, l2, l3, l4, l5, l6] st I R Q = am_ev d 280 1523 [l0, l1, l2, l3, l4, l5, l6] (.int (nI 0) :: st) I R Q := am_ev_nx (am_f280 (pc := 1522) (q := (.iconst 0, 1, (0, 0, 0))) rfl) rfl
set_option maxRecDepth 100000 in
theorem s280_1523 {d : Nat} {l0 l1 l2 l3 l4 l5 l6 : Value} {x : Int32} {I : am_I} {R : am_R} {Q : am_Q} : am_ev d 280 1523 [l0, l1, l2, l3, l4, l5, l6] [.int x] I R Q = if am_bb x then some (some (.int x), I, R, Q) else none := am_ev_ifr (am_f280 (pc := 1523) (q := (.ireturn, 1, (1, 0, 0))) rfl) (am_zr_u rfl)
set_option maxRecDepth 100000 in
theorem s280_1524 {d : Nat} {l0 l2 l3 l4 l5 l6 : Value} {st : List Value} {x : Nat} {I : am_I} {R : am_R} {Q : am_Q} : am_ev d 280 1524 [l0, .ref x, l2, l3, l4, l5, l6] st I R Q = am_ev d 280 1525 [l0, .ref x, l2, l3, l4, l5, l6] (.ref x :: st) I R Q := am_ev_nx (am_f280 (pc := 1524) (q := (.aload_n 1, 1, (0, 0, 0))) rfl) rfl
set_option maxRecDepth 100000 in
theorem s280_1525 {d : Nat} {l0 l1 l2 l3 l4 l5 l6 : Value} {a0 : Nat} {I : am_I} {R : am_R} {Q : am_Q} : am_ev (d + 1) 280 1525 [l0, l1, l2, l3, l4, l5, l6] [.ref (am_mk 11 a0)] I R Q = am_th (am_cal d 129 [.ref (am_mk 11 a0)] I R Q) fun r I R Q => am_ev (d + 1) 280 1528 [l0, l1, l2, l3, l4, l5, l6] (r.toList ++ []) I R Q := am_ev_call (am_f280 (pc := 1525) (q := (.invokevirtual 199, 3, (129, 0, 0))) rfl) (am_inv_v [] [] (by decide) (by decide) rfl rfl rfl (Nat.le_of_ble_eq_true rfl))
set_option maxRecDepth 100000 in
theorem s280_1528 {d : Nat} {l0 l1 l3 l4 l5 l6 : Value} {st : List Value} {x : Nat} {I : am_I} {R : am_R} {Q : am_Q} : am_ev d 280 1528 [l0, l1, .ref x, l3, l4, l5, l6] st I R Q = am_ev d 280 1529 [l0, l1, .ref x, l3, l4, l5, l6] (.ref x :: st) I R Q := am_ev_nx (am_f280 (pc := 1528) (q := (.aload_n 2, 1, (0, 0, 0))) rfl) rfl
set_option maxRecDepth 100000 in
theorem s280_1529 {d : Nat} {l0 l1 l2 l3 l4 l5 l6 : Value} {a0 : Nat} {r0 : Value} {I : am_I} {R : am_R} {Q : am_Q} : am_ev (d + 1) 280 1529 [l0, l1, l2, l3, l4, l5, l6] [.ref (am_mk 12 a0), r0] I R Q = am_th (am_cal d 277 [.ref (am_mk 12 a0)] I R Q) fun r I R Q => am_ev (d + 1) 280 1532 [l0, l1, l2, l3, l4, l5, l6] (r.toList ++ [r0]) I R Q := am_ev_call (am_f280 (pc := 1529) (q := (.invokevirtual 202, 3, (277, 0, 0))) rfl) (am_inv_v [] [r0] (by decide) (by decide) rfl rfl rfl (Nat.le_of_ble_eq_true rfl))
set_option maxRecDepth 100000 in
theorem s280_1532 {d : Nat} {l0 l1 l2 l3 l4 l5 l6 : Value} {st : List Value} {x y : Int32} {I : am_I} {R : am_R} {Q : am_Q} : am_ev d 280 1532 [l0, l1, l2, l3, l4, l5, l6] (.int y :: .int x :: st) I R Q = if x = y then am_ev d 280 1575 [l0, l1, l2, l3, l4, l5, l6] st I R Q else am_ev d 280 1535 [l0, l1, l2, l3, l4, l5, l6] st I R Q := am_ev_br (am_f280 (pc := 1532) (q := (.if_icmp .eq 43, 3, (0, 0, 0))) rfl) rfl
set_option maxRecDepth 100000 in
theorem s280_1535 {d : Nat} {l0 l1 l2 l3 l4 l5 l6 : Value} {st : List Value} {I : am_I} {R : am_R} {Q : am_Q} : am_ev d 280 1535 [l0, l1, l2, l3, l4, l5, l6] st I R Q = am_ev d 280 1536 [l0, l1, l2, l3, l4, l5, l6] (.int (nI 0) :: st) I R Q := am_ev_nx (am_f280 (pc := 1535) (q := (.iconst 0, 1, (0, 0, 0))) rfl) rfl
set_option maxRecDepth 100000 in
theorem s280_1536 {d : Nat} {l0 l1 l2 l3 l4 l5 l6 : Value} {x : Int32} {I : am_I} {R : am_R} {Q : am_Q} : am_ev d 280 1536 [l0, l1, l2, l3, l4, l5, l6] [.int x] I R Q = if am_bb x then some (some (.int x), I, R, Q) else none := am_ev_ifr (am_f280 (pc := 1536) (q := (.ireturn, 1, (1, 0, 0))) rfl) (am_zr_u rfl)
set_option maxRecDepth 100000 in
theorem s280_1537 {d : Nat} {l0 l2 l3 l4 l5 l6 : Value} {st : List Value} {x : Nat} {I : am_I} {R : am_R} {Q : am_Q} : am_ev d 280 1537 [l0, .ref x, l2, l3, l4, l5, l6] st I R Q = am_ev d 280 1538 [l0, .ref x, l2, l3, l4, l5, l6] (.ref x :: st) I R Q := am_ev_nx (am_f280 (pc := 1537) (q := (.aload_n 1, 1, (0, 0, 0))) rfl) rfl
set_option maxRecDepth 100000 in
theorem s280_1538 {d : Nat} {l0 l1 l2 l3 l4 l5 l6 : Value} {a0 : Nat} {I : am_I} {R : am_R} {Q : am_Q} : am_ev (d + 1) 280 1538 [l0, l1, l2, l3, l4, l5, l6] [.ref (am_mk 11 a0)] I R Q = am_th (am_cal d 130 [.ref (am_mk 11 a0)] I R Q) fun r I R Q => am_ev (d + 1) 280 1541 [l0, l1, l2, l3, l4, l5, l6] (r.toList ++ []) I R Q := am_ev_call (am_f280 (pc := 1538) (q := (.invokevirtual 203, 3, (130, 0, 0))) rfl) (am_inv_v [] [] (by decide) (by decide) rfl rfl rfl (Nat.le_of_ble_eq_true rfl))
set_option maxRecDepth 100000 in
theorem s280_1541 {d : Nat} {l0 l1 l3 l4 l5 l6 : Value} {st : List Value} {x : Nat} {I : am_I} {R : am_R} {Q : am_Q} : am_ev d 280 1541 [l0, l1, .ref x, l3, l4, l5, l6] st I R Q = am_ev d 280 1542 [l0, l1, .ref x, l3, l4, l5, l6] (.ref x :: st) I R Q := am_ev_nx (am_f280 (pc := 1541) (q := (.aload_n 2, 1, (0, 0, 0))) rfl) rfl
set_option maxRecDepth 100000 in
theorem s280_1542 {d : Nat} {l0 l1 l2 l3 l4 l5 l6 : Value} {a0 : Nat} {r0 : Value} {I : am_I} {R : am_R} {Q : am_Q} : am_ev (d + 1) 280 1542 [l0, l1, l2, l3, l4, l5, l6] [.ref (am_mk 12 a0), r0] I R Q = am_th (am_cal d 278 [.ref (am_mk 12 a0)] I R Q) fun r I R Q => am_ev (d + 1) 280 1545 [l0, l1, l2, l3, l4, l5, l6] (r.toList ++ [r0]) I R Q := am_ev_call (am_f280 (pc := 1542) (q := (.invokevirtual 206, 3, (278, 0, 0))) rfl) (am_inv_v [] [r0] (by decide) (by decide) rfl rfl rfl (Nat.le_of_ble_eq_true rfl))
set_option maxRecDepth 100000 in
theorem s280_1545 {d : Nat} {l0 l1 l2 l3 l4 l5 l6 : Value} {st : List Value} {x y : Int32} {I : am_I} {R : am_R} {Q : am_Q} : am_ev d 280 1545 [l0, l1, l2, l3, l4, l5, l6] (.int y :: .int x :: st) I R Q = if x = y then am_ev d 280 1575 [l0, l1, l2, l3, l4, l5, l6] st I R Q else am_ev d 280 1548 [l0, l1, l2, l3, l4, l5, l6] st I R Q := am_ev_br (am_f280 (pc := 1545) (q := (.if_icmp .eq 30, 3, (0, 0, 0))) rfl) rfl
set_option maxRecDepth 100000 in
theorem s280_1548 {d : Nat} {l0 l1 l2 l3 l4 l5 l6 : Value} {st : List Value} {I : am_I} {R : am_R} {Q : am_Q} : am_ev d 280 1548 [l0, l1, l2, l3, l4, l5, l6] st I R Q = am_ev d 280 1549 [l0, l1, l2, l3, l4, l5, l6] (.int (nI 0) :: st) I R Q := am_ev_nx (am_f280 (pc := 1548) (q := (.iconst 0, 1, (0, 0, 0))) rfl) rfl
set_option maxRecDepth 100000 in
theorem s280_1549 {d : Nat} {l0 l1 l2 l3 l4 l5 l6 : Value} {x : Int32} {I : am_I} {R : am_R} {Q : am_Q} : am_ev d 280 1549 [l0, l1, l2, l3, l4, l5, l6] [.int x] I R Q = if am_bb x then some (some (.int x), I, R, Q) else none := am_ev_ifr (am_f280 (pc := 1549) (q := (.ireturn, 1, (1, 0, 0))) rfl) (am_zr_u rfl)
set_option maxRecDepth 100000 in
theorem s280_1550 {d : Nat} {l0 l2 l3 l4 l5 l6 : Value} {st : List Value} {x : Nat} {I : am_I} {R : am_R} {Q : am_Q} : am_ev d 280 1550 [l0, .ref x, l2, l3, l4, l5, l6] st I R Q = am_ev d 280 1551 [l0, .ref x, l2, l3, l4, l5, l6] (.ref x :: st) I R Q := am_ev_nx (am_f280 (pc := 1550) (q := (.aload_n 1, 1, (0, 0, 0))) rfl) rfl
set_option maxRecDepth 100000 in
theorem s280_1551 {d : Nat} {l1 l2 l3 l4 l5 l6 : Value} {st : List Value} {x : Nat} {I : am_I} {R : am_R} {Q : am_Q} : am_ev d 280 1551 [.ref x, l1, l2, l3, l4, l5, l6] st I R Q = am_ev d 280 1552 [.ref x, l1, l2, l3, l4, l5, l6] (.ref x :: st) I R Q := am_ev_nx (am_f280 (pc := 1551) (q := (.aload_n 0, 1, (0, 0, 0))) rfl) rfl
set_option maxRecDepth 100000 in
theorem s280_1552 {d : Nat} {l0 l1 l2 l3 l5 l6 : Value} {st : List Value} {x : Int32} {I : am_I} {R : am_R} {Q : am_Q} : am_ev d 280 1552 [l0, l1, l2, l3, .int x, l5, l6] st I R Q = am_ev d 280 1554 [l0, l1, l2, l3, .int x, l5, l6] (.int x :: st) I R Q := am_ev_nx (am_f280 (pc := 1552) (q := (.iload 4, 2, (0, 0, 0))) rfl) rfl
set_option maxRecDepth 100000 in
theorem s280_1554 {d : Nat} {l0 l1 l2 l3 l4 l5 l6 : Value} {st : List Value} {I : am_I} {R : am_R} {Q : am_Q} : am_ev d 280 1554 [l0, l1, l2, l3, l4, l5, l6] st I R Q = am_ev d 280 1555 [l0, l1, l2, l3, l4, l5, l6] (.int (nI 1) :: st) I R Q := am_ev_nx (am_f280 (pc := 1554) (q := (.iconst 1, 1, (0, 0, 1))) rfl) rfl
set_option maxRecDepth 100000 in
theorem s280_1555 {d : Nat} {l0 l1 l2 l3 l4 l5 l6 : Value} {st : List Value} {x y : Int32} {I : am_I} {R : am_R} {Q : am_Q} : am_ev d 280 1555 [l0, l1, l2, l3, l4, l5, l6] (.int y :: .int x :: st) I R Q = am_ev d 280 1556 [l0, l1, l2, l3, l4, l5, l6] (.int (x + y) :: st) I R Q := am_ev_nx (am_f280 (pc := 1555) (q := (.iadd, 1, (0, 0, 0))) rfl) rfl
set_option maxRecDepth 100000 in
theorem s280_1557 {d : Nat} {l0 l1 l2 l3 l4 l5 l6 : Value} {a0 : Nat} {a1 : Int32} {I : am_I} {R : am_R} {Q : am_Q} : am_ev (d + 1) 280 1557 [l0, l1, l2, l3, l4, l5, l6] [.int a1, .ref (am_mk 11 a0)] I R Q = am_th (am_cal d 155 [.ref (am_mk 11 a0), .int a1] I R Q) fun r I R Q => am_ev (d + 1) 280 1560 [l0, l1, l2, l3, l4, l5, l6] (r.toList ++ []) I R Q := am_ev_call (am_f280 (pc := 1557) (q := (.invokevirtual 207, 3, (155, 0, 0))) rfl) (am_inv_v [.int a1] [] (by decide) (by decide) rfl rfl rfl (Nat.le_of_ble_eq_true rfl))
set_option maxRecDepth 100000 in
theorem s280_1560 {d : Nat} {l0 l1 l3 l4 l5 l6 : Value} {st : List Value} {x : Nat} {I : am_I} {R : am_R} {Q : am_Q} : am_ev d 280 1560 [l0, l1, .ref x, l3, l4, l5, l6] st I R Q = am_ev d 280 1561 [l0, l1, .ref x, l3, l4, l5, l6] (.ref x :: st) I R Q := am_ev_nx (am_f280 (pc := 1560) (q := (.aload_n 2, 1, (0, 0, 0))) rfl) rfl
set_option maxRecDepth 100000 in
theorem s280_1561 {d : Nat} {l1 l2 l3 l4 l5 l6 : Value} {st : List Value} {x : Nat} {I : am_I} {R : am_R} {Q : am_Q} : am_ev d 280 1561 [.ref x, l1, l2, l3, l4, l5, l6] st I R Q = am_ev d 280 1562 [.ref x, l1, l2, l3, l4, l5, l6] (.ref x :: st) I R Q := am_ev_nx (am_f280 (pc := 1561) (q := (.aload_n 0, 1, (0, 0, 0))) rfl) rfl
set_option maxRecDepth 100000 in
theorem s280_1562 {d : Nat} {l0 l1 l2 l3 l5 l6 : Value} {st : List Value} {x : Int32} {I : am_I} {R : am_R} {Q : am_Q} : am_ev d 280 1562 [l0, l1, l2, l3, .int x, l5, l6] st I R Q = am_ev d 280 1564 [l0, l1, l2, l3, .int x, l5, l6] (.int x :: st) I R Q := am_ev_nx (am_f280 (pc := 1562) (q := (.iload 4, 2, (0, 0, 0))) rfl) rfl
set_option maxRecDepth 100000 in
theorem s280_1564 {d : Nat} {l0 l1 l2 l3 l4 l5 l6 : Value} {st : List Value} {I : am_I} {R : am_R} {Q : am_Q} : am_ev d 280 1564 [l0, l1, l2, l3, l4, l5, l6] st I R Q = am_ev d 280 1565 [l0, l1, l2, l3, l4, l5, l6] (.int (nI 1) :: st) I R Q := am_ev_nx (am_f280 (pc := 1564) (q := (.iconst 1, 1, (0, 0, 1))) rfl) rfl
set_option maxRecDepth 100000 in
theorem s280_1565 {d : Nat} {l0 l1 l2 l3 l4 l5 l6 : Value} {st : List Value} {x y : Int32} {I : am_I} {R : am_R} {Q : am_Q} : am_ev d 280 1565 [l0, l1, l2, l3, l4, l5, l6] (.int y :: .int x :: st) I R Q = am_ev d 280 1566 [l0, l1, l2, l3, l4, l5, l6] (.int (x + y) :: st) I R Q := am_ev_nx (am_f280 (pc := 1565) (q := (.iadd, 1, (0, 0, 0))) rfl) rfl
set_option maxRecDepth 100000 in
theorem s280_1567 {d : Nat} {l0 l1 l2 l3 l4 l5 l6 : Value} {a0 : Nat} {a1 : Int32} {r0 : Value} {I : am_I} {R : am_R} {Q : am_Q} : am_ev (d + 1) 280 1567 [l0, l1, l2, l3, l4, l5, l6] [.int a1, .ref (am_mk 12 a0), r0] I R Q = am_th (am_cal d 279 [.ref (am_mk 12 a0), .int a1] I R Q) fun r I R Q => am_ev (d + 1) 280 1570 [l0, l1, l2, l3, l4, l5, l6] (r.toList ++ [r0]) I R Q := am_ev_call (am_f280 (pc := 1567) (q := (.invokevirtual 210, 3, (279, 0, 0))) rfl) (am_inv_v [.int a1] [r0] (by decide) (by decide) rfl rfl rfl (Nat.le_of_ble_eq_true rfl))
set_option maxRecDepth 100000 in
theorem s280_1570 {d : Nat} {l0 l1 l2 l3 l4 l5 l6 : Value} {st : List Value} {x y : Int32} {I : am_I} {R : am_R} {Q : am_Q} : am_ev d 280 1570 [l0, l1, l2, l3, l4, l5, l6] (.int y :: .int x :: st) I R Q = if x = y then am_ev d 280 1575 [l0, l1, l2, l3, l4, l5, l6] st I R Q else am_ev d 280 1573 [l0, l1, l2, l3, l4, l5, l6] st I R Q := am_ev_br (am_f280 (pc := 1570) (q := (.if_icmp .eq 5, 3, (0, 0, 0))) rfl) rfl
set_option maxRecDepth 100000 in
theorem s280_1573 {d : Nat} {l0 l1 l2 l3 l4 l5 l6 : Value} {st : List Value} {I : am_I} {R : am_R} {Q : am_Q} : am_ev d 280 1573 [l0, l1, l2, l3, l4, l5, l6] st I R Q = am_ev d 280 1574 [l0, l1, l2, l3, l4, l5, l6] (.int (nI 0) :: st) I R Q := am_ev_nx (am_f280 (pc := 1573) (q := (.iconst 0, 1, (0, 0, 0))) rfl) rfl
set_option maxRecDepth 100000 in
theorem s280_1574 {d : Nat} {l0 l1 l2 l3 l4 l5 l6 : Value} {x : Int32} {I : am_I} {R : am_R} {Q : am_Q} : am_ev d 280 1574 [l0, l1, l2, l3, l4, l5, l6] [.int x] I R Q = if am_bb x then some (some (.int x), I, R, Q) else none := am_ev_ifr (am_f280 (pc := 1574) (q := (.ireturn, 1, (1, 0, 0))) rfl) (am_zr_u rfl)
set_option maxRecDepth 100000 in
theorem s280_1575 {d : Nat} {l0 l1 l2 l3 l5 l6 : Value} {st : List Value} {x : Int32} {I : am_I} {R : am_R} {Q : am_Q} : am_ev d 280 1575 [l0, l1, l2, l3, .int x, l5, l6] st I R Q = am_ev d 280 1578 [l0, l1, l2, l3, .int (x + (nI 6)), l5, l6] st I R Q := am_ev_nx (am_f280 (pc := 1575) (q := (.iinc 4 6, 3, (0, 0, 0))) rfl) rfl
set_option maxRecDepth 100000 in
theorem s280_1578 {d : Nat} {l0 l1 l2 l3 l4 l5 l6 : Value} {st : List Value} {I : am_I} {R : am_R} {Q : am_Q} : am_ev d 280 1578 [l0, l1, l2, l3, l4, l5, l6] st I R Q = am_ev d 280 23 [l0, l1, l2, l3, l4, l5, l6] st I R Q := am_ev_nx (am_f280 (pc := 1578) (q := (.goto (-1555), 3, (0, 0, 0))) rfl) rfl
set_option maxRecDepth 100000 in
theorem s280_1581 {d : Nat} {l0 l1 l2 l3 l4 l5 l6 : Value} {st : List Value} {I : am_I} {R : am_R} {Q : am_Q} : am_ev d 280 1581 [l0, l1, l2, l3, l4, l5, l6] st I R Q = am_ev d 280 1582 [l0, l1, l2, l3, l4, l5, l6] (.int (nI 1) :: st) I R Q := am_ev_nx (am_f280 (pc := 1581) (q := (.iconst 1, 1, (0, 0, 1))) rfl) rfl
set_option maxRecDepth 100000 in
theorem s280_1582 {d : Nat} {l0 l1 l2 l3 l4 l5 l6 : Value} {x : Int32} {I : am_I} {R : am_R} {Q : am_Q} : am_ev d 280 1582 [l0, l1, l2, l3, l4, l5, l6] [.int x] I R Q = if am_bb x then some (some (.int x), I, R, Q) else none := am_ev_ifr (am_f280 (pc := 1582) (q := (.ireturn, 1, (1, 0, 0))) rfl) (am_zr_u rfl)
set_option maxRecDepth 100000 in
theorem s280 {d : Nat} {a0 : Nat} {I : am_I} {R : am_R} {Q : am_Q} : am_cal d 280 [.ref a0] I R Q = am_ev d 280 0 [.ref a0, am_J, am_J, am_J, am_J, am_J, am_J] [] I R Q := am_cal_ev (by decide)
