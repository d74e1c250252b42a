theorem q_L_law {d nx kx : Nat} {sh : zq_S} {I : zq_I} {P : zq_P} {a0 : Value} : zq_C d 0 [a0] sh I P nx kx = zq_F d 0 0 [some a0, none, none, none] [] sh I P nx kx := rfl
set_option maxRecDepth 100000 in
theorem q_L_law_0 {d nx kx : Nat} {L : zq_L} {st : List Value} {sh : zq_S} {I : zq_I} {P : zq_P} : zq_F d 0 0 L st sh I P nx kx = zq_F d 0 3 L (.ref nx :: st) (zq_us sh nx (100, 0)) (zq_row I nx 0) (zq_row P nx none) (nx + 1) (kx + 10) := zq_r_new rfl rfl rfl rfl
set_option maxRecDepth 100000 in
theorem q_L_law_3 {d nx kx : Nat} {L : zq_L} {st : List Value} {sh : zq_S} {I : zq_I} {P : zq_P} {a : Nat} : zq_F d 0 3 L (.ref a :: st) sh I P nx kx = zq_F d 0 4 L (.ref a :: .ref a :: st) sh I P nx kx := zq_F_next rfl rfl rfl rfl
set_option maxRecDepth 100000 in
theorem q_L_law_3i {d nx kx : Nat} {L : zq_L} {st : List Value} {sh : zq_S} {I : zq_I} {P : zq_P} {x : Int32} : zq_F d 0 3 L (.int x :: st) sh I P nx kx = zq_F d 0 4 L (.int x :: .int x :: st) sh I P nx kx := zq_F_next rfl rfl rfl rfl
set_option maxRecDepth 100000 in
theorem q_L_law_4 {d nx kx : Nat} {L : zq_L} {st : List Value} {sh : zq_S} {I : zq_I} {P : zq_P} {b : Nat} (hs : st.length ≤ 4) : zq_F (d + 1) 0 4 L (.ref b :: st) sh I P nx kx = (zq_C d 1 [.ref b] sh I P nx kx).bind fun q => zq_F (d + 1) 0 7 L (q.1.toList ++ st) q.2.1 q.2.2.1 q.2.2.2.1 q.2.2.2.2.1 q.2.2.2.2.2 := zq_F_call rfl rfl (zq_ag (as := [.ref b]) rfl rfl rfl hs (Or.inr ⟨b, rfl, Nat.succ_pos _, Or.inl rfl⟩)) rfl rfl
set_option maxRecDepth 100000 in
theorem q_L_law_7 {d nx kx : Nat} {st : List Value} {sh : zq_S} {I : zq_I} {P : zq_P} {l0 l1 l2 l3 : Option Value} {a : Nat} : zq_F d 0 7 [l0, l1, l2, l3] (.ref a :: st) sh I P nx kx = zq_F d 0 8 [l0, some (.ref a), l2, l3] st sh I P nx kx := zq_F_next rfl rfl rfl rfl
set_option maxRecDepth 100000 in
theorem q_L_law_7n {d nx kx : Nat} {st : List Value} {sh : zq_S} {I : zq_I} {P : zq_P} {l0 l1 l2 l3 : Option Value} : zq_F d 0 7 [l0, l1, l2, l3] (.null :: st) sh I P nx kx = zq_F d 0 8 [l0, some .null, l2, l3] st sh I P nx kx := zq_F_next rfl rfl rfl rfl
set_option maxRecDepth 100000 in
theorem q_L_law_8 {d nx kx : Nat} {L : zq_L} {st : List Value} {sh : zq_S} {I : zq_I} {P : zq_P} : zq_F d 0 8 L st sh I P nx kx = zq_F d 0 11 L (.ref nx :: st) (zq_us sh nx (106, 0)) (zq_row I nx 0) (zq_row P nx none) (nx + 1) (kx + 22) := zq_r_new rfl rfl rfl rfl
set_option maxRecDepth 100000 in
theorem q_L_law_11 {d nx kx : Nat} {L : zq_L} {st : List Value} {sh : zq_S} {I : zq_I} {P : zq_P} {a : Nat} : zq_F d 0 11 L (.ref a :: st) sh I P nx kx = zq_F d 0 12 L (.ref a :: .ref a :: st) sh I P nx kx := zq_F_next rfl rfl rfl rfl
set_option maxRecDepth 100000 in
theorem q_L_law_11i {d nx kx : Nat} {L : zq_L} {st : List Value} {sh : zq_S} {I : zq_I} {P : zq_P} {x : Int32} : zq_F d 0 11 L (.int x :: st) sh I P nx kx = zq_F d 0 12 L (.int x :: .int x :: st) sh I P nx kx := zq_F_next rfl rfl rfl rfl
set_option maxRecDepth 100000 in
theorem q_L_law_12 {d nx kx : Nat} {L : zq_L} {st : List Value} {sh : zq_S} {I : zq_I} {P : zq_P} {b : Nat} (hs : st.length ≤ 4) : zq_F (d + 1) 0 12 L (.ref b :: st) sh I P nx kx = (zq_C d 76 [.ref b] sh I P nx kx).bind fun q => zq_F (d + 1) 0 15 L (q.1.toList ++ st) q.2.1 q.2.2.1 q.2.2.2.1 q.2.2.2.2.1 q.2.2.2.2.2 := zq_F_call rfl rfl (zq_ag (as := [.ref b]) rfl rfl rfl hs (Or.inr ⟨b, rfl, Nat.succ_pos _, Or.inl rfl⟩)) rfl rfl
set_option maxRecDepth 100000 in
theorem q_L_law_15 {d nx kx : Nat} {st : List Value} {sh : zq_S} {I : zq_I} {P : zq_P} {l0 l1 l2 l3 : Option Value} {a : Nat} : zq_F d 0 15 [l0, l1, l2, l3] (.ref a :: st) sh I P nx kx = zq_F d 0 16 [l0, l1, some (.ref a), l3] st sh I P nx kx := zq_F_next rfl rfl rfl rfl
set_option maxRecDepth 100000 in
theorem q_L_law_15n {d nx kx : Nat} {st : List Value} {sh : zq_S} {I : zq_I} {P : zq_P} {l0 l1 l2 l3 : Option Value} : zq_F d 0 15 [l0, l1, l2, l3] (.null :: st) sh I P nx kx = zq_F d 0 16 [l0, l1, some .null, l3] st sh I P nx kx := zq_F_next rfl rfl rfl rfl
set_option maxRecDepth 100000 in
theorem q_L_law_16 {d nx kx : Nat} {L : zq_L} {st : List Value} {sh : zq_S} {I : zq_I} {P : zq_P} : zq_F d 0 16 L st sh I P nx kx = zq_F d 0 17 L (.int (nI 0) :: st) sh I P nx kx := zq_r_int rfl (by decide)
set_option maxRecDepth 100000 in
theorem q_L_law_17 {d nx kx : Nat} {st : List Value} {sh : zq_S} {I : zq_I} {P : zq_P} {l0 l1 l2 l3 : Option Value} {x : Int32} : zq_F d 0 17 [l0, l1, l2, l3] (.int x :: st) sh I P nx kx = zq_F d 0 18 [l0, l1, l2, some (.int x)] st sh I P nx kx := zq_F_next rfl rfl rfl rfl
set_option maxRecDepth 100000 in
theorem q_L_law_18 {d nx kx : Nat} {st : List Value} {sh : zq_S} {I : zq_I} {P : zq_P} {l0 l1 l2 : Option Value} {x : Int32} : zq_F d 0 18 [l0, l1, l2, some (.int x)] st sh I P nx kx = zq_F d 0 19 [l0, l1, l2, some (.int x)] (.int x :: st) sh I P nx kx := zq_F_next rfl rfl rfl rfl
set_option maxRecDepth 100000 in
theorem q_L_law_19 {d nx kx : Nat} {st : List Value} {sh : zq_S} {I : zq_I} {P : zq_P} {l1 l2 l3 : Option Value} {a : Nat} : zq_F d 0 19 [some (.ref a), l1, l2, l3] st sh I P nx kx = zq_F d 0 20 [some (.ref a), l1, l2, l3] (.ref a :: st) sh I P nx kx := zq_F_next rfl rfl rfl rfl
set_option maxRecDepth 100000 in
theorem q_L_law_19n {d nx kx : Nat} {st : List Value} {sh : zq_S} {I : zq_I} {P : zq_P} {l1 l2 l3 : Option Value} : zq_F d 0 19 [some .null, l1, l2, l3] st sh I P nx kx = zq_F d 0 20 [some .null, l1, l2, l3] (.null :: st) sh I P nx kx := zq_F_next rfl rfl rfl rfl
set_option maxRecDepth 100000 in
theorem q_L_law_20 {d nx kx : Nat} {L : zq_L} {st : List Value} {sh : zq_S} {I : zq_I} {P : zq_P} {a : Nat} (h : 0 < (sh a).1) (h2 : (sh a).1 < 100) : zq_F d 0 20 L (.ref a :: st) sh I P nx kx = zq_F d 0 21 L (.int (nI (sh a).2) :: st) sh I P nx kx := zq_r_alen rfl h h2
set_option maxRecDepth 100000 in
theorem q_L_law_21 {d nx kx : Nat} {L : zq_L} {st : List Value} {sh : zq_S} {I : zq_I} {P : zq_P} : zq_F d 0 21 L st sh I P nx kx = zq_F d 0 22 L (.int (nI 4) :: st) sh I P nx kx := zq_r_int rfl (by decide)
set_option maxRecDepth 100000 in
theorem q_L_law_22 {d nx kx : Nat} {L : zq_L} {st : List Value} {sh : zq_S} {I : zq_I} {P : zq_P} {x y : Int32} : zq_F d 0 22 L (.int y :: .int x :: st) sh I P nx kx = zq_F d 0 23 L (.int (x - y) :: st) sh I P nx kx := zq_F_next rfl rfl rfl rfl
set_option maxRecDepth 100000 in
theorem q_L_law_23 {d nx kx : Nat} {L : zq_L} {st : List Value} {sh : zq_S} {I : zq_I} {P : zq_P} {x y : Int32} : zq_F d 0 23 L (.int y :: .int x :: st) sh I P nx kx = if y < x then zq_F d 0 617 L st sh I P nx kx else zq_F d 0 26 L st sh I P nx kx := zq_r_if2 rfl (by decide) (zq_c_gt x y)
set_option maxRecDepth 100000 in
theorem q_L_law_26 {d nx kx : Nat} {st : List Value} {sh : zq_S} {I : zq_I} {P : zq_P} {l1 l2 l3 : Option Value} {a : Nat} : zq_F d 0 26 [some (.ref a), l1, l2, l3] st sh I P nx kx = zq_F d 0 27 [some (.ref a), l1, l2, l3] (.ref a :: st) sh I P nx kx := zq_F_next rfl rfl rfl rfl
set_option maxRecDepth 100000 in
theorem q_L_law_26n {d nx kx : Nat} {st : List Value} {sh : zq_S} {I : zq_I} {P : zq_P} {l1 l2 l3 : Option Value} : zq_F d 0 26 [some .null, l1, l2, l3] st sh I P nx kx = zq_F d 0 27 [some .null, l1, l2, l3] (.null :: st) sh I P nx kx := zq_F_next rfl rfl rfl rfl
set_option maxRecDepth 100000 in
theorem q_L_law_27 {d nx kx : Nat} {st : List Value} {sh : zq_S} {I : zq_I} {P : zq_P} {l0 l1 l2 : Option Value} {x : Int32} : zq_F d 0 27 [l0, l1, l2, some (.int x)] st sh I P nx kx = zq_F d 0 28 [l0, l1, l2, some (.int x)] (.int x :: st) sh I P nx kx := zq_F_next rfl rfl rfl rfl
set_option maxRecDepth 100000 in
theorem q_L_law_28 {d nx kx : Nat} {L : zq_L} {st : List Value} {sh : zq_S} {I : zq_I} {P : zq_P} {a j : Nat} (h : (sh a).1 = 1) (h1 : j < (sh a).2) (h2 : j < 2147483648) : zq_F d 0 28 L (.int (nI j) :: .ref a :: st) sh I P nx kx = zq_F d 0 29 L (.int (I a j) :: st) sh I P nx kx := zq_n_iald rfl (Or.inr h) h1 h2
set_option maxRecDepth 100000 in
theorem q_L_law_29 {d nx kx : Nat} {L : zq_L} {st : List Value} {sh : zq_S} {I : zq_I} {P : zq_P} : zq_F d 0 29 L st sh I P nx kx = zq_F d 0 31 L (.int (nI 31) :: st) sh I P nx kx := zq_r_bip rfl (by decide)
set_option maxRecDepth 100000 in
theorem q_L_law_31 {d nx kx : Nat} {L : zq_L} {st : List Value} {sh : zq_S} {I : zq_I} {P : zq_P} {x y : Int32} : zq_F d 0 31 L (.int y :: .int x :: st) sh I P nx kx = zq_F d 0 32 L (.int (x &&& y) :: st) sh I P nx kx := zq_F_next rfl rfl rfl rfl
set_option maxRecDepth 100000 in
theorem q_L_law_32_0 {d nx kx : Nat} {L : zq_L} {st : List Value} {sh : zq_S} {I : zq_I} {P : zq_P} : zq_F d 0 32 L (.int (nI 0) :: st) sh I P nx kx = zq_F d 0 124 L st sh I P nx kx := zq_r_tab rfl (by decide +kernel)
set_option maxRecDepth 100000 in
theorem q_L_law_32_1 {d nx kx : Nat} {L : zq_L} {st : List Value} {sh : zq_S} {I : zq_I} {P : zq_P} : zq_F d 0 32 L (.int (nI 1) :: st) sh I P nx kx = zq_F d 0 147 L st sh I P nx kx := zq_r_tab rfl (by decide +kernel)
set_option maxRecDepth 100000 in
theorem q_L_law_32_2 {d nx kx : Nat} {L : zq_L} {st : List Value} {sh : zq_S} {I : zq_I} {P : zq_P} : zq_F d 0 32 L (.int (nI 2) :: st) sh I P nx kx = zq_F d 0 170 L st sh I P nx kx := zq_r_tab rfl (by decide +kernel)
set_option maxRecDepth 100000 in
theorem q_L_law_32_3 {d nx kx : Nat} {L : zq_L} {st : List Value} {sh : zq_S} {I : zq_I} {P : zq_P} : zq_F d 0 32 L (.int (nI 3) :: st) sh I P nx kx = zq_F d 0 193 L st sh I P nx kx := zq_r_tab rfl (by decide +kernel)
set_option maxRecDepth 100000 in
theorem q_L_law_32_4 {d nx kx : Nat} {L : zq_L} {st : List Value} {sh : zq_S} {I : zq_I} {P : zq_P} : zq_F d 0 32 L (.int (nI 4) :: st) sh I P nx kx = zq_F d 0 216 L st sh I P nx kx := zq_r_tab rfl (by decide +kernel)
set_option maxRecDepth 100000 in
theorem q_L_law_32_5 {d nx kx : Nat} {L : zq_L} {st : List Value} {sh : zq_S} {I : zq_I} {P : zq_P} : zq_F d 0 32 L (.int (nI 5) :: st) sh I P nx kx = zq_F d 0 239 L st sh I P nx kx := zq_r_tab rfl (by decide +kernel)
set_option maxRecDepth 100000 in
theorem q_L_law_32_6 {d nx kx : Nat} {L : zq_L} {st : List Value} {sh : zq_S} {I : zq_I} {P : zq_P} : zq_F d 0 32 L (.int (nI 6) :: st) sh I P nx kx = zq_F d 0 262 L st sh I P nx kx := zq_r_tab rfl (by decide +kernel)
set_option maxRecDepth 100000 in
theorem q_L_law_32_7 {d nx kx : Nat} {L : zq_L} {st : List Value} {sh : zq_S} {I : zq_I} {P : zq_P} : zq_F d 0 32 L (.int (nI 7) :: st) sh I P nx kx = zq_F d 0 285 L st sh I P nx kx := zq_r_tab rfl (by decide +kernel)
set_option maxRecDepth 100000 in
theorem q_L_law_32_8 {d nx kx : Nat} {L : zq_L} {st : List Value} {sh : zq_S} {I : zq_I} {P : zq_P} : zq_F d 0 32 L (.int (nI 8) :: st) sh I P nx kx = zq_F d 0 308 L st sh I P nx kx := zq_r_tab rfl (by decide +kernel)
set_option maxRecDepth 100000 in
theorem q_L_law_32_9 {d nx kx : Nat} {L : zq_L} {st : List Value} {sh : zq_S} {I : zq_I} {P : zq_P} : zq_F d 0 32 L (.int (nI 9) :: st) sh I P nx kx = zq_F d 0 331 L st sh I P nx kx := zq_r_tab rfl (by decide +kernel)
set_option maxRecDepth 100000 in
theorem q_L_law_32_10 {d nx kx : Nat} {L : zq_L} {st : List Value} {sh : zq_S} {I : zq_I} {P : zq_P} : zq_F d 0 32 L (.int (nI 10) :: st) sh I P nx kx = zq_F d 0 354 L st sh I P nx kx := zq_r_tab rfl (by decide +kernel)
set_option maxRecDepth 100000 in
theorem q_L_law_32_11 {d nx kx : Nat} {L : zq_L} {st : List Value} {sh : zq_S} {I : zq_I} {P : zq_P} : zq_F d 0 32 L (.int (nI 11) :: st) sh I P nx kx = zq_F d 0 377 L st sh I P nx kx := zq_r_tab rfl (by decide +kernel)
set_option maxRecDepth 100000 in
theorem q_L_law_32_12 {d nx kx : Nat} {L : zq_L} {st : List Value} {sh : zq_S} {I : zq_I} {P : zq_P} : zq_F d 0 32 L (.int (nI 12) :: st) sh I P nx kx = zq_F d 0 410 L st sh I P nx kx := zq_r_tab rfl (by decide +kernel)
set_option maxRecDepth 100000 in
theorem q_L_law_32_13 {d nx kx : Nat} {L : zq_L} {st : List Value} {sh : zq_S} {I : zq_I} {P : zq_P} : zq_F d 0 32 L (.int (nI 13) :: st) sh I P nx kx = zq_F d 0 443 L st sh I P nx kx := zq_r_tab rfl (by decide +kernel)
set_option maxRecDepth 100000 in
theorem q_L_law_32_14 {d nx kx : Nat} {L : zq_L} {st : List Value} {sh : zq_S} {I : zq_I} {P : zq_P} : zq_F d 0 32 L (.int (nI 14) :: st) sh I P nx kx = zq_F d 0 486 L st sh I P nx kx := zq_r_tab rfl (by decide +kernel)
set_option maxRecDepth 100000 in
theorem q_L_law_32_15 {d nx kx : Nat} {L : zq_L} {st : List Value} {sh : zq_S} {I : zq_I} {P : zq_P} : zq_F d 0 32 L (.int (nI 15) :: st) sh I P nx kx = zq_F d 0 509 L st sh I P nx kx := zq_r_tab rfl (by decide +kernel)
set_option maxRecDepth 100000 in
theorem q_L_law_32_16 {d nx kx : Nat} {L : zq_L} {st : List Value} {sh : zq_S} {I : zq_I} {P : zq_P} : zq_F d 0 32 L (.int (nI 16) :: st) sh I P nx kx = zq_F d 0 542 L st sh I P nx kx := zq_r_tab rfl (by decide +kernel)
set_option maxRecDepth 100000 in
theorem q_L_law_32_17 {d nx kx : Nat} {L : zq_L} {st : List Value} {sh : zq_S} {I : zq_I} {P : zq_P} : zq_F d 0 32 L (.int (nI 17) :: st) sh I P nx kx = zq_F d 0 565 L st sh I P nx kx := zq_r_tab rfl (by decide +kernel)
set_option maxRecDepth 100000 in
theorem q_L_law_32_18 {d nx kx : Nat} {L : zq_L} {st : List Value} {sh : zq_S} {I : zq_I} {P : zq_P} : zq_F d 0 32 L (.int (nI 18) :: st) sh I P nx kx = zq_F d 0 588 L st sh I P nx kx := zq_r_tab rfl (by decide +kernel)
set_option maxRecDepth 100000 in
theorem q_L_law_32_19 {d nx kx : Nat} {L : zq_L} {st : List Value} {sh : zq_S} {I : zq_I} {P : zq_P} : zq_F d 0 32 L (.int (nI 19) :: st) sh I P nx kx = zq_F d 0 611 L st sh I P nx kx := zq_r_tab rfl (by decide +kernel)
set_option maxRecDepth 100000 in
theorem q_L_law_32_20 {d nx kx : Nat} {L : zq_L} {st : List Value} {sh : zq_S} {I : zq_I} {P : zq_P} : zq_F d 0 32 L (.int (nI 20) :: st) sh I P nx kx = zq_F d 0 611 L st sh I P nx kx := zq_r_tab rfl (by decide +kernel)
set_option maxRecDepth 100000 in
theorem q_L_law_32_21 {d nx kx : Nat} {L : zq_L} {st : List Value} {sh : zq_S} {I : zq_I} {P : zq_P} : zq_F d 0 32 L (.int (nI 21) :: st) sh I P nx kx = zq_F d 0 611 L st sh I P nx kx := zq_r_tab rfl (by decide +kernel)
set_option maxRecDepth 100000 in
theorem q_L_law_32_22 {d nx kx : Nat} {L : zq_L} {st : List Value} {sh : zq_S} {I : zq_I} {P : zq_P} : zq_F d 0 32 L (.int (nI 22) :: st) sh I P nx kx = zq_F d 0 611 L st sh I P nx kx := zq_r_tab rfl (by decide +kernel)
set_option maxRecDepth 100000 in
theorem q_L_law_32_23 {d nx kx : Nat} {L : zq_L} {st : List Value} {sh : zq_S} {I : zq_I} {P : zq_P} : zq_F d 0 32 L (.int (nI 23) :: st) sh I P nx kx = zq_F d 0 611 L st sh I P nx kx := zq_r_tab rfl (by decide +kernel)
set_option maxRecDepth 100000 in
theorem q_L_law_32_24 {d nx kx : Nat} {L : zq_L} {st : List Value} {sh : zq_S} {I : zq_I} {P : zq_P} : zq_F d 0 32 L (.int (nI 24) :: st) sh I P nx kx = zq_F d 0 611 L st sh I P nx kx := zq_r_tab rfl (by decide +kernel)
set_option maxRecDepth 100000 in
theorem q_L_law_32_25 {d nx kx : Nat} {L : zq_L} {st : List Value} {sh : zq_S} {I : zq_I} {P : zq_P} : zq_F d 0 32 L (.int (nI 25) :: st) sh I P nx kx = zq_F d 0 611 L st sh I P nx kx := zq_r_tab rfl (by decide +kernel)
set_option maxRecDepth 100000 in
theorem q_L_law_32_26 {d nx kx : Nat} {L : zq_L} {st : List Value} {sh : zq_S} {I : zq_I} {P : zq_P} : zq_F d 0 32 L (.int (nI 26) :: st) sh I P nx kx = zq_F d 0 611 L st sh I P nx kx := zq_r_tab rfl (by decide +kernel)
set_option maxRecDepth 100000 in
theorem q_L_law_32_27 {d nx kx : Nat} {L : zq_L} {st : List Value} {sh : zq_S} {I : zq_I} {P : zq_P} : zq_F d 0 32 L (.int (nI 27) :: st) sh I P nx kx = zq_F d 0 611 L st sh I P nx kx := zq_r_tab rfl (by decide +kernel)
set_option maxRecDepth 100000 in
theorem q_L_law_32_28 {d nx kx : Nat} {L : zq_L} {st : List Value} {sh : zq_S} {I : zq_I} {P : zq_P} : zq_F d 0 32 L (.int (nI 28) :: st) sh I P nx kx = zq_F d 0 611 L st sh I P nx kx := zq_r_tab rfl (by decide +kernel)
set_option maxRecDepth 100000 in
theorem q_L_law_32_29 {d nx kx : Nat} {L : zq_L} {st : List Value} {sh : zq_S} {I : zq_I} {P : zq_P} : zq_F d 0 32 L (.int (nI 29) :: st) sh I P nx kx = zq_F d 0 611 L st sh I P nx kx := zq_r_tab rfl (by decide +kernel)
set_option maxRecDepth 100000 in
theorem q_L_law_32_30 {d nx kx : Nat} {L : zq_L} {st : List Value} {sh : zq_S} {I : zq_I} {P : zq_P} : zq_F d 0 32 L (.int (nI 30) :: st) sh I P nx kx = zq_F d 0 611 L st sh I P nx kx := zq_r_tab rfl (by decide +kernel)
set_option maxRecDepth 100000 in
theorem q_L_law_32_31 {d nx kx : Nat} {L : zq_L} {st : List Value} {sh : zq_S} {I : zq_I} {P : zq_P} : zq_F d 0 32 L (.int (nI 31) :: st) sh I P nx kx = zq_F d 0 611 L st sh I P nx kx := zq_r_tab rfl (by decide +kernel)
set_option maxRecDepth 100000 in
theorem q_L_law_32_d {d nx kx : Nat} {L : zq_L} {st : List Value} {sh : zq_S} {I : zq_I} {P : zq_P} {x : Int32} (h : x.toInt < 0 ∨ 18 < x.toInt) : zq_F d 0 32 L (.int x :: st) sh I P nx kx = zq_F d 0 611 L st sh I P nx kx := zq_r_tab rfl (by rw [if_pos h]; rfl)
set_option maxRecDepth 100000 in
theorem q_L_law_124 {d nx kx : Nat} {st : List Value} {sh : zq_S} {I : zq_I} {P : zq_P} {l0 l2 l3 : Option Value} {a : Nat} : zq_F d 0 124 [l0, some (.ref a), l2, l3] st sh I P nx kx = zq_F d 0 125 [l0, some (.ref a), l2, l3] (.ref a :: st) sh I P nx kx := zq_F_next rfl rfl rfl rfl
set_option maxRecDepth 100000 in
theorem q_L_law_124n {d nx kx : Nat} {st : List Value} {sh : zq_S} {I : zq_I} {P : zq_P} {l0 l2 l3 : Option Value} : zq_F d 0 124 [l0, some .null, l2, l3] st sh I P nx kx = zq_F d 0 125 [l0, some .null, l2, l3] (.null :: st) sh I P nx kx := zq_F_next rfl rfl rfl rfl
set_option maxRecDepth 100000 in
theorem q_L_law_125 {d nx kx : Nat} {st : List Value} {sh : zq_S} {I : zq_I} {P : zq_P} {l1 l2 l3 : Option Value} {a : Nat} : zq_F d 0 125 [some (.ref a), l1, l2, l3] st sh I P nx kx = zq_F d 0 126 [some (.ref a), l1, l2, l3] (.ref a :: st) sh I P nx kx := zq_F_next rfl rfl rfl rfl
set_option maxRecDepth 100000 in
theorem q_L_law_125n {d nx kx : Nat} {st : List Value} {sh : zq_S} {I : zq_I} {P : zq_P} {l1 l2 l3 : Option Value} : zq_F d 0 125 [some .null, l1, l2, l3] st sh I P nx kx = zq_F d 0 126 [some .null, l1, l2, l3] (.null :: st) sh I P nx kx := zq_F_next rfl rfl rfl rfl
set_option maxRecDepth 100000 in
theorem q_L_law_126 {d nx kx : Nat} {st : List Value} {sh : zq_S} {I : zq_I} {P : zq_P} {l0 l1 l2 : Option Value} {x : Int32} : zq_F d 0 126 [l0, l1, l2, some (.int x)] st sh I P nx kx = zq_F d 0 127 [l0, l1, l2, some (.int x)] (.int x :: st) sh I P nx kx := zq_F_next rfl rfl rfl rfl
set_option maxRecDepth 100000 in
theorem q_L_law_127 {d nx kx : Nat} {L : zq_L} {st : List Value} {sh : zq_S} {I : zq_I} {P : zq_P} : zq_F d 0 127 L st sh I P nx kx = zq_F d 0 128 L (.int (nI 1) :: st) sh I P nx kx := zq_r_int rfl (by decide)
set_option maxRecDepth 100000 in
theorem q_L_law_128 {d nx kx : Nat} {L : zq_L} {st : List Value} {sh : zq_S} {I : zq_I} {P : zq_P} {x y : Int32} : zq_F d 0 128 L (.int y :: .int x :: st) sh I P nx kx = zq_F d 0 129 L (.int (x + y) :: st) sh I P nx kx := zq_F_next rfl rfl rfl rfl
set_option maxRecDepth 100000 in
theorem q_L_law_129 {d nx kx : Nat} {L : zq_L} {st : List Value} {sh : zq_S} {I : zq_I} {P : zq_P} {a j : Nat} (h : (sh a).1 = 1) (h1 : j < (sh a).2) (h2 : j < 2147483648) : zq_F d 0 129 L (.int (nI j) :: .ref a :: st) sh I P nx kx = zq_F d 0 130 L (.int (I a j) :: st) sh I P nx kx := zq_n_iald rfl (Or.inr h) h1 h2
set_option maxRecDepth 100000 in
theorem q_L_law_130 {d nx kx : Nat} {L : zq_L} {st : List Value} {sh : zq_S} {I : zq_I} {P : zq_P} {b : Nat} {x0 : Int32} (h : (sh b).1 = 100) (hs : st.length ≤ 4) : zq_F (d + 1) 0 130 L (.int x0 :: .ref b :: st) sh I P nx kx = (zq_C d 2 [.ref b, .int x0] sh I P nx kx).bind fun q => zq_F (d + 1) 0 133 L (q.1.toList ++ st) q.2.1 q.2.2.1 q.2.2.2.1 q.2.2.2.2.1 q.2.2.2.2.2 := zq_F_call rfl rfl (zq_ag (as := [.int x0, .ref b]) rfl rfl rfl hs (Or.inr ⟨b, rfl, Nat.succ_pos _, Or.inr h⟩)) rfl rfl
set_option maxRecDepth 100000 in
theorem q_L_law_133 {d nx kx : Nat} {st : List Value} {sh : zq_S} {I : zq_I} {P : zq_P} {l0 l1 l3 : Option Value} {a : Nat} : zq_F d 0 133 [l0, l1, some (.ref a), l3] st sh I P nx kx = zq_F d 0 134 [l0, l1, some (.ref a), l3] (.ref a :: st) sh I P nx kx := zq_F_next rfl rfl rfl rfl
set_option maxRecDepth 100000 in
theorem q_L_law_133n {d nx kx : Nat} {st : List Value} {sh : zq_S} {I : zq_I} {P : zq_P} {l0 l1 l3 : Option Value} : zq_F d 0 133 [l0, l1, some .null, l3] st sh I P nx kx = zq_F d 0 134 [l0, l1, some .null, l3] (.null :: st) sh I P nx kx := zq_F_next rfl rfl rfl rfl
set_option maxRecDepth 100000 in
theorem q_L_law_134 {d nx kx : Nat} {st : List Value} {sh : zq_S} {I : zq_I} {P : zq_P} {l1 l2 l3 : Option Value} {a : Nat} : zq_F d 0 134 [some (.ref a), l1, l2, l3] st sh I P nx kx = zq_F d 0 135 [some (.ref a), l1, l2, l3] (.ref a :: st) sh I P nx kx := zq_F_next rfl rfl rfl rfl
set_option maxRecDepth 100000 in
theorem q_L_law_134n {d nx kx : Nat} {st : List Value} {sh : zq_S} {I : zq_I} {P : zq_P} {l1 l2 l3 : Option Value} : zq_F d 0 134 [some .null, l1, l2, l3] st sh I P nx kx = zq_F d 0 135 [some .null, l1, l2, l3] (.null :: st) sh I P nx kx := zq_F_next rfl rfl rfl rfl
set_option maxRecDepth 100000 in
theorem q_L_law_135 {d nx kx : Nat} {st : List Value} {sh : zq_S} {I : zq_I} {P : zq_P} {l0 l1 l2 : Option Value} {x : Int32} : zq_F d 0 135 [l0, l1, l2, some (.int x)] st sh I P nx kx = zq_F d 0 136 [l0, l1, l2, some (.int x)] (.int x :: st) sh I P nx kx := zq_F_next rfl rfl rfl rfl
set_option maxRecDepth 100000 in
theorem q_L_law_136 {d nx kx : Nat} {L : zq_L} {st : List Value} {sh : zq_S} {I : zq_I} {P : zq_P} : zq_F d 0 136 L st sh I P nx kx = zq_F d 0 137 L (.int (nI 1) :: st) sh I P nx kx := zq_r_int rfl (by decide)
set_option maxRecDepth 100000 in
theorem q_L_law_137 {d nx kx : Nat} {L : zq_L} {st : List Value} {sh : zq_S} {I : zq_I} {P : zq_P} {x y : Int32} : zq_F d 0 137 L (.int y :: .int x :: st) sh I P nx kx = zq_F d 0 138 L (.int (x + y) :: st) sh I P nx kx := zq_F_next rfl rfl rfl rfl
set_option maxRecDepth 100000 in
theorem q_L_law_138 {d nx kx : Nat} {L : zq_L} {st : List Value} {sh : zq_S} {I : zq_I} {P : zq_P} {a j : Nat} (h : (sh a).1 = 1) (h1 : j < (sh a).2) (h2 : j < 2147483648) : zq_F d 0 138 L (.int (nI j) :: .ref a :: st) sh I P nx kx = zq_F d 0 139 L (.int (I a j) :: st) sh I P nx kx := zq_n_iald rfl (Or.inr h) h1 h2
set_option maxRecDepth 100000 in
theorem q_L_law_139 {d nx kx : Nat} {L : zq_L} {st : List Value} {sh : zq_S} {I : zq_I} {P : zq_P} {b : Nat} {x0 : Int32} (h : (sh b).1 = 106) (hs : st.length ≤ 4) : zq_F (d + 1) 0 139 L (.int x0 :: .ref b :: st) sh I P nx kx = (zq_C d 78 [.ref b, .int x0] sh I P nx kx).bind fun q => zq_F (d + 1) 0 142 L (q.1.toList ++ st) q.2.1 q.2.2.1 q.2.2.2.1 q.2.2.2.2.1 q.2.2.2.2.2 := zq_F_call rfl rfl (zq_ag (as := [.int x0, .ref b]) rfl rfl rfl hs (Or.inr ⟨b, rfl, Nat.succ_pos _, Or.inr h⟩)) rfl rfl
set_option maxRecDepth 100000 in
theorem q_L_law_142 {d nx kx : Nat} {L : zq_L} {st : List Value} {sh : zq_S} {I : zq_I} {P : zq_P} {x y : Int32} : zq_F d 0 142 L (.int y :: .int x :: st) sh I P nx kx = if x = y then zq_F d 0 611 L st sh I P nx kx else zq_F d 0 145 L st sh I P nx kx := zq_r_if2 rfl (by decide) (zq_c_eq x y)
set_option maxRecDepth 100000 in
theorem q_L_law_145 {d nx kx : Nat} {L : zq_L} {st : List Value} {sh : zq_S} {I : zq_I} {P : zq_P} : zq_F d 0 145 L st sh I P nx kx = zq_F d 0 146 L (.int (nI 0) :: st) sh I P nx kx := zq_r_int rfl (by decide)
set_option maxRecDepth 100000 in
theorem q_L_law_146_0 {d nx kx : Nat} {L : zq_L} {sh : zq_S} {I : zq_I} {P : zq_P} : zq_F d 0 146 L [.int (nI 0)] sh I P nx kx = some (some (.int (nI 0)), sh, I, P, nx, kx) := zq_r_retz rfl rfl (Or.inl rfl)
set_option maxRecDepth 100000 in
theorem q_L_law_146_1 {d nx kx : Nat} {L : zq_L} {sh : zq_S} {I : zq_I} {P : zq_P} : zq_F d 0 146 L [.int (nI 1)] sh I P nx kx = some (some (.int (nI 1)), sh, I, P, nx, kx) := zq_r_retz rfl rfl (Or.inr rfl)
set_option maxRecDepth 100000 in
theorem q_L_law_146_b {d nx kx : Nat} {L : zq_L} {sh : zq_S} {I : zq_I} {P : zq_P} {p : Prop} : zq_F d 0 146 L [.int (zq_b p)] sh I P nx kx = some (some (.int (zq_b p)), sh, I, P, nx, kx) := zq_r_retz rfl rfl (zq_b_01 p)
set_option maxRecDepth 100000 in
theorem q_L_law_147 {d nx kx : Nat} {st : List Value} {sh : zq_S} {I : zq_I} {P : zq_P} {l0 l2 l3 : Option Value} {a : Nat} : zq_F d 0 147 [l0, some (.ref a), l2, l3] st sh I P nx kx = zq_F d 0 148 [l0, some (.ref a), l2, l3] (.ref a :: st) sh I P nx kx := zq_F_next rfl rfl rfl rfl
set_option maxRecDepth 100000 in
theorem q_L_law_147n {d nx kx : Nat} {st : List Value} {sh : zq_S} {I : zq_I} {P : zq_P} {l0 l2 l3 : Option Value} : zq_F d 0 147 [l0, some .null, l2, l3] st sh I P nx kx = zq_F d 0 148 [l0, some .null, l2, l3] (.null :: st) sh I P nx kx := zq_F_next rfl rfl rfl rfl
set_option maxRecDepth 100000 in
theorem q_L_law_148 {d nx kx : Nat} {st : List Value} {sh : zq_S} {I : zq_I} {P : zq_P} {l1 l2 l3 : Option Value} {a : Nat} : zq_F d 0 148 [some (.ref a), l1, l2, l3] st sh I P nx kx = zq_F d 0 149 [some (.ref a), l1, l2, l3] (.ref a :: st) sh I P nx kx := zq_F_next rfl rfl rfl rfl
set_option maxRecDepth 100000 in
theorem q_L_law_148n {d nx kx : Nat} {st : List Value} {sh : zq_S} {I : zq_I} {P : zq_P} {l1 l2 l3 : Option Value} : zq_F d 0 148 [some .null, l1, l2, l3] st sh I P nx kx = zq_F d 0 149 [some .null, l1, l2, l3] (.null :: st) sh I P nx kx := zq_F_next rfl rfl rfl rfl
set_option maxRecDepth 100000 in
theorem q_L_law_149 {d nx kx : Nat} {st : List Value} {sh : zq_S} {I : zq_I} {P : zq_P} {l0 l1 l2 : Option Value} {x : Int32} : zq_F d 0 149 [l0, l1, l2, some (.int x)] st sh I P nx kx = zq_F d 0 150 [l0, l1, l2, some (.int x)] (.int x :: st) sh I P nx kx := zq_F_next rfl rfl rfl rfl
set_option maxRecDepth 100000 in
theorem q_L_law_150 {d nx kx : Nat} {L : zq_L} {st : List Value} {sh : zq_S} {I : zq_I} {P : zq_P} : zq_F d 0 150 L st sh I P nx kx = zq_F d 0 151 L (.int (nI 1) :: st) sh I P nx kx := zq_r_int rfl (by decide)
set_option maxRecDepth 100000 in
theorem q_L_law_151 {d nx kx : Nat} {L : zq_L} {st : List Value} {sh : zq_S} {I : zq_I} {P : zq_P} {x y : Int32} : zq_F d 0 151 L (.int y :: .int x :: st) sh I P nx kx = zq_F d 0 152 L (.int (x + y) :: st) sh I P nx kx := zq_F_next rfl rfl rfl rfl
set_option maxRecDepth 100000 in
theorem q_L_law_152 {d nx kx : Nat} {L : zq_L} {st : List Value} {sh : zq_S} {I : zq_I} {P : zq_P} {a j : Nat} (h : (sh a).1 = 1) (h1 : j < (sh a).2) (h2 : j < 2147483648) : zq_F d 0 152 L (.int (nI j) :: .ref a :: st) sh I P nx kx = zq_F d 0 153 L (.int (I a j) :: st) sh I P nx kx := zq_n_iald rfl (Or.inr h) h1 h2
set_option maxRecDepth 100000 in
theorem q_L_law_153 {d nx kx : Nat} {L : zq_L} {st : List Value} {sh : zq_S} {I : zq_I} {P : zq_P} {b : Nat} {x0 : Int32} (h : (sh b).1 = 100) (hs : st.length ≤ 4) : zq_F (d + 1) 0 153 L (.int x0 :: .ref b :: st) sh I P nx kx = (zq_C d 3 [.ref b, .int x0] sh I P nx kx).bind fun q => zq_F (d + 1) 0 156 L (q.1.toList ++ st) q.2.1 q.2.2.1 q.2.2.2.1 q.2.2.2.2.1 q.2.2.2.2.2 := zq_F_call rfl rfl (zq_ag (as := [.int x0, .ref b]) rfl rfl rfl hs (Or.inr ⟨b, rfl, Nat.succ_pos _, Or.inr h⟩)) rfl rfl
set_option maxRecDepth 100000 in
theorem q_L_law_156 {d nx kx : Nat} {st : List Value} {sh : zq_S} {I : zq_I} {P : zq_P} {l0 l1 l3 : Option Value} {a : Nat} : zq_F d 0 156 [l0, l1, some (.ref a), l3] st sh I P nx kx = zq_F d 0 157 [l0, l1, some (.ref a), l3] (.ref a :: st) sh I P nx kx := zq_F_next rfl rfl rfl rfl
set_option maxRecDepth 100000 in
theorem q_L_law_156n {d nx kx : Nat} {st : List Value} {sh : zq_S} {I : zq_I} {P : zq_P} {l0 l1 l3 : Option Value} : zq_F d 0 156 [l0, l1, some .null, l3] st sh I P nx kx = zq_F d 0 157 [l0, l1, some .null, l3] (.null :: st) sh I P nx kx := zq_F_next rfl rfl rfl rfl
set_option maxRecDepth 100000 in
theorem q_L_law_157 {d nx kx : Nat} {st : List Value} {sh : zq_S} {I : zq_I} {P : zq_P} {l1 l2 l3 : Option Value} {a : Nat} : zq_F d 0 157 [some (.ref a), l1, l2, l3] st sh I P nx kx = zq_F d 0 158 [some (.ref a), l1, l2, l3] (.ref a :: st) sh I P nx kx := zq_F_next rfl rfl rfl rfl
set_option maxRecDepth 100000 in
theorem q_L_law_157n {d nx kx : Nat} {st : List Value} {sh : zq_S} {I : zq_I} {P : zq_P} {l1 l2 l3 : Option Value} : zq_F d 0 157 [some .null, l1, l2, l3] st sh I P nx kx = zq_F d 0 158 [some .null, l1, l2, l3] (.null :: st) sh I P nx kx := zq_F_next rfl rfl rfl rfl
set_option maxRecDepth 100000 in
theorem q_L_law_158 {d nx kx : Nat} {st : List Value} {sh : zq_S} {I : zq_I} {P : zq_P} {l0 l1 l2 : Option Value} {x : Int32} : zq_F d 0 158 [l0, l1, l2, some (.int x)] st sh I P nx kx = zq_F d 0 159 [l0, l1, l2, some (.int x)] (.int x :: st) sh I P nx kx := zq_F_next rfl rfl rfl rfl
set_option maxRecDepth 100000 in
theorem q_L_law_159 {d nx kx : Nat} {L : zq_L} {st : List Value} {sh : zq_S} {I : zq_I} {P : zq_P} : zq_F d 0 159 L st sh I P nx kx = zq_F d 0 160 L (.int (nI 1) :: st) sh I P nx kx := zq_r_int rfl (by decide)
set_option maxRecDepth 100000 in
theorem q_L_law_160 {d nx kx : Nat} {L : zq_L} {st : List Value} {sh : zq_S} {I : zq_I} {P : zq_P} {x y : Int32} : zq_F d 0 160 L (.int y :: .int x :: st) sh I P nx kx = zq_F d 0 161 L (.int (x + y) :: st) sh I P nx kx := zq_F_next rfl rfl rfl rfl
set_option maxRecDepth 100000 in
theorem q_L_law_161 {d nx kx : Nat} {L : zq_L} {st : List Value} {sh : zq_S} {I : zq_I} {P : zq_P} {a j : Nat} (h : (sh a).1 = 1) (h1 : j < (sh a).2) (h2 : j < 2147483648) : zq_F d 0 161 L (.int (nI j) :: .ref a :: st) sh I P nx kx = zq_F d 0 162 L (.int (I a j) :: st) sh I P nx kx := zq_n_iald rfl (Or.inr h) h1 h2
set_option maxRecDepth 100000 in
theorem q_L_law_162 {d nx kx : Nat} {L : zq_L} {st : List Value} {sh : zq_S} {I : zq_I} {P : zq_P} {b : Nat} {x0 : Int32} (h : (sh b).1 = 106) (hs : st.length ≤ 4) : zq_F (d + 1) 0 162 L (.int x0 :: .ref b :: st) sh I P nx kx = (zq_C d 79 [.ref b, .int x0] sh I P nx kx).bind fun q => zq_F (d + 1) 0 165 L (q.1.toList ++ st) q.2.1 q.2.2.1 q.2.2.2.1 q.2.2.2.2.1 q.2.2.2.2.2 := zq_F_call rfl rfl (zq_ag (as := [.int x0, .ref b]) rfl rfl rfl hs (Or.inr ⟨b, rfl, Nat.succ_pos _, Or.inr h⟩)) rfl rfl
set_option maxRecDepth 100000 in
theorem q_L_law_165 {d nx kx : Nat} {L : zq_L} {st : List Value} {sh : zq_S} {I : zq_I} {P : zq_P} {x y : Int32} : zq_F d 0 165 L (.int y :: .int x :: st) sh I P nx kx = if x = y then zq_F d 0 611 L st sh I P nx kx else zq_F d 0 168 L st sh I P nx kx := zq_r_if2 rfl (by decide) (zq_c_eq x y)
set_option maxRecDepth 100000 in
theorem q_L_law_168 {d nx kx : Nat} {L : zq_L} {st : List Value} {sh : zq_S} {I : zq_I} {P : zq_P} : zq_F d 0 168 L st sh I P nx kx = zq_F d 0 169 L (.int (nI 0) :: st) sh I P nx kx := zq_r_int rfl (by decide)
set_option maxRecDepth 100000 in
theorem q_L_law_169_0 {d nx kx : Nat} {L : zq_L} {sh : zq_S} {I : zq_I} {P : zq_P} : zq_F d 0 169 L [.int (nI 0)] sh I P nx kx = some (some (.int (nI 0)), sh, I, P, nx, kx) := zq_r_retz rfl rfl (Or.inl rfl)
set_option maxRecDepth 100000 in
theorem q_L_law_169_1 {d nx kx : Nat} {L : zq_L} {sh : zq_S} {I : zq_I} {P : zq_P} : zq_F d 0 169 L [.int (nI 1)] sh I P nx kx = some (some (.int (nI 1)), sh, I, P, nx, kx) := zq_r_retz rfl rfl (Or.inr rfl)
set_option maxRecDepth 100000 in
theorem q_L_law_169_b {d nx kx : Nat} {L : zq_L} {sh : zq_S} {I : zq_I} {P : zq_P} {p : Prop} : zq_F d 0 169 L [.int (zq_b p)] sh I P nx kx = some (some (.int (zq_b p)), sh, I, P, nx, kx) := zq_r_retz rfl rfl (zq_b_01 p)
set_option maxRecDepth 100000 in
theorem q_L_law_170 {d nx kx : Nat} {st : List Value} {sh : zq_S} {I : zq_I} {P : zq_P} {l0 l2 l3 : Option Value} {a : Nat} : zq_F d 0 170 [l0, some (.ref a), l2, l3] st sh I P nx kx = zq_F d 0 171 [l0, some (.ref a), l2, l3] (.ref a :: st) sh I P nx kx := zq_F_next rfl rfl rfl rfl
set_option maxRecDepth 100000 in
theorem q_L_law_170n {d nx kx : Nat} {st : List Value} {sh : zq_S} {I : zq_I} {P : zq_P} {l0 l2 l3 : Option Value} : zq_F d 0 170 [l0, some .null, l2, l3] st sh I P nx kx = zq_F d 0 171 [l0, some .null, l2, l3] (.null :: st) sh I P nx kx := zq_F_next rfl rfl rfl rfl
set_option maxRecDepth 100000 in
theorem q_L_law_171 {d nx kx : Nat} {st : List Value} {sh : zq_S} {I : zq_I} {P : zq_P} {l1 l2 l3 : Option Value} {a : Nat} : zq_F d 0 171 [some (.ref a), l1, l2, l3] st sh I P nx kx = zq_F d 0 172 [some (.ref a), l1, l2, l3] (.ref a :: st) sh I P nx kx := zq_F_next rfl rfl rfl rfl
set_option maxRecDepth 100000 in
theorem q_L_law_171n {d nx kx : Nat} {st : List Value} {sh : zq_S} {I : zq_I} {P : zq_P} {l1 l2 l3 : Option Value} : zq_F d 0 171 [some .null, l1, l2, l3] st sh I P nx kx = zq_F d 0 172 [some .null, l1, l2, l3] (.null :: st) sh I P nx kx := zq_F_next rfl rfl rfl rfl
set_option maxRecDepth 100000 in
theorem q_L_law_172 {d nx kx : Nat} {st : List Value} {sh : zq_S} {I : zq_I} {P : zq_P} {l0 l1 l2 : Option Value} {x : Int32} : zq_F d 0 172 [l0, l1, l2, some (.int x)] st sh I P nx kx = zq_F d 0 173 [l0, l1, l2, some (.int x)] (.int x :: st) sh I P nx kx := zq_F_next rfl rfl rfl rfl
set_option maxRecDepth 100000 in
theorem q_L_law_173 {d nx kx : Nat} {L : zq_L} {st : List Value} {sh : zq_S} {I : zq_I} {P : zq_P} : zq_F d 0 173 L st sh I P nx kx = zq_F d 0 174 L (.int (nI 1) :: st) sh I P nx kx := zq_r_int rfl (by decide)
set_option maxRecDepth 100000 in
theorem q_L_law_174 {d nx kx : Nat} {L : zq_L} {st : List Value} {sh : zq_S} {I : zq_I} {P : zq_P} {x y : Int32} : zq_F d 0 174 L (.int y :: .int x :: st) sh I P nx kx = zq_F d 0 175 L (.int (x + y) :: st) sh I P nx kx := zq_F_next rfl rfl rfl rfl
set_option maxRecDepth 100000 in
theorem q_L_law_175 {d nx kx : Nat} {L : zq_L} {st : List Value} {sh : zq_S} {I : zq_I} {P : zq_P} {a j : Nat} (h : (sh a).1 = 1) (h1 : j < (sh a).2) (h2 : j < 2147483648) : zq_F d 0 175 L (.int (nI j) :: .ref a :: st) sh I P nx kx = zq_F d 0 176 L (.int (I a j) :: st) sh I P nx kx := zq_n_iald rfl (Or.inr h) h1 h2
set_option maxRecDepth 100000 in
theorem q_L_law_176 {d nx kx : Nat} {L : zq_L} {st : List Value} {sh : zq_S} {I : zq_I} {P : zq_P} {b : Nat} {x0 : Int32} (h : (sh b).1 = 100) (hs : st.length ≤ 4) : zq_F (d + 1) 0 176 L (.int x0 :: .ref b :: st) sh I P nx kx = (zq_C d 4 [.ref b, .int x0] sh I P nx kx).bind fun q => zq_F (d + 1) 0 179 L (q.1.toList ++ st) q.2.1 q.2.2.1 q.2.2.2.1 q.2.2.2.2.1 q.2.2.2.2.2 := zq_F_call rfl rfl (zq_ag (as := [.int x0, .ref b]) rfl rfl rfl hs (Or.inr ⟨b, rfl, Nat.succ_pos _, Or.inr h⟩)) rfl rfl
set_option maxRecDepth 100000 in
theorem q_L_law_179 {d nx kx : Nat} {st : List Value} {sh : zq_S} {I : zq_I} {P : zq_P} {l0 l1 l3 : Option Value} {a : Nat} : zq_F d 0 179 [l0, l1, some (.ref a), l3] st sh I P nx kx = zq_F d 0 180 [l0, l1, some (.ref a), l3] (.ref a :: st) sh I P nx kx := zq_F_next rfl rfl rfl rfl
set_option maxRecDepth 100000 in
theorem q_L_law_179n {d nx kx : Nat} {st : List Value} {sh : zq_S} {I : zq_I} {P : zq_P} {l0 l1 l3 : Option Value} : zq_F d 0 179 [l0, l1, some .null, l3] st sh I P nx kx = zq_F d 0 180 [l0, l1, some .null, l3] (.null :: st) sh I P nx kx := zq_F_next rfl rfl rfl rfl
set_option maxRecDepth 100000 in
theorem q_L_law_180 {d nx kx : Nat} {st : List Value} {sh : zq_S} {I : zq_I} {P : zq_P} {l1 l2 l3 : Option Value} {a : Nat} : zq_F d 0 180 [some (.ref a), l1, l2, l3] st sh I P nx kx = zq_F d 0 181 [some (.ref a), l1, l2, l3] (.ref a :: st) sh I P nx kx := zq_F_next rfl rfl rfl rfl
set_option maxRecDepth 100000 in
theorem q_L_law_180n {d nx kx : Nat} {st : List Value} {sh : zq_S} {I : zq_I} {P : zq_P} {l1 l2 l3 : Option Value} : zq_F d 0 180 [some .null, l1, l2, l3] st sh I P nx kx = zq_F d 0 181 [some .null, l1, l2, l3] (.null :: st) sh I P nx kx := zq_F_next rfl rfl rfl rfl
set_option maxRecDepth 100000 in
theorem q_L_law_181 {d nx kx : Nat} {st : List Value} {sh : zq_S} {I : zq_I} {P : zq_P} {l0 l1 l2 : Option Value} {x : Int32} : zq_F d 0 181 [l0, l1, l2, some (.int x)] st sh I P nx kx = zq_F d 0 182 [l0, l1, l2, some (.int x)] (.int x :: st) sh I P nx kx := zq_F_next rfl rfl rfl rfl
set_option maxRecDepth 100000 in
theorem q_L_law_182 {d nx kx : Nat} {L : zq_L} {st : List Value} {sh : zq_S} {I : zq_I} {P : zq_P} : zq_F d 0 182 L st sh I P nx kx = zq_F d 0 183 L (.int (nI 1) :: st) sh I P nx kx := zq_r_int rfl (by decide)
set_option maxRecDepth 100000 in
theorem q_L_law_183 {d nx kx : Nat} {L : zq_L} {st : List Value} {sh : zq_S} {I : zq_I} {P : zq_P} {x y : Int32} : zq_F d 0 183 L (.int y :: .int x :: st) sh I P nx kx = zq_F d 0 184 L (.int (x + y) :: st) sh I P nx kx := zq_F_next rfl rfl rfl rfl
set_option maxRecDepth 100000 in
theorem q_L_law_184 {d nx kx : Nat} {L : zq_L} {st : List Value} {sh : zq_S} {I : zq_I} {P : zq_P} {a j : Nat} (h : (sh a).1 = 1) (h1 : j < (sh a).2) (h2 : j < 2147483648) : zq_F d 0 184 L (.int (nI j) :: .ref a :: st) sh I P nx kx = zq_F d 0 185 L (.int (I a j) :: st) sh I P nx kx := zq_n_iald rfl (Or.inr h) h1 h2
set_option maxRecDepth 100000 in
theorem q_L_law_185 {d nx kx : Nat} {L : zq_L} {st : List Value} {sh : zq_S} {I : zq_I} {P : zq_P} {b : Nat} {x0 : Int32} (h : (sh b).1 = 106) (hs : st.length ≤ 4) : zq_F (d + 1) 0 185 L (.int x0 :: .ref b :: st) sh I P nx kx = (zq_C d 84 [.ref b, .int x0] sh I P nx kx).bind fun q => zq_F (d + 1) 0 188 L (q.1.toList ++ st) q.2.1 q.2.2.1 q.2.2.2.1 q.2.2.2.2.1 q.2.2.2.2.2 := zq_F_call rfl rfl (zq_ag (as := [.int x0, .ref b]) rfl rfl rfl hs (Or.inr ⟨b, rfl, Nat.succ_pos _, Or.inr h⟩)) rfl rfl
set_option maxRecDepth 100000 in
theorem q_L_law_188 {d nx kx : Nat} {L : zq_L} {st : List Value} {sh : zq_S} {I : zq_I} {P : zq_P} {x y : Int32} : zq_F d 0 188 L (.int y :: .int x :: st) sh I P nx kx = if x = y then zq_F d 0 611 L st sh I P nx kx else zq_F d 0 191 L st sh I P nx kx := zq_r_if2 rfl (by decide) (zq_c_eq x y)
set_option maxRecDepth 100000 in
theorem q_L_law_191 {d nx kx : Nat} {L : zq_L} {st : List Value} {sh : zq_S} {I : zq_I} {P : zq_P} : zq_F d 0 191 L st sh I P nx kx = zq_F d 0 192 L (.int (nI 0) :: st) sh I P nx kx := zq_r_int rfl (by decide)
set_option maxRecDepth 100000 in
theorem q_L_law_192_0 {d nx kx : Nat} {L : zq_L} {sh : zq_S} {I : zq_I} {P : zq_P} : zq_F d 0 192 L [.int (nI 0)] sh I P nx kx = some (some (.int (nI 0)), sh, I, P, nx, kx) := zq_r_retz rfl rfl (Or.inl rfl)
set_option maxRecDepth 100000 in
theorem q_L_law_192_1 {d nx kx : Nat} {L : zq_L} {sh : zq_S} {I : zq_I} {P : zq_P} : zq_F d 0 192 L [.int (nI 1)] sh I P nx kx = some (some (.int (nI 1)), sh, I, P, nx, kx) := zq_r_retz rfl rfl (Or.inr rfl)
set_option maxRecDepth 100000 in
theorem q_L_law_192_b {d nx kx : Nat} {L : zq_L} {sh : zq_S} {I : zq_I} {P : zq_P} {p : Prop} : zq_F d 0 192 L [.int (zq_b p)] sh I P nx kx = some (some (.int (zq_b p)), sh, I, P, nx, kx) := zq_r_retz rfl rfl (zq_b_01 p)
set_option maxRecDepth 100000 in
theorem q_L_law_193 {d nx kx : Nat} {st : List Value} {sh : zq_S} {I : zq_I} {P : zq_P} {l0 l2 l3 : Option Value} {a : Nat} : zq_F d 0 193 [l0, some (.ref a), l2, l3] st sh I P nx kx = zq_F d 0 194 [l0, some (.ref a), l2, l3] (.ref a :: st) sh I P nx kx := zq_F_next rfl rfl rfl rfl
set_option maxRecDepth 100000 in
theorem q_L_law_193n {d nx kx : Nat} {st : List Value} {sh : zq_S} {I : zq_I} {P : zq_P} {l0 l2 l3 : Option Value} : zq_F d 0 193 [l0, some .null, l2, l3] st sh I P nx kx = zq_F d 0 194 [l0, some .null, l2, l3] (.null :: st) sh I P nx kx := zq_F_next rfl rfl rfl rfl
set_option maxRecDepth 100000 in
theorem q_L_law_194 {d nx kx : Nat} {st : List Value} {sh : zq_S} {I : zq_I} {P : zq_P} {l1 l2 l3 : Option Value} {a : Nat} : zq_F d 0 194 [some (.ref a), l1, l2, l3] st sh I P nx kx = zq_F d 0 195 [some (.ref a), l1, l2, l3] (.ref a :: st) sh I P nx kx := zq_F_next rfl rfl rfl rfl
set_option maxRecDepth 100000 in
theorem q_L_law_194n {d nx kx : Nat} {st : List Value} {sh : zq_S} {I : zq_I} {P : zq_P} {l1 l2 l3 : Option Value} : zq_F d 0 194 [some .null, l1, l2, l3] st sh I P nx kx = zq_F d 0 195 [some .null, l1, l2, l3] (.null :: st) sh I P nx kx := zq_F_next rfl rfl rfl rfl
set_option maxRecDepth 100000 in
theorem q_L_law_195 {d nx kx : Nat} {st : List Value} {sh : zq_S} {I : zq_I} {P : zq_P} {l0 l1 l2 : Option Value} {x : Int32} : zq_F d 0 195 [l0, l1, l2, some (.int x)] st sh I P nx kx = zq_F d 0 196 [l0, l1, l2, some (.int x)] (.int x :: st) sh I P nx kx := zq_F_next rfl rfl rfl rfl
set_option maxRecDepth 100000 in
theorem q_L_law_196 {d nx kx : Nat} {L : zq_L} {st : List Value} {sh : zq_S} {I : zq_I} {P : zq_P} : zq_F d 0 196 L st sh I P nx kx = zq_F d 0 197 L (.int (nI 1) :: st) sh I P nx kx := zq_r_int rfl (by decide)
set_option maxRecDepth 100000 in
theorem q_L_law_197 {d nx kx : Nat} {L : zq_L} {st : List Value} {sh : zq_S} {I : zq_I} {P : zq_P} {x y : Int32} : zq_F d 0 197 L (.int y :: .int x :: st) sh I P nx kx = zq_F d 0 198 L (.int (x + y) :: st) sh I P nx kx := zq_F_next rfl rfl rfl rfl
set_option maxRecDepth 100000 in
theorem q_L_law_198 {d nx kx : Nat} {L : zq_L} {st : List Value} {sh : zq_S} {I : zq_I} {P : zq_P} {a j : Nat} (h : (sh a).1 = 1) (h1 : j < (sh a).2) (h2 : j < 2147483648) : zq_F d 0 198 L (.int (nI j) :: .ref a :: st) sh I P nx kx = zq_F d 0 199 L (.int (I a j) :: st) sh I P nx kx := zq_n_iald rfl (Or.inr h) h1 h2
set_option maxRecDepth 100000 in
theorem q_L_law_199 {d nx kx : Nat} {L : zq_L} {st : List Value} {sh : zq_S} {I : zq_I} {P : zq_P} {b : Nat} {x0 : Int32} (h : (sh b).1 = 100) (hs : st.length ≤ 4) : zq_F (d + 1) 0 199 L (.int x0 :: .ref b :: st) sh I P nx kx = (zq_C d 5 [.ref b, .int x0] sh I P nx kx).bind fun q => zq_F (d + 1) 0 202 L (q.1.toList ++ st) q.2.1 q.2.2.1 q.2.2.2.1 q.2.2.2.2.1 q.2.2.2.2.2 := zq_F_call rfl rfl (zq_ag (as := [.int x0, .ref b]) rfl rfl rfl hs (Or.inr ⟨b, rfl, Nat.succ_pos _, Or.inr h⟩)) rfl rfl
set_option maxRecDepth 100000 in
theorem q_L_law_202 {d nx kx : Nat} {st : List Value} {sh : zq_S} {I : zq_I} {P : zq_P} {l0 l1 l3 : Option Value} {a : Nat} : zq_F d 0 202 [l0, l1, some (.ref a), l3] st sh I P nx kx = zq_F d 0 203 [l0, l1, some (.ref a), l3] (.ref a :: st) sh I P nx kx := zq_F_next rfl rfl rfl rfl
set_option maxRecDepth 100000 in
theorem q_L_law_202n {d nx kx : Nat} {st : List Value} {sh : zq_S} {I : zq_I} {P : zq_P} {l0 l1 l3 : Option Value} : zq_F d 0 202 [l0, l1, some .null, l3] st sh I P nx kx = zq_F d 0 203 [l0, l1, some .null, l3] (.null :: st) sh I P nx kx := zq_F_next rfl rfl rfl rfl
set_option maxRecDepth 100000 in
theorem q_L_law_203 {d nx kx : Nat} {st : List Value} {sh : zq_S} {I : zq_I} {P : zq_P} {l1 l2 l3 : Option Value} {a : Nat} : zq_F d 0 203 [some (.ref a), l1, l2, l3] st sh I P nx kx = zq_F d 0 204 [some (.ref a), l1, l2, l3] (.ref a :: st) sh I P nx kx := zq_F_next rfl rfl rfl rfl
set_option maxRecDepth 100000 in
theorem q_L_law_203n {d nx kx : Nat} {st : List Value} {sh : zq_S} {I : zq_I} {P : zq_P} {l1 l2 l3 : Option Value} : zq_F d 0 203 [some .null, l1, l2, l3] st sh I P nx kx = zq_F d 0 204 [some .null, l1, l2, l3] (.null :: st) sh I P nx kx := zq_F_next rfl rfl rfl rfl
set_option maxRecDepth 100000 in
theorem q_L_law_204 {d nx kx : Nat} {st : List Value} {sh : zq_S} {I : zq_I} {P : zq_P} {l0 l1 l2 : Option Value} {x : Int32} : zq_F d 0 204 [l0, l1, l2, some (.int x)] st sh I P nx kx = zq_F d 0 205 [l0, l1, l2, some (.int x)] (.int x :: st) sh I P nx kx := zq_F_next rfl rfl rfl rfl
set_option maxRecDepth 100000 in
theorem q_L_law_205 {d nx kx : Nat} {L : zq_L} {st : List Value} {sh : zq_S} {I : zq_I} {P : zq_P} : zq_F d 0 205 L st sh I P nx kx = zq_F d 0 206 L (.int (nI 1) :: st) sh I P nx kx := zq_r_int rfl (by decide)
set_option maxRecDepth 100000 in
theorem q_L_law_206 {d nx kx : Nat} {L : zq_L} {st : List Value} {sh : zq_S} {I : zq_I} {P : zq_P} {x y : Int32} : zq_F d 0 206 L (.int y :: .int x :: st) sh I P nx kx = zq_F d 0 207 L (.int (x + y) :: st) sh I P nx kx := zq_F_next rfl rfl rfl rfl
set_option maxRecDepth 100000 in
theorem q_L_law_207 {d nx kx : Nat} {L : zq_L} {st : List Value} {sh : zq_S} {I : zq_I} {P : zq_P} {a j : Nat} (h : (sh a).1 = 1) (h1 : j < (sh a).2) (h2 : j < 2147483648) : zq_F d 0 207 L (.int (nI j) :: .ref a :: st) sh I P nx kx = zq_F d 0 208 L (.int (I a j) :: st) sh I P nx kx := zq_n_iald rfl (Or.inr h) h1 h2
set_option maxRecDepth 100000 in
theorem q_L_law_208 {d nx kx : Nat} {L : zq_L} {st : List Value} {sh : zq_S} {I : zq_I} {P : zq_P} {b : Nat} {x0 : Int32} (h : (sh b).1 = 106) (hs : st.length ≤ 4) : zq_F (d + 1) 0 208 L (.int x0 :: .ref b :: st) sh I P nx kx = (zq_C d 85 [.ref b, .int x0] sh I P nx kx).bind fun q => zq_F (d + 1) 0 211 L (q.1.toList ++ st) q.2.1 q.2.2.1 q.2.2.2.1 q.2.2.2.2.1 q.2.2.2.2.2 := zq_F_call rfl rfl (zq_ag (as := [.int x0, .ref b]) rfl rfl rfl hs (Or.inr ⟨b, rfl, Nat.succ_pos _, Or.inr h⟩)) rfl rfl
set_option maxRecDepth 100000 in
theorem q_L_law_211 {d nx kx : Nat} {L : zq_L} {st : List Value} {sh : zq_S} {I : zq_I} {P : zq_P} {x y : Int32} : zq_F d 0 211 L (.int y :: .int x :: st) sh I P nx kx = if x = y then zq_F d 0 611 L st sh I P nx kx else zq_F d 0 214 L st sh I P nx kx := zq_r_if2 rfl (by decide) (zq_c_eq x y)
set_option maxRecDepth 100000 in
theorem q_L_law_214 {d nx kx : Nat} {L : zq_L} {st : List Value} {sh : zq_S} {I : zq_I} {P : zq_P} : zq_F d 0 214 L st sh I P nx kx = zq_F d 0 215 L (.int (nI 0) :: st) sh I P nx kx := zq_r_int rfl (by decide)
set_option maxRecDepth 100000 in
theorem q_L_law_215_0 {d nx kx : Nat} {L : zq_L} {sh : zq_S} {I : zq_I} {P : zq_P} : zq_F d 0 215 L [.int (nI 0)] sh I P nx kx = some (some (.int (nI 0)), sh, I, P, nx, kx) := zq_r_retz rfl rfl (Or.inl rfl)
set_option maxRecDepth 100000 in
theorem q_L_law_215_1 {d nx kx : Nat} {L : zq_L} {sh : zq_S} {I : zq_I} {P : zq_P} : zq_F d 0 215 L [.int (nI 1)] sh I P nx kx = some (some (.int (nI 1)), sh, I, P, nx, kx) := zq_r_retz rfl rfl (Or.inr rfl)
set_option maxRecDepth 100000 in
theorem q_L_law_215_b {d nx kx : Nat} {L : zq_L} {sh : zq_S} {I : zq_I} {P : zq_P} {p : Prop} : zq_F d 0 215 L [.int (zq_b p)] sh I P nx kx = some (some (.int (zq_b p)), sh, I, P, nx, kx) := zq_r_retz rfl rfl (zq_b_01 p)
set_option maxRecDepth 100000 in
theorem q_L_law_216 {d nx kx : Nat} {st : List Value} {sh : zq_S} {I : zq_I} {P : zq_P} {l0 l2 l3 : Option Value} {a : Nat} : zq_F d 0 216 [l0, some (.ref a), l2, l3] st sh I P nx kx = zq_F d 0 217 [l0, some (.ref a), l2, l3] (.ref a :: st) sh I P nx kx := zq_F_next rfl rfl rfl rfl
set_option maxRecDepth 100000 in
theorem q_L_law_216n {d nx kx : Nat} {st : List Value} {sh : zq_S} {I : zq_I} {P : zq_P} {l0 l2 l3 : Option Value} : zq_F d 0 216 [l0, some .null, l2, l3] st sh I P nx kx = zq_F d 0 217 [l0, some .null, l2, l3] (.null :: st) sh I P nx kx := zq_F_next rfl rfl rfl rfl
set_option maxRecDepth 100000 in
theorem q_L_law_217 {d nx kx : Nat} {st : List Value} {sh : zq_S} {I : zq_I} {P : zq_P} {l1 l2 l3 : Option Value} {a : Nat} : zq_F d 0 217 [some (.ref a), l1, l2, l3] st sh I P nx kx = zq_F d 0 218 [some (.ref a), l1, l2, l3] (.ref a :: st) sh I P nx kx := zq_F_next rfl rfl rfl rfl
set_option maxRecDepth 100000 in
theorem q_L_law_217n {d nx kx : Nat} {st : List Value} {sh : zq_S} {I : zq_I} {P : zq_P} {l1 l2 l3 : Option Value} : zq_F d 0 217 [some .null, l1, l2, l3] st sh I P nx kx = zq_F d 0 218 [some .null, l1, l2, l3] (.null :: st) sh I P nx kx := zq_F_next rfl rfl rfl rfl
set_option maxRecDepth 100000 in
theorem q_L_law_218 {d nx kx : Nat} {st : List Value} {sh : zq_S} {I : zq_I} {P : zq_P} {l0 l1 l2 : Option Value} {x : Int32} : zq_F d 0 218 [l0, l1, l2, some (.int x)] st sh I P nx kx = zq_F d 0 219 [l0, l1, l2, some (.int x)] (.int x :: st) sh I P nx kx := zq_F_next rfl rfl rfl rfl
set_option maxRecDepth 100000 in
theorem q_L_law_219 {d nx kx : Nat} {L : zq_L} {st : List Value} {sh : zq_S} {I : zq_I} {P : zq_P} : zq_F d 0 219 L st sh I P nx kx = zq_F d 0 220 L (.int (nI 1) :: st) sh I P nx kx := zq_r_int rfl (by decide)
set_option maxRecDepth 100000 in
theorem q_L_law_220 {d nx kx : Nat} {L : zq_L} {st : List Value} {sh : zq_S} {I : zq_I} {P : zq_P} {x y : Int32} : zq_F d 0 220 L (.int y :: .int x :: st) sh I P nx kx = zq_F d 0 221 L (.int (x + y) :: st) sh I P nx kx := zq_F_next rfl rfl rfl rfl
set_option maxRecDepth 100000 in
theorem q_L_law_221 {d nx kx : Nat} {L : zq_L} {st : List Value} {sh : zq_S} {I : zq_I} {P : zq_P} {a j : Nat} (h : (sh a).1 = 1) (h1 : j < (sh a).2) (h2 : j < 2147483648) : zq_F d 0 221 L (.int (nI j) :: .ref a :: st) sh I P nx kx = zq_F d 0 222 L (.int (I a j) :: st) sh I P nx kx := zq_n_iald rfl (Or.inr h) h1 h2
set_option maxRecDepth 100000 in
theorem q_L_law_222 {d nx kx : Nat} {L : zq_L} {st : List Value} {sh : zq_S} {I : zq_I} {P : zq_P} {b : Nat} {x0 : Int32} (h : (sh b).1 = 100) (hs : st.length ≤ 4) : zq_F (d + 1) 0 222 L (.int x0 :: .ref b :: st) sh I P nx kx = (zq_C d 6 [.ref b, .int x0] sh I P nx kx).bind fun q => zq_F (d + 1) 0 225 L (q.1.toList ++ st) q.2.1 q.2.2.1 q.2.2.2.1 q.2.2.2.2.1 q.2.2.2.2.2 := zq_F_call rfl rfl (zq_ag (as := [.int x0, .ref b]) rfl rfl rfl hs (Or.inr ⟨b, rfl, Nat.succ_pos _, Or.inr h⟩)) rfl rfl
set_option maxRecDepth 100000 in
theorem q_L_law_225 {d nx kx : Nat} {st : List Value} {sh : zq_S} {I : zq_I} {P : zq_P} {l0 l1 l3 : Option Value} {a : Nat} : zq_F d 0 225 [l0, l1, some (.ref a), l3] st sh I P nx kx = zq_F d 0 226 [l0, l1, some (.ref a), l3] (.ref a :: st) sh I P nx kx := zq_F_next rfl rfl rfl rfl
set_option maxRecDepth 100000 in
theorem q_L_law_225n {d nx kx : Nat} {st : List Value} {sh : zq_S} {I : zq_I} {P : zq_P} {l0 l1 l3 : Option Value} : zq_F d 0 225 [l0, l1, some .null, l3] st sh I P nx kx = zq_F d 0 226 [l0, l1, some .null, l3] (.null :: st) sh I P nx kx := zq_F_next rfl rfl rfl rfl
set_option maxRecDepth 100000 in
theorem q_L_law_226 {d nx kx : Nat} {st : List Value} {sh : zq_S} {I : zq_I} {P : zq_P} {l1 l2 l3 : Option Value} {a : Nat} : zq_F d 0 226 [some (.ref a), l1, l2, l3] st sh I P nx kx = zq_F d 0 227 [some (.ref a), l1, l2, l3] (.ref a :: st) sh I P nx kx := zq_F_next rfl rfl rfl rfl
set_option maxRecDepth 100000 in
theorem q_L_law_226n {d nx kx : Nat} {st : List Value} {sh : zq_S} {I : zq_I} {P : zq_P} {l1 l2 l3 : Option Value} : zq_F d 0 226 [some .null, l1, l2, l3] st sh I P nx kx = zq_F d 0 227 [some .null, l1, l2, l3] (.null :: st) sh I P nx kx := zq_F_next rfl rfl rfl rfl
set_option maxRecDepth 100000 in
theorem q_L_law_227 {d nx kx : Nat} {st : List Value} {sh : zq_S} {I : zq_I} {P : zq_P} {l0 l1 l2 : Option Value} {x : Int32} : zq_F d 0 227 [l0, l1, l2, some (.int x)] st sh I P nx kx = zq_F d 0 228 [l0, l1, l2, some (.int x)] (.int x :: st) sh I P nx kx := zq_F_next rfl rfl rfl rfl
set_option maxRecDepth 100000 in
theorem q_L_law_228 {d nx kx : Nat} {L : zq_L} {st : List Value} {sh : zq_S} {I : zq_I} {P : zq_P} : zq_F d 0 228 L st sh I P nx kx = zq_F d 0 229 L (.int (nI 1) :: st) sh I P nx kx := zq_r_int rfl (by decide)
set_option maxRecDepth 100000 in
theorem q_L_law_229 {d nx kx : Nat} {L : zq_L} {st : List Value} {sh : zq_S} {I : zq_I} {P : zq_P} {x y : Int32} : zq_F d 0 229 L (.int y :: .int x :: st) sh I P nx kx = zq_F d 0 230 L (.int (x + y) :: st) sh I P nx kx := zq_F_next rfl rfl rfl rfl
set_option maxRecDepth 100000 in
theorem q_L_law_230 {d nx kx : Nat} {L : zq_L} {st : List Value} {sh : zq_S} {I : zq_I} {P : zq_P} {a j : Nat} (h : (sh a).1 = 1) (h1 : j < (sh a).2) (h2 : j < 2147483648) : zq_F d 0 230 L (.int (nI j) :: .ref a :: st) sh I P nx kx = zq_F d 0 231 L (.int (I a j) :: st) sh I P nx kx := zq_n_iald rfl (Or.inr h) h1 h2
set_option maxRecDepth 100000 in
theorem q_L_law_231 {d nx kx : Nat} {L : zq_L} {st : List Value} {sh : zq_S} {I : zq_I} {P : zq_P} {b : Nat} {x0 : Int32} (h : (sh b).1 = 106) (hs : st.length ≤ 4) : zq_F (d + 1) 0 231 L (.int x0 :: .ref b :: st) sh I P nx kx = (zq_C d 86 [.ref b, .int x0] sh I P nx kx).bind fun q => zq_F (d + 1) 0 234 L (q.1.toList ++ st) q.2.1 q.2.2.1 q.2.2.2.1 q.2.2.2.2.1 q.2.2.2.2.2 := zq_F_call rfl rfl (zq_ag (as := [.int x0, .ref b]) rfl rfl rfl hs (Or.inr ⟨b, rfl, Nat.succ_pos _, Or.inr h⟩)) rfl rfl
set_option maxRecDepth 100000 in
theorem q_L_law_234 {d nx kx : Nat} {L : zq_L} {st : List Value} {sh : zq_S} {I : zq_I} {P : zq_P} {x y : Int32} : zq_F d 0 234 L (.int y :: .int x :: st) sh I P nx kx = if x = y then zq_F d 0 611 L st sh I P nx kx else zq_F d 0 237 L st sh I P nx kx := zq_r_if2 rfl (by decide) (zq_c_eq x y)
set_option maxRecDepth 100000 in
theorem q_L_law_237 {d nx kx : Nat} {L : zq_L} {st : List Value} {sh : zq_S} {I : zq_I} {P : zq_P} : zq_F d 0 237 L st sh I P nx kx = zq_F d 0 238 L (.int (nI 0) :: st) sh I P nx kx := zq_r_int rfl (by decide)
set_option maxRecDepth 100000 in
theorem q_L_law_238_0 {d nx kx : Nat} {L : zq_L} {sh : zq_S} {I : zq_I} {P : zq_P} : zq_F d 0 238 L [.int (nI 0)] sh I P nx kx = some (some (.int (nI 0)), sh, I, P, nx, kx) := zq_r_retz rfl rfl (Or.inl rfl)
set_option maxRecDepth 100000 in
theorem q_L_law_238_1 {d nx kx : Nat} {L : zq_L} {sh : zq_S} {I : zq_I} {P : zq_P} : zq_F d 0 238 L [.int (nI 1)] sh I P nx kx = some (some (.int (nI 1)), sh, I, P, nx, kx) := zq_r_retz rfl rfl (Or.inr rfl)
set_option maxRecDepth 100000 in
theorem q_L_law_238_b {d nx kx : Nat} {L : zq_L} {sh : zq_S} {I : zq_I} {P : zq_P} {p : Prop} : zq_F d 0 238 L [.int (zq_b p)] sh I P nx kx = some (some (.int (zq_b p)), sh, I, P, nx, kx) := zq_r_retz rfl rfl (zq_b_01 p)
set_option maxRecDepth 100000 in
theorem q_L_law_239 {d nx kx : Nat} {st : List Value} {sh : zq_S} {I : zq_I} {P : zq_P} {l0 l2 l3 : Option Value} {a : Nat} : zq_F d 0 239 [l0, some (.ref a), l2, l3] st sh I P nx kx = zq_F d 0 240 [l0, some (.ref a), l2, l3] (.ref a :: st) sh I P nx kx := zq_F_next rfl rfl rfl rfl
set_option maxRecDepth 100000 in
theorem q_L_law_239n {d nx kx : Nat} {st : List Value} {sh : zq_S} {I : zq_I} {P : zq_P} {l0 l2 l3 : Option Value} : zq_F d 0 239 [l0, some .null, l2, l3] st sh I P nx kx = zq_F d 0 240 [l0, some .null, l2, l3] (.null :: st) sh I P nx kx := zq_F_next rfl rfl rfl rfl
set_option maxRecDepth 100000 in
theorem q_L_law_240 {d nx kx : Nat} {st : List Value} {sh : zq_S} {I : zq_I} {P : zq_P} {l1 l2 l3 : Option Value} {a : Nat} : zq_F d 0 240 [some (.ref a), l1, l2, l3] st sh I P nx kx = zq_F d 0 241 [some (.ref a), l1, l2, l3] (.ref a :: st) sh I P nx kx := zq_F_next rfl rfl rfl rfl
set_option maxRecDepth 100000 in
theorem q_L_law_240n {d nx kx : Nat} {st : List Value} {sh : zq_S} {I : zq_I} {P : zq_P} {l1 l2 l3 : Option Value} : zq_F d 0 240 [some .null, l1, l2, l3] st sh I P nx kx = zq_F d 0 241 [some .null, l1, l2, l3] (.null :: st) sh I P nx kx := zq_F_next rfl rfl rfl rfl
set_option maxRecDepth 100000 in
theorem q_L_law_241 {d nx kx : Nat} {st : List Value} {sh : zq_S} {I : zq_I} {P : zq_P} {l0 l1 l2 : Option Value} {x : Int32} : zq_F d 0 241 [l0, l1, l2, some (.int x)] st sh I P nx kx = zq_F d 0 242 [l0, l1, l2, some (.int x)] (.int x :: st) sh I P nx kx := zq_F_next rfl rfl rfl rfl
set_option maxRecDepth 100000 in
theorem q_L_law_242 {d nx kx : Nat} {L : zq_L} {st : List Value} {sh : zq_S} {I : zq_I} {P : zq_P} : zq_F d 0 242 L st sh I P nx kx = zq_F d 0 243 L (.int (nI 1) :: st) sh I P nx kx := zq_r_int rfl (by decide)
set_option maxRecDepth 100000 in
theorem q_L_law_243 {d nx kx : Nat} {L : zq_L} {st : List Value} {sh : zq_S} {I : zq_I} {P : zq_P} {x y : Int32} : zq_F d 0 243 L (.int y :: .int x :: st) sh I P nx kx = zq_F d 0 244 L (.int (x + y) :: st) sh I P nx kx := zq_F_next rfl rfl rfl rfl
set_option maxRecDepth 100000 in
theorem q_L_law_244 {d nx kx : Nat} {L : zq_L} {st : List Value} {sh : zq_S} {I : zq_I} {P : zq_P} {a j : Nat} (h : (sh a).1 = 1) (h1 : j < (sh a).2) (h2 : j < 2147483648) : zq_F d 0 244 L (.int (nI j) :: .ref a :: st) sh I P nx kx = zq_F d 0 245 L (.int (I a j) :: st) sh I P nx kx := zq_n_iald rfl (Or.inr h) h1 h2
set_option maxRecDepth 100000 in
theorem q_L_law_245 {d nx kx : Nat} {L : zq_L} {st : List Value} {sh : zq_S} {I : zq_I} {P : zq_P} {b : Nat} {x0 : Int32} (h : (sh b).1 = 100) (hs : st.length ≤ 4) : zq_F (d + 1) 0 245 L (.int x0 :: .ref b :: st) sh I P nx kx = (zq_C d 7 [.ref b, .int x0] sh I P nx kx).bind fun q => zq_F (d + 1) 0 248 L (q.1.toList ++ st) q.2.1 q.2.2.1 q.2.2.2.1 q.2.2.2.2.1 q.2.2.2.2.2 := zq_F_call rfl rfl (zq_ag (as := [.int x0, .ref b]) rfl rfl rfl hs (Or.inr ⟨b, rfl, Nat.succ_pos _, Or.inr h⟩)) rfl rfl
set_option maxRecDepth 100000 in
theorem q_L_law_248 {d nx kx : Nat} {st : List Value} {sh : zq_S} {I : zq_I} {P : zq_P} {l0 l1 l3 : Option Value} {a : Nat} : zq_F d 0 248 [l0, l1, some (.ref a), l3] st sh I P nx kx = zq_F d 0 249 [l0, l1, some (.ref a), l3] (.ref a :: st) sh I P nx kx := zq_F_next rfl rfl rfl rfl
set_option maxRecDepth 100000 in
theorem q_L_law_248n {d nx kx : Nat} {st : List Value} {sh : zq_S} {I : zq_I} {P : zq_P} {l0 l1 l3 : Option Value} : zq_F d 0 248 [l0, l1, some .null, l3] st sh I P nx kx = zq_F d 0 249 [l0, l1, some .null, l3] (.null :: st) sh I P nx kx := zq_F_next rfl rfl rfl rfl
set_option maxRecDepth 100000 in
theorem q_L_law_249 {d nx kx : Nat} {st : List Value} {sh : zq_S} {I : zq_I} {P : zq_P} {l1 l2 l3 : Option Value} {a : Nat} : zq_F d 0 249 [some (.ref a), l1, l2, l3] st sh I P nx kx = zq_F d 0 250 [some (.ref a), l1, l2, l3] (.ref a :: st) sh I P nx kx := zq_F_next rfl rfl rfl rfl
set_option maxRecDepth 100000 in
theorem q_L_law_249n {d nx kx : Nat} {st : List Value} {sh : zq_S} {I : zq_I} {P : zq_P} {l1 l2 l3 : Option Value} : zq_F d 0 249 [some .null, l1, l2, l3] st sh I P nx kx = zq_F d 0 250 [some .null, l1, l2, l3] (.null :: st) sh I P nx kx := zq_F_next rfl rfl rfl rfl
set_option maxRecDepth 100000 in
theorem q_L_law_250 {d nx kx : Nat} {st : List Value} {sh : zq_S} {I : zq_I} {P : zq_P} {l0 l1 l2 : Option Value} {x : Int32} : zq_F d 0 250 [l0, l1, l2, some (.int x)] st sh I P nx kx = zq_F d 0 251 [l0, l1, l2, some (.int x)] (.int x :: st) sh I P nx kx := zq_F_next rfl rfl rfl rfl
set_option maxRecDepth 100000 in
theorem q_L_law_251 {d nx kx : Nat} {L : zq_L} {st : List Value} {sh : zq_S} {I : zq_I} {P : zq_P} : zq_F d 0 251 L st sh I P nx kx = zq_F d 0 252 L (.int (nI 1) :: st) sh I P nx kx := zq_r_int rfl (by decide)
set_option maxRecDepth 100000 in
theorem q_L_law_252 {d nx kx : Nat} {L : zq_L} {st : List Value} {sh : zq_S} {I : zq_I} {P : zq_P} {x y : Int32} : zq_F d 0 252 L (.int y :: .int x :: st) sh I P nx kx = zq_F d 0 253 L (.int (x + y) :: st) sh I P nx kx := zq_F_next rfl rfl rfl rfl
set_option maxRecDepth 100000 in
theorem q_L_law_253 {d nx kx : Nat} {L : zq_L} {st : List Value} {sh : zq_S} {I : zq_I} {P : zq_P} {a j : Nat} (h : (sh a).1 = 1) (h1 : j < (sh a).2) (h2 : j < 2147483648) : zq_F d 0 253 L (.int (nI j) :: .ref a :: st) sh I P nx kx = zq_F d 0 254 L (.int (I a j) :: st) sh I P nx kx := zq_n_iald rfl (Or.inr h) h1 h2
set_option maxRecDepth 100000 in
theorem q_L_law_254 {d nx kx : Nat} {L : zq_L} {st : List Value} {sh : zq_S} {I : zq_I} {P : zq_P} {b : Nat} {x0 : Int32} (h : (sh b).1 = 106) (hs : st.length ≤ 4) : zq_F (d + 1) 0 254 L (.int x0 :: .ref b :: st) sh I P nx kx = (zq_C d 95 [.ref b, .int x0] sh I P nx kx).bind fun q => zq_F (d + 1) 0 257 L (q.1.toList ++ st) q.2.1 q.2.2.1 q.2.2.2.1 q.2.2.2.2.1 q.2.2.2.2.2 := zq_F_call rfl rfl (zq_ag (as := [.int x0, .ref b]) rfl rfl rfl hs (Or.inr ⟨b, rfl, Nat.succ_pos _, Or.inr h⟩)) rfl rfl
set_option maxRecDepth 100000 in
theorem q_L_law_257 {d nx kx : Nat} {L : zq_L} {st : List Value} {sh : zq_S} {I : zq_I} {P : zq_P} {x y : Int32} : zq_F d 0 257 L (.int y :: .int x :: st) sh I P nx kx = if x = y then zq_F d 0 611 L st sh I P nx kx else zq_F d 0 260 L st sh I P nx kx := zq_r_if2 rfl (by decide) (zq_c_eq x y)
set_option maxRecDepth 100000 in
theorem q_L_law_260 {d nx kx : Nat} {L : zq_L} {st : List Value} {sh : zq_S} {I : zq_I} {P : zq_P} : zq_F d 0 260 L st sh I P nx kx = zq_F d 0 261 L (.int (nI 0) :: st) sh I P nx kx := zq_r_int rfl (by decide)
set_option maxRecDepth 100000 in
theorem q_L_law_261_0 {d nx kx : Nat} {L : zq_L} {sh : zq_S} {I : zq_I} {P : zq_P} : zq_F d 0 261 L [.int (nI 0)] sh I P nx kx = some (some (.int (nI 0)), sh, I, P, nx, kx) := zq_r_retz rfl rfl (Or.inl rfl)
set_option maxRecDepth 100000 in
theorem q_L_law_261_1 {d nx kx : Nat} {L : zq_L} {sh : zq_S} {I : zq_I} {P : zq_P} : zq_F d 0 261 L [.int (nI 1)] sh I P nx kx = some (some (.int (nI 1)), sh, I, P, nx, kx) := zq_r_retz rfl rfl (Or.inr rfl)
set_option maxRecDepth 100000 in
theorem q_L_law_261_b {d nx kx : Nat} {L : zq_L} {sh : zq_S} {I : zq_I} {P : zq_P} {p : Prop} : zq_F d 0 261 L [.int (zq_b p)] sh I P nx kx = some (some (.int (zq_b p)), sh, I, P, nx, kx) := zq_r_retz rfl rfl (zq_b_01 p)
set_option maxRecDepth 100000 in
theorem q_L_law_262 {d nx kx : Nat} {st : List Value} {sh : zq_S} {I : zq_I} {P : zq_P} {l0 l2 l3 : Option Value} {a : Nat} : zq_F d 0 262 [l0, some (.ref a), l2, l3] st sh I P nx kx = zq_F d 0 263 [l0, some (.ref a), l2, l3] (.ref a :: st) sh I P nx kx := zq_F_next rfl rfl rfl rfl
set_option maxRecDepth 100000 in
theorem q_L_law_262n {d nx kx : Nat} {st : List Value} {sh : zq_S} {I : zq_I} {P : zq_P} {l0 l2 l3 : Option Value} : zq_F d 0 262 [l0, some .null, l2, l3] st sh I P nx kx = zq_F d 0 263 [l0, some .null, l2, l3] (.null :: st) sh I P nx kx := zq_F_next rfl rfl rfl rfl
set_option maxRecDepth 100000 in
theorem q_L_law_263 {d nx kx : Nat} {st : List Value} {sh : zq_S} {I : zq_I} {P : zq_P} {l1 l2 l3 : Option Value} {a : Nat} : zq_F d 0 263 [some (.ref a), l1, l2, l3] st sh I P nx kx = zq_F d 0 264 [some (.ref a), l1, l2, l3] (.ref a :: st) sh I P nx kx := zq_F_next rfl rfl rfl rfl
set_option maxRecDepth 100000 in
theorem q_L_law_263n {d nx kx : Nat} {st : List Value} {sh : zq_S} {I : zq_I} {P : zq_P} {l1 l2 l3 : Option Value} : zq_F d 0 263 [some .null, l1, l2, l3] st sh I P nx kx = zq_F d 0 264 [some .null, l1, l2, l3] (.null :: st) sh I P nx kx := zq_F_next rfl rfl rfl rfl
set_option maxRecDepth 100000 in
theorem q_L_law_264 {d nx kx : Nat} {st : List Value} {sh : zq_S} {I : zq_I} {P : zq_P} {l0 l1 l2 : Option Value} {x : Int32} : zq_F d 0 264 [l0, l1, l2, some (.int x)] st sh I P nx kx = zq_F d 0 265 [l0, l1, l2, some (.int x)] (.int x :: st) sh I P nx kx := zq_F_next rfl rfl rfl rfl
set_option maxRecDepth 100000 in
theorem q_L_law_265 {d nx kx : Nat} {L : zq_L} {st : List Value} {sh : zq_S} {I : zq_I} {P : zq_P} : zq_F d 0 265 L st sh I P nx kx = zq_F d 0 266 L (.int (nI 1) :: st) sh I P nx kx := zq_r_int rfl (by decide)
set_option maxRecDepth 100000 in
theorem q_L_law_266 {d nx kx : Nat} {L : zq_L} {st : List Value} {sh : zq_S} {I : zq_I} {P : zq_P} {x y : Int32} : zq_F d 0 266 L (.int y :: .int x :: st) sh I P nx kx = zq_F d 0 267 L (.int (x + y) :: st) sh I P nx kx := zq_F_next rfl rfl rfl rfl
set_option maxRecDepth 100000 in
theorem q_L_law_267 {d nx kx : Nat} {L : zq_L} {st : List Value} {sh : zq_S} {I : zq_I} {P : zq_P} {a j : Nat} (h : (sh a).1 = 1) (h1 : j < (sh a).2) (h2 : j < 2147483648) : zq_F d 0 267 L (.int (nI j) :: .ref a :: st) sh I P nx kx = zq_F d 0 268 L (.int (I a j) :: st) sh I P nx kx := zq_n_iald rfl (Or.inr h) h1 h2
set_option maxRecDepth 100000 in
theorem q_L_law_268 {d nx kx : Nat} {L : zq_L} {st : List Value} {sh : zq_S} {I : zq_I} {P : zq_P} {b : Nat} {x0 : Int32} (h : (sh b).1 = 100) (hs : st.length ≤ 4) : zq_F (d + 1) 0 268 L (.int x0 :: .ref b :: st) sh I P nx kx = (zq_C d 8 [.ref b, .int x0] sh I P nx kx).bind fun q => zq_F (d + 1) 0 271 L (q.1.toList ++ st) q.2.1 q.2.2.1 q.2.2.2.1 q.2.2.2.2.1 q.2.2.2.2.2 := zq_F_call rfl rfl (zq_ag (as := [.int x0, .ref b]) rfl rfl rfl hs (Or.inr ⟨b, rfl, Nat.succ_pos _, Or.inr h⟩)) rfl rfl
set_option maxRecDepth 100000 in
theorem q_L_law_271 {d nx kx : Nat} {st : List Value} {sh : zq_S} {I : zq_I} {P : zq_P} {l0 l1 l3 : Option Value} {a : Nat} : zq_F d 0 271 [l0, l1, some (.ref a), l3] st sh I P nx kx = zq_F d 0 272 [l0, l1, some (.ref a), l3] (.ref a :: st) sh I P nx kx := zq_F_next rfl rfl rfl rfl
set_option maxRecDepth 100000 in
theorem q_L_law_271n {d nx kx : Nat} {st : List Value} {sh : zq_S} {I : zq_I} {P : zq_P} {l0 l1 l3 : Option Value} : zq_F d 0 271 [l0, l1, some .null, l3] st sh I P nx kx = zq_F d 0 272 [l0, l1, some .null, l3] (.null :: st) sh I P nx kx := zq_F_next rfl rfl rfl rfl
set_option maxRecDepth 100000 in
theorem q_L_law_272 {d nx kx : Nat} {st : List Value} {sh : zq_S} {I : zq_I} {P : zq_P} {l1 l2 l3 : Option Value} {a : Nat} : zq_F d 0 272 [some (.ref a), l1, l2, l3] st sh I P nx kx = zq_F d 0 273 [some (.ref a), l1, l2, l3] (.ref a :: st) sh I P nx kx := zq_F_next rfl rfl rfl rfl
set_option maxRecDepth 100000 in
theorem q_L_law_272n {d nx kx : Nat} {st : List Value} {sh : zq_S} {I : zq_I} {P : zq_P} {l1 l2 l3 : Option Value} : zq_F d 0 272 [some .null, l1, l2, l3] st sh I P nx kx = zq_F d 0 273 [some .null, l1, l2, l3] (.null :: st) sh I P nx kx := zq_F_next rfl rfl rfl rfl
set_option maxRecDepth 100000 in
theorem q_L_law_273 {d nx kx : Nat} {st : List Value} {sh : zq_S} {I : zq_I} {P : zq_P} {l0 l1 l2 : Option Value} {x : Int32} : zq_F d 0 273 [l0, l1, l2, some (.int x)] st sh I P nx kx = zq_F d 0 274 [l0, l1, l2, some (.int x)] (.int x :: st) sh I P nx kx := zq_F_next rfl rfl rfl rfl
set_option maxRecDepth 100000 in
theorem q_L_law_274 {d nx kx : Nat} {L : zq_L} {st : List Value} {sh : zq_S} {I : zq_I} {P : zq_P} : zq_F d 0 274 L st sh I P nx kx = zq_F d 0 275 L (.int (nI 1) :: st) sh I P nx kx := zq_r_int rfl (by decide)
set_option maxRecDepth 100000 in
theorem q_L_law_275 {d nx kx : Nat} {L : zq_L} {st : List Value} {sh : zq_S} {I : zq_I} {P : zq_P} {x y : Int32} : zq_F d 0 275 L (.int y :: .int x :: st) sh I P nx kx = zq_F d 0 276 L (.int (x + y) :: st) sh I P nx kx := zq_F_next rfl rfl rfl rfl
set_option maxRecDepth 100000 in
theorem q_L_law_276 {d nx kx : Nat} {L : zq_L} {st : List Value} {sh : zq_S} {I : zq_I} {P : zq_P} {a j : Nat} (h : (sh a).1 = 1) (h1 : j < (sh a).2) (h2 : j < 2147483648) : zq_F d 0 276 L (.int (nI j) :: .ref a :: st) sh I P nx kx = zq_F d 0 277 L (.int (I a j) :: st) sh I P nx kx := zq_n_iald rfl (Or.inr h) h1 h2
set_option maxRecDepth 100000 in
theorem q_L_law_277 {d nx kx : Nat} {L : zq_L} {st : List Value} {sh : zq_S} {I : zq_I} {P : zq_P} {b : Nat} {x0 : Int32} (h : (sh b).1 = 106) (hs : st.length ≤ 4) : zq_F (d + 1) 0 277 L (.int x0 :: .ref b :: st) sh I P nx kx = (zq_C d 96 [.ref b, .int x0] sh I P nx kx).bind fun q => zq_F (d + 1) 0 280 L (q.1.toList ++ st) q.2.1 q.2.2.1 q.2.2.2.1 q.2.2.2.2.1 q.2.2.2.2.2 := zq_F_call rfl rfl (zq_ag (as := [.int x0, .ref b]) rfl rfl rfl hs (Or.inr ⟨b, rfl, Nat.succ_pos _, Or.inr h⟩)) rfl rfl
set_option maxRecDepth 100000 in
theorem q_L_law_280 {d nx kx : Nat} {L : zq_L} {st : List Value} {sh : zq_S} {I : zq_I} {P : zq_P} {x y : Int32} : zq_F d 0 280 L (.int y :: .int x :: st) sh I P nx kx = if x = y then zq_F d 0 611 L st sh I P nx kx else zq_F d 0 283 L st sh I P nx kx := zq_r_if2 rfl (by decide) (zq_c_eq x y)
set_option maxRecDepth 100000 in
theorem q_L_law_283 {d nx kx : Nat} {L : zq_L} {st : List Value} {sh : zq_S} {I : zq_I} {P : zq_P} : zq_F d 0 283 L st sh I P nx kx = zq_F d 0 284 L (.int (nI 0) :: st) sh I P nx kx := zq_r_int rfl (by decide)
set_option maxRecDepth 100000 in
theorem q_L_law_284_0 {d nx kx : Nat} {L : zq_L} {sh : zq_S} {I : zq_I} {P : zq_P} : zq_F d 0 284 L [.int (nI 0)] sh I P nx kx = some (some (.int (nI 0)), sh, I, P, nx, kx) := zq_r_retz rfl rfl (Or.inl rfl)
set_option maxRecDepth 100000 in
theorem q_L_law_284_1 {d nx kx : Nat} {L : zq_L} {sh : zq_S} {I : zq_I} {P : zq_P} : zq_F d 0 284 L [.int (nI 1)] sh I P nx kx = some (some (.int (nI 1)), sh, I, P, nx, kx) := zq_r_retz rfl rfl (Or.inr rfl)
set_option maxRecDepth 100000 in
theorem q_L_law_284_b {d nx kx : Nat} {L : zq_L} {sh : zq_S} {I : zq_I} {P : zq_P} {p : Prop} : zq_F d 0 284 L [.int (zq_b p)] sh I P nx kx = some (some (.int (zq_b p)), sh, I, P, nx, kx) := zq_r_retz rfl rfl (zq_b_01 p)
set_option maxRecDepth 100000 in
theorem q_L_law_285 {d nx kx : Nat} {st : List Value} {sh : zq_S} {I : zq_I} {P : zq_P} {l0 l2 l3 : Option Value} {a : Nat} : zq_F d 0 285 [l0, some (.ref a), l2, l3] st sh I P nx kx = zq_F d 0 286 [l0, some (.ref a), l2, l3] (.ref a :: st) sh I P nx kx := zq_F_next rfl rfl rfl rfl
set_option maxRecDepth 100000 in
theorem q_L_law_285n {d nx kx : Nat} {st : List Value} {sh : zq_S} {I : zq_I} {P : zq_P} {l0 l2 l3 : Option Value} : zq_F d 0 285 [l0, some .null, l2, l3] st sh I P nx kx = zq_F d 0 286 [l0, some .null, l2, l3] (.null :: st) sh I P nx kx := zq_F_next rfl rfl rfl rfl
set_option maxRecDepth 100000 in
theorem q_L_law_286 {d nx kx : Nat} {st : List Value} {sh : zq_S} {I : zq_I} {P : zq_P} {l1 l2 l3 : Option Value} {a : Nat} : zq_F d 0 286 [some (.ref a), l1, l2, l3] st sh I P nx kx = zq_F d 0 287 [some (.ref a), l1, l2, l3] (.ref a :: st) sh I P nx kx := zq_F_next rfl rfl rfl rfl
set_option maxRecDepth 100000 in
theorem q_L_law_286n {d nx kx : Nat} {st : List Value} {sh : zq_S} {I : zq_I} {P : zq_P} {l1 l2 l3 : Option Value} : zq_F d 0 286 [some .null, l1, l2, l3] st sh I P nx kx = zq_F d 0 287 [some .null, l1, l2, l3] (.null :: st) sh I P nx kx := zq_F_next rfl rfl rfl rfl
set_option maxRecDepth 100000 in
theorem q_L_law_287 {d nx kx : Nat} {st : List Value} {sh : zq_S} {I : zq_I} {P : zq_P} {l0 l1 l2 : Option Value} {x : Int32} : zq_F d 0 287 [l0, l1, l2, some (.int x)] st sh I P nx kx = zq_F d 0 288 [l0, l1, l2, some (.int x)] (.int x :: st) sh I P nx kx := zq_F_next rfl rfl rfl rfl
set_option maxRecDepth 100000 in
theorem q_L_law_288 {d nx kx : Nat} {L : zq_L} {st : List Value} {sh : zq_S} {I : zq_I} {P : zq_P} : zq_F d 0 288 L st sh I P nx kx = zq_F d 0 289 L (.int (nI 1) :: st) sh I P nx kx := zq_r_int rfl (by decide)
set_option maxRecDepth 100000 in
theorem q_L_law_289 {d nx kx : Nat} {L : zq_L} {st : List Value} {sh : zq_S} {I : zq_I} {P : zq_P} {x y : Int32} : zq_F d 0 289 L (.int y :: .int x :: st) sh I P nx kx = zq_F d 0 290 L (.int (x + y) :: st) sh I P nx kx := zq_F_next rfl rfl rfl rfl
set_option maxRecDepth 100000 in
theorem q_L_law_290 {d nx kx : Nat} {L : zq_L} {st : List Value} {sh : zq_S} {I : zq_I} {P : zq_P} {a j : Nat} (h : (sh a).1 = 1) (h1 : j < (sh a).2) (h2 : j < 2147483648) : zq_F d 0 290 L (.int (nI j) :: .ref a :: st) sh I P nx kx = zq_F d 0 291 L (.int (I a j) :: st) sh I P nx kx := zq_n_iald rfl (Or.inr h) h1 h2
set_option maxRecDepth 100000 in
theorem q_L_law_291 {d nx kx : Nat} {L : zq_L} {st : List Value} {sh : zq_S} {I : zq_I} {P : zq_P} {b : Nat} {x0 : Int32} (h : (sh b).1 = 100) (hs : st.length ≤ 4) : zq_F (d + 1) 0 291 L (.int x0 :: .ref b :: st) sh I P nx kx = (zq_C d 9 [.ref b, .int x0] sh I P nx kx).bind fun q => zq_F (d + 1) 0 294 L (q.1.toList ++ st) q.2.1 q.2.2.1 q.2.2.2.1 q.2.2.2.2.1 q.2.2.2.2.2 := zq_F_call rfl rfl (zq_ag (as := [.int x0, .ref b]) rfl rfl rfl hs (Or.inr ⟨b, rfl, Nat.succ_pos _, Or.inr h⟩)) rfl rfl
set_option maxRecDepth 100000 in
theorem q_L_law_294 {d nx kx : Nat} {st : List Value} {sh : zq_S} {I : zq_I} {P : zq_P} {l0 l1 l3 : Option Value} {a : Nat} : zq_F d 0 294 [l0, l1, some (.ref a), l3] st sh I P nx kx = zq_F d 0 295 [l0, l1, some (.ref a), l3] (.ref a :: st) sh I P nx kx := zq_F_next rfl rfl rfl rfl
set_option maxRecDepth 100000 in
theorem q_L_law_294n {d nx kx : Nat} {st : List Value} {sh : zq_S} {I : zq_I} {P : zq_P} {l0 l1 l3 : Option Value} : zq_F d 0 294 [l0, l1, some .null, l3] st sh I P nx kx = zq_F d 0 295 [l0, l1, some .null, l3] (.null :: st) sh I P nx kx := zq_F_next rfl rfl rfl rfl
set_option maxRecDepth 100000 in
theorem q_L_law_295 {d nx kx : Nat} {st : List Value} {sh : zq_S} {I : zq_I} {P : zq_P} {l1 l2 l3 : Option Value} {a : Nat} : zq_F d 0 295 [some (.ref a), l1, l2, l3] st sh I P nx kx = zq_F d 0 296 [some (.ref a), l1, l2, l3] (.ref a :: st) sh I P nx kx := zq_F_next rfl rfl rfl rfl
set_option maxRecDepth 100000 in
theorem q_L_law_295n {d nx kx : Nat} {st : List Value} {sh : zq_S} {I : zq_I} {P : zq_P} {l1 l2 l3 : Option Value} : zq_F d 0 295 [some .null, l1, l2, l3] st sh I P nx kx = zq_F d 0 296 [some .null, l1, l2, l3] (.null :: st) sh I P nx kx := zq_F_next rfl rfl rfl rfl
set_option maxRecDepth 100000 in
theorem q_L_law_296 {d nx kx : Nat} {st : List Value} {sh : zq_S} {I : zq_I} {P : zq_P} {l0 l1 l2 : Option Value} {x : Int32} : zq_F d 0 296 [l0, l1, l2, some (.int x)] st sh I P nx kx = zq_F d 0 297 [l0, l1, l2, some (.int x)] (.int x :: st) sh I P nx kx := zq_F_next rfl rfl rfl rfl
set_option maxRecDepth 100000 in
theorem q_L_law_297 {d nx kx : Nat} {L : zq_L} {st : List Value} {sh : zq_S} {I : zq_I} {P : zq_P} : zq_F d 0 297 L st sh I P nx kx = zq_F d 0 298 L (.int (nI 1) :: st) sh I P nx kx := zq_r_int rfl (by decide)
set_option maxRecDepth 100000 in
theorem q_L_law_298 {d nx kx : Nat} {L : zq_L} {st : List Value} {sh : zq_S} {I : zq_I} {P : zq_P} {x y : Int32} : zq_F d 0 298 L (.int y :: .int x :: st) sh I P nx kx = zq_F d 0 299 L (.int (x + y) :: st) sh I P nx kx := zq_F_next rfl rfl rfl rfl
set_option maxRecDepth 100000 in
theorem q_L_law_299 {d nx kx : Nat} {L : zq_L} {st : List Value} {sh : zq_S} {I : zq_I} {P : zq_P} {a j : Nat} (h : (sh a).1 = 1) (h1 : j < (sh a).2) (h2 : j < 2147483648) : zq_F d 0 299 L (.int (nI j) :: .ref a :: st) sh I P nx kx = zq_F d 0 300 L (.int (I a j) :: st) sh I P nx kx := zq_n_iald rfl (Or.inr h) h1 h2
set_option maxRecDepth 100000 in
theorem q_L_law_300 {d nx kx : Nat} {L : zq_L} {st : List Value} {sh : zq_S} {I : zq_I} {P : zq_P} {b : Nat} {x0 : Int32} (h : (sh b).1 = 106) (hs : st.length ≤ 4) : zq_F (d + 1) 0 300 L (.int x0 :: .ref b :: st) sh I P nx kx = (zq_C d 98 [.ref b, .int x0] sh I P nx kx).bind fun q => zq_F (d + 1) 0 303 L (q.1.toList ++ st) q.2.1 q.2.2.1 q.2.2.2.1 q.2.2.2.2.1 q.2.2.2.2.2 := zq_F_call rfl rfl (zq_ag (as := [.int x0, .ref b]) rfl rfl rfl hs (Or.inr ⟨b, rfl, Nat.succ_pos _, Or.inr h⟩)) rfl rfl
set_option maxRecDepth 100000 in
theorem q_L_law_303 {d nx kx : Nat} {L : zq_L} {st : List Value} {sh : zq_S} {I : zq_I} {P : zq_P} {x y : Int32} : zq_F d 0 303 L (.int y :: .int x :: st) sh I P nx kx = if x = y then zq_F d 0 611 L st sh I P nx kx else zq_F d 0 306 L st sh I P nx kx := zq_r_if2 rfl (by decide) (zq_c_eq x y)
set_option maxRecDepth 100000 in
theorem q_L_law_306 {d nx kx : Nat} {L : zq_L} {st : List Value} {sh : zq_S} {I : zq_I} {P : zq_P} : zq_F d 0 306 L st sh I P nx kx = zq_F d 0 307 L (.int (nI 0) :: st) sh I P nx kx := zq_r_int rfl (by decide)
set_option maxRecDepth 100000 in
theorem q_L_law_307_0 {d nx kx : Nat} {L : zq_L} {sh : zq_S} {I : zq_I} {P : zq_P} : zq_F d 0 307 L [.int (nI 0)] sh I P nx kx = some (some (.int (nI 0)), sh, I, P, nx, kx) := zq_r_retz rfl rfl (Or.inl rfl)
set_option maxRecDepth 100000 in
theorem q_L_law_307_1 {d nx kx : Nat} {L : zq_L} {sh : zq_S} {I : zq_I} {P : zq_P} : zq_F d 0 307 L [.int (nI 1)] sh I P nx kx = some (some (.int (nI 1)), sh, I, P, nx, kx) := zq_r_retz rfl rfl (Or.inr rfl)
set_option maxRecDepth 100000 in
theorem q_L_law_307_b {d nx kx : Nat} {L : zq_L} {sh : zq_S} {I : zq_I} {P : zq_P} {p : Prop} : zq_F d 0 307 L [.int (zq_b p)] sh I P nx kx = some (some (.int (zq_b p)), sh, I, P, nx, kx) := zq_r_retz rfl rfl (zq_b_01 p)
set_option maxRecDepth 100000 in
theorem q_L_law_308 {d nx kx : Nat} {st : List Value} {sh : zq_S} {I : zq_I} {P : zq_P} {l0 l2 l3 : Option Value} {a : Nat} : zq_F d 0 308 [l0, some (.ref a), l2, l3] st sh I P nx kx = zq_F d 0 309 [l0, some (.ref a), l2, l3] (.ref a :: st) sh I P nx kx := zq_F_next rfl rfl rfl rfl
set_option maxRecDepth 100000 in
theorem q_L_law_308n {d nx kx : Nat} {st : List Value} {sh : zq_S} {I : zq_I} {P : zq_P} {l0 l2 l3 : Option Value} : zq_F d 0 308 [l0, some .null, l2, l3] st sh I P nx kx = zq_F d 0 309 [l0, some .null, l2, l3] (.null :: st) sh I P nx kx := zq_F_next rfl rfl rfl rfl
set_option maxRecDepth 100000 in
theorem q_L_law_309 {d nx kx : Nat} {st : List Value} {sh : zq_S} {I : zq_I} {P : zq_P} {l1 l2 l3 : Option Value} {a : Nat} : zq_F d 0 309 [some (.ref a), l1, l2, l3] st sh I P nx kx = zq_F d 0 310 [some (.ref a), l1, l2, l3] (.ref a :: st) sh I P nx kx := zq_F_next rfl rfl rfl rfl
set_option maxRecDepth 100000 in
theorem q_L_law_309n {d nx kx : Nat} {st : List Value} {sh : zq_S} {I : zq_I} {P : zq_P} {l1 l2 l3 : Option Value} : zq_F d 0 309 [some .null, l1, l2, l3] st sh I P nx kx = zq_F d 0 310 [some .null, l1, l2, l3] (.null :: st) sh I P nx kx := zq_F_next rfl rfl rfl rfl
set_option maxRecDepth 100000 in
theorem q_L_law_310 {d nx kx : Nat} {st : List Value} {sh : zq_S} {I : zq_I} {P : zq_P} {l0 l1 l2 : Option Value} {x : Int32} : zq_F d 0 310 [l0, l1, l2, some (.int x)] st sh I P nx kx = zq_F d 0 311 [l0, l1, l2, some (.int x)] (.int x :: st) sh I P nx kx := zq_F_next rfl rfl rfl rfl
set_option maxRecDepth 100000 in
theorem q_L_law_311 {d nx kx : Nat} {L : zq_L} {st : List Value} {sh : zq_S} {I : zq_I} {P : zq_P} : zq_F d 0 311 L st sh I P nx kx = zq_F d 0 312 L (.int (nI 1) :: st) sh I P nx kx := zq_r_int rfl (by decide)
set_option maxRecDepth 100000 in
theorem q_L_law_312 {d nx kx : Nat} {L : zq_L} {st : List Value} {sh : zq_S} {I : zq_I} {P : zq_P} {x y : Int32} : zq_F d 0 312 L (.int y :: .int x :: st) sh I P nx kx = zq_F d 0 313 L (.int (x + y) :: st) sh I P nx kx := zq_F_next rfl rfl rfl rfl
set_option maxRecDepth 100000 in
theorem q_L_law_313 {d nx kx : Nat} {L : zq_L} {st : List Value} {sh : zq_S} {I : zq_I} {P : zq_P} {a j : Nat} (h : (sh a).1 = 1) (h1 : j < (sh a).2) (h2 : j < 2147483648) : zq_F d 0 313 L (.int (nI j) :: .ref a :: st) sh I P nx kx = zq_F d 0 314 L (.int (I a j) :: st) sh I P nx kx := zq_n_iald rfl (Or.inr h) h1 h2
set_option maxRecDepth 100000 in
theorem q_L_law_314 {d nx kx : Nat} {L : zq_L} {st : List Value} {sh : zq_S} {I : zq_I} {P : zq_P} {b : Nat} {x0 : Int32} (h : (sh b).1 = 100) (hs : st.length ≤ 4) : zq_F (d + 1) 0 314 L (.int x0 :: .ref b :: st) sh I P nx kx = (zq_C d 10 [.ref b, .int x0] sh I P nx kx).bind fun q => zq_F (d + 1) 0 317 L (q.1.toList ++ st) q.2.1 q.2.2.1 q.2.2.2.1 q.2.2.2.2.1 q.2.2.2.2.2 := zq_F_call rfl rfl (zq_ag (as := [.int x0, .ref b]) rfl rfl rfl hs (Or.inr ⟨b, rfl, Nat.succ_pos _, Or.inr h⟩)) rfl rfl
set_option maxRecDepth 100000 in
theorem q_L_law_317 {d nx kx : Nat} {st : List Value} {sh : zq_S} {I : zq_I} {P : zq_P} {l0 l1 l3 : Option Value} {a : Nat} : zq_F d 0 317 [l0, l1, some (.ref a), l3] st sh I P nx kx = zq_F d 0 318 [l0, l1, some (.ref a), l3] (.ref a :: st) sh I P nx kx := zq_F_next rfl rfl rfl rfl
set_option maxRecDepth 100000 in
theorem q_L_law_317n {d nx kx : Nat} {st : List Value} {sh : zq_S} {I : zq_I} {P : zq_P} {l0 l1 l3 : Option Value} : zq_F d 0 317 [l0, l1, some .null, l3] st sh I P nx kx = zq_F d 0 318 [l0, l1, some .null, l3] (.null :: st) sh I P nx kx := zq_F_next rfl rfl rfl rfl
set_option maxRecDepth 100000 in
theorem q_L_law_318 {d nx kx : Nat} {st : List Value} {sh : zq_S} {I : zq_I} {P : zq_P} {l1 l2 l3 : Option Value} {a : Nat} : zq_F d 0 318 [some (.ref a), l1, l2, l3] st sh I P nx kx = zq_F d 0 319 [some (.ref a), l1, l2, l3] (.ref a :: st) sh I P nx kx := zq_F_next rfl rfl rfl rfl
set_option maxRecDepth 100000 in
theorem q_L_law_318n {d nx kx : Nat} {st : List Value} {sh : zq_S} {I : zq_I} {P : zq_P} {l1 l2 l3 : Option Value} : zq_F d 0 318 [some .null, l1, l2, l3] st sh I P nx kx = zq_F d 0 319 [some .null, l1, l2, l3] (.null :: st) sh I P nx kx := zq_F_next rfl rfl rfl rfl
set_option maxRecDepth 100000 in
theorem q_L_law_319 {d nx kx : Nat} {st : List Value} {sh : zq_S} {I : zq_I} {P : zq_P} {l0 l1 l2 : Option Value} {x : Int32} : zq_F d 0 319 [l0, l1, l2, some (.int x)] st sh I P nx kx = zq_F d 0 320 [l0, l1, l2, some (.int x)] (.int x :: st) sh I P nx kx := zq_F_next rfl rfl rfl rfl
set_option maxRecDepth 100000 in
theorem q_L_law_320 {d nx kx : Nat} {L : zq_L} {st : List Value} {sh : zq_S} {I : zq_I} {P : zq_P} : zq_F d 0 320 L st sh I P nx kx = zq_F d 0 321 L (.int (nI 1) :: st) sh I P nx kx := zq_r_int rfl (by decide)
set_option maxRecDepth 100000 in
theorem q_L_law_321 {d nx kx : Nat} {L : zq_L} {st : List Value} {sh : zq_S} {I : zq_I} {P : zq_P} {x y : Int32} : zq_F d 0 321 L (.int y :: .int x :: st) sh I P nx kx = zq_F d 0 322 L (.int (x + y) :: st) sh I P nx kx := zq_F_next rfl rfl rfl rfl
set_option maxRecDepth 100000 in
theorem q_L_law_322 {d nx kx : Nat} {L : zq_L} {st : List Value} {sh : zq_S} {I : zq_I} {P : zq_P} {a j : Nat} (h : (sh a).1 = 1) (h1 : j < (sh a).2) (h2 : j < 2147483648) : zq_F d 0 322 L (.int (nI j) :: .ref a :: st) sh I P nx kx = zq_F d 0 323 L (.int (I a j) :: st) sh I P nx kx := zq_n_iald rfl (Or.inr h) h1 h2
set_option maxRecDepth 100000 in
theorem q_L_law_323 {d nx kx : Nat} {L : zq_L} {st : List Value} {sh : zq_S} {I : zq_I} {P : zq_P} {b : Nat} {x0 : Int32} (h : (sh b).1 = 106) (hs : st.length ≤ 4) : zq_F (d + 1) 0 323 L (.int x0 :: .ref b :: st) sh I P nx kx = (zq_C d 103 [.ref b, .int x0] sh I P nx kx).bind fun q => zq_F (d + 1) 0 326 L (q.1.toList ++ st) q.2.1 q.2.2.1 q.2.2.2.1 q.2.2.2.2.1 q.2.2.2.2.2 := zq_F_call rfl rfl (zq_ag (as := [.int x0, .ref b]) rfl rfl rfl hs (Or.inr ⟨b, rfl, Nat.succ_pos _, Or.inr h⟩)) rfl rfl
set_option maxRecDepth 100000 in
theorem q_L_law_326 {d nx kx : Nat} {L : zq_L} {st : List Value} {sh : zq_S} {I : zq_I} {P : zq_P} {x y : Int32} : zq_F d 0 326 L (.int y :: .int x :: st) sh I P nx kx = if x = y then zq_F d 0 611 L st sh I P nx kx else zq_F d 0 329 L st sh I P nx kx := zq_r_if2 rfl (by decide) (zq_c_eq x y)
set_option maxRecDepth 100000 in
theorem q_L_law_329 {d nx kx : Nat} {L : zq_L} {st : List Value} {sh : zq_S} {I : zq_I} {P : zq_P} : zq_F d 0 329 L st sh I P nx kx = zq_F d 0 330 L (.int (nI 0) :: st) sh I P nx kx := zq_r_int rfl (by decide)
set_option maxRecDepth 100000 in
theorem q_L_law_330_0 {d nx kx : Nat} {L : zq_L} {sh : zq_S} {I : zq_I} {P : zq_P} : zq_F d 0 330 L [.int (nI 0)] sh I P nx kx = some (some (.int (nI 0)), sh, I, P, nx, kx) := zq_r_retz rfl rfl (Or.inl rfl)
set_option maxRecDepth 100000 in
theorem q_L_law_330_1 {d nx kx : Nat} {L : zq_L} {sh : zq_S} {I : zq_I} {P : zq_P} : zq_F d 0 330 L [.int (nI 1)] sh I P nx kx = some (some (.int (nI 1)), sh, I, P, nx, kx) := zq_r_retz rfl rfl (Or.inr rfl)
set_option maxRecDepth 100000 in
theorem q_L_law_330_b {d nx kx : Nat} {L : zq_L} {sh : zq_S} {I : zq_I} {P : zq_P} {p : Prop} : zq_F d 0 330 L [.int (zq_b p)] sh I P nx kx = some (some (.int (zq_b p)), sh, I, P, nx, kx) := zq_r_retz rfl rfl (zq_b_01 p)
set_option maxRecDepth 100000 in
theorem q_L_law_331 {d nx kx : Nat} {st : List Value} {sh : zq_S} {I : zq_I} {P : zq_P} {l0 l2 l3 : Option Value} {a : Nat} : zq_F d 0 331 [l0, some (.ref a), l2, l3] st sh I P nx kx = zq_F d 0 332 [l0, some (.ref a), l2, l3] (.ref a :: st) sh I P nx kx := zq_F_next rfl rfl rfl rfl
set_option maxRecDepth 100000 in
theorem q_L_law_331n {d nx kx : Nat} {st : List Value} {sh : zq_S} {I : zq_I} {P : zq_P} {l0 l2 l3 : Option Value} : zq_F d 0 331 [l0, some .null, l2, l3] st sh I P nx kx = zq_F d 0 332 [l0, some .null, l2, l3] (.null :: st) sh I P nx kx := zq_F_next rfl rfl rfl rfl
set_option maxRecDepth 100000 in
theorem q_L_law_332 {d nx kx : Nat} {st : List Value} {sh : zq_S} {I : zq_I} {P : zq_P} {l1 l2 l3 : Option Value} {a : Nat} : zq_F d 0 332 [some (.ref a), l1, l2, l3] st sh I P nx kx = zq_F d 0 333 [some (.ref a), l1, l2, l3] (.ref a :: st) sh I P nx kx := zq_F_next rfl rfl rfl rfl
set_option maxRecDepth 100000 in
theorem q_L_law_332n {d nx kx : Nat} {st : List Value} {sh : zq_S} {I : zq_I} {P : zq_P} {l1 l2 l3 : Option Value} : zq_F d 0 332 [some .null, l1, l2, l3] st sh I P nx kx = zq_F d 0 333 [some .null, l1, l2, l3] (.null :: st) sh I P nx kx := zq_F_next rfl rfl rfl rfl
set_option maxRecDepth 100000 in
theorem q_L_law_333 {d nx kx : Nat} {st : List Value} {sh : zq_S} {I : zq_I} {P : zq_P} {l0 l1 l2 : Option Value} {x : Int32} : zq_F d 0 333 [l0, l1, l2, some (.int x)] st sh I P nx kx = zq_F d 0 334 [l0, l1, l2, some (.int x)] (.int x :: st) sh I P nx kx := zq_F_next rfl rfl rfl rfl
set_option maxRecDepth 100000 in
theorem q_L_law_334 {d nx kx : Nat} {L : zq_L} {st : List Value} {sh : zq_S} {I : zq_I} {P : zq_P} : zq_F d 0 334 L st sh I P nx kx = zq_F d 0 335 L (.int (nI 1) :: st) sh I P nx kx := zq_r_int rfl (by decide)
set_option maxRecDepth 100000 in
theorem q_L_law_335 {d nx kx : Nat} {L : zq_L} {st : List Value} {sh : zq_S} {I : zq_I} {P : zq_P} {x y : Int32} : zq_F d 0 335 L (.int y :: .int x :: st) sh I P nx kx = zq_F d 0 336 L (.int (x + y) :: st) sh I P nx kx := zq_F_next rfl rfl rfl rfl
set_option maxRecDepth 100000 in
theorem q_L_law_336 {d nx kx : Nat} {L : zq_L} {st : List Value} {sh : zq_S} {I : zq_I} {P : zq_P} {a j : Nat} (h : (sh a).1 = 1) (h1 : j < (sh a).2) (h2 : j < 2147483648) : zq_F d 0 336 L (.int (nI j) :: .ref a :: st) sh I P nx kx = zq_F d 0 337 L (.int (I a j) :: st) sh I P nx kx := zq_n_iald rfl (Or.inr h) h1 h2
set_option maxRecDepth 100000 in
theorem q_L_law_337 {d nx kx : Nat} {L : zq_L} {st : List Value} {sh : zq_S} {I : zq_I} {P : zq_P} {b : Nat} {x0 : Int32} (h : (sh b).1 = 100) (hs : st.length ≤ 4) : zq_F (d + 1) 0 337 L (.int x0 :: .ref b :: st) sh I P nx kx = (zq_C d 11 [.ref b, .int x0] sh I P nx kx).bind fun q => zq_F (d + 1) 0 340 L (q.1.toList ++ st) q.2.1 q.2.2.1 q.2.2.2.1 q.2.2.2.2.1 q.2.2.2.2.2 := zq_F_call rfl rfl (zq_ag (as := [.int x0, .ref b]) rfl rfl rfl hs (Or.inr ⟨b, rfl, Nat.succ_pos _, Or.inr h⟩)) rfl rfl
set_option maxRecDepth 100000 in
theorem q_L_law_340 {d nx kx : Nat} {st : List Value} {sh : zq_S} {I : zq_I} {P : zq_P} {l0 l1 l3 : Option Value} {a : Nat} : zq_F d 0 340 [l0, l1, some (.ref a), l3] st sh I P nx kx = zq_F d 0 341 [l0, l1, some (.ref a), l3] (.ref a :: st) sh I P nx kx := zq_F_next rfl rfl rfl rfl
set_option maxRecDepth 100000 in
theorem q_L_law_340n {d nx kx : Nat} {st : List Value} {sh : zq_S} {I : zq_I} {P : zq_P} {l0 l1 l3 : Option Value} : zq_F d 0 340 [l0, l1, some .null, l3] st sh I P nx kx = zq_F d 0 341 [l0, l1, some .null, l3] (.null :: st) sh I P nx kx := zq_F_next rfl rfl rfl rfl
set_option maxRecDepth 100000 in
theorem q_L_law_341 {d nx kx : Nat} {st : List Value} {sh : zq_S} {I : zq_I} {P : zq_P} {l1 l2 l3 : Option Value} {a : Nat} : zq_F d 0 341 [some (.ref a), l1, l2, l3] st sh I P nx kx = zq_F d 0 342 [some (.ref a), l1, l2, l3] (.ref a :: st) sh I P nx kx := zq_F_next rfl rfl rfl rfl
set_option maxRecDepth 100000 in
theorem q_L_law_341n {d nx kx : Nat} {st : List Value} {sh : zq_S} {I : zq_I} {P : zq_P} {l1 l2 l3 : Option Value} : zq_F d 0 341 [some .null, l1, l2, l3] st sh I P nx kx = zq_F d 0 342 [some .null, l1, l2, l3] (.null :: st) sh I P nx kx := zq_F_next rfl rfl rfl rfl
set_option maxRecDepth 100000 in
theorem q_L_law_342 {d nx kx : Nat} {st : List Value} {sh : zq_S} {I : zq_I} {P : zq_P} {l0 l1 l2 : Option Value} {x : Int32} : zq_F d 0 342 [l0, l1, l2, some (.int x)] st sh I P nx kx = zq_F d 0 343 [l0, l1, l2, some (.int x)] (.int x :: st) sh I P nx kx := zq_F_next rfl rfl rfl rfl
set_option maxRecDepth 100000 in
theorem q_L_law_343 {d nx kx : Nat} {L : zq_L} {st : List Value} {sh : zq_S} {I : zq_I} {P : zq_P} : zq_F d 0 343 L st sh I P nx kx = zq_F d 0 344 L (.int (nI 1) :: st) sh I P nx kx := zq_r_int rfl (by decide)
set_option maxRecDepth 100000 in
theorem q_L_law_344 {d nx kx : Nat} {L : zq_L} {st : List Value} {sh : zq_S} {I : zq_I} {P : zq_P} {x y : Int32} : zq_F d 0 344 L (.int y :: .int x :: st) sh I P nx kx = zq_F d 0 345 L (.int (x + y) :: st) sh I P nx kx := zq_F_next rfl rfl rfl rfl
set_option maxRecDepth 100000 in
theorem q_L_law_345 {d nx kx : Nat} {L : zq_L} {st : List Value} {sh : zq_S} {I : zq_I} {P : zq_P} {a j : Nat} (h : (sh a).1 = 1) (h1 : j < (sh a).2) (h2 : j < 2147483648) : zq_F d 0 345 L (.int (nI j) :: .ref a :: st) sh I P nx kx = zq_F d 0 346 L (.int (I a j) :: st) sh I P nx kx := zq_n_iald rfl (Or.inr h) h1 h2
set_option maxRecDepth 100000 in
theorem q_L_law_346 {d nx kx : Nat} {L : zq_L} {st : List Value} {sh : zq_S} {I : zq_I} {P : zq_P} {b : Nat} {x0 : Int32} (h : (sh b).1 = 106) (hs : st.length ≤ 4) : zq_F (d + 1) 0 346 L (.int x0 :: .ref b :: st) sh I P nx kx = (zq_C d 104 [.ref b, .int x0] sh I P nx kx).bind fun q => zq_F (d + 1) 0 349 L (q.1.toList ++ st) q.2.1 q.2.2.1 q.2.2.2.1 q.2.2.2.2.1 q.2.2.2.2.2 := zq_F_call rfl rfl (zq_ag (as := [.int x0, .ref b]) rfl rfl rfl hs (Or.inr ⟨b, rfl, Nat.succ_pos _, Or.inr h⟩)) rfl rfl
set_option maxRecDepth 100000 in
theorem q_L_law_349 {d nx kx : Nat} {L : zq_L} {st : List Value} {sh : zq_S} {I : zq_I} {P : zq_P} {x y : Int32} : zq_F d 0 349 L (.int y :: .int x :: st) sh I P nx kx = if x = y then zq_F d 0 611 L st sh I P nx kx else zq_F d 0 352 L st sh I P nx kx := zq_r_if2 rfl (by decide) (zq_c_eq x y)
set_option maxRecDepth 100000 in
theorem q_L_law_352 {d nx kx : Nat} {L : zq_L} {st : List Value} {sh : zq_S} {I : zq_I} {P : zq_P} : zq_F d 0 352 L st sh I P nx kx = zq_F d 0 353 L (.int (nI 0) :: st) sh I P nx kx := zq_r_int rfl (by decide)
set_option maxRecDepth 100000 in
theorem q_L_law_353_0 {d nx kx : Nat} {L : zq_L} {sh : zq_S} {I : zq_I} {P : zq_P} : zq_F d 0 353 L [.int (nI 0)] sh I P nx kx = some (some (.int (nI 0)), sh, I, P, nx, kx) := zq_r_retz rfl rfl (Or.inl rfl)
set_option maxRecDepth 100000 in
theorem q_L_law_353_1 {d nx kx : Nat} {L : zq_L} {sh : zq_S} {I : zq_I} {P : zq_P} : zq_F d 0 353 L [.int (nI 1)] sh I P nx kx = some (some (.int (nI 1)), sh, I, P, nx, kx) := zq_r_retz rfl rfl (Or.inr rfl)
set_option maxRecDepth 100000 in
theorem q_L_law_353_b {d nx kx : Nat} {L : zq_L} {sh : zq_S} {I : zq_I} {P : zq_P} {p : Prop} : zq_F d 0 353 L [.int (zq_b p)] sh I P nx kx = some (some (.int (zq_b p)), sh, I, P, nx, kx) := zq_r_retz rfl rfl (zq_b_01 p)
set_option maxRecDepth 100000 in
theorem q_L_law_354 {d nx kx : Nat} {st : List Value} {sh : zq_S} {I : zq_I} {P : zq_P} {l0 l2 l3 : Option Value} {a : Nat} : zq_F d 0 354 [l0, some (.ref a), l2, l3] st sh I P nx kx = zq_F d 0 355 [l0, some (.ref a), l2, l3] (.ref a :: st) sh I P nx kx := zq_F_next rfl rfl rfl rfl
set_option maxRecDepth 100000 in
theorem q_L_law_354n {d nx kx : Nat} {st : List Value} {sh : zq_S} {I : zq_I} {P : zq_P} {l0 l2 l3 : Option Value} : zq_F d 0 354 [l0, some .null, l2, l3] st sh I P nx kx = zq_F d 0 355 [l0, some .null, l2, l3] (.null :: st) sh I P nx kx := zq_F_next rfl rfl rfl rfl
set_option maxRecDepth 100000 in
theorem q_L_law_355 {d nx kx : Nat} {st : List Value} {sh : zq_S} {I : zq_I} {P : zq_P} {l1 l2 l3 : Option Value} {a : Nat} : zq_F d 0 355 [some (.ref a), l1, l2, l3] st sh I P nx kx = zq_F d 0 356 [some (.ref a), l1, l2, l3] (.ref a :: st) sh I P nx kx := zq_F_next rfl rfl rfl rfl
set_option maxRecDepth 100000 in
theorem q_L_law_355n {d nx kx : Nat} {st : List Value} {sh : zq_S} {I : zq_I} {P : zq_P} {l1 l2 l3 : Option Value} : zq_F d 0 355 [some .null, l1, l2, l3] st sh I P nx kx = zq_F d 0 356 [some .null, l1, l2, l3] (.null :: st) sh I P nx kx := zq_F_next rfl rfl rfl rfl
set_option maxRecDepth 100000 in
theorem q_L_law_356 {d nx kx : Nat} {st : List Value} {sh : zq_S} {I : zq_I} {P : zq_P} {l0 l1 l2 : Option Value} {x : Int32} : zq_F d 0 356 [l0, l1, l2, some (.int x)] st sh I P nx kx = zq_F d 0 357 [l0, l1, l2, some (.int x)] (.int x :: st) sh I P nx kx := zq_F_next rfl rfl rfl rfl
set_option maxRecDepth 100000 in
theorem q_L_law_357 {d nx kx : Nat} {L : zq_L} {st : List Value} {sh : zq_S} {I : zq_I} {P : zq_P} : zq_F d 0 357 L st sh I P nx kx = zq_F d 0 358 L (.int (nI 1) :: st) sh I P nx kx := zq_r_int rfl (by decide)
set_option maxRecDepth 100000 in
theorem q_L_law_358 {d nx kx : Nat} {L : zq_L} {st : List Value} {sh : zq_S} {I : zq_I} {P : zq_P} {x y : Int32} : zq_F d 0 358 L (.int y :: .int x :: st) sh I P nx kx = zq_F d 0 359 L (.int (x + y) :: st) sh I P nx kx := zq_F_next rfl rfl rfl rfl
set_option maxRecDepth 100000 in
theorem q_L_law_359 {d nx kx : Nat} {L : zq_L} {st : List Value} {sh : zq_S} {I : zq_I} {P : zq_P} {a j : Nat} (h : (sh a).1 = 1) (h1 : j < (sh a).2) (h2 : j < 2147483648) : zq_F d 0 359 L (.int (nI j) :: .ref a :: st) sh I P nx kx = zq_F d 0 360 L (.int (I a j) :: st) sh I P nx kx := zq_n_iald rfl (Or.inr h) h1 h2
set_option maxRecDepth 100000 in
theorem q_L_law_360 {d nx kx : Nat} {L : zq_L} {st : List Value} {sh : zq_S} {I : zq_I} {P : zq_P} {b : Nat} {x0 : Int32} (h : (sh b).1 = 100) (hs : st.length ≤ 4) : zq_F (d + 1) 0 360 L (.int x0 :: .ref b :: st) sh I P nx kx = (zq_C d 12 [.ref b, .int x0] sh I P nx kx).bind fun q => zq_F (d + 1) 0 363 L (q.1.toList ++ st) q.2.1 q.2.2.1 q.2.2.2.1 q.2.2.2.2.1 q.2.2.2.2.2 := zq_F_call rfl rfl (zq_ag (as := [.int x0, .ref b]) rfl rfl rfl hs (Or.inr ⟨b, rfl, Nat.succ_pos _, Or.inr h⟩)) rfl rfl
set_option maxRecDepth 100000 in
theorem q_L_law_363 {d nx kx : Nat} {st : List Value} {sh : zq_S} {I : zq_I} {P : zq_P} {l0 l1 l3 : Option Value} {a : Nat} : zq_F d 0 363 [l0, l1, some (.ref a), l3] st sh I P nx kx = zq_F d 0 364 [l0, l1, some (.ref a), l3] (.ref a :: st) sh I P nx kx := zq_F_next rfl rfl rfl rfl
set_option maxRecDepth 100000 in
theorem q_L_law_363n {d nx kx : Nat} {st : List Value} {sh : zq_S} {I : zq_I} {P : zq_P} {l0 l1 l3 : Option Value} : zq_F d 0 363 [l0, l1, some .null, l3] st sh I P nx kx = zq_F d 0 364 [l0, l1, some .null, l3] (.null :: st) sh I P nx kx := zq_F_next rfl rfl rfl rfl
set_option maxRecDepth 100000 in
theorem q_L_law_364 {d nx kx : Nat} {st : List Value} {sh : zq_S} {I : zq_I} {P : zq_P} {l1 l2 l3 : Option Value} {a : Nat} : zq_F d 0 364 [some (.ref a), l1, l2, l3] st sh I P nx kx = zq_F d 0 365 [some (.ref a), l1, l2, l3] (.ref a :: st) sh I P nx kx := zq_F_next rfl rfl rfl rfl
set_option maxRecDepth 100000 in
theorem q_L_law_364n {d nx kx : Nat} {st : List Value} {sh : zq_S} {I : zq_I} {P : zq_P} {l1 l2 l3 : Option Value} : zq_F d 0 364 [some .null, l1, l2, l3] st sh I P nx kx = zq_F d 0 365 [some .null, l1, l2, l3] (.null :: st) sh I P nx kx := zq_F_next rfl rfl rfl rfl
set_option maxRecDepth 100000 in
theorem q_L_law_365 {d nx kx : Nat} {st : List Value} {sh : zq_S} {I : zq_I} {P : zq_P} {l0 l1 l2 : Option Value} {x : Int32} : zq_F d 0 365 [l0, l1, l2, some (.int x)] st sh I P nx kx = zq_F d 0 366 [l0, l1, l2, some (.int x)] (.int x :: st) sh I P nx kx := zq_F_next rfl rfl rfl rfl
set_option maxRecDepth 100000 in
theorem q_L_law_366 {d nx kx : Nat} {L : zq_L} {st : List Value} {sh : zq_S} {I : zq_I} {P : zq_P} : zq_F d 0 366 L st sh I P nx kx = zq_F d 0 367 L (.int (nI 1) :: st) sh I P nx kx := zq_r_int rfl (by decide)
set_option maxRecDepth 100000 in
theorem q_L_law_367 {d nx kx : Nat} {L : zq_L} {st : List Value} {sh : zq_S} {I : zq_I} {P : zq_P} {x y : Int32} : zq_F d 0 367 L (.int y :: .int x :: st) sh I P nx kx = zq_F d 0 368 L (.int (x + y) :: st) sh I P nx kx := zq_F_next rfl rfl rfl rfl
set_option maxRecDepth 100000 in
theorem q_L_law_368 {d nx kx : Nat} {L : zq_L} {st : List Value} {sh : zq_S} {I : zq_I} {P : zq_P} {a j : Nat} (h : (sh a).1 = 1) (h1 : j < (sh a).2) (h2 : j < 2147483648) : zq_F d 0 368 L (.int (nI j) :: .ref a :: st) sh I P nx kx = zq_F d 0 369 L (.int (I a j) :: st) sh I P nx kx := zq_n_iald rfl (Or.inr h) h1 h2
set_option maxRecDepth 100000 in
theorem q_L_law_369 {d nx kx : Nat} {L : zq_L} {st : List Value} {sh : zq_S} {I : zq_I} {P : zq_P} {b : Nat} {x0 : Int32} (h : (sh b).1 = 106) (hs : st.length ≤ 4) : zq_F (d + 1) 0 369 L (.int x0 :: .ref b :: st) sh I P nx kx = (zq_C d 105 [.ref b, .int x0] sh I P nx kx).bind fun q => zq_F (d + 1) 0 372 L (q.1.toList ++ st) q.2.1 q.2.2.1 q.2.2.2.1 q.2.2.2.2.1 q.2.2.2.2.2 := zq_F_call rfl rfl (zq_ag (as := [.int x0, .ref b]) rfl rfl rfl hs (Or.inr ⟨b, rfl, Nat.succ_pos _, Or.inr h⟩)) rfl rfl
set_option maxRecDepth 100000 in
theorem q_L_law_372 {d nx kx : Nat} {L : zq_L} {st : List Value} {sh : zq_S} {I : zq_I} {P : zq_P} {x y : Int32} : zq_F d 0 372 L (.int y :: .int x :: st) sh I P nx kx = if x = y then zq_F d 0 611 L st sh I P nx kx else zq_F d 0 375 L st sh I P nx kx := zq_r_if2 rfl (by decide) (zq_c_eq x y)
set_option maxRecDepth 100000 in
theorem q_L_law_375 {d nx kx : Nat} {L : zq_L} {st : List Value} {sh : zq_S} {I : zq_I} {P : zq_P} : zq_F d 0 375 L st sh I P nx kx = zq_F d 0 376 L (.int (nI 0) :: st) sh I P nx kx := zq_r_int rfl (by decide)
set_option maxRecDepth 100000 in
theorem q_L_law_376_0 {d nx kx : Nat} {L : zq_L} {sh : zq_S} {I : zq_I} {P : zq_P} : zq_F d 0 376 L [.int (nI 0)] sh I P nx kx = some (some (.int (nI 0)), sh, I, P, nx, kx) := zq_r_retz rfl rfl (Or.inl rfl)
set_option maxRecDepth 100000 in
theorem q_L_law_376_1 {d nx kx : Nat} {L : zq_L} {sh : zq_S} {I : zq_I} {P : zq_P} : zq_F d 0 376 L [.int (nI 1)] sh I P nx kx = some (some (.int (nI 1)), sh, I, P, nx, kx) := zq_r_retz rfl rfl (Or.inr rfl)
set_option maxRecDepth 100000 in
theorem q_L_law_376_b {d nx kx : Nat} {L : zq_L} {sh : zq_S} {I : zq_I} {P : zq_P} {p : Prop} : zq_F d 0 376 L [.int (zq_b p)] sh I P nx kx = some (some (.int (zq_b p)), sh, I, P, nx, kx) := zq_r_retz rfl rfl (zq_b_01 p)
set_option maxRecDepth 100000 in
theorem q_L_law_377 {d nx kx : Nat} {st : List Value} {sh : zq_S} {I : zq_I} {P : zq_P} {l0 l2 l3 : Option Value} {a : Nat} : zq_F d 0 377 [l0, some (.ref a), l2, l3] st sh I P nx kx = zq_F d 0 378 [l0, some (.ref a), l2, l3] (.ref a :: st) sh I P nx kx := zq_F_next rfl rfl rfl rfl
set_option maxRecDepth 100000 in
theorem q_L_law_377n {d nx kx : Nat} {st : List Value} {sh : zq_S} {I : zq_I} {P : zq_P} {l0 l2 l3 : Option Value} : zq_F d 0 377 [l0, some .null, l2, l3] st sh I P nx kx = zq_F d 0 378 [l0, some .null, l2, l3] (.null :: st) sh I P nx kx := zq_F_next rfl rfl rfl rfl
set_option maxRecDepth 100000 in
theorem q_L_law_378 {d nx kx : Nat} {st : List Value} {sh : zq_S} {I : zq_I} {P : zq_P} {l1 l2 l3 : Option Value} {a : Nat} : zq_F d 0 378 [some (.ref a), l1, l2, l3] st sh I P nx kx = zq_F d 0 379 [some (.ref a), l1, l2, l3] (.ref a :: st) sh I P nx kx := zq_F_next rfl rfl rfl rfl
set_option maxRecDepth 100000 in
theorem q_L_law_378n {d nx kx : Nat} {st : List Value} {sh : zq_S} {I : zq_I} {P : zq_P} {l1 l2 l3 : Option Value} : zq_F d 0 378 [some .null, l1, l2, l3] st sh I P nx kx = zq_F d 0 379 [some .null, l1, l2, l3] (.null :: st) sh I P nx kx := zq_F_next rfl rfl rfl rfl
set_option maxRecDepth 100000 in
theorem q_L_law_379 {d nx kx : Nat} {st : List Value} {sh : zq_S} {I : zq_I} {P : zq_P} {l0 l1 l2 : Option Value} {x : Int32} : zq_F d 0 379 [l0, l1, l2, some (.int x)] st sh I P nx kx = zq_F d 0 380 [l0, l1, l2, some (.int x)] (.int x :: st) sh I P nx kx := zq_F_next rfl rfl rfl rfl
set_option maxRecDepth 100000 in
theorem q_L_law_380 {d nx kx : Nat} {L : zq_L} {st : List Value} {sh : zq_S} {I : zq_I} {P : zq_P} : zq_F d 0 380 L st sh I P nx kx = zq_F d 0 381 L (.int (nI 1) :: st) sh I P nx kx := zq_r_int rfl (by decide)
set_option maxRecDepth 100000 in
theorem q_L_law_381 {d nx kx : Nat} {L : zq_L} {st : List Value} {sh : zq_S} {I : zq_I} {P : zq_P} {x y : Int32} : zq_F d 0 381 L (.int y :: .int x :: st) sh I P nx kx = zq_F d 0 382 L (.int (x + y) :: st) sh I P nx kx := zq_F_next rfl rfl rfl rfl
set_option maxRecDepth 100000 in
theorem q_L_law_382 {d nx kx : Nat} {L : zq_L} {st : List Value} {sh : zq_S} {I : zq_I} {P : zq_P} {a j : Nat} (h : (sh a).1 = 1) (h1 : j < (sh a).2) (h2 : j < 2147483648) : zq_F d 0 382 L (.int (nI j) :: .ref a :: st) sh I P nx kx = zq_F d 0 383 L (.int (I a j) :: st) sh I P nx kx := zq_n_iald rfl (Or.inr h) h1 h2
set_option maxRecDepth 100000 in
theorem q_L_law_383 {d nx kx : Nat} {st : List Value} {sh : zq_S} {I : zq_I} {P : zq_P} {l1 l2 l3 : Option Value} {a : Nat} : zq_F d 0 383 [some (.ref a), l1, l2, l3] st sh I P nx kx = zq_F d 0 384 [some (.ref a), l1, l2, l3] (.ref a :: st) sh I P nx kx := zq_F_next rfl rfl rfl rfl
set_option maxRecDepth 100000 in
theorem q_L_law_383n {d nx kx : Nat} {st : List Value} {sh : zq_S} {I : zq_I} {P : zq_P} {l1 l2 l3 : Option Value} : zq_F d 0 383 [some .null, l1, l2, l3] st sh I P nx kx = zq_F d 0 384 [some .null, l1, l2, l3] (.null :: st) sh I P nx kx := zq_F_next rfl rfl rfl rfl
set_option maxRecDepth 100000 in
theorem q_L_law_384 {d nx kx : Nat} {st : List Value} {sh : zq_S} {I : zq_I} {P : zq_P} {l0 l1 l2 : Option Value} {x : Int32} : zq_F d 0 384 [l0, l1, l2, some (.int x)] st sh I P nx kx = zq_F d 0 385 [l0, l1, l2, some (.int x)] (.int x :: st) sh I P nx kx := zq_F_next rfl rfl rfl rfl
set_option maxRecDepth 100000 in
theorem q_L_law_385 {d nx kx : Nat} {L : zq_L} {st : List Value} {sh : zq_S} {I : zq_I} {P : zq_P} : zq_F d 0 385 L st sh I P nx kx = zq_F d 0 386 L (.int (nI 2) :: st) sh I P nx kx := zq_r_int rfl (by decide)
set_option maxRecDepth 100000 in
theorem q_L_law_386 {d nx kx : Nat} {L : zq_L} {st : List Value} {sh : zq_S} {I : zq_I} {P : zq_P} {x y : Int32} : zq_F d 0 386 L (.int y :: .int x :: st) sh I P nx kx = zq_F d 0 387 L (.int (x + y) :: st) sh I P nx kx := zq_F_next rfl rfl rfl rfl
set_option maxRecDepth 100000 in
theorem q_L_law_387 {d nx kx : Nat} {L : zq_L} {st : List Value} {sh : zq_S} {I : zq_I} {P : zq_P} {a j : Nat} (h : (sh a).1 = 1) (h1 : j < (sh a).2) (h2 : j < 2147483648) : zq_F d 0 387 L (.int (nI j) :: .ref a :: st) sh I P nx kx = zq_F d 0 388 L (.int (I a j) :: st) sh I P nx kx := zq_n_iald rfl (Or.inr h) h1 h2
set_option maxRecDepth 100000 in
theorem q_L_law_388 {d nx kx : Nat} {L : zq_L} {st : List Value} {sh : zq_S} {I : zq_I} {P : zq_P} {b : Nat} {x0 : Int32} {x1 : Int32} (h : (sh b).1 = 100) (hs : st.length ≤ 4) : zq_F (d + 1) 0 388 L (.int x1 :: .int x0 :: .ref b :: st) sh I P nx kx = (zq_C d 13 [.ref b, .int x0, .int x1] sh I P nx kx).bind fun q => zq_F (d + 1) 0 391 L (q.1.toList ++ st) q.2.1 q.2.2.1 q.2.2.2.1 q.2.2.2.2.1 q.2.2.2.2.2 := zq_F_call rfl rfl (zq_ag (as := [.int x1, .int x0, .ref b]) rfl rfl rfl hs (Or.inr ⟨b, rfl, Nat.succ_pos _, Or.inr h⟩)) rfl rfl
set_option maxRecDepth 100000 in
theorem q_L_law_391 {d nx kx : Nat} {st : List Value} {sh : zq_S} {I : zq_I} {P : zq_P} {l0 l1 l3 : Option Value} {a : Nat} : zq_F d 0 391 [l0, l1, some (.ref a), l3] st sh I P nx kx = zq_F d 0 392 [l0, l1, some (.ref a), l3] (.ref a :: st) sh I P nx kx := zq_F_next rfl rfl rfl rfl
set_option maxRecDepth 100000 in
theorem q_L_law_391n {d nx kx : Nat} {st : List Value} {sh : zq_S} {I : zq_I} {P : zq_P} {l0 l1 l3 : Option Value} : zq_F d 0 391 [l0, l1, some .null, l3] st sh I P nx kx = zq_F d 0 392 [l0, l1, some .null, l3] (.null :: st) sh I P nx kx := zq_F_next rfl rfl rfl rfl
set_option maxRecDepth 100000 in
theorem q_L_law_392 {d nx kx : Nat} {st : List Value} {sh : zq_S} {I : zq_I} {P : zq_P} {l1 l2 l3 : Option Value} {a : Nat} : zq_F d 0 392 [some (.ref a), l1, l2, l3] st sh I P nx kx = zq_F d 0 393 [some (.ref a), l1, l2, l3] (.ref a :: st) sh I P nx kx := zq_F_next rfl rfl rfl rfl
set_option maxRecDepth 100000 in
theorem q_L_law_392n {d nx kx : Nat} {st : List Value} {sh : zq_S} {I : zq_I} {P : zq_P} {l1 l2 l3 : Option Value} : zq_F d 0 392 [some .null, l1, l2, l3] st sh I P nx kx = zq_F d 0 393 [some .null, l1, l2, l3] (.null :: st) sh I P nx kx := zq_F_next rfl rfl rfl rfl
set_option maxRecDepth 100000 in
theorem q_L_law_393 {d nx kx : Nat} {st : List Value} {sh : zq_S} {I : zq_I} {P : zq_P} {l0 l1 l2 : Option Value} {x : Int32} : zq_F d 0 393 [l0, l1, l2, some (.int x)] st sh I P nx kx = zq_F d 0 394 [l0, l1, l2, some (.int x)] (.int x :: st) sh I P nx kx := zq_F_next rfl rfl rfl rfl
set_option maxRecDepth 100000 in
theorem q_L_law_394 {d nx kx : Nat} {L : zq_L} {st : List Value} {sh : zq_S} {I : zq_I} {P : zq_P} : zq_F d 0 394 L st sh I P nx kx = zq_F d 0 395 L (.int (nI 1) :: st) sh I P nx kx := zq_r_int rfl (by decide)
set_option maxRecDepth 100000 in
theorem q_L_law_395 {d nx kx : Nat} {L : zq_L} {st : List Value} {sh : zq_S} {I : zq_I} {P : zq_P} {x y : Int32} : zq_F d 0 395 L (.int y :: .int x :: st) sh I P nx kx = zq_F d 0 396 L (.int (x + y) :: st) sh I P nx kx := zq_F_next rfl rfl rfl rfl
set_option maxRecDepth 100000 in
theorem q_L_law_396 {d nx kx : Nat} {L : zq_L} {st : List Value} {sh : zq_S} {I : zq_I} {P : zq_P} {a j : Nat} (h : (sh a).1 = 1) (h1 : j < (sh a).2) (h2 : j < 2147483648) : zq_F d 0 396 L (.int (nI j) :: .ref a :: st) sh I P nx kx = zq_F d 0 397 L (.int (I a j) :: st) sh I P nx kx := zq_n_iald rfl (Or.inr h) h1 h2
set_option maxRecDepth 100000 in
theorem q_L_law_397 {d nx kx : Nat} {st : List Value} {sh : zq_S} {I : zq_I} {P : zq_P} {l1 l2 l3 : Option Value} {a : Nat} : zq_F d 0 397 [some (.ref a), l1, l2, l3] st sh I P nx kx = zq_F d 0 398 [some (.ref a), l1, l2, l3] (.ref a :: st) sh I P nx kx := zq_F_next rfl rfl rfl rfl
set_option maxRecDepth 100000 in
theorem q_L_law_397n {d nx kx : Nat} {st : List Value} {sh : zq_S} {I : zq_I} {P : zq_P} {l1 l2 l3 : Option Value} : zq_F d 0 397 [some .null, l1, l2, l3] st sh I P nx kx = zq_F d 0 398 [some .null, l1, l2, l3] (.null :: st) sh I P nx kx := zq_F_next rfl rfl rfl rfl
set_option maxRecDepth 100000 in
theorem q_L_law_398 {d nx kx : Nat} {st : List Value} {sh : zq_S} {I : zq_I} {P : zq_P} {l0 l1 l2 : Option Value} {x : Int32} : zq_F d 0 398 [l0, l1, l2, some (.int x)] st sh I P nx kx = zq_F d 0 399 [l0, l1, l2, some (.int x)] (.int x :: st) sh I P nx kx := zq_F_next rfl rfl rfl rfl
set_option maxRecDepth 100000 in
theorem q_L_law_399 {d nx kx : Nat} {L : zq_L} {st : List Value} {sh : zq_S} {I : zq_I} {P : zq_P} : zq_F d 0 399 L st sh I P nx kx = zq_F d 0 400 L (.int (nI 2) :: st) sh I P nx kx := zq_r_int rfl (by decide)
set_option maxRecDepth 100000 in
theorem q_L_law_400 {d nx kx : Nat} {L : zq_L} {st : List Value} {sh : zq_S} {I : zq_I} {P : zq_P} {x y : Int32} : zq_F d 0 400 L (.int y :: .int x :: st) sh I P nx kx = zq_F d 0 401 L (.int (x + y) :: st) sh I P nx kx := zq_F_next rfl rfl rfl rfl
set_option maxRecDepth 100000 in
theorem q_L_law_401 {d nx kx : Nat} {L : zq_L} {st : List Value} {sh : zq_S} {I : zq_I} {P : zq_P} {a j : Nat} (h : (sh a).1 = 1) (h1 : j < (sh a).2) (h2 : j < 2147483648) : zq_F d 0 401 L (.int (nI j) :: .ref a :: st) sh I P nx kx = zq_F d 0 402 L (.int (I a j) :: st) sh I P nx kx := zq_n_iald rfl (Or.inr h) h1 h2
set_option maxRecDepth 100000 in
theorem q_L_law_402 {d nx kx : Nat} {L : zq_L} {st : List Value} {sh : zq_S} {I : zq_I} {P : zq_P} {b : Nat} {x0 : Int32} {x1 : Int32} (h : (sh b).1 = 106) (hs : st.length ≤ 4) : zq_F (d + 1) 0 402 L (.int x1 :: .int x0 :: .ref b :: st) sh I P nx kx = (zq_C d 107 [.ref b, .int x0, .int x1] sh I P nx kx).bind fun q => zq_F (d + 1) 0 405 L (q.1.toList ++ st) q.2.1 q.2.2.1 q.2.2.2.1 q.2.2.2.2.1 q.2.2.2.2.2 := zq_F_call rfl rfl (zq_ag (as := [.int x1, .int x0, .ref b]) rfl rfl rfl hs (Or.inr ⟨b, rfl, Nat.succ_pos _, Or.inr h⟩)) rfl rfl
set_option maxRecDepth 100000 in
theorem q_L_law_405 {d nx kx : Nat} {L : zq_L} {st : List Value} {sh : zq_S} {I : zq_I} {P : zq_P} {x y : Int32} : zq_F d 0 405 L (.int y :: .int x :: st) sh I P nx kx = if x = y then zq_F d 0 611 L st sh I P nx kx else zq_F d 0 408 L st sh I P nx kx := zq_r_if2 rfl (by decide) (zq_c_eq x y)
set_option maxRecDepth 100000 in
theorem q_L_law_408 {d nx kx : Nat} {L : zq_L} {st : List Value} {sh : zq_S} {I : zq_I} {P : zq_P} : zq_F d 0 408 L st sh I P nx kx = zq_F d 0 409 L (.int (nI 0) :: st) sh I P nx kx := zq_r_int rfl (by decide)
set_option maxRecDepth 100000 in
theorem q_L_law_409_0 {d nx kx : Nat} {L : zq_L} {sh : zq_S} {I : zq_I} {P : zq_P} : zq_F d 0 409 L [.int (nI 0)] sh I P nx kx = some (some (.int (nI 0)), sh, I, P, nx, kx) := zq_r_retz rfl rfl (Or.inl rfl)
set_option maxRecDepth 100000 in
theorem q_L_law_409_1 {d nx kx : Nat} {L : zq_L} {sh : zq_S} {I : zq_I} {P : zq_P} : zq_F d 0 409 L [.int (nI 1)] sh I P nx kx = some (some (.int (nI 1)), sh, I, P, nx, kx) := zq_r_retz rfl rfl (Or.inr rfl)
set_option maxRecDepth 100000 in
theorem q_L_law_409_b {d nx kx : Nat} {L : zq_L} {sh : zq_S} {I : zq_I} {P : zq_P} {p : Prop} : zq_F d 0 409 L [.int (zq_b p)] sh I P nx kx = some (some (.int (zq_b p)), sh, I, P, nx, kx) := zq_r_retz rfl rfl (zq_b_01 p)
set_option maxRecDepth 100000 in
theorem q_L_law_410 {d nx kx : Nat} {st : List Value} {sh : zq_S} {I : zq_I} {P : zq_P} {l0 l2 l3 : Option Value} {a : Nat} : zq_F d 0 410 [l0, some (.ref a), l2, l3] st sh I P nx kx = zq_F d 0 411 [l0, some (.ref a), l2, l3] (.ref a :: st) sh I P nx kx := zq_F_next rfl rfl rfl rfl
set_option maxRecDepth 100000 in
theorem q_L_law_410n {d nx kx : Nat} {st : List Value} {sh : zq_S} {I : zq_I} {P : zq_P} {l0 l2 l3 : Option Value} : zq_F d 0 410 [l0, some .null, l2, l3] st sh I P nx kx = zq_F d 0 411 [l0, some .null, l2, l3] (.null :: st) sh I P nx kx := zq_F_next rfl rfl rfl rfl
set_option maxRecDepth 100000 in
theorem q_L_law_411 {d nx kx : Nat} {st : List Value} {sh : zq_S} {I : zq_I} {P : zq_P} {l1 l2 l3 : Option Value} {a : Nat} : zq_F d 0 411 [some (.ref a), l1, l2, l3] st sh I P nx kx = zq_F d 0 412 [some (.ref a), l1, l2, l3] (.ref a :: st) sh I P nx kx := zq_F_next rfl rfl rfl rfl
set_option maxRecDepth 100000 in
theorem q_L_law_411n {d nx kx : Nat} {st : List Value} {sh : zq_S} {I : zq_I} {P : zq_P} {l1 l2 l3 : Option Value} : zq_F d 0 411 [some .null, l1, l2, l3] st sh I P nx kx = zq_F d 0 412 [some .null, l1, l2, l3] (.null :: st) sh I P nx kx := zq_F_next rfl rfl rfl rfl
set_option maxRecDepth 100000 in
theorem q_L_law_412 {d nx kx : Nat} {st : List Value} {sh : zq_S} {I : zq_I} {P : zq_P} {l0 l1 l2 : Option Value} {x : Int32} : zq_F d 0 412 [l0, l1, l2, some (.int x)] st sh I P nx kx = zq_F d 0 413 [l0, l1, l2, some (.int x)] (.int x :: st) sh I P nx kx := zq_F_next rfl rfl rfl rfl
set_option maxRecDepth 100000 in
theorem q_L_law_413 {d nx kx : Nat} {L : zq_L} {st : List Value} {sh : zq_S} {I : zq_I} {P : zq_P} : zq_F d 0 413 L st sh I P nx kx = zq_F d 0 414 L (.int (nI 1) :: st) sh I P nx kx := zq_r_int rfl (by decide)
set_option maxRecDepth 100000 in
theorem q_L_law_414 {d nx kx : Nat} {L : zq_L} {st : List Value} {sh : zq_S} {I : zq_I} {P : zq_P} {x y : Int32} : zq_F d 0 414 L (.int y :: .int x :: st) sh I P nx kx = zq_F d 0 415 L (.int (x + y) :: st) sh I P nx kx := zq_F_next rfl rfl rfl rfl
set_option maxRecDepth 100000 in
theorem q_L_law_415 {d nx kx : Nat} {L : zq_L} {st : List Value} {sh : zq_S} {I : zq_I} {P : zq_P} {a j : Nat} (h : (sh a).1 = 1) (h1 : j < (sh a).2) (h2 : j < 2147483648) : zq_F d 0 415 L (.int (nI j) :: .ref a :: st) sh I P nx kx = zq_F d 0 416 L (.int (I a j) :: st) sh I P nx kx := zq_n_iald rfl (Or.inr h) h1 h2
set_option maxRecDepth 100000 in
theorem q_L_law_416 {d nx kx : Nat} {st : List Value} {sh : zq_S} {I : zq_I} {P : zq_P} {l1 l2 l3 : Option Value} {a : Nat} : zq_F d 0 416 [some (.ref a), l1, l2, l3] st sh I P nx kx = zq_F d 0 417 [some (.ref a), l1, l2, l3] (.ref a :: st) sh I P nx kx := zq_F_next rfl rfl rfl rfl
set_option maxRecDepth 100000 in
theorem q_L_law_416n {d nx kx : Nat} {st : List Value} {sh : zq_S} {I : zq_I} {P : zq_P} {l1 l2 l3 : Option Value} : zq_F d 0 416 [some .null, l1, l2, l3] st sh I P nx kx = zq_F d 0 417 [some .null, l1, l2, l3] (.null :: st) sh I P nx kx := zq_F_next rfl rfl rfl rfl
set_option maxRecDepth 100000 in
theorem q_L_law_417 {d nx kx : Nat} {st : List Value} {sh : zq_S} {I : zq_I} {P : zq_P} {l0 l1 l2 : Option Value} {x : Int32} : zq_F d 0 417 [l0, l1, l2, some (.int x)] st sh I P nx kx = zq_F d 0 418 [l0, l1, l2, some (.int x)] (.int x :: st) sh I P nx kx := zq_F_next rfl rfl rfl rfl
set_option maxRecDepth 100000 in
theorem q_L_law_418 {d nx kx : Nat} {L : zq_L} {st : List Value} {sh : zq_S} {I : zq_I} {P : zq_P} : zq_F d 0 418 L st sh I P nx kx = zq_F d 0 419 L (.int (nI 2) :: st) sh I P nx kx := zq_r_int rfl (by decide)
set_option maxRecDepth 100000 in
theorem q_L_law_419 {d nx kx : Nat} {L : zq_L} {st : List Value} {sh : zq_S} {I : zq_I} {P : zq_P} {x y : Int32} : zq_F d 0 419 L (.int y :: .int x :: st) sh I P nx kx = zq_F d 0 420 L (.int (x + y) :: st) sh I P nx kx := zq_F_next rfl rfl rfl rfl
set_option maxRecDepth 100000 in
theorem q_L_law_420 {d nx kx : Nat} {L : zq_L} {st : List Value} {sh : zq_S} {I : zq_I} {P : zq_P} {a j : Nat} (h : (sh a).1 = 1) (h1 : j < (sh a).2) (h2 : j < 2147483648) : zq_F d 0 420 L (.int (nI j) :: .ref a :: st) sh I P nx kx = zq_F d 0 421 L (.int (I a j) :: st) sh I P nx kx := zq_n_iald rfl (Or.inr h) h1 h2
set_option maxRecDepth 100000 in
theorem q_L_law_421 {d nx kx : Nat} {L : zq_L} {st : List Value} {sh : zq_S} {I : zq_I} {P : zq_P} {b : Nat} {x0 : Int32} {x1 : Int32} (h : (sh b).1 = 100) (hs : st.length ≤ 4) : zq_F (d + 1) 0 421 L (.int x1 :: .int x0 :: .ref b :: st) sh I P nx kx = (zq_C d 14 [.ref b, .int x0, .int x1] sh I P nx kx).bind fun q => zq_F (d + 1) 0 424 L (q.1.toList ++ st) q.2.1 q.2.2.1 q.2.2.2.1 q.2.2.2.2.1 q.2.2.2.2.2 := zq_F_call rfl rfl (zq_ag (as := [.int x1, .int x0, .ref b]) rfl rfl rfl hs (Or.inr ⟨b, rfl, Nat.succ_pos _, Or.inr h⟩)) rfl rfl
set_option maxRecDepth 100000 in
theorem q_L_law_424 {d nx kx : Nat} {st : List Value} {sh : zq_S} {I : zq_I} {P : zq_P} {l0 l1 l3 : Option Value} {a : Nat} : zq_F d 0 424 [l0, l1, some (.ref a), l3] st sh I P nx kx = zq_F d 0 425 [l0, l1, some (.ref a), l3] (.ref a :: st) sh I P nx kx := zq_F_next rfl rfl rfl rfl
set_option maxRecDepth 100000 in
theorem q_L_law_424n {d nx kx : Nat} {st : List Value} {sh : zq_S} {I : zq_I} {P : zq_P} {l0 l1 l3 : Option Value} : zq_F d 0 424 [l0, l1, some .null, l3] st sh I P nx kx = zq_F d 0 425 [l0, l1, some .null, l3] (.null :: st) sh I P nx kx := zq_F_next rfl rfl rfl rfl
set_option maxRecDepth 100000 in
theorem q_L_law_425 {d nx kx : Nat} {st : List Value} {sh : zq_S} {I : zq_I} {P : zq_P} {l1 l2 l3 : Option Value} {a : Nat} : zq_F d 0 425 [some (.ref a), l1, l2, l3] st sh I P nx kx = zq_F d 0 426 [some (.ref a), l1, l2, l3] (.ref a :: st) sh I P nx kx := zq_F_next rfl rfl rfl rfl
set_option maxRecDepth 100000 in
theorem q_L_law_425n {d nx kx : Nat} {st : List Value} {sh : zq_S} {I : zq_I} {P : zq_P} {l1 l2 l3 : Option Value} : zq_F d 0 425 [some .null, l1, l2, l3] st sh I P nx kx = zq_F d 0 426 [some .null, l1, l2, l3] (.null :: st) sh I P nx kx := zq_F_next rfl rfl rfl rfl
set_option maxRecDepth 100000 in
theorem q_L_law_426 {d nx kx : Nat} {st : List Value} {sh : zq_S} {I : zq_I} {P : zq_P} {l0 l1 l2 : Option Value} {x : Int32} : zq_F d 0 426 [l0, l1, l2, some (.int x)] st sh I P nx kx = zq_F d 0 427 [l0, l1, l2, some (.int x)] (.int x :: st) sh I P nx kx := zq_F_next rfl rfl rfl rfl
set_option maxRecDepth 100000 in
theorem q_L_law_427 {d nx kx : Nat} {L : zq_L} {st : List Value} {sh : zq_S} {I : zq_I} {P : zq_P} : zq_F d 0 427 L st sh I P nx kx = zq_F d 0 428 L (.int (nI 1) :: st) sh I P nx kx := zq_r_int rfl (by decide)
set_option maxRecDepth 100000 in
theorem q_L_law_428 {d nx kx : Nat} {L : zq_L} {st : List Value} {sh : zq_S} {I : zq_I} {P : zq_P} {x y : Int32} : zq_F d 0 428 L (.int y :: .int x :: st) sh I P nx kx = zq_F d 0 429 L (.int (x + y) :: st) sh I P nx kx := zq_F_next rfl rfl rfl rfl
set_option maxRecDepth 100000 in
theorem q_L_law_429 {d nx kx : Nat} {L : zq_L} {st : List Value} {sh : zq_S} {I : zq_I} {P : zq_P} {a j : Nat} (h : (sh a).1 = 1) (h1 : j < (sh a).2) (h2 : j < 2147483648) : zq_F d 0 429 L (.int (nI j) :: .ref a :: st) sh I P nx kx = zq_F d 0 430 L (.int (I a j) :: st) sh I P nx kx := zq_n_iald rfl (Or.inr h) h1 h2
set_option maxRecDepth 100000 in
theorem q_L_law_430 {d nx kx : Nat} {st : List Value} {sh : zq_S} {I : zq_I} {P : zq_P} {l1 l2 l3 : Option Value} {a : Nat} : zq_F d 0 430 [some (.ref a), l1, l2, l3] st sh I P nx kx = zq_F d 0 431 [some (.ref a), l1, l2, l3] (.ref a :: st) sh I P nx kx := zq_F_next rfl rfl rfl rfl
set_option maxRecDepth 100000 in
theorem q_L_law_430n {d nx kx : Nat} {st : List Value} {sh : zq_S} {I : zq_I} {P : zq_P} {l1 l2 l3 : Option Value} : zq_F d 0 430 [some .null, l1, l2, l3] st sh I P nx kx = zq_F d 0 431 [some .null, l1, l2, l3] (.null :: st) sh I P nx kx := zq_F_next rfl rfl rfl rfl
set_option maxRecDepth 100000 in
theorem q_L_law_431 {d nx kx : Nat} {st : List Value} {sh : zq_S} {I : zq_I} {P : zq_P} {l0 l1 l2 : Option Value} {x : Int32} : zq_F d 0 431 [l0, l1, l2, some (.int x)] st sh I P nx kx = zq_F d 0 432 [l0, l1, l2, some (.int x)] (.int x :: st) sh I P nx kx := zq_F_next rfl rfl rfl rfl
set_option maxRecDepth 100000 in
theorem q_L_law_432 {d nx kx : Nat} {L : zq_L} {st : List Value} {sh : zq_S} {I : zq_I} {P : zq_P} : zq_F d 0 432 L st sh I P nx kx = zq_F d 0 433 L (.int (nI 2) :: st) sh I P nx kx := zq_r_int rfl (by decide)
set_option maxRecDepth 100000 in
theorem q_L_law_433 {d nx kx : Nat} {L : zq_L} {st : List Value} {sh : zq_S} {I : zq_I} {P : zq_P} {x y : Int32} : zq_F d 0 433 L (.int y :: .int x :: st) sh I P nx kx = zq_F d 0 434 L (.int (x + y) :: st) sh I P nx kx := zq_F_next rfl rfl rfl rfl
set_option maxRecDepth 100000 in
theorem q_L_law_434 {d nx kx : Nat} {L : zq_L} {st : List Value} {sh : zq_S} {I : zq_I} {P : zq_P} {a j : Nat} (h : (sh a).1 = 1) (h1 : j < (sh a).2) (h2 : j < 2147483648) : zq_F d 0 434 L (.int (nI j) :: .ref a :: st) sh I P nx kx = zq_F d 0 435 L (.int (I a j) :: st) sh I P nx kx := zq_n_iald rfl (Or.inr h) h1 h2
set_option maxRecDepth 100000 in
theorem q_L_law_435 {d nx kx : Nat} {L : zq_L} {st : List Value} {sh : zq_S} {I : zq_I} {P : zq_P} {b : Nat} {x0 : Int32} {x1 : Int32} (h : (sh b).1 = 106) (hs : st.length ≤ 4) : zq_F (d + 1) 0 435 L (.int x1 :: .int x0 :: .ref b :: st) sh I P nx kx = (zq_C d 108 [.ref b, .int x0, .int x1] sh I P nx kx).bind fun q => zq_F (d + 1) 0 438 L (q.1.toList ++ st) q.2.1 q.2.2.1 q.2.2.2.1 q.2.2.2.2.1 q.2.2.2.2.2 := zq_F_call rfl rfl (zq_ag (as := [.int x1, .int x0, .ref b]) rfl rfl rfl hs (Or.inr ⟨b, rfl, Nat.succ_pos _, Or.inr h⟩)) rfl rfl
set_option maxRecDepth 100000 in
theorem q_L_law_438 {d nx kx : Nat} {L : zq_L} {st : List Value} {sh : zq_S} {I : zq_I} {P : zq_P} {x y : Int32} : zq_F d 0 438 L (.int y :: .int x :: st) sh I P nx kx = if x = y then zq_F d 0 611 L st sh I P nx kx else zq_F d 0 441 L st sh I P nx kx := zq_r_if2 rfl (by decide) (zq_c_eq x y)
set_option maxRecDepth 100000 in
theorem q_L_law_441 {d nx kx : Nat} {L : zq_L} {st : List Value} {sh : zq_S} {I : zq_I} {P : zq_P} : zq_F d 0 441 L st sh I P nx kx = zq_F d 0 442 L (.int (nI 0) :: st) sh I P nx kx := zq_r_int rfl (by decide)
set_option maxRecDepth 100000 in
theorem q_L_law_442_0 {d nx kx : Nat} {L : zq_L} {sh : zq_S} {I : zq_I} {P : zq_P} : zq_F d 0 442 L [.int (nI 0)] sh I P nx kx = some (some (.int (nI 0)), sh, I, P, nx, kx) := zq_r_retz rfl rfl (Or.inl rfl)
set_option maxRecDepth 100000 in
theorem q_L_law_442_1 {d nx kx : Nat} {L : zq_L} {sh : zq_S} {I : zq_I} {P : zq_P} : zq_F d 0 442 L [.int (nI 1)] sh I P nx kx = some (some (.int (nI 1)), sh, I, P, nx, kx) := zq_r_retz rfl rfl (Or.inr rfl)
set_option maxRecDepth 100000 in
theorem q_L_law_442_b {d nx kx : Nat} {L : zq_L} {sh : zq_S} {I : zq_I} {P : zq_P} {p : Prop} : zq_F d 0 442 L [.int (zq_b p)] sh I P nx kx = some (some (.int (zq_b p)), sh, I, P, nx, kx) := zq_r_retz rfl rfl (zq_b_01 p)
set_option maxRecDepth 100000 in
theorem q_L_law_443 {d nx kx : Nat} {st : List Value} {sh : zq_S} {I : zq_I} {P : zq_P} {l0 l2 l3 : Option Value} {a : Nat} : zq_F d 0 443 [l0, some (.ref a), l2, l3] st sh I P nx kx = zq_F d 0 444 [l0, some (.ref a), l2, l3] (.ref a :: st) sh I P nx kx := zq_F_next rfl rfl rfl rfl
set_option maxRecDepth 100000 in
theorem q_L_law_443n {d nx kx : Nat} {st : List Value} {sh : zq_S} {I : zq_I} {P : zq_P} {l0 l2 l3 : Option Value} : zq_F d 0 443 [l0, some .null, l2, l3] st sh I P nx kx = zq_F d 0 444 [l0, some .null, l2, l3] (.null :: st) sh I P nx kx := zq_F_next rfl rfl rfl rfl
set_option maxRecDepth 100000 in
theorem q_L_law_444 {d nx kx : Nat} {st : List Value} {sh : zq_S} {I : zq_I} {P : zq_P} {l1 l2 l3 : Option Value} {a : Nat} : zq_F d 0 444 [some (.ref a), l1, l2, l3] st sh I P nx kx = zq_F d 0 445 [some (.ref a), l1, l2, l3] (.ref a :: st) sh I P nx kx := zq_F_next rfl rfl rfl rfl
set_option maxRecDepth 100000 in
theorem q_L_law_444n {d nx kx : Nat} {st : List Value} {sh : zq_S} {I : zq_I} {P : zq_P} {l1 l2 l3 : Option Value} : zq_F d 0 444 [some .null, l1, l2, l3] st sh I P nx kx = zq_F d 0 445 [some .null, l1, l2, l3] (.null :: st) sh I P nx kx := zq_F_next rfl rfl rfl rfl
set_option maxRecDepth 100000 in
theorem q_L_law_445 {d nx kx : Nat} {st : List Value} {sh : zq_S} {I : zq_I} {P : zq_P} {l0 l1 l2 : Option Value} {x : Int32} : zq_F d 0 445 [l0, l1, l2, some (.int x)] st sh I P nx kx = zq_F d 0 446 [l0, l1, l2, some (.int x)] (.int x :: st) sh I P nx kx := zq_F_next rfl rfl rfl rfl
set_option maxRecDepth 100000 in
theorem q_L_law_446 {d nx kx : Nat} {L : zq_L} {st : List Value} {sh : zq_S} {I : zq_I} {P : zq_P} : zq_F d 0 446 L st sh I P nx kx = zq_F d 0 447 L (.int (nI 1) :: st) sh I P nx kx := zq_r_int rfl (by decide)
set_option maxRecDepth 100000 in
theorem q_L_law_447 {d nx kx : Nat} {L : zq_L} {st : List Value} {sh : zq_S} {I : zq_I} {P : zq_P} {x y : Int32} : zq_F d 0 447 L (.int y :: .int x :: st) sh I P nx kx = zq_F d 0 448 L (.int (x + y) :: st) sh I P nx kx := zq_F_next rfl rfl rfl rfl
set_option maxRecDepth 100000 in
theorem q_L_law_448 {d nx kx : Nat} {L : zq_L} {st : List Value} {sh : zq_S} {I : zq_I} {P : zq_P} {a j : Nat} (h : (sh a).1 = 1) (h1 : j < (sh a).2) (h2 : j < 2147483648) : zq_F d 0 448 L (.int (nI j) :: .ref a :: st) sh I P nx kx = zq_F d 0 449 L (.int (I a j) :: st) sh I P nx kx := zq_n_iald rfl (Or.inr h) h1 h2
set_option maxRecDepth 100000 in
theorem q_L_law_449 {d nx kx : Nat} {st : List Value} {sh : zq_S} {I : zq_I} {P : zq_P} {l1 l2 l3 : Option Value} {a : Nat} : zq_F d 0 449 [some (.ref a), l1, l2, l3] st sh I P nx kx = zq_F d 0 450 [some (.ref a), l1, l2, l3] (.ref a :: st) sh I P nx kx := zq_F_next rfl rfl rfl rfl
set_option maxRecDepth 100000 in
theorem q_L_law_449n {d nx kx : Nat} {st : List Value} {sh : zq_S} {I : zq_I} {P : zq_P} {l1 l2 l3 : Option Value} : zq_F d 0 449 [some .null, l1, l2, l3] st sh I P nx kx = zq_F d 0 450 [some .null, l1, l2, l3] (.null :: st) sh I P nx kx := zq_F_next rfl rfl rfl rfl
set_option maxRecDepth 100000 in
theorem q_L_law_450 {d nx kx : Nat} {st : List Value} {sh : zq_S} {I : zq_I} {P : zq_P} {l0 l1 l2 : Option Value} {x : Int32} : zq_F d 0 450 [l0, l1, l2, some (.int x)] st sh I P nx kx = zq_F d 0 451 [l0, l1, l2, some (.int x)] (.int x :: st) sh I P nx kx := zq_F_next rfl rfl rfl rfl
set_option maxRecDepth 100000 in
theorem q_L_law_451 {d nx kx : Nat} {L : zq_L} {st : List Value} {sh : zq_S} {I : zq_I} {P : zq_P} : zq_F d 0 451 L st sh I P nx kx = zq_F d 0 452 L (.int (nI 2) :: st) sh I P nx kx := zq_r_int rfl (by decide)
set_option maxRecDepth 100000 in
theorem q_L_law_452 {d nx kx : Nat} {L : zq_L} {st : List Value} {sh : zq_S} {I : zq_I} {P : zq_P} {x y : Int32} : zq_F d 0 452 L (.int y :: .int x :: st) sh I P nx kx = zq_F d 0 453 L (.int (x + y) :: st) sh I P nx kx := zq_F_next rfl rfl rfl rfl
set_option maxRecDepth 100000 in
theorem q_L_law_453 {d nx kx : Nat} {L : zq_L} {st : List Value} {sh : zq_S} {I : zq_I} {P : zq_P} {a j : Nat} (h : (sh a).1 = 1) (h1 : j < (sh a).2) (h2 : j < 2147483648) : zq_F d 0 453 L (.int (nI j) :: .ref a :: st) sh I P nx kx = zq_F d 0 454 L (.int (I a j) :: st) sh I P nx kx := zq_n_iald rfl (Or.inr h) h1 h2
set_option maxRecDepth 100000 in
theorem q_L_law_454 {d nx kx : Nat} {st : List Value} {sh : zq_S} {I : zq_I} {P : zq_P} {l1 l2 l3 : Option Value} {a : Nat} : zq_F d 0 454 [some (.ref a), l1, l2, l3] st sh I P nx kx = zq_F d 0 455 [some (.ref a), l1, l2, l3] (.ref a :: st) sh I P nx kx := zq_F_next rfl rfl rfl rfl
set_option maxRecDepth 100000 in
theorem q_L_law_454n {d nx kx : Nat} {st : List Value} {sh : zq_S} {I : zq_I} {P : zq_P} {l1 l2 l3 : Option Value} : zq_F d 0 454 [some .null, l1, l2, l3] st sh I P nx kx = zq_F d 0 455 [some .null, l1, l2, l3] (.null :: st) sh I P nx kx := zq_F_next rfl rfl rfl rfl
set_option maxRecDepth 100000 in
theorem q_L_law_455 {d nx kx : Nat} {st : List Value} {sh : zq_S} {I : zq_I} {P : zq_P} {l0 l1 l2 : Option Value} {x : Int32} : zq_F d 0 455 [l0, l1, l2, some (.int x)] st sh I P nx kx = zq_F d 0 456 [l0, l1, l2, some (.int x)] (.int x :: st) sh I P nx kx := zq_F_next rfl rfl rfl rfl
set_option maxRecDepth 100000 in
theorem q_L_law_456 {d nx kx : Nat} {L : zq_L} {st : List Value} {sh : zq_S} {I : zq_I} {P : zq_P} : zq_F d 0 456 L st sh I P nx kx = zq_F d 0 457 L (.int (nI 3) :: st) sh I P nx kx := zq_r_int rfl (by decide)
set_option maxRecDepth 100000 in
theorem q_L_law_457 {d nx kx : Nat} {L : zq_L} {st : List Value} {sh : zq_S} {I : zq_I} {P : zq_P} {x y : Int32} : zq_F d 0 457 L (.int y :: .int x :: st) sh I P nx kx = zq_F d 0 458 L (.int (x + y) :: st) sh I P nx kx := zq_F_next rfl rfl rfl rfl
set_option maxRecDepth 100000 in
theorem q_L_law_458 {d nx kx : Nat} {L : zq_L} {st : List Value} {sh : zq_S} {I : zq_I} {P : zq_P} {a j : Nat} (h : (sh a).1 = 1) (h1 : j < (sh a).2) (h2 : j < 2147483648) : zq_F d 0 458 L (.int (nI j) :: .ref a :: st) sh I P nx kx = zq_F d 0 459 L (.int (I a j) :: st) sh I P nx kx := zq_n_iald rfl (Or.inr h) h1 h2
set_option maxRecDepth 100000 in
theorem q_L_law_459 {d nx kx : Nat} {L : zq_L} {st : List Value} {sh : zq_S} {I : zq_I} {P : zq_P} {b : Nat} {x0 : Int32} {x1 : Int32} {x2 : Int32} (h : (sh b).1 = 100) (hs : st.length ≤ 4) : zq_F (d + 1) 0 459 L (.int x2 :: .int x1 :: .int x0 :: .ref b :: st) sh I P nx kx = (zq_C d 15 [.ref b, .int x0, .int x1, .int x2] sh I P nx kx).bind fun q => zq_F (d + 1) 0 462 L (q.1.toList ++ st) q.2.1 q.2.2.1 q.2.2.2.1 q.2.2.2.2.1 q.2.2.2.2.2 := zq_F_call rfl rfl (zq_ag (as := [.int x2, .int x1, .int x0, .ref b]) rfl rfl rfl hs (Or.inr ⟨b, rfl, Nat.succ_pos _, Or.inr h⟩)) rfl rfl
set_option maxRecDepth 100000 in
theorem q_L_law_462 {d nx kx : Nat} {st : List Value} {sh : zq_S} {I : zq_I} {P : zq_P} {l0 l1 l3 : Option Value} {a : Nat} : zq_F d 0 462 [l0, l1, some (.ref a), l3] st sh I P nx kx = zq_F d 0 463 [l0, l1, some (.ref a), l3] (.ref a :: st) sh I P nx kx := zq_F_next rfl rfl rfl rfl
set_option maxRecDepth 100000 in
theorem q_L_law_462n {d nx kx : Nat} {st : List Value} {sh : zq_S} {I : zq_I} {P : zq_P} {l0 l1 l3 : Option Value} : zq_F d 0 462 [l0, l1, some .null, l3] st sh I P nx kx = zq_F d 0 463 [l0, l1, some .null, l3] (.null :: st) sh I P nx kx := zq_F_next rfl rfl rfl rfl
set_option maxRecDepth 100000 in
theorem q_L_law_463 {d nx kx : Nat} {st : List Value} {sh : zq_S} {I : zq_I} {P : zq_P} {l1 l2 l3 : Option Value} {a : Nat} : zq_F d 0 463 [some (.ref a), l1, l2, l3] st sh I P nx kx = zq_F d 0 464 [some (.ref a), l1, l2, l3] (.ref a :: st) sh I P nx kx := zq_F_next rfl rfl rfl rfl
set_option maxRecDepth 100000 in
theorem q_L_law_463n {d nx kx : Nat} {st : List Value} {sh : zq_S} {I : zq_I} {P : zq_P} {l1 l2 l3 : Option Value} : zq_F d 0 463 [some .null, l1, l2, l3] st sh I P nx kx = zq_F d 0 464 [some .null, l1, l2, l3] (.null :: st) sh I P nx kx := zq_F_next rfl rfl rfl rfl
set_option maxRecDepth 100000 in
theorem q_L_law_464 {d nx kx : Nat} {st : List Value} {sh : zq_S} {I : zq_I} {P : zq_P} {l0 l1 l2 : Option Value} {x : Int32} : zq_F d 0 464 [l0, l1, l2, some (.int x)] st sh I P nx kx = zq_F d 0 465 [l0, l1, l2, some (.int x)] (.int x :: st) sh I P nx kx := zq_F_next rfl rfl rfl rfl
set_option maxRecDepth 100000 in
theorem q_L_law_465 {d nx kx : Nat} {L : zq_L} {st : List Value} {sh : zq_S} {I : zq_I} {P : zq_P} : zq_F d 0 465 L st sh I P nx kx = zq_F d 0 466 L (.int (nI 1) :: st) sh I P nx kx := zq_r_int rfl (by decide)
set_option maxRecDepth 100000 in
theorem q_L_law_466 {d nx kx : Nat} {L : zq_L} {st : List Value} {sh : zq_S} {I : zq_I} {P : zq_P} {x y : Int32} : zq_F d 0 466 L (.int y :: .int x :: st) sh I P nx kx = zq_F d 0 467 L (.int (x + y) :: st) sh I P nx kx := zq_F_next rfl rfl rfl rfl
set_option maxRecDepth 100000 in
theorem q_L_law_467 {d nx kx : Nat} {L : zq_L} {st : List Value} {sh : zq_S} {I : zq_I} {P : zq_P} {a j : Nat} (h : (sh a).1 = 1) (h1 : j < (sh a).2) (h2 : j < 2147483648) : zq_F d 0 467 L (.int (nI j) :: .ref a :: st) sh I P nx kx = zq_F d 0 468 L (.int (I a j) :: st) sh I P nx kx := zq_n_iald rfl (Or.inr h) h1 h2
set_option maxRecDepth 100000 in
theorem q_L_law_468 {d nx kx : Nat} {st : List Value} {sh : zq_S} {I : zq_I} {P : zq_P} {l1 l2 l3 : Option Value} {a : Nat} : zq_F d 0 468 [some (.ref a), l1, l2, l3] st sh I P nx kx = zq_F d 0 469 [some (.ref a), l1, l2, l3] (.ref a :: st) sh I P nx kx := zq_F_next rfl rfl rfl rfl
set_option maxRecDepth 100000 in
theorem q_L_law_468n {d nx kx : Nat} {st : List Value} {sh : zq_S} {I : zq_I} {P : zq_P} {l1 l2 l3 : Option Value} : zq_F d 0 468 [some .null, l1, l2, l3] st sh I P nx kx = zq_F d 0 469 [some .null, l1, l2, l3] (.null :: st) sh I P nx kx := zq_F_next rfl rfl rfl rfl
set_option maxRecDepth 100000 in
theorem q_L_law_469 {d nx kx : Nat} {st : List Value} {sh : zq_S} {I : zq_I} {P : zq_P} {l0 l1 l2 : Option Value} {x : Int32} : zq_F d 0 469 [l0, l1, l2, some (.int x)] st sh I P nx kx = zq_F d 0 470 [l0, l1, l2, some (.int x)] (.int x :: st) sh I P nx kx := zq_F_next rfl rfl rfl rfl
set_option maxRecDepth 100000 in
theorem q_L_law_470 {d nx kx : Nat} {L : zq_L} {st : List Value} {sh : zq_S} {I : zq_I} {P : zq_P} : zq_F d 0 470 L st sh I P nx kx = zq_F d 0 471 L (.int (nI 2) :: st) sh I P nx kx := zq_r_int rfl (by decide)
set_option maxRecDepth 100000 in
theorem q_L_law_471 {d nx kx : Nat} {L : zq_L} {st : List Value} {sh : zq_S} {I : zq_I} {P : zq_P} {x y : Int32} : zq_F d 0 471 L (.int y :: .int x :: st) sh I P nx kx = zq_F d 0 472 L (.int (x + y) :: st) sh I P nx kx := zq_F_next rfl rfl rfl rfl
set_option maxRecDepth 100000 in
theorem q_L_law_472 {d nx kx : Nat} {L : zq_L} {st : List Value} {sh : zq_S} {I : zq_I} {P : zq_P} {a j : Nat} (h : (sh a).1 = 1) (h1 : j < (sh a).2) (h2 : j < 2147483648) : zq_F d 0 472 L (.int (nI j) :: .ref a :: st) sh I P nx kx = zq_F d 0 473 L (.int (I a j) :: st) sh I P nx kx := zq_n_iald rfl (Or.inr h) h1 h2
set_option maxRecDepth 100000 in
theorem q_L_law_473 {d nx kx : Nat} {st : List Value} {sh : zq_S} {I : zq_I} {P : zq_P} {l1 l2 l3 : Option Value} {a : Nat} : zq_F d 0 473 [some (.ref a), l1, l2, l3] st sh I P nx kx = zq_F d 0 474 [some (.ref a), l1, l2, l3] (.ref a :: st) sh I P nx kx := zq_F_next rfl rfl rfl rfl
set_option maxRecDepth 100000 in
theorem q_L_law_473n {d nx kx : Nat} {st : List Value} {sh : zq_S} {I : zq_I} {P : zq_P} {l1 l2 l3 : Option Value} : zq_F d 0 473 [some .null, l1, l2, l3] st sh I P nx kx = zq_F d 0 474 [some .null, l1, l2, l3] (.null :: st) sh I P nx kx := zq_F_next rfl rfl rfl rfl
set_option maxRecDepth 100000 in
theorem q_L_law_474 {d nx kx : Nat} {st : List Value} {sh : zq_S} {I : zq_I} {P : zq_P} {l0 l1 l2 : Option Value} {x : Int32} : zq_F d 0 474 [l0, l1, l2, some (.int x)] st sh I P nx kx = zq_F d 0 475 [l0, l1, l2, some (.int x)] (.int x :: st) sh I P nx kx := zq_F_next rfl rfl rfl rfl
set_option maxRecDepth 100000 in
theorem q_L_law_475 {d nx kx : Nat} {L : zq_L} {st : List Value} {sh : zq_S} {I : zq_I} {P : zq_P} : zq_F d 0 475 L st sh I P nx kx = zq_F d 0 476 L (.int (nI 3) :: st) sh I P nx kx := zq_r_int rfl (by decide)
set_option maxRecDepth 100000 in
theorem q_L_law_476 {d nx kx : Nat} {L : zq_L} {st : List Value} {sh : zq_S} {I : zq_I} {P : zq_P} {x y : Int32} : zq_F d 0 476 L (.int y :: .int x :: st) sh I P nx kx = zq_F d 0 477 L (.int (x + y) :: st) sh I P nx kx := zq_F_next rfl rfl rfl rfl
set_option maxRecDepth 100000 in
theorem q_L_law_477 {d nx kx : Nat} {L : zq_L} {st : List Value} {sh : zq_S} {I : zq_I} {P : zq_P} {a j : Nat} (h : (sh a).1 = 1) (h1 : j < (sh a).2) (h2 : j < 2147483648) : zq_F d 0 477 L (.int (nI j) :: .ref a :: st) sh I P nx kx = zq_F d 0 478 L (.int (I a j) :: st) sh I P nx kx := zq_n_iald rfl (Or.inr h) h1 h2
set_option maxRecDepth 100000 in
theorem q_L_law_478 {d nx kx : Nat} {L : zq_L} {st : List Value} {sh : zq_S} {I : zq_I} {P : zq_P} {b : Nat} {x0 : Int32} {x1 : Int32} {x2 : Int32} (h : (sh b).1 = 106) (hs : st.length ≤ 4) : zq_F (d + 1) 0 478 L (.int x2 :: .int x1 :: .int x0 :: .ref b :: st) sh I P nx kx = (zq_C d 109 [.ref b, .int x0, .int x1, .int x2] sh I P nx kx).bind fun q => zq_F (d + 1) 0 481 L (q.1.toList ++ st) q.2.1 q.2.2.1 q.2.2.2.1 q.2.2.2.2.1 q.2.2.2.2.2 := zq_F_call rfl rfl (zq_ag (as := [.int x2, .int x1, .int x0, .ref b]) rfl rfl rfl hs (Or.inr ⟨b, rfl, Nat.succ_pos _, Or.inr h⟩)) rfl rfl
set_option maxRecDepth 100000 in
theorem q_L_law_481 {d nx kx : Nat} {L : zq_L} {st : List Value} {sh : zq_S} {I : zq_I} {P : zq_P} {x y : Int32} : zq_F d 0 481 L (.int y :: .int x :: st) sh I P nx kx = if x = y then zq_F d 0 611 L st sh I P nx kx else zq_F d 0 484 L st sh I P nx kx := zq_r_if2 rfl (by decide) (zq_c_eq x y)
set_option maxRecDepth 100000 in
theorem q_L_law_484 {d nx kx : Nat} {L : zq_L} {st : List Value} {sh : zq_S} {I : zq_I} {P : zq_P} : zq_F d 0 484 L st sh I P nx kx = zq_F d 0 485 L (.int (nI 0) :: st) sh I P nx kx := zq_r_int rfl (by decide)
set_option maxRecDepth 100000 in
theorem q_L_law_485_0 {d nx kx : Nat} {L : zq_L} {sh : zq_S} {I : zq_I} {P : zq_P} : zq_F d 0 485 L [.int (nI 0)] sh I P nx kx = some (some (.int (nI 0)), sh, I, P, nx, kx) := zq_r_retz rfl rfl (Or.inl rfl)
set_option maxRecDepth 100000 in
theorem q_L_law_485_1 {d nx kx : Nat} {L : zq_L} {sh : zq_S} {I : zq_I} {P : zq_P} : zq_F d 0 485 L [.int (nI 1)] sh I P nx kx = some (some (.int (nI 1)), sh, I, P, nx, kx) := zq_r_retz rfl rfl (Or.inr rfl)
set_option maxRecDepth 100000 in
theorem q_L_law_485_b {d nx kx : Nat} {L : zq_L} {sh : zq_S} {I : zq_I} {P : zq_P} {p : Prop} : zq_F d 0 485 L [.int (zq_b p)] sh I P nx kx = some (some (.int (zq_b p)), sh, I, P, nx, kx) := zq_r_retz rfl rfl (zq_b_01 p)
set_option maxRecDepth 100000 in
theorem q_L_law_486 {d nx kx : Nat} {st : List Value} {sh : zq_S} {I : zq_I} {P : zq_P} {l0 l2 l3 : Option Value} {a : Nat} : zq_F d 0 486 [l0, some (.ref a), l2, l3] st sh I P nx kx = zq_F d 0 487 [l0, some (.ref a), l2, l3] (.ref a :: st) sh I P nx kx := zq_F_next rfl rfl rfl rfl
set_option maxRecDepth 100000 in
theorem q_L_law_486n {d nx kx : Nat} {st : List Value} {sh : zq_S} {I : zq_I} {P : zq_P} {l0 l2 l3 : Option Value} : zq_F d 0 486 [l0, some .null, l2, l3] st sh I P nx kx = zq_F d 0 487 [l0, some .null, l2, l3] (.null :: st) sh I P nx kx := zq_F_next rfl rfl rfl rfl
set_option maxRecDepth 100000 in
theorem q_L_law_487 {d nx kx : Nat} {st : List Value} {sh : zq_S} {I : zq_I} {P : zq_P} {l1 l2 l3 : Option Value} {a : Nat} : zq_F d 0 487 [some (.ref a), l1, l2, l3] st sh I P nx kx = zq_F d 0 488 [some (.ref a), l1, l2, l3] (.ref a :: st) sh I P nx kx := zq_F_next rfl rfl rfl rfl
set_option maxRecDepth 100000 in
theorem q_L_law_487n {d nx kx : Nat} {st : List Value} {sh : zq_S} {I : zq_I} {P : zq_P} {l1 l2 l3 : Option Value} : zq_F d 0 487 [some .null, l1, l2, l3] st sh I P nx kx = zq_F d 0 488 [some .null, l1, l2, l3] (.null :: st) sh I P nx kx := zq_F_next rfl rfl rfl rfl
set_option maxRecDepth 100000 in
theorem q_L_law_488 {d nx kx : Nat} {st : List Value} {sh : zq_S} {I : zq_I} {P : zq_P} {l0 l1 l2 : Option Value} {x : Int32} : zq_F d 0 488 [l0, l1, l2, some (.int x)] st sh I P nx kx = zq_F d 0 489 [l0, l1, l2, some (.int x)] (.int x :: st) sh I P nx kx := zq_F_next rfl rfl rfl rfl
set_option maxRecDepth 100000 in
theorem q_L_law_489 {d nx kx : Nat} {L : zq_L} {st : List Value} {sh : zq_S} {I : zq_I} {P : zq_P} : zq_F d 0 489 L st sh I P nx kx = zq_F d 0 490 L (.int (nI 1) :: st) sh I P nx kx := zq_r_int rfl (by decide)
set_option maxRecDepth 100000 in
theorem q_L_law_490 {d nx kx : Nat} {L : zq_L} {st : List Value} {sh : zq_S} {I : zq_I} {P : zq_P} {x y : Int32} : zq_F d 0 490 L (.int y :: .int x :: st) sh I P nx kx = zq_F d 0 491 L (.int (x + y) :: st) sh I P nx kx := zq_F_next rfl rfl rfl rfl
set_option maxRecDepth 100000 in
theorem q_L_law_491 {d nx kx : Nat} {L : zq_L} {st : List Value} {sh : zq_S} {I : zq_I} {P : zq_P} {a j : Nat} (h : (sh a).1 = 1) (h1 : j < (sh a).2) (h2 : j < 2147483648) : zq_F d 0 491 L (.int (nI j) :: .ref a :: st) sh I P nx kx = zq_F d 0 492 L (.int (I a j) :: st) sh I P nx kx := zq_n_iald rfl (Or.inr h) h1 h2
set_option maxRecDepth 100000 in
theorem q_L_law_492 {d nx kx : Nat} {L : zq_L} {st : List Value} {sh : zq_S} {I : zq_I} {P : zq_P} {b : Nat} {x0 : Int32} (h : (sh b).1 = 100) (hs : st.length ≤ 4) : zq_F (d + 1) 0 492 L (.int x0 :: .ref b :: st) sh I P nx kx = (zq_C d 16 [.ref b, .int x0] sh I P nx kx).bind fun q => zq_F (d + 1) 0 495 L (q.1.toList ++ st) q.2.1 q.2.2.1 q.2.2.2.1 q.2.2.2.2.1 q.2.2.2.2.2 := zq_F_call rfl rfl (zq_ag (as := [.int x0, .ref b]) rfl rfl rfl hs (Or.inr ⟨b, rfl, Nat.succ_pos _, Or.inr h⟩)) rfl rfl
set_option maxRecDepth 100000 in
theorem q_L_law_495 {d nx kx : Nat} {st : List Value} {sh : zq_S} {I : zq_I} {P : zq_P} {l0 l1 l3 : Option Value} {a : Nat} : zq_F d 0 495 [l0, l1, some (.ref a), l3] st sh I P nx kx = zq_F d 0 496 [l0, l1, some (.ref a), l3] (.ref a :: st) sh I P nx kx := zq_F_next rfl rfl rfl rfl
set_option maxRecDepth 100000 in
theorem q_L_law_495n {d nx kx : Nat} {st : List Value} {sh : zq_S} {I : zq_I} {P : zq_P} {l0 l1 l3 : Option Value} : zq_F d 0 495 [l0, l1, some .null, l3] st sh I P nx kx = zq_F d 0 496 [l0, l1, some .null, l3] (.null :: st) sh I P nx kx := zq_F_next rfl rfl rfl rfl
set_option maxRecDepth 100000 in
theorem q_L_law_496 {d nx kx : Nat} {st : List Value} {sh : zq_S} {I : zq_I} {P : zq_P} {l1 l2 l3 : Option Value} {a : Nat} : zq_F d 0 496 [some (.ref a), l1, l2, l3] st sh I P nx kx = zq_F d 0 497 [some (.ref a), l1, l2, l3] (.ref a :: st) sh I P nx kx := zq_F_next rfl rfl rfl rfl
set_option maxRecDepth 100000 in
theorem q_L_law_496n {d nx kx : Nat} {st : List Value} {sh : zq_S} {I : zq_I} {P : zq_P} {l1 l2 l3 : Option Value} : zq_F d 0 496 [some .null, l1, l2, l3] st sh I P nx kx = zq_F d 0 497 [some .null, l1, l2, l3] (.null :: st) sh I P nx kx := zq_F_next rfl rfl rfl rfl
set_option maxRecDepth 100000 in
theorem q_L_law_497 {d nx kx : Nat} {st : List Value} {sh : zq_S} {I : zq_I} {P : zq_P} {l0 l1 l2 : Option Value} {x : Int32} : zq_F d 0 497 [l0, l1, l2, some (.int x)] st sh I P nx kx = zq_F d 0 498 [l0, l1, l2, some (.int x)] (.int x :: st) sh I P nx kx := zq_F_next rfl rfl rfl rfl
set_option maxRecDepth 100000 in
theorem q_L_law_498 {d nx kx : Nat} {L : zq_L} {st : List Value} {sh : zq_S} {I : zq_I} {P : zq_P} : zq_F d 0 498 L st sh I P nx kx = zq_F d 0 499 L (.int (nI 1) :: st) sh I P nx kx := zq_r_int rfl (by decide)
set_option maxRecDepth 100000 in
theorem q_L_law_499 {d nx kx : Nat} {L : zq_L} {st : List Value} {sh : zq_S} {I : zq_I} {P : zq_P} {x y : Int32} : zq_F d 0 499 L (.int y :: .int x :: st) sh I P nx kx = zq_F d 0 500 L (.int (x + y) :: st) sh I P nx kx := zq_F_next rfl rfl rfl rfl
set_option maxRecDepth 100000 in
theorem q_L_law_500 {d nx kx : Nat} {L : zq_L} {st : List Value} {sh : zq_S} {I : zq_I} {P : zq_P} {a j : Nat} (h : (sh a).1 = 1) (h1 : j < (sh a).2) (h2 : j < 2147483648) : zq_F d 0 500 L (.int (nI j) :: .ref a :: st) sh I P nx kx = zq_F d 0 501 L (.int (I a j) :: st) sh I P nx kx := zq_n_iald rfl (Or.inr h) h1 h2
set_option maxRecDepth 100000 in
theorem q_L_law_501 {d nx kx : Nat} {L : zq_L} {st : List Value} {sh : zq_S} {I : zq_I} {P : zq_P} {b : Nat} {x0 : Int32} (h : (sh b).1 = 106) (hs : st.length ≤ 4) : zq_F (d + 1) 0 501 L (.int x0 :: .ref b :: st) sh I P nx kx = (zq_C d 110 [.ref b, .int x0] sh I P nx kx).bind fun q => zq_F (d + 1) 0 504 L (q.1.toList ++ st) q.2.1 q.2.2.1 q.2.2.2.1 q.2.2.2.2.1 q.2.2.2.2.2 := zq_F_call rfl rfl (zq_ag (as := [.int x0, .ref b]) rfl rfl rfl hs (Or.inr ⟨b, rfl, Nat.succ_pos _, Or.inr h⟩)) rfl rfl
set_option maxRecDepth 100000 in
theorem q_L_law_504 {d nx kx : Nat} {L : zq_L} {st : List Value} {sh : zq_S} {I : zq_I} {P : zq_P} {x y : Int32} : zq_F d 0 504 L (.int y :: .int x :: st) sh I P nx kx = if x = y then zq_F d 0 611 L st sh I P nx kx else zq_F d 0 507 L st sh I P nx kx := zq_r_if2 rfl (by decide) (zq_c_eq x y)
set_option maxRecDepth 100000 in
theorem q_L_law_507 {d nx kx : Nat} {L : zq_L} {st : List Value} {sh : zq_S} {I : zq_I} {P : zq_P} : zq_F d 0 507 L st sh I P nx kx = zq_F d 0 508 L (.int (nI 0) :: st) sh I P nx kx := zq_r_int rfl (by decide)
set_option maxRecDepth 100000 in
theorem q_L_law_508_0 {d nx kx : Nat} {L : zq_L} {sh : zq_S} {I : zq_I} {P : zq_P} : zq_F d 0 508 L [.int (nI 0)] sh I P nx kx = some (some (.int (nI 0)), sh, I, P, nx, kx) := zq_r_retz rfl rfl (Or.inl rfl)
set_option maxRecDepth 100000 in
theorem q_L_law_508_1 {d nx kx : Nat} {L : zq_L} {sh : zq_S} {I : zq_I} {P : zq_P} : zq_F d 0 508 L [.int (nI 1)] sh I P nx kx = some (some (.int (nI 1)), sh, I, P, nx, kx) := zq_r_retz rfl rfl (Or.inr rfl)
set_option maxRecDepth 100000 in
theorem q_L_law_508_b {d nx kx : Nat} {L : zq_L} {sh : zq_S} {I : zq_I} {P : zq_P} {p : Prop} : zq_F d 0 508 L [.int (zq_b p)] sh I P nx kx = some (some (.int (zq_b p)), sh, I, P, nx, kx) := zq_r_retz rfl rfl (zq_b_01 p)
set_option maxRecDepth 100000 in
theorem q_L_law_509 {d nx kx : Nat} {st : List Value} {sh : zq_S} {I : zq_I} {P : zq_P} {l0 l2 l3 : Option Value} {a : Nat} : zq_F d 0 509 [l0, some (.ref a), l2, l3] st sh I P nx kx = zq_F d 0 510 [l0, some (.ref a), l2, l3] (.ref a :: st) sh I P nx kx := zq_F_next rfl rfl rfl rfl
set_option maxRecDepth 100000 in
theorem q_L_law_509n {d nx kx : Nat} {st : List Value} {sh : zq_S} {I : zq_I} {P : zq_P} {l0 l2 l3 : Option Value} : zq_F d 0 509 [l0, some .null, l2, l3] st sh I P nx kx = zq_F d 0 510 [l0, some .null, l2, l3] (.null :: st) sh I P nx kx := zq_F_next rfl rfl rfl rfl
set_option maxRecDepth 100000 in
theorem q_L_law_510 {d nx kx : Nat} {st : List Value} {sh : zq_S} {I : zq_I} {P : zq_P} {l1 l2 l3 : Option Value} {a : Nat} : zq_F d 0 510 [some (.ref a), l1, l2, l3] st sh I P nx kx = zq_F d 0 511 [some (.ref a), l1, l2, l3] (.ref a :: st) sh I P nx kx := zq_F_next rfl rfl rfl rfl
set_option maxRecDepth 100000 in
theorem q_L_law_510n {d nx kx : Nat} {st : List Value} {sh : zq_S} {I : zq_I} {P : zq_P} {l1 l2 l3 : Option Value} : zq_F d 0 510 [some .null, l1, l2, l3] st sh I P nx kx = zq_F d 0 511 [some .null, l1, l2, l3] (.null :: st) sh I P nx kx := zq_F_next rfl rfl rfl rfl
set_option maxRecDepth 100000 in
theorem q_L_law_511 {d nx kx : Nat} {st : List Value} {sh : zq_S} {I : zq_I} {P : zq_P} {l0 l1 l2 : Option Value} {x : Int32} : zq_F d 0 511 [l0, l1, l2, some (.int x)] st sh I P nx kx = zq_F d 0 512 [l0, l1, l2, some (.int x)] (.int x :: st) sh I P nx kx := zq_F_next rfl rfl rfl rfl
set_option maxRecDepth 100000 in
theorem q_L_law_512 {d nx kx : Nat} {L : zq_L} {st : List Value} {sh : zq_S} {I : zq_I} {P : zq_P} : zq_F d 0 512 L st sh I P nx kx = zq_F d 0 513 L (.int (nI 1) :: st) sh I P nx kx := zq_r_int rfl (by decide)
set_option maxRecDepth 100000 in
theorem q_L_law_513 {d nx kx : Nat} {L : zq_L} {st : List Value} {sh : zq_S} {I : zq_I} {P : zq_P} {x y : Int32} : zq_F d 0 513 L (.int y :: .int x :: st) sh I P nx kx = zq_F d 0 514 L (.int (x + y) :: st) sh I P nx kx := zq_F_next rfl rfl rfl rfl
set_option maxRecDepth 100000 in
theorem q_L_law_514 {d nx kx : Nat} {L : zq_L} {st : List Value} {sh : zq_S} {I : zq_I} {P : zq_P} {a j : Nat} (h : (sh a).1 = 1) (h1 : j < (sh a).2) (h2 : j < 2147483648) : zq_F d 0 514 L (.int (nI j) :: .ref a :: st) sh I P nx kx = zq_F d 0 515 L (.int (I a j) :: st) sh I P nx kx := zq_n_iald rfl (Or.inr h) h1 h2
set_option maxRecDepth 100000 in
theorem q_L_law_515 {d nx kx : Nat} {st : List Value} {sh : zq_S} {I : zq_I} {P : zq_P} {l1 l2 l3 : Option Value} {a : Nat} : zq_F d 0 515 [some (.ref a), l1, l2, l3] st sh I P nx kx = zq_F d 0 516 [some (.ref a), l1, l2, l3] (.ref a :: st) sh I P nx kx := zq_F_next rfl rfl rfl rfl
set_option maxRecDepth 100000 in
theorem q_L_law_515n {d nx kx : Nat} {st : List Value} {sh : zq_S} {I : zq_I} {P : zq_P} {l1 l2 l3 : Option Value} : zq_F d 0 515 [some .null, l1, l2, l3] st sh I P nx kx = zq_F d 0 516 [some .null, l1, l2, l3] (.null :: st) sh I P nx kx := zq_F_next rfl rfl rfl rfl
set_option maxRecDepth 100000 in
theorem q_L_law_516 {d nx kx : Nat} {st : List Value} {sh : zq_S} {I : zq_I} {P : zq_P} {l0 l1 l2 : Option Value} {x : Int32} : zq_F d 0 516 [l0, l1, l2, some (.int x)] st sh I P nx kx = zq_F d 0 517 [l0, l1, l2, some (.int x)] (.int x :: st) sh I P nx kx := zq_F_next rfl rfl rfl rfl
set_option maxRecDepth 100000 in
theorem q_L_law_517 {d nx kx : Nat} {L : zq_L} {st : List Value} {sh : zq_S} {I : zq_I} {P : zq_P} : zq_F d 0 517 L st sh I P nx kx = zq_F d 0 518 L (.int (nI 2) :: st) sh I P nx kx := zq_r_int rfl (by decide)
set_option maxRecDepth 100000 in
theorem q_L_law_518 {d nx kx : Nat} {L : zq_L} {st : List Value} {sh : zq_S} {I : zq_I} {P : zq_P} {x y : Int32} : zq_F d 0 518 L (.int y :: .int x :: st) sh I P nx kx = zq_F d 0 519 L (.int (x + y) :: st) sh I P nx kx := zq_F_next rfl rfl rfl rfl
set_option maxRecDepth 100000 in
theorem q_L_law_519 {d nx kx : Nat} {L : zq_L} {st : List Value} {sh : zq_S} {I : zq_I} {P : zq_P} {a j : Nat} (h : (sh a).1 = 1) (h1 : j < (sh a).2) (h2 : j < 2147483648) : zq_F d 0 519 L (.int (nI j) :: .ref a :: st) sh I P nx kx = zq_F d 0 520 L (.int (I a j) :: st) sh I P nx kx := zq_n_iald rfl (Or.inr h) h1 h2
set_option maxRecDepth 100000 in
theorem q_L_law_520 {d nx kx : Nat} {L : zq_L} {st : List Value} {sh : zq_S} {I : zq_I} {P : zq_P} {b : Nat} {x0 : Int32} {x1 : Int32} (h : (sh b).1 = 100) (hs : st.length ≤ 4) : zq_F (d + 1) 0 520 L (.int x1 :: .int x0 :: .ref b :: st) sh I P nx kx = (zq_C d 17 [.ref b, .int x0, .int x1] sh I P nx kx).bind fun q => zq_F (d + 1) 0 523 L (q.1.toList ++ st) q.2.1 q.2.2.1 q.2.2.2.1 q.2.2.2.2.1 q.2.2.2.2.2 := zq_F_call rfl rfl (zq_ag (as := [.int x1, .int x0, .ref b]) rfl rfl rfl hs (Or.inr ⟨b, rfl, Nat.succ_pos _, Or.inr h⟩)) rfl rfl
set_option maxRecDepth 100000 in
theorem q_L_law_523 {d nx kx : Nat} {st : List Value} {sh : zq_S} {I : zq_I} {P : zq_P} {l0 l1 l3 : Option Value} {a : Nat} : zq_F d 0 523 [l0, l1, some (.ref a), l3] st sh I P nx kx = zq_F d 0 524 [l0, l1, some (.ref a), l3] (.ref a :: st) sh I P nx kx := zq_F_next rfl rfl rfl rfl
set_option maxRecDepth 100000 in
theorem q_L_law_523n {d nx kx : Nat} {st : List Value} {sh : zq_S} {I : zq_I} {P : zq_P} {l0 l1 l3 : Option Value} : zq_F d 0 523 [l0, l1, some .null, l3] st sh I P nx kx = zq_F d 0 524 [l0, l1, some .null, l3] (.null :: st) sh I P nx kx := zq_F_next rfl rfl rfl rfl
set_option maxRecDepth 100000 in
theorem q_L_law_524 {d nx kx : Nat} {st : List Value} {sh : zq_S} {I : zq_I} {P : zq_P} {l1 l2 l3 : Option Value} {a : Nat} : zq_F d 0 524 [some (.ref a), l1, l2, l3] st sh I P nx kx = zq_F d 0 525 [some (.ref a), l1, l2, l3] (.ref a :: st) sh I P nx kx := zq_F_next rfl rfl rfl rfl
set_option maxRecDepth 100000 in
theorem q_L_law_524n {d nx kx : Nat} {st : List Value} {sh : zq_S} {I : zq_I} {P : zq_P} {l1 l2 l3 : Option Value} : zq_F d 0 524 [some .null, l1, l2, l3] st sh I P nx kx = zq_F d 0 525 [some .null, l1, l2, l3] (.null :: st) sh I P nx kx := zq_F_next rfl rfl rfl rfl
set_option maxRecDepth 100000 in
theorem q_L_law_525 {d nx kx : Nat} {st : List Value} {sh : zq_S} {I : zq_I} {P : zq_P} {l0 l1 l2 : Option Value} {x : Int32} : zq_F d 0 525 [l0, l1, l2, some (.int x)] st sh I P nx kx = zq_F d 0 526 [l0, l1, l2, some (.int x)] (.int x :: st) sh I P nx kx := zq_F_next rfl rfl rfl rfl
set_option maxRecDepth 100000 in
theorem q_L_law_526 {d nx kx : Nat} {L : zq_L} {st : List Value} {sh : zq_S} {I : zq_I} {P : zq_P} : zq_F d 0 526 L st sh I P nx kx = zq_F d 0 527 L (.int (nI 1) :: st) sh I P nx kx := zq_r_int rfl (by decide)
set_option maxRecDepth 100000 in
theorem q_L_law_527 {d nx kx : Nat} {L : zq_L} {st : List Value} {sh : zq_S} {I : zq_I} {P : zq_P} {x y : Int32} : zq_F d 0 527 L (.int y :: .int x :: st) sh I P nx kx = zq_F d 0 528 L (.int (x + y) :: st) sh I P nx kx := zq_F_next rfl rfl rfl rfl
set_option maxRecDepth 100000 in
theorem q_L_law_528 {d nx kx : Nat} {L : zq_L} {st : List Value} {sh : zq_S} {I : zq_I} {P : zq_P} {a j : Nat} (h : (sh a).1 = 1) (h1 : j < (sh a).2) (h2 : j < 2147483648) : zq_F d 0 528 L (.int (nI j) :: .ref a :: st) sh I P nx kx = zq_F d 0 529 L (.int (I a j) :: st) sh I P nx kx := zq_n_iald rfl (Or.inr h) h1 h2
set_option maxRecDepth 100000 in
theorem q_L_law_529 {d nx kx : Nat} {st : List Value} {sh : zq_S} {I : zq_I} {P : zq_P} {l1 l2 l3 : Option Value} {a : Nat} : zq_F d 0 529 [some (.ref a), l1, l2, l3] st sh I P nx kx = zq_F d 0 530 [some (.ref a), l1, l2, l3] (.ref a :: st) sh I P nx kx := zq_F_next rfl rfl rfl rfl
set_option maxRecDepth 100000 in
theorem q_L_law_529n {d nx kx : Nat} {st : List Value} {sh : zq_S} {I : zq_I} {P : zq_P} {l1 l2 l3 : Option Value} : zq_F d 0 529 [some .null, l1, l2, l3] st sh I P nx kx = zq_F d 0 530 [some .null, l1, l2, l3] (.null :: st) sh I P nx kx := zq_F_next rfl rfl rfl rfl
set_option maxRecDepth 100000 in
theorem q_L_law_530 {d nx kx : Nat} {st : List Value} {sh : zq_S} {I : zq_I} {P : zq_P} {l0 l1 l2 : Option Value} {x : Int32} : zq_F d 0 530 [l0, l1, l2, some (.int x)] st sh I P nx kx = zq_F d 0 531 [l0, l1, l2, some (.int x)] (.int x :: st) sh I P nx kx := zq_F_next rfl rfl rfl rfl
set_option maxRecDepth 100000 in
theorem q_L_law_531 {d nx kx : Nat} {L : zq_L} {st : List Value} {sh : zq_S} {I : zq_I} {P : zq_P} : zq_F d 0 531 L st sh I P nx kx = zq_F d 0 532 L (.int (nI 2) :: st) sh I P nx kx := zq_r_int rfl (by decide)
set_option maxRecDepth 100000 in
theorem q_L_law_532 {d nx kx : Nat} {L : zq_L} {st : List Value} {sh : zq_S} {I : zq_I} {P : zq_P} {x y : Int32} : zq_F d 0 532 L (.int y :: .int x :: st) sh I P nx kx = zq_F d 0 533 L (.int (x + y) :: st) sh I P nx kx := zq_F_next rfl rfl rfl rfl
set_option maxRecDepth 100000 in
theorem q_L_law_533 {d nx kx : Nat} {L : zq_L} {st : List Value} {sh : zq_S} {I : zq_I} {P : zq_P} {a j : Nat} (h : (sh a).1 = 1) (h1 : j < (sh a).2) (h2 : j < 2147483648) : zq_F d 0 533 L (.int (nI j) :: .ref a :: st) sh I P nx kx = zq_F d 0 534 L (.int (I a j) :: st) sh I P nx kx := zq_n_iald rfl (Or.inr h) h1 h2
set_option maxRecDepth 100000 in
theorem q_L_law_534 {d nx kx : Nat} {L : zq_L} {st : List Value} {sh : zq_S} {I : zq_I} {P : zq_P} {b : Nat} {x0 : Int32} {x1 : Int32} (h : (sh b).1 = 106) (hs : st.length ≤ 4) : zq_F (d + 1) 0 534 L (.int x1 :: .int x0 :: .ref b :: st) sh I P nx kx = (zq_C d 97 [.ref b, .int x0, .int x1] sh I P nx kx).bind fun q => zq_F (d + 1) 0 537 L (q.1.toList ++ st) q.2.1 q.2.2.1 q.2.2.2.1 q.2.2.2.2.1 q.2.2.2.2.2 := zq_F_call rfl rfl (zq_ag (as := [.int x1, .int x0, .ref b]) rfl rfl rfl hs (Or.inr ⟨b, rfl, Nat.succ_pos _, Or.inr h⟩)) rfl rfl
set_option maxRecDepth 100000 in
theorem q_L_law_537 {d nx kx : Nat} {L : zq_L} {st : List Value} {sh : zq_S} {I : zq_I} {P : zq_P} {x y : Int32} : zq_F d 0 537 L (.int y :: .int x :: st) sh I P nx kx = if x = y then zq_F d 0 611 L st sh I P nx kx else zq_F d 0 540 L st sh I P nx kx := zq_r_if2 rfl (by decide) (zq_c_eq x y)
set_option maxRecDepth 100000 in
theorem q_L_law_540 {d nx kx : Nat} {L : zq_L} {st : List Value} {sh : zq_S} {I : zq_I} {P : zq_P} : zq_F d 0 540 L st sh I P nx kx = zq_F d 0 541 L (.int (nI 0) :: st) sh I P nx kx := zq_r_int rfl (by decide)
set_option maxRecDepth 100000 in
theorem q_L_law_541_0 {d nx kx : Nat} {L : zq_L} {sh : zq_S} {I : zq_I} {P : zq_P} : zq_F d 0 541 L [.int (nI 0)] sh I P nx kx = some (some (.int (nI 0)), sh, I, P, nx, kx) := zq_r_retz rfl rfl (Or.inl rfl)
set_option maxRecDepth 100000 in
theorem q_L_law_541_1 {d nx kx : Nat} {L : zq_L} {sh : zq_S} {I : zq_I} {P : zq_P} : zq_F d 0 541 L [.int (nI 1)] sh I P nx kx = some (some (.int (nI 1)), sh, I, P, nx, kx) := zq_r_retz rfl rfl (Or.inr rfl)
set_option maxRecDepth 100000 in
theorem q_L_law_541_b {d nx kx : Nat} {L : zq_L} {sh : zq_S} {I : zq_I} {P : zq_P} {p : Prop} : zq_F d 0 541 L [.int (zq_b p)] sh I P nx kx = some (some (.int (zq_b p)), sh, I, P, nx, kx) := zq_r_retz rfl rfl (zq_b_01 p)
set_option maxRecDepth 100000 in
theorem q_L_law_542 {d nx kx : Nat} {st : List Value} {sh : zq_S} {I : zq_I} {P : zq_P} {l0 l2 l3 : Option Value} {a : Nat} : zq_F d 0 542 [l0, some (.ref a), l2, l3] st sh I P nx kx = zq_F d 0 543 [l0, some (.ref a), l2, l3] (.ref a :: st) sh I P nx kx := zq_F_next rfl rfl rfl rfl
set_option maxRecDepth 100000 in
theorem q_L_law_542n {d nx kx : Nat} {st : List Value} {sh : zq_S} {I : zq_I} {P : zq_P} {l0 l2 l3 : Option Value} : zq_F d 0 542 [l0, some .null, l2, l3] st sh I P nx kx = zq_F d 0 543 [l0, some .null, l2, l3] (.null :: st) sh I P nx kx := zq_F_next rfl rfl rfl rfl
set_option maxRecDepth 100000 in
theorem q_L_law_543 {d nx kx : Nat} {st : List Value} {sh : zq_S} {I : zq_I} {P : zq_P} {l1 l2 l3 : Option Value} {a : Nat} : zq_F d 0 543 [some (.ref a), l1, l2, l3] st sh I P nx kx = zq_F d 0 544 [some (.ref a), l1, l2, l3] (.ref a :: st) sh I P nx kx := zq_F_next rfl rfl rfl rfl
set_option maxRecDepth 100000 in
theorem q_L_law_543n {d nx kx : Nat} {st : List Value} {sh : zq_S} {I : zq_I} {P : zq_P} {l1 l2 l3 : Option Value} : zq_F d 0 543 [some .null, l1, l2, l3] st sh I P nx kx = zq_F d 0 544 [some .null, l1, l2, l3] (.null :: st) sh I P nx kx := zq_F_next rfl rfl rfl rfl
set_option maxRecDepth 100000 in
theorem q_L_law_544 {d nx kx : Nat} {st : List Value} {sh : zq_S} {I : zq_I} {P : zq_P} {l0 l1 l2 : Option Value} {x : Int32} : zq_F d 0 544 [l0, l1, l2, some (.int x)] st sh I P nx kx = zq_F d 0 545 [l0, l1, l2, some (.int x)] (.int x :: st) sh I P nx kx := zq_F_next rfl rfl rfl rfl
set_option maxRecDepth 100000 in
theorem q_L_law_545 {d nx kx : Nat} {L : zq_L} {st : List Value} {sh : zq_S} {I : zq_I} {P : zq_P} : zq_F d 0 545 L st sh I P nx kx = zq_F d 0 546 L (.int (nI 1) :: st) sh I P nx kx := zq_r_int rfl (by decide)
set_option maxRecDepth 100000 in
theorem q_L_law_546 {d nx kx : Nat} {L : zq_L} {st : List Value} {sh : zq_S} {I : zq_I} {P : zq_P} {x y : Int32} : zq_F d 0 546 L (.int y :: .int x :: st) sh I P nx kx = zq_F d 0 547 L (.int (x + y) :: st) sh I P nx kx := zq_F_next rfl rfl rfl rfl
set_option maxRecDepth 100000 in
theorem q_L_law_547 {d nx kx : Nat} {L : zq_L} {st : List Value} {sh : zq_S} {I : zq_I} {P : zq_P} {a j : Nat} (h : (sh a).1 = 1) (h1 : j < (sh a).2) (h2 : j < 2147483648) : zq_F d 0 547 L (.int (nI j) :: .ref a :: st) sh I P nx kx = zq_F d 0 548 L (.int (I a j) :: st) sh I P nx kx := zq_n_iald rfl (Or.inr h) h1 h2
set_option maxRecDepth 100000 in
theorem q_L_law_548 {d nx kx : Nat} {L : zq_L} {st : List Value} {sh : zq_S} {I : zq_I} {P : zq_P} {b : Nat} {x0 : Int32} (h : (sh b).1 = 100) (hs : st.length ≤ 4) : zq_F (d + 1) 0 548 L (.int x0 :: .ref b :: st) sh I P nx kx = (zq_C d 18 [.ref b, .int x0] sh I P nx kx).bind fun q => zq_F (d + 1) 0 551 L (q.1.toList ++ st) q.2.1 q.2.2.1 q.2.2.2.1 q.2.2.2.2.1 q.2.2.2.2.2 := zq_F_call rfl rfl (zq_ag (as := [.int x0, .ref b]) rfl rfl rfl hs (Or.inr ⟨b, rfl, Nat.succ_pos _, Or.inr h⟩)) rfl rfl
set_option maxRecDepth 100000 in
theorem q_L_law_551 {d nx kx : Nat} {st : List Value} {sh : zq_S} {I : zq_I} {P : zq_P} {l0 l1 l3 : Option Value} {a : Nat} : zq_F d 0 551 [l0, l1, some (.ref a), l3] st sh I P nx kx = zq_F d 0 552 [l0, l1, some (.ref a), l3] (.ref a :: st) sh I P nx kx := zq_F_next rfl rfl rfl rfl
set_option maxRecDepth 100000 in
theorem q_L_law_551n {d nx kx : Nat} {st : List Value} {sh : zq_S} {I : zq_I} {P : zq_P} {l0 l1 l3 : Option Value} : zq_F d 0 551 [l0, l1, some .null, l3] st sh I P nx kx = zq_F d 0 552 [l0, l1, some .null, l3] (.null :: st) sh I P nx kx := zq_F_next rfl rfl rfl rfl
set_option maxRecDepth 100000 in
theorem q_L_law_552 {d nx kx : Nat} {st : List Value} {sh : zq_S} {I : zq_I} {P : zq_P} {l1 l2 l3 : Option Value} {a : Nat} : zq_F d 0 552 [some (.ref a), l1, l2, l3] st sh I P nx kx = zq_F d 0 553 [some (.ref a), l1, l2, l3] (.ref a :: st) sh I P nx kx := zq_F_next rfl rfl rfl rfl
set_option maxRecDepth 100000 in
theorem q_L_law_552n {d nx kx : Nat} {st : List Value} {sh : zq_S} {I : zq_I} {P : zq_P} {l1 l2 l3 : Option Value} : zq_F d 0 552 [some .null, l1, l2, l3] st sh I P nx kx = zq_F d 0 553 [some .null, l1, l2, l3] (.null :: st) sh I P nx kx := zq_F_next rfl rfl rfl rfl
set_option maxRecDepth 100000 in
theorem q_L_law_553 {d nx kx : Nat} {st : List Value} {sh : zq_S} {I : zq_I} {P : zq_P} {l0 l1 l2 : Option Value} {x : Int32} : zq_F d 0 553 [l0, l1, l2, some (.int x)] st sh I P nx kx = zq_F d 0 554 [l0, l1, l2, some (.int x)] (.int x :: st) sh I P nx kx := zq_F_next rfl rfl rfl rfl
set_option maxRecDepth 100000 in
theorem q_L_law_554 {d nx kx : Nat} {L : zq_L} {st : List Value} {sh : zq_S} {I : zq_I} {P : zq_P} : zq_F d 0 554 L st sh I P nx kx = zq_F d 0 555 L (.int (nI 1) :: st) sh I P nx kx := zq_r_int rfl (by decide)
set_option maxRecDepth 100000 in
theorem q_L_law_555 {d nx kx : Nat} {L : zq_L} {st : List Value} {sh : zq_S} {I : zq_I} {P : zq_P} {x y : Int32} : zq_F d 0 555 L (.int y :: .int x :: st) sh I P nx kx = zq_F d 0 556 L (.int (x + y) :: st) sh I P nx kx := zq_F_next rfl rfl rfl rfl
set_option maxRecDepth 100000 in
theorem q_L_law_556 {d nx kx : Nat} {L : zq_L} {st : List Value} {sh : zq_S} {I : zq_I} {P : zq_P} {a j : Nat} (h : (sh a).1 = 1) (h1 : j < (sh a).2) (h2 : j < 2147483648) : zq_F d 0 556 L (.int (nI j) :: .ref a :: st) sh I P nx kx = zq_F d 0 557 L (.int (I a j) :: st) sh I P nx kx := zq_n_iald rfl (Or.inr h) h1 h2
set_option maxRecDepth 100000 in
theorem q_L_law_557 {d nx kx : Nat} {L : zq_L} {st : List Value} {sh : zq_S} {I : zq_I} {P : zq_P} {b : Nat} {x0 : Int32} (h : (sh b).1 = 106) (hs : st.length ≤ 4) : zq_F (d + 1) 0 557 L (.int x0 :: .ref b :: st) sh I P nx kx = (zq_C d 101 [.ref b, .int x0] sh I P nx kx).bind fun q => zq_F (d + 1) 0 560 L (q.1.toList ++ st) q.2.1 q.2.2.1 q.2.2.2.1 q.2.2.2.2.1 q.2.2.2.2.2 := zq_F_call rfl rfl (zq_ag (as := [.int x0, .ref b]) rfl rfl rfl hs (Or.inr ⟨b, rfl, Nat.succ_pos _, Or.inr h⟩)) rfl rfl
set_option maxRecDepth 100000 in
theorem q_L_law_560 {d nx kx : Nat} {L : zq_L} {st : List Value} {sh : zq_S} {I : zq_I} {P : zq_P} {x y : Int32} : zq_F d 0 560 L (.int y :: .int x :: st) sh I P nx kx = if x = y then zq_F d 0 611 L st sh I P nx kx else zq_F d 0 563 L st sh I P nx kx := zq_r_if2 rfl (by decide) (zq_c_eq x y)
set_option maxRecDepth 100000 in
theorem q_L_law_563 {d nx kx : Nat} {L : zq_L} {st : List Value} {sh : zq_S} {I : zq_I} {P : zq_P} : zq_F d 0 563 L st sh I P nx kx = zq_F d 0 564 L (.int (nI 0) :: st) sh I P nx kx := zq_r_int rfl (by decide)
set_option maxRecDepth 100000 in
theorem q_L_law_564_0 {d nx kx : Nat} {L : zq_L} {sh : zq_S} {I : zq_I} {P : zq_P} : zq_F d 0 564 L [.int (nI 0)] sh I P nx kx = some (some (.int (nI 0)), sh, I, P, nx, kx) := zq_r_retz rfl rfl (Or.inl rfl)
set_option maxRecDepth 100000 in
theorem q_L_law_564_1 {d nx kx : Nat} {L : zq_L} {sh : zq_S} {I : zq_I} {P : zq_P} : zq_F d 0 564 L [.int (nI 1)] sh I P nx kx = some (some (.int (nI 1)), sh, I, P, nx, kx) := zq_r_retz rfl rfl (Or.inr rfl)
set_option maxRecDepth 100000 in
theorem q_L_law_564_b {d nx kx : Nat} {L : zq_L} {sh : zq_S} {I : zq_I} {P : zq_P} {p : Prop} : zq_F d 0 564 L [.int (zq_b p)] sh I P nx kx = some (some (.int (zq_b p)), sh, I, P, nx, kx) := zq_r_retz rfl rfl (zq_b_01 p)
set_option maxRecDepth 100000 in
theorem q_L_law_565 {d nx kx : Nat} {st : List Value} {sh : zq_S} {I : zq_I} {P : zq_P} {l0 l2 l3 : Option Value} {a : Nat} : zq_F d 0 565 [l0, some (.ref a), l2, l3] st sh I P nx kx = zq_F d 0 566 [l0, some (.ref a), l2, l3] (.ref a :: st) sh I P nx kx := zq_F_next rfl rfl rfl rfl
set_option maxRecDepth 100000 in
theorem q_L_law_565n {d nx kx : Nat} {st : List Value} {sh : zq_S} {I : zq_I} {P : zq_P} {l0 l2 l3 : Option Value} : zq_F d 0 565 [l0, some .null, l2, l3] st sh I P nx kx = zq_F d 0 566 [l0, some .null, l2, l3] (.null :: st) sh I P nx kx := zq_F_next rfl rfl rfl rfl
set_option maxRecDepth 100000 in
theorem q_L_law_566 {d nx kx : Nat} {st : List Value} {sh : zq_S} {I : zq_I} {P : zq_P} {l1 l2 l3 : Option Value} {a : Nat} : zq_F d 0 566 [some (.ref a), l1, l2, l3] st sh I P nx kx = zq_F d 0 567 [some (.ref a), l1, l2, l3] (.ref a :: st) sh I P nx kx := zq_F_next rfl rfl rfl rfl
set_option maxRecDepth 100000 in
theorem q_L_law_566n {d nx kx : Nat} {st : List Value} {sh : zq_S} {I : zq_I} {P : zq_P} {l1 l2 l3 : Option Value} : zq_F d 0 566 [some .null, l1, l2, l3] st sh I P nx kx = zq_F d 0 567 [some .null, l1, l2, l3] (.null :: st) sh I P nx kx := zq_F_next rfl rfl rfl rfl
set_option maxRecDepth 100000 in
theorem q_L_law_567 {d nx kx : Nat} {st : List Value} {sh : zq_S} {I : zq_I} {P : zq_P} {l0 l1 l2 : Option Value} {x : Int32} : zq_F d 0 567 [l0, l1, l2, some (.int x)] st sh I P nx kx = zq_F d 0 568 [l0, l1, l2, some (.int x)] (.int x :: st) sh I P nx kx := zq_F_next rfl rfl rfl rfl
set_option maxRecDepth 100000 in
theorem q_L_law_568 {d nx kx : Nat} {L : zq_L} {st : List Value} {sh : zq_S} {I : zq_I} {P : zq_P} : zq_F d 0 568 L st sh I P nx kx = zq_F d 0 569 L (.int (nI 1) :: st) sh I P nx kx := zq_r_int rfl (by decide)
set_option maxRecDepth 100000 in
theorem q_L_law_569 {d nx kx : Nat} {L : zq_L} {st : List Value} {sh : zq_S} {I : zq_I} {P : zq_P} {x y : Int32} : zq_F d 0 569 L (.int y :: .int x :: st) sh I P nx kx = zq_F d 0 570 L (.int (x + y) :: st) sh I P nx kx := zq_F_next rfl rfl rfl rfl
set_option maxRecDepth 100000 in
theorem q_L_law_570 {d nx kx : Nat} {L : zq_L} {st : List Value} {sh : zq_S} {I : zq_I} {P : zq_P} {a j : Nat} (h : (sh a).1 = 1) (h1 : j < (sh a).2) (h2 : j < 2147483648) : zq_F d 0 570 L (.int (nI j) :: .ref a :: st) sh I P nx kx = zq_F d 0 571 L (.int (I a j) :: st) sh I P nx kx := zq_n_iald rfl (Or.inr h) h1 h2
set_option maxRecDepth 100000 in
theorem q_L_law_571 {d nx kx : Nat} {L : zq_L} {st : List Value} {sh : zq_S} {I : zq_I} {P : zq_P} {b : Nat} {x0 : Int32} (h : (sh b).1 = 100) (hs : st.length ≤ 4) : zq_F (d + 1) 0 571 L (.int x0 :: .ref b :: st) sh I P nx kx = (zq_C d 19 [.ref b, .int x0] sh I P nx kx).bind fun q => zq_F (d + 1) 0 574 L (q.1.toList ++ st) q.2.1 q.2.2.1 q.2.2.2.1 q.2.2.2.2.1 q.2.2.2.2.2 := zq_F_call rfl rfl (zq_ag (as := [.int x0, .ref b]) rfl rfl rfl hs (Or.inr ⟨b, rfl, Nat.succ_pos _, Or.inr h⟩)) rfl rfl
set_option maxRecDepth 100000 in
theorem q_L_law_574 {d nx kx : Nat} {st : List Value} {sh : zq_S} {I : zq_I} {P : zq_P} {l0 l1 l3 : Option Value} {a : Nat} : zq_F d 0 574 [l0, l1, some (.ref a), l3] st sh I P nx kx = zq_F d 0 575 [l0, l1, some (.ref a), l3] (.ref a :: st) sh I P nx kx := zq_F_next rfl rfl rfl rfl
set_option maxRecDepth 100000 in
theorem q_L_law_574n {d nx kx : Nat} {st : List Value} {sh : zq_S} {I : zq_I} {P : zq_P} {l0 l1 l3 : Option Value} : zq_F d 0 574 [l0, l1, some .null, l3] st sh I P nx kx = zq_F d 0 575 [l0, l1, some .null, l3] (.null :: st) sh I P nx kx := zq_F_next rfl rfl rfl rfl
set_option maxRecDepth 100000 in
theorem q_L_law_575 {d nx kx : Nat} {st : List Value} {sh : zq_S} {I : zq_I} {P : zq_P} {l1 l2 l3 : Option Value} {a : Nat} : zq_F d 0 575 [some (.ref a), l1, l2, l3] st sh I P nx kx = zq_F d 0 576 [some (.ref a), l1, l2, l3] (.ref a :: st) sh I P nx kx := zq_F_next rfl rfl rfl rfl
set_option maxRecDepth 100000 in
theorem q_L_law_575n {d nx kx : Nat} {st : List Value} {sh : zq_S} {I : zq_I} {P : zq_P} {l1 l2 l3 : Option Value} : zq_F d 0 575 [some .null, l1, l2, l3] st sh I P nx kx = zq_F d 0 576 [some .null, l1, l2, l3] (.null :: st) sh I P nx kx := zq_F_next rfl rfl rfl rfl
set_option maxRecDepth 100000 in
theorem q_L_law_576 {d nx kx : Nat} {st : List Value} {sh : zq_S} {I : zq_I} {P : zq_P} {l0 l1 l2 : Option Value} {x : Int32} : zq_F d 0 576 [l0, l1, l2, some (.int x)] st sh I P nx kx = zq_F d 0 577 [l0, l1, l2, some (.int x)] (.int x :: st) sh I P nx kx := zq_F_next rfl rfl rfl rfl
set_option maxRecDepth 100000 in
theorem q_L_law_577 {d nx kx : Nat} {L : zq_L} {st : List Value} {sh : zq_S} {I : zq_I} {P : zq_P} : zq_F d 0 577 L st sh I P nx kx = zq_F d 0 578 L (.int (nI 1) :: st) sh I P nx kx := zq_r_int rfl (by decide)
set_option maxRecDepth 100000 in
theorem q_L_law_578 {d nx kx : Nat} {L : zq_L} {st : List Value} {sh : zq_S} {I : zq_I} {P : zq_P} {x y : Int32} : zq_F d 0 578 L (.int y :: .int x :: st) sh I P nx kx = zq_F d 0 579 L (.int (x + y) :: st) sh I P nx kx := zq_F_next rfl rfl rfl rfl
set_option maxRecDepth 100000 in
theorem q_L_law_579 {d nx kx : Nat} {L : zq_L} {st : List Value} {sh : zq_S} {I : zq_I} {P : zq_P} {a j : Nat} (h : (sh a).1 = 1) (h1 : j < (sh a).2) (h2 : j < 2147483648) : zq_F d 0 579 L (.int (nI j) :: .ref a :: st) sh I P nx kx = zq_F d 0 580 L (.int (I a j) :: st) sh I P nx kx := zq_n_iald rfl (Or.inr h) h1 h2
set_option maxRecDepth 100000 in
theorem q_L_law_580 {d nx kx : Nat} {L : zq_L} {st : List Value} {sh : zq_S} {I : zq_I} {P : zq_P} {b : Nat} {x0 : Int32} (h : (sh b).1 = 106) (hs : st.length ≤ 4) : zq_F (d + 1) 0 580 L (.int x0 :: .ref b :: st) sh I P nx kx = (zq_C d 102 [.ref b, .int x0] sh I P nx kx).bind fun q => zq_F (d + 1) 0 583 L (q.1.toList ++ st) q.2.1 q.2.2.1 q.2.2.2.1 q.2.2.2.2.1 q.2.2.2.2.2 := zq_F_call rfl rfl (zq_ag (as := [.int x0, .ref b]) rfl rfl rfl hs (Or.inr ⟨b, rfl, Nat.succ_pos _, Or.inr h⟩)) rfl rfl
set_option maxRecDepth 100000 in
theorem q_L_law_583 {d nx kx : Nat} {L : zq_L} {st : List Value} {sh : zq_S} {I : zq_I} {P : zq_P} {x y : Int32} : zq_F d 0 583 L (.int y :: .int x :: st) sh I P nx kx = if x = y then zq_F d 0 611 L st sh I P nx kx else zq_F d 0 586 L st sh I P nx kx := zq_r_if2 rfl (by decide) (zq_c_eq x y)
set_option maxRecDepth 100000 in
theorem q_L_law_586 {d nx kx : Nat} {L : zq_L} {st : List Value} {sh : zq_S} {I : zq_I} {P : zq_P} : zq_F d 0 586 L st sh I P nx kx = zq_F d 0 587 L (.int (nI 0) :: st) sh I P nx kx := zq_r_int rfl (by decide)
set_option maxRecDepth 100000 in
theorem q_L_law_587_0 {d nx kx : Nat} {L : zq_L} {sh : zq_S} {I : zq_I} {P : zq_P} : zq_F d 0 587 L [.int (nI 0)] sh I P nx kx = some (some (.int (nI 0)), sh, I, P, nx, kx) := zq_r_retz rfl rfl (Or.inl rfl)
set_option maxRecDepth 100000 in
theorem q_L_law_587_1 {d nx kx : Nat} {L : zq_L} {sh : zq_S} {I : zq_I} {P : zq_P} : zq_F d 0 587 L [.int (nI 1)] sh I P nx kx = some (some (.int (nI 1)), sh, I, P, nx, kx) := zq_r_retz rfl rfl (Or.inr rfl)
set_option maxRecDepth 100000 in
theorem q_L_law_587_b {d nx kx : Nat} {L : zq_L} {sh : zq_S} {I : zq_I} {P : zq_P} {p : Prop} : zq_F d 0 587 L [.int (zq_b p)] sh I P nx kx = some (some (.int (zq_b p)), sh, I, P, nx, kx) := zq_r_retz rfl rfl (zq_b_01 p)
set_option maxRecDepth 100000 in
theorem q_L_law_588 {d nx kx : Nat} {st : List Value} {sh : zq_S} {I : zq_I} {P : zq_P} {l0 l2 l3 : Option Value} {a : Nat} : zq_F d 0 588 [l0, some (.ref a), l2, l3] st sh I P nx kx = zq_F d 0 589 [l0, some (.ref a), l2, l3] (.ref a :: st) sh I P nx kx := zq_F_next rfl rfl rfl rfl
set_option maxRecDepth 100000 in
theorem q_L_law_588n {d nx kx : Nat} {st : List Value} {sh : zq_S} {I : zq_I} {P : zq_P} {l0 l2 l3 : Option Value} : zq_F d 0 588 [l0, some .null, l2, l3] st sh I P nx kx = zq_F d 0 589 [l0, some .null, l2, l3] (.null :: st) sh I P nx kx := zq_F_next rfl rfl rfl rfl
set_option maxRecDepth 100000 in
theorem q_L_law_589 {d nx kx : Nat} {st : List Value} {sh : zq_S} {I : zq_I} {P : zq_P} {l1 l2 l3 : Option Value} {a : Nat} : zq_F d 0 589 [some (.ref a), l1, l2, l3] st sh I P nx kx = zq_F d 0 590 [some (.ref a), l1, l2, l3] (.ref a :: st) sh I P nx kx := zq_F_next rfl rfl rfl rfl
set_option maxRecDepth 100000 in
theorem q_L_law_589n {d nx kx : Nat} {st : List Value} {sh : zq_S} {I : zq_I} {P : zq_P} {l1 l2 l3 : Option Value} : zq_F d 0 589 [some .null, l1, l2, l3] st sh I P nx kx = zq_F d 0 590 [some .null, l1, l2, l3] (.null :: st) sh I P nx kx := zq_F_next rfl rfl rfl rfl
set_option maxRecDepth 100000 in
theorem q_L_law_590 {d nx kx : Nat} {st : List Value} {sh : zq_S} {I : zq_I} {P : zq_P} {l0 l1 l2 : Option Value} {x : Int32} : zq_F d 0 590 [l0, l1, l2, some (.int x)] st sh I P nx kx = zq_F d 0 591 [l0, l1, l2, some (.int x)] (.int x :: st) sh I P nx kx := zq_F_next rfl rfl rfl rfl
set_option maxRecDepth 100000 in
theorem q_L_law_591 {d nx kx : Nat} {L : zq_L} {st : List Value} {sh : zq_S} {I : zq_I} {P : zq_P} : zq_F d 0 591 L st sh I P nx kx = zq_F d 0 592 L (.int (nI 1) :: st) sh I P nx kx := zq_r_int rfl (by decide)
set_option maxRecDepth 100000 in
theorem q_L_law_592 {d nx kx : Nat} {L : zq_L} {st : List Value} {sh : zq_S} {I : zq_I} {P : zq_P} {x y : Int32} : zq_F d 0 592 L (.int y :: .int x :: st) sh I P nx kx = zq_F d 0 593 L (.int (x + y) :: st) sh I P nx kx := zq_F_next rfl rfl rfl rfl
set_option maxRecDepth 100000 in
theorem q_L_law_593 {d nx kx : Nat} {L : zq_L} {st : List Value} {sh : zq_S} {I : zq_I} {P : zq_P} {a j : Nat} (h : (sh a).1 = 1) (h1 : j < (sh a).2) (h2 : j < 2147483648) : zq_F d 0 593 L (.int (nI j) :: .ref a :: st) sh I P nx kx = zq_F d 0 594 L (.int (I a j) :: st) sh I P nx kx := zq_n_iald rfl (Or.inr h) h1 h2
set_option maxRecDepth 100000 in
theorem q_L_law_594 {d nx kx : Nat} {L : zq_L} {st : List Value} {sh : zq_S} {I : zq_I} {P : zq_P} {b : Nat} {x0 : Int32} (h : (sh b).1 = 100) (hs : st.length ≤ 4) : zq_F (d + 1) 0 594 L (.int x0 :: .ref b :: st) sh I P nx kx = (zq_C d 20 [.ref b, .int x0] sh I P nx kx).bind fun q => zq_F (d + 1) 0 597 L (q.1.toList ++ st) q.2.1 q.2.2.1 q.2.2.2.1 q.2.2.2.2.1 q.2.2.2.2.2 := zq_F_call rfl rfl (zq_ag (as := [.int x0, .ref b]) rfl rfl rfl hs (Or.inr ⟨b, rfl, Nat.succ_pos _, Or.inr h⟩)) rfl rfl
set_option maxRecDepth 100000 in
theorem q_L_law_597 {d nx kx : Nat} {st : List Value} {sh : zq_S} {I : zq_I} {P : zq_P} {l0 l1 l3 : Option Value} {a : Nat} : zq_F d 0 597 [l0, l1, some (.ref a), l3] st sh I P nx kx = zq_F d 0 598 [l0, l1, some (.ref a), l3] (.ref a :: st) sh I P nx kx := zq_F_next rfl rfl rfl rfl
set_option maxRecDepth 100000 in
theorem q_L_law_597n {d nx kx : Nat} {st : List Value} {sh : zq_S} {I : zq_I} {P : zq_P} {l0 l1 l3 : Option Value} : zq_F d 0 597 [l0, l1, some .null, l3] st sh I P nx kx = zq_F d 0 598 [l0, l1, some .null, l3] (.null :: st) sh I P nx kx := zq_F_next rfl rfl rfl rfl
set_option maxRecDepth 100000 in
theorem q_L_law_598 {d nx kx : Nat} {st : List Value} {sh : zq_S} {I : zq_I} {P : zq_P} {l1 l2 l3 : Option Value} {a : Nat} : zq_F d 0 598 [some (.ref a), l1, l2, l3] st sh I P nx kx = zq_F d 0 599 [some (.ref a), l1, l2, l3] (.ref a :: st) sh I P nx kx := zq_F_next rfl rfl rfl rfl
set_option maxRecDepth 100000 in
theorem q_L_law_598n {d nx kx : Nat} {st : List Value} {sh : zq_S} {I : zq_I} {P : zq_P} {l1 l2 l3 : Option Value} : zq_F d 0 598 [some .null, l1, l2, l3] st sh I P nx kx = zq_F d 0 599 [some .null, l1, l2, l3] (.null :: st) sh I P nx kx := zq_F_next rfl rfl rfl rfl
set_option maxRecDepth 100000 in
theorem q_L_law_599 {d nx kx : Nat} {st : List Value} {sh : zq_S} {I : zq_I} {P : zq_P} {l0 l1 l2 : Option Value} {x : Int32} : zq_F d 0 599 [l0, l1, l2, some (.int x)] st sh I P nx kx = zq_F d 0 600 [l0, l1, l2, some (.int x)] (.int x :: st) sh I P nx kx := zq_F_next rfl rfl rfl rfl
set_option maxRecDepth 100000 in
theorem q_L_law_600 {d nx kx : Nat} {L : zq_L} {st : List Value} {sh : zq_S} {I : zq_I} {P : zq_P} : zq_F d 0 600 L st sh I P nx kx = zq_F d 0 601 L (.int (nI 1) :: st) sh I P nx kx := zq_r_int rfl (by decide)
set_option maxRecDepth 100000 in
theorem q_L_law_601 {d nx kx : Nat} {L : zq_L} {st : List Value} {sh : zq_S} {I : zq_I} {P : zq_P} {x y : Int32} : zq_F d 0 601 L (.int y :: .int x :: st) sh I P nx kx = zq_F d 0 602 L (.int (x + y) :: st) sh I P nx kx := zq_F_next rfl rfl rfl rfl
set_option maxRecDepth 100000 in
theorem q_L_law_602 {d nx kx : Nat} {L : zq_L} {st : List Value} {sh : zq_S} {I : zq_I} {P : zq_P} {a j : Nat} (h : (sh a).1 = 1) (h1 : j < (sh a).2) (h2 : j < 2147483648) : zq_F d 0 602 L (.int (nI j) :: .ref a :: st) sh I P nx kx = zq_F d 0 603 L (.int (I a j) :: st) sh I P nx kx := zq_n_iald rfl (Or.inr h) h1 h2
set_option maxRecDepth 100000 in
theorem q_L_law_603 {d nx kx : Nat} {L : zq_L} {st : List Value} {sh : zq_S} {I : zq_I} {P : zq_P} {b : Nat} {x0 : Int32} (h : (sh b).1 = 106) (hs : st.length ≤ 4) : zq_F (d + 1) 0 603 L (.int x0 :: .ref b :: st) sh I P nx kx = (zq_C d 111 [.ref b, .int x0] sh I P nx kx).bind fun q => zq_F (d + 1) 0 606 L (q.1.toList ++ st) q.2.1 q.2.2.1 q.2.2.2.1 q.2.2.2.2.1 q.2.2.2.2.2 := zq_F_call rfl rfl (zq_ag (as := [.int x0, .ref b]) rfl rfl rfl hs (Or.inr ⟨b, rfl, Nat.succ_pos _, Or.inr h⟩)) rfl rfl
set_option maxRecDepth 100000 in
theorem q_L_law_606 {d nx kx : Nat} {L : zq_L} {st : List Value} {sh : zq_S} {I : zq_I} {P : zq_P} {x y : Int32} : zq_F d 0 606 L (.int y :: .int x :: st) sh I P nx kx = if x = y then zq_F d 0 611 L st sh I P nx kx else zq_F d 0 609 L st sh I P nx kx := zq_r_if2 rfl (by decide) (zq_c_eq x y)
set_option maxRecDepth 100000 in
theorem q_L_law_609 {d nx kx : Nat} {L : zq_L} {st : List Value} {sh : zq_S} {I : zq_I} {P : zq_P} : zq_F d 0 609 L st sh I P nx kx = zq_F d 0 610 L (.int (nI 0) :: st) sh I P nx kx := zq_r_int rfl (by decide)
set_option maxRecDepth 100000 in
theorem q_L_law_610_0 {d nx kx : Nat} {L : zq_L} {sh : zq_S} {I : zq_I} {P : zq_P} : zq_F d 0 610 L [.int (nI 0)] sh I P nx kx = some (some (.int (nI 0)), sh, I, P, nx, kx) := zq_r_retz rfl rfl (Or.inl rfl)
set_option maxRecDepth 100000 in
theorem q_L_law_610_1 {d nx kx : Nat} {L : zq_L} {sh : zq_S} {I : zq_I} {P : zq_P} : zq_F d 0 610 L [.int (nI 1)] sh I P nx kx = some (some (.int (nI 1)), sh, I, P, nx, kx) := zq_r_retz rfl rfl (Or.inr rfl)
set_option maxRecDepth 100000 in
theorem q_L_law_610_b {d nx kx : Nat} {L : zq_L} {sh : zq_S} {I : zq_I} {P : zq_P} {p : Prop} : zq_F d 0 610 L [.int (zq_b p)] sh I P nx kx = some (some (.int (zq_b p)), sh, I, P, nx, kx) := zq_r_retz rfl rfl (zq_b_01 p)
set_option maxRecDepth 100000 in
theorem q_L_law_611 {d nx kx : Nat} {st : List Value} {sh : zq_S} {I : zq_I} {P : zq_P} {l0 l1 l2 : Option Value} {x : Int32} : zq_F d 0 611 [l0, l1, l2, some (.int x)] st sh I P nx kx = zq_F d 0 614 [l0, l1, l2, some (.int (x + (nI 4)))] st sh I P nx kx := zq_r_inc rfl (by decide) rfl rfl
set_option maxRecDepth 100000 in
theorem q_L_law_614 {d nx kx : Nat} {L : zq_L} {st : List Value} {sh : zq_S} {I : zq_I} {P : zq_P} : zq_F d 0 614 L st sh I P nx kx = zq_F d 0 18 L st sh I P nx kx := zq_r_goto rfl (by decide)
set_option maxRecDepth 100000 in
theorem q_L_law_617 {d nx kx : Nat} {L : zq_L} {st : List Value} {sh : zq_S} {I : zq_I} {P : zq_P} : zq_F d 0 617 L st sh I P nx kx = zq_F d 0 618 L (.int (nI 1) :: st) sh I P nx kx := zq_r_int rfl (by decide)
set_option maxRecDepth 100000 in
theorem q_L_law_618_0 {d nx kx : Nat} {L : zq_L} {sh : zq_S} {I : zq_I} {P : zq_P} : zq_F d 0 618 L [.int (nI 0)] sh I P nx kx = some (some (.int (nI 0)), sh, I, P, nx, kx) := zq_r_retz rfl rfl (Or.inl rfl)
set_option maxRecDepth 100000 in
theorem q_L_law_618_1 {d nx kx : Nat} {L : zq_L} {sh : zq_S} {I : zq_I} {P : zq_P} : zq_F d 0 618 L [.int (nI 1)] sh I P nx kx = some (some (.int (nI 1)), sh, I, P, nx, kx) := zq_r_retz rfl rfl (Or.inr rfl)
set_option maxRecDepth 100000 in
theorem q_L_law_618_b {d nx kx : Nat} {L : zq_L} {sh : zq_S} {I : zq_I} {P : zq_P} {p : Prop} : zq_F d 0 618 L [.int (zq_b p)] sh I P nx kx = some (some (.int (zq_b p)), sh, I, P, nx, kx) := zq_r_retz rfl rfl (zq_b_01 p)
