theorem inCo {big l : List Cond} {a : Cond} (h1 : a ∈ big) (h2 : ∀ w ∈ l, w ∈ big) : ∀ w ∈ a :: l, w ∈ big := List.forall_mem_cons.mpr ⟨h1, h2⟩
theorem inNi {big : List Cond} : ∀ w ∈ ([] : List Cond), w ∈ big := fun _ h => absurd h List.not_mem_nil
set_option maxRecDepth 20000 in
theorem inW_wsX8_init_r1 : ∀ w ∈ wsX8_init_r1, w ∈ lw_tbl := inCo mw_1_9 (inCo mw_1_10 (inCo mw_1_11 (inCo mw_1_12 (inCo mw_1_13 (inCo mw_1_14 (inCo mw_1_15 (inCo mw_1_16 (inCo mw_1_17 (inCo mw_1_18 (inCo mw_1_19 (inCo mw_1_20 (inCo mw_1_21 (inCo mw_1_22 (inCo mw_1_23 (inCo mw_2_0 (inCo mw_2_1 (inCo mw_2_2 (inCo mw_2_3 (inCo mw_2_4 (inCo mw_2_5 (inCo mw_2_6 (inCo mw_2_7 (inCo mw_2_8 (inNi))))))))))))))))))))))))
set_option maxRecDepth 20000 in
theorem inW_wsX8_init_r2 : ∀ w ∈ wsX8_init_r2, w ∈ lw_tbl := inCo mw_2_9 (inCo mw_2_10 (inCo mw_2_11 (inCo mw_2_12 (inCo mw_2_13 (inCo mw_2_14 (inCo mw_2_15 (inCo mw_2_16 (inCo mw_2_17 (inCo mw_2_18 (inCo mw_2_19 (inCo mw_2_20 (inCo mw_2_21 (inCo mw_2_22 (inCo mw_2_23 (inCo mw_3_0 (inCo mw_3_1 (inCo mw_3_2 (inCo mw_3_3 (inCo mw_3_4 (inCo mw_3_5 (inCo mw_3_6 (inCo mw_3_7 (inCo mw_3_8 (inNi))))))))))))))))))))))))
set_option maxRecDepth 20000 in
theorem inW_wsX8_init_r3 : ∀ w ∈ wsX8_init_r3, w ∈ lw_tbl := inCo mw_3_9 (inCo mw_3_10 (inCo mw_3_11 (inCo mw_3_12 (inCo mw_3_13 (inCo mw_3_14 (inCo mw_3_15 (inCo mw_3_16 (inCo mw_3_17 (inCo mw_3_18 (inCo mw_3_19 (inCo mw_3_20 (inCo mw_3_21 (inCo mw_3_22 (inCo mw_3_23 (inCo mw_4_0 (inCo mw_4_1 (inCo mw_4_2 (inCo mw_4_3 (inCo mw_4_4 (inCo mw_4_5 (inCo mw_4_6 (inCo mw_4_7 (inCo mw_4_8 (inNi))))))))))))))))))))))))
set_option maxRecDepth 20000 in
theorem inW_wsX8_init_r4 : ∀ w ∈ wsX8_init_r4, w ∈ lw_tbl := inCo mw_4_9 (inCo mw_4_10 (inCo mw_4_11 (inCo mw_4_12 (inCo mw_4_13 (inCo mw_4_14 (inCo mw_4_15 (inCo mw_4_16 (inCo mw_4_17 (inCo mw_4_18 (inNi))))))))))
set_option maxRecDepth 20000 in
theorem inW_wsX8_init : ∀ w ∈ wsX8_init, w ∈ lw_tbl := inCo mw_1_8 (inAp (inAp (inAp (inAp (inAp (inAp (inAp (inAp (inAp (inAp (inW_wsX8_init_r1) (inAp (inW_wsX8_init_r2) (inAp (inW_wsX8_init_r3) (inW_wsX8_init_r4)))) (inT_X8)) (inT_X4)) (inT_X6)) (inT_X2)) (inT_X5)) (inT_X0)) (inT_X3)) (inT_X1)) (inT_X7))
set_option maxRecDepth 20000 in
theorem ggL_X8_init : GoodIn lw_tbl wsX8_init := goodIn_sub inW_wsX8_init (by decide +kernel)
set_option maxRecDepth 20000 in
theorem inW_wsX9_init_r1 : ∀ w ∈ wsX9_init_r1, w ∈ lw_tbl := inCo mw_4_22 (inCo mw_1_10 (inCo mw_1_11 (inCo mw_2_15 (inCo mw_4_23 (inCo mw_5_0 (inCo mw_5_1 (inCo mw_5_2 (inCo mw_5_3 (inCo mw_5_4 (inCo mw_5_5 (inCo mw_5_6 (inCo mw_5_7 (inCo mw_5_8 (inCo mw_5_9 (inCo mw_5_10 (inCo mw_5_11 (inCo mw_5_12 (inCo mw_5_13 (inCo mw_5_14 (inCo mw_5_15 (inCo mw_5_16 (inCo mw_5_17 (inCo mw_5_18 (inNi))))))))))))))))))))))))
set_option maxRecDepth 20000 in
theorem inW_wsX9_init_r2 : ∀ w ∈ wsX9_init_r2, w ∈ lw_tbl := inCo mw_5_19 (inCo mw_5_20 (inCo mw_5_21 (inCo mw_5_22 (inCo mw_5_23 (inCo mw_6_0 (inNi))))))
set_option maxRecDepth 20000 in
theorem inW_wsX9_init : ∀ w ∈ wsX9_init, w ∈ lw_tbl := inCo mw_4_21 (inAp (inAp (inW_wsX9_init_r1) (inW_wsX9_init_r2)) (inT_X9))
set_option maxRecDepth 20000 in
theorem ggL_X9_init : GoodIn lw_tbl wsX9_init := goodIn_sub inW_wsX9_init (by decide +kernel)
set_option maxRecDepth 20000 in
theorem inW_wsX8_land_r1 : ∀ w ∈ wsX8_land_r1, w ∈ lw_tbl := inCo mw_6_5 (inCo mw_1_13 (inCo mw_1_19 (inCo mw_6_6 (inCo mw_1_23 (inCo mw_2_11 (inCo mw_6_7 (inCo mw_6_8 (inCo mw_6_9 (inCo mw_6_10 (inCo mw_1_2 (inCo mw_6_11 (inCo mw_6_12 (inCo mw_6_13 (inCo mw_6_14 (inCo mw_6_15 (inCo mw_6_16 (inCo mw_6_17 (inCo mw_1_15 (inCo mw_6_18 (inCo mw_6_19 (inCo mw_6_20 (inCo mw_6_21 (inCo mw_6_22 (inNi))))))))))))))))))))))))
set_option maxRecDepth 20000 in
theorem inW_wsX8_land_r2 : ∀ w ∈ wsX8_land_r2, w ∈ lw_tbl := inCo mw_6_23 (inCo mw_2_17 (inCo mw_7_0 (inCo mw_7_1 (inCo mw_7_2 (inCo mw_7_3 (inCo mw_7_4 (inCo mw_7_5 (inCo mw_7_6 (inCo mw_7_7 (inCo mw_7_8 (inCo mw_7_9 (inCo mw_7_10 (inCo mw_1_18 (inCo mw_7_11 (inCo mw_7_12 (inCo mw_7_13 (inCo mw_7_14 (inCo mw_7_15 (inCo mw_7_16 (inCo mw_7_17 (inCo mw_7_18 (inCo mw_7_19 (inCo mw_7_20 (inNi))))))))))))))))))))))))
set_option maxRecDepth 20000 in
theorem inW_wsX8_land_r3 : ∀ w ∈ wsX8_land_r3, w ∈ lw_tbl := inCo mw_7_21 (inCo mw_7_22 (inCo mw_7_23 (inCo mw_8_0 (inCo mw_8_1 (inCo mw_8_2 (inCo mw_8_3 (inCo mw_8_4 (inCo mw_8_5 (inCo mw_8_6 (inCo mw_8_7 (inCo mw_8_8 (inCo mw_8_9 (inCo mw_8_10 (inCo mw_8_11 (inCo mw_8_12 (inCo mw_8_13 (inCo mw_8_14 (inCo mw_8_15 (inCo mw_8_16 (inCo mw_2_21 (inCo mw_2_22 (inCo mw_2_23 (inCo mw_8_17 (inNi))))))))))))))))))))))))
set_option maxRecDepth 20000 in
theorem inW_wsX8_land_r4 : ∀ w ∈ wsX8_land_r4, w ∈ lw_tbl := inCo mw_8_18 (inCo mw_8_19 (inCo mw_8_20 (inCo mw_8_21 (inCo mw_8_22 (inCo mw_8_23 (inCo mw_9_0 (inCo mw_9_1 (inCo mw_9_2 (inCo mw_9_3 (inCo mw_1_22 (inCo mw_9_4 (inCo mw_9_5 (inCo mw_9_6 (inCo mw_9_7 (inCo mw_9_8 (inCo mw_9_9 (inCo mw_9_10 (inCo mw_9_11 (inCo mw_9_12 (inCo mw_9_13 (inCo mw_9_14 (inCo mw_3_4 (inCo mw_9_15 (inNi))))))))))))))))))))))))
set_option maxRecDepth 20000 in
theorem inW_wsX8_land_r5 : ∀ w ∈ wsX8_land_r5, w ∈ lw_tbl := inCo mw_3_5 (inCo mw_3_6 (inCo mw_9_16 (inCo mw_9_17 (inCo mw_9_18 (inCo mw_9_19 (inCo mw_9_20 (inCo mw_9_21 (inCo mw_3_10 (inCo mw_9_22 (inCo mw_9_23 (inCo mw_3_8 (inCo mw_10_0 (inCo mw_10_1 (inCo mw_10_2 (inCo mw_10_3 (inNi))))))))))))))))
set_option maxRecDepth 20000 in
theorem inW_wsX8_land : ∀ w ∈ wsX8_land, w ∈ lw_tbl := inCo mw_6_4 (inAp (inAp (inAp (inAp (inAp (inAp (inAp (inAp (inW_wsX8_land_r1) (inAp (inW_wsX8_land_r2) (inAp (inW_wsX8_land_r3) (inAp (inW_wsX8_land_r4) (inW_wsX8_land_r5))))) (inT_X8)) (inT_X6)) (inT_X3)) (inT_X2)) (inT_X4)) (inT_X7)) (inT_X1))
set_option maxRecDepth 20000 in
theorem ggL_X8_land : GoodIn lw_tbl wsX8_land := goodIn_sub inW_wsX8_land (by decide +kernel)
set_option maxRecDepth 20000 in
theorem gL_X8_land : GoodIn lw_tbl (wsV RL 13 RX8 yX8_land wsX8_land) := goodIn_app (goodIn_sub (inCo mw_6_1 (inCo mw_6_2 (inCo mw_6_3 (inCo mw_1_2 (inNi))))) (by decide +kernel)) ggL_X8_land
set_option maxRecDepth 20000 in
theorem inW_wsX9_land_r1 : ∀ w ∈ wsX9_land_r1, w ∈ lw_tbl := inCo mw_10_8 (inCo mw_5_21 (inCo mw_5_22 (inCo mw_10_9 (inCo mw_10_10 (inCo mw_10_11 (inCo mw_10_12 (inCo mw_10_13 (inCo mw_10_14 (inCo mw_10_15 (inCo mw_10_16 (inCo mw_10_17 (inCo mw_4_23 (inCo mw_5_10 (inCo mw_5_0 (inCo mw_5_11 (inCo mw_5_1 (inCo mw_5_2 (inCo mw_5_12 (inCo mw_5_3 (inCo mw_5_13 (inCo mw_5_4 (inCo mw_5_14 (inCo mw_5_5 (inNi))))))))))))))))))))))))
set_option maxRecDepth 20000 in
theorem inW_wsX9_land_r2 : ∀ w ∈ wsX9_land_r2, w ∈ lw_tbl := inCo mw_5_6 (inCo mw_5_15 (inCo mw_5_7 (inCo mw_5_16 (inCo mw_5_9 (inCo mw_10_18 (inCo mw_10_19 (inCo mw_10_20 (inCo mw_10_21 (inCo mw_10_22 (inCo mw_10_23 (inCo mw_1_5 (inCo mw_11_0 (inCo mw_11_1 (inCo mw_11_2 (inCo mw_11_3 (inCo mw_11_4 (inCo mw_11_5 (inCo mw_11_6 (inCo mw_11_7 (inCo mw_11_8 (inCo mw_11_9 (inCo mw_11_10 (inCo mw_11_11 (inNi))))))))))))))))))))))))
set_option maxRecDepth 20000 in
theorem inW_wsX9_land_r3 : ∀ w ∈ wsX9_land_r3, w ∈ lw_tbl := inCo mw_11_12 (inCo mw_11_13 (inCo mw_11_14 (inCo mw_11_15 (inCo mw_11_16 (inCo mw_11_17 (inCo mw_11_18 (inCo mw_11_19 (inCo mw_11_20 (inCo mw_11_21 (inCo mw_11_22 (inCo mw_11_23 (inCo mw_12_0 (inCo mw_5_23 (inCo mw_12_1 (inCo mw_12_2 (inCo mw_12_3 (inCo mw_12_4 (inCo mw_12_5 (inCo mw_12_6 (inCo mw_12_7 (inCo mw_12_8 (inCo mw_12_9 (inCo mw_12_10 (inNi))))))))))))))))))))))))
set_option maxRecDepth 20000 in
theorem inW_wsX9_land_r4 : ∀ w ∈ wsX9_land_r4, w ∈ lw_tbl := inCo mw_12_11 (inCo mw_12_12 (inNi))
set_option maxRecDepth 20000 in
theorem inW_wsX9_land : ∀ w ∈ wsX9_land, w ∈ lw_tbl := inCo mw_10_7 (inAp (inAp (inW_wsX9_land_r1) (inAp (inW_wsX9_land_r2) (inAp (inW_wsX9_land_r3) (inW_wsX9_land_r4)))) (inT_X9))
set_option maxRecDepth 20000 in
theorem ggL_X9_land : GoodIn lw_tbl wsX9_land := goodIn_sub inW_wsX9_land (by decide +kernel)
set_option maxRecDepth 20000 in
theorem gL_X9_land : GoodIn lw_tbl (wsV RL 17 RX9 yX9_land wsX9_land) := goodIn_app (goodIn_sub (inCo mw_10_4 (inCo mw_10_5 (inCo mw_10_6 (inCo mw_1_5 (inNi))))) (by decide +kernel)) ggL_X9_land
set_option maxRecDepth 20000 in
theorem inW_wsX8_ofCell_r1 : ∀ w ∈ wsX8_ofCell_r1, w ∈ lw_tbl := inCo mw_1_23 (inCo mw_12_17 (inCo mw_12_18 (inCo mw_12_19 (inCo mw_12_20 (inCo mw_12_21 (inCo mw_1_22 (inCo mw_12_22 (inCo mw_9_8 (inCo mw_6_13 (inCo mw_1_2 (inCo mw_6_14 (inCo mw_12_23 (inCo mw_13_0 (inCo mw_13_1 (inCo mw_13_2 (inCo mw_3_4 (inCo mw_13_3 (inCo mw_13_4 (inCo mw_13_5 (inCo mw_13_6 (inCo mw_3_6 (inCo mw_9_12 (inCo mw_9_11 (inNi))))))))))))))))))))))))
set_option maxRecDepth 20000 in
theorem inW_wsX8_ofCell_r2 : ∀ w ∈ wsX8_ofCell_r2, w ∈ lw_tbl := inCo mw_3_8 (inCo mw_10_3 (inCo mw_9_14 (inCo mw_3_5 (inCo mw_13_7 (inCo mw_13_8 (inCo mw_13_9 (inCo mw_13_10 (inCo mw_3_10 (inCo mw_9_23 (inCo mw_13_11 (inCo mw_13_12 (inCo mw_13_13 (inCo mw_13_14 (inCo mw_13_15 (inCo mw_3_12 (inCo mw_13_16 (inCo mw_13_17 (inCo mw_13_18 (inCo mw_13_19 (inCo mw_13_20 (inCo mw_13_21 (inCo mw_13_22 (inNi)))))))))))))))))))))))
set_option maxRecDepth 20000 in
theorem inW_wsX8_ofCell : ∀ w ∈ wsX8_ofCell, w ∈ lw_tbl := inCo mw_12_16 (inAp (inAp (inAp (inAp (inAp (inW_wsX8_ofCell_r1) (inW_wsX8_ofCell_r2)) (inT_X8)) (inT_X2)) (inT_X1)) (inT_X7))
set_option maxRecDepth 20000 in
theorem ggL_X8_ofCell : GoodIn lw_tbl wsX8_ofCell := goodIn_sub inW_wsX8_ofCell (by decide +kernel)
set_option maxRecDepth 20000 in
theorem gL_X8_ofCell : GoodIn lw_tbl (wsV RL 18 RX8 yX8_ofCell wsX8_ofCell) := goodIn_app (goodIn_sub (inCo mw_12_13 (inCo mw_12_14 (inCo mw_12_15 (inCo mw_1_2 (inNi))))) (by decide +kernel)) ggL_X8_ofCell
set_option maxRecDepth 20000 in
theorem inW_wsX9_ofCell_r1 : ∀ w ∈ wsX9_ofCell_r1, w ∈ lw_tbl := inCo mw_4_23 (inCo mw_5_0 (inCo mw_14_3 (inCo mw_14_4 (inCo mw_14_5 (inCo mw_1_5 (inCo mw_14_6 (inCo mw_12_9 (inCo mw_12_10 (inCo mw_12_11 (inCo mw_12_12 (inCo mw_10_11 (inCo mw_10_13 (inCo mw_11_2 (inCo mw_11_3 (inCo mw_11_4 (inCo mw_14_7 (inCo mw_14_8 (inCo mw_14_9 (inCo mw_14_10 (inCo mw_5_1 (inCo mw_14_11 (inCo mw_14_12 (inCo mw_14_13 (inNi))))))))))))))))))))))))
set_option maxRecDepth 20000 in
theorem inW_wsX9_ofCell_r2 : ∀ w ∈ wsX9_ofCell_r2, w ∈ lw_tbl := inCo mw_14_14 (inCo mw_5_4 (inCo mw_5_5 (inCo mw_5_2 (inCo mw_10_20 (inCo mw_14_15 (inCo mw_14_16 (inCo mw_14_17 (inCo mw_14_18 (inCo mw_5_9 (inCo mw_5_7 (inCo mw_10_18 (inNi))))))))))))
set_option maxRecDepth 20000 in
theorem inW_wsX9_ofCell : ∀ w ∈ wsX9_ofCell, w ∈ lw_tbl := inCo mw_14_2 (inAp (inAp (inW_wsX9_ofCell_r1) (inW_wsX9_ofCell_r2)) (inT_X9))
set_option maxRecDepth 20000 in
theorem ggL_X9_ofCell : GoodIn lw_tbl wsX9_ofCell := goodIn_sub inW_wsX9_ofCell (by decide +kernel)
set_option maxRecDepth 20000 in
theorem gL_X9_ofCell : GoodIn lw_tbl (wsV RL 22 RX9 yX9_ofCell wsX9_ofCell) := goodIn_app (goodIn_sub (inCo mw_13_23 (inCo mw_14_0 (inCo mw_14_1 (inCo mw_1_5 (inNi))))) (by decide +kernel)) ggL_X9_ofCell
set_option maxRecDepth 20000 in
theorem inW_wsX8_ofHouse_r1 : ∀ w ∈ wsX8_ofHouse_r1, w ∈ lw_tbl := inCo mw_1_23 (inCo mw_14_23 (inCo mw_15_0 (inCo mw_15_1 (inCo mw_15_2 (inCo mw_15_3 (inCo mw_15_4 (inCo mw_15_5 (inCo mw_15_6 (inCo mw_15_7 (inCo mw_1_22 (inCo mw_15_8 (inCo mw_9_9 (inCo mw_6_13 (inCo mw_1_2 (inCo mw_6_14 (inCo mw_15_9 (inCo mw_13_14 (inCo mw_13_15 (inCo mw_3_12 (inCo mw_13_16 (inCo mw_13_17 (inCo mw_13_18 (inCo mw_13_19 (inNi))))))))))))))))))))))))
set_option maxRecDepth 20000 in
theorem inW_wsX8_ofHouse_r2 : ∀ w ∈ wsX8_ofHouse_r2, w ∈ lw_tbl := inCo mw_13_20 (inCo mw_13_21 (inCo mw_13_22 (inNi)))
set_option maxRecDepth 20000 in
theorem inW_wsX8_ofHouse : ∀ w ∈ wsX8_ofHouse, w ∈ lw_tbl := inCo mw_14_22 (inAp (inAp (inAp (inAp (inW_wsX8_ofHouse_r1) (inW_wsX8_ofHouse_r2)) (inT_X8)) (inT_X2)) (inT_X1))
set_option maxRecDepth 20000 in
theorem ggL_X8_ofHouse : GoodIn lw_tbl wsX8_ofHouse := goodIn_sub inW_wsX8_ofHouse (by decide +kernel)
set_option maxRecDepth 20000 in
theorem gL_X8_ofHouse : GoodIn lw_tbl (wsV RL 23 RX8 yX8_ofHouse wsX8_ofHouse) := goodIn_app (goodIn_sub (inCo mw_14_19 (inCo mw_14_20 (inCo mw_14_21 (inCo mw_1_2 (inNi))))) (by decide +kernel)) ggL_X8_ofHouse
set_option maxRecDepth 20000 in
theorem inW_wsX9_ofHouse : ∀ w ∈ wsX9_ofHouse, w ∈ lw_tbl := inCo mw_15_13 (inAp (inCo mw_5_2 (inCo mw_5_3 (inCo mw_5_4 (inCo mw_5_5 (inCo mw_15_14 (inCo mw_15_15 (inCo mw_15_16 (inCo mw_1_5 (inCo mw_15_17 (inCo mw_10_15 (inCo mw_11_2 (inCo mw_11_3 (inCo mw_11_4 (inCo mw_14_11 (inCo mw_14_12 (inCo mw_14_13 (inCo mw_14_14 (inCo mw_10_20 (inNi))))))))))))))))))) (inT_X9))
set_option maxRecDepth 20000 in
theorem ggL_X9_ofHouse : GoodIn lw_tbl wsX9_ofHouse := goodIn_sub inW_wsX9_ofHouse (by decide +kernel)
set_option maxRecDepth 20000 in
theorem gL_X9_ofHouse : GoodIn lw_tbl (wsV RL 26 RX9 yX9_ofHouse wsX9_ofHouse) := goodIn_app (goodIn_sub (inCo mw_15_10 (inCo mw_15_11 (inCo mw_15_12 (inCo mw_1_5 (inNi))))) (by decide +kernel)) ggL_X9_ofHouse
set_option maxRecDepth 20000 in
theorem inW_wsX8_ofTree : ∀ w ∈ wsX8_ofTree, w ∈ lw_tbl := inCo mw_15_21 (inAp (inAp (inAp (inCo mw_1_23 (inCo mw_15_22 (inCo mw_15_23 (inCo mw_16_0 (inCo mw_16_1 (inCo mw_16_2 (inCo mw_16_3 (inCo mw_16_4 (inCo mw_16_5 (inCo mw_1_22 (inCo mw_16_6 (inCo mw_9_10 (inCo mw_6_13 (inCo mw_1_2 (inCo mw_6_14 (inCo mw_16_7 (inCo mw_13_8 (inCo mw_13_9 (inCo mw_13_10 (inCo mw_3_10 (inCo mw_9_23 (inCo mw_13_11 (inCo mw_13_12 (inCo mw_16_8 (inNi))))))))))))))))))))))))) (inT_X8)) (inT_X2)) (inT_X7))
set_option maxRecDepth 20000 in
theorem ggL_X8_ofTree : GoodIn lw_tbl wsX8_ofTree := goodIn_sub inW_wsX8_ofTree (by decide +kernel)
set_option maxRecDepth 20000 in
theorem gL_X8_ofTree : GoodIn lw_tbl (wsV RL 27 RX8 yX8_ofTree wsX8_ofTree) := goodIn_app (goodIn_sub (inCo mw_15_18 (inCo mw_15_19 (inCo mw_15_20 (inCo mw_1_2 (inNi))))) (by decide +kernel)) ggL_X8_ofTree
set_option maxRecDepth 20000 in
theorem inW_wsX9_ofTree : ∀ w ∈ wsX9_ofTree, w ∈ lw_tbl := inCo mw_16_12 (inAp (inCo mw_5_6 (inCo mw_5_7 (inCo mw_5_9 (inCo mw_16_13 (inCo mw_16_14 (inCo mw_16_15 (inCo mw_1_5 (inCo mw_16_16 (inCo mw_10_17 (inCo mw_11_2 (inCo mw_11_3 (inCo mw_11_4 (inCo mw_14_15 (inCo mw_14_16 (inCo mw_14_17 (inCo mw_14_18 (inCo mw_10_18 (inNi)))))))))))))))))) (inT_X9))
set_option maxRecDepth 20000 in
theorem ggL_X9_ofTree : GoodIn lw_tbl wsX9_ofTree := goodIn_sub inW_wsX9_ofTree (by decide +kernel)
set_option maxRecDepth 20000 in
theorem gL_X9_ofTree : GoodIn lw_tbl (wsV RL 30 RX9 yX9_ofTree wsX9_ofTree) := goodIn_app (goodIn_sub (inCo mw_16_9 (inCo mw_16_10 (inCo mw_16_11 (inCo mw_1_5 (inNi))))) (by decide +kernel)) ggL_X9_ofTree
set_option maxRecDepth 20000 in
theorem inW_wsX8_times : ∀ w ∈ wsX8_times, w ∈ lw_tbl := inCo mw_16_20 (inAp (inAp (inCo mw_1_23 (inCo mw_16_1 (inCo mw_16_21 (inCo mw_15_4 (inCo mw_6_12 (inCo mw_6_13 (inCo mw_1_2 (inCo mw_6_14 (inCo mw_16_22 (inCo mw_16_23 (inCo mw_17_0 (inCo mw_1_22 (inCo mw_17_1 (inCo mw_9_8 (inNi))))))))))))))) (inT_X8)) (inT_X2))
set_option maxRecDepth 20000 in
theorem ggL_X8_times : GoodIn lw_tbl wsX8_times := goodIn_sub inW_wsX8_times (by decide +kernel)
set_option maxRecDepth 20000 in
theorem gL_X8_times : GoodIn lw_tbl (wsV RL 31 RX8 yX8_times wsX8_times) := goodIn_app (goodIn_sub (inCo mw_16_17 (inCo mw_16_18 (inCo mw_16_19 (inCo mw_1_2 (inNi))))) (by decide +kernel)) ggL_X8_times
set_option maxRecDepth 20000 in
theorem inW_wsX9_times : ∀ w ∈ wsX9_times, w ∈ lw_tbl := inCo mw_17_5 (inAp (inCo mw_17_6 (inCo mw_17_7 (inCo mw_10_11 (inCo mw_10_18 (inCo mw_10_19 (inCo mw_10_20 (inCo mw_11_2 (inCo mw_11_3 (inCo mw_1_5 (inCo mw_11_4 (inNi))))))))))) (inT_X9))
set_option maxRecDepth 20000 in
theorem ggL_X9_times : GoodIn lw_tbl wsX9_times := goodIn_sub inW_wsX9_times (by decide +kernel)
set_option maxRecDepth 20000 in
theorem gL_X9_times : GoodIn lw_tbl (wsV RL 35 RX9 yX9_times wsX9_times) := goodIn_app (goodIn_sub (inCo mw_17_2 (inCo mw_17_3 (inCo mw_17_4 (inCo mw_1_5 (inNi))))) (by decide +kernel)) ggL_X9_times
set_option maxRecDepth 20000 in
theorem inW_wsX8_wall : ∀ w ∈ wsX8_wall, w ∈ lw_tbl := inCo mw_17_11 (inAp (inAp (inCo mw_1_23 (inCo mw_17_12 (inCo mw_12_19 (inCo mw_12_20 (inCo mw_12_21 (inCo mw_1_22 (inCo mw_12_22 (inCo mw_9_8 (inCo mw_6_13 (inCo mw_1_2 (inCo mw_6_14 (inCo mw_6_12 (inCo mw_17_13 (inCo mw_17_14 (inCo mw_17_15 (inCo mw_17_16 (inCo mw_3_6 (inNi)))))))))))))))))) (inT_X8)) (inT_X2))
set_option maxRecDepth 20000 in
theorem ggL_X8_wall : GoodIn lw_tbl wsX8_wall := goodIn_sub inW_wsX8_wall (by decide +kernel)
set_option maxRecDepth 20000 in
theorem gL_X8_wall : GoodIn lw_tbl (wsV RL 36 RX8 yX8_wall wsX8_wall) := goodIn_app (goodIn_sub (inCo mw_17_8 (inCo mw_17_9 (inCo mw_17_10 (inCo mw_1_2 (inNi))))) (by decide +kernel)) ggL_X8_wall
set_option maxRecDepth 20000 in
theorem inW_wsX9_wall : ∀ w ∈ wsX9_wall, w ∈ lw_tbl := inCo mw_17_20 (inAp (inCo mw_17_7 (inCo mw_5_0 (inCo mw_5_1 (inCo mw_14_3 (inCo mw_14_4 (inCo mw_14_5 (inCo mw_1_5 (inCo mw_14_6 (inCo mw_12_9 (inCo mw_12_10 (inCo mw_12_11 (inCo mw_12_12 (inCo mw_10_11 (inCo mw_10_13 (inCo mw_11_2 (inCo mw_11_3 (inCo mw_11_4 (inNi)))))))))))))))))) (inT_X9))
set_option maxRecDepth 20000 in
theorem ggL_X9_wall : GoodIn lw_tbl wsX9_wall := goodIn_sub inW_wsX9_wall (by decide +kernel)
set_option maxRecDepth 20000 in
theorem gL_X9_wall : GoodIn lw_tbl (wsV RL 39 RX9 yX9_wall wsX9_wall) := goodIn_app (goodIn_sub (inCo mw_17_17 (inCo mw_17_18 (inCo mw_17_19 (inCo mw_1_5 (inNi))))) (by decide +kernel)) ggL_X9_wall
set_option maxRecDepth 20000 in
theorem inW_wsX8_floors : ∀ w ∈ wsX8_floors, w ∈ lw_tbl := inCo mw_18_0 (inAp (inAp (inAp (inCo mw_1_23 (inCo mw_14_23 (inCo mw_15_3 (inCo mw_15_5 (inCo mw_15_6 (inCo mw_15_7 (inCo mw_1_22 (inCo mw_15_8 (inCo mw_9_9 (inCo mw_6_13 (inCo mw_1_2 (inCo mw_6_14 (inCo mw_6_12 (inNi)))))))))))))) (inT_X8)) (inT_X2)) (inT_X1))
set_option maxRecDepth 20000 in
theorem ggL_X8_floors : GoodIn lw_tbl wsX8_floors := goodIn_sub inW_wsX8_floors (by decide +kernel)
set_option maxRecDepth 20000 in
theorem gL_X8_floors : GoodIn lw_tbl (wsV RL 40 RX8 yX8_floors wsX8_floors) := goodIn_app (goodIn_sub (inCo mw_17_21 (inCo mw_17_22 (inCo mw_17_23 (inCo mw_1_2 (inNi))))) (by decide +kernel)) ggL_X8_floors
set_option maxRecDepth 20000 in
theorem inW_wsX9_floors : ∀ w ∈ wsX9_floors, w ∈ lw_tbl := inCo mw_18_4 (inAp (inCo mw_17_7 (inCo mw_5_5 (inCo mw_15_14 (inCo mw_15_15 (inCo mw_15_16 (inCo mw_1_5 (inCo mw_15_17 (inCo mw_10_15 (inCo mw_11_2 (inCo mw_11_3 (inCo mw_11_4 (inNi)))))))))))) (inT_X9))
set_option maxRecDepth 20000 in
theorem ggL_X9_floors : GoodIn lw_tbl wsX9_floors := goodIn_sub inW_wsX9_floors (by decide +kernel)
set_option maxRecDepth 20000 in
theorem gL_X9_floors : GoodIn lw_tbl (wsV RL 43 RX9 yX9_floors wsX9_floors) := goodIn_app (goodIn_sub (inCo mw_18_1 (inCo mw_18_2 (inCo mw_18_3 (inCo mw_1_5 (inNi))))) (by decide +kernel)) ggL_X9_floors
set_option maxRecDepth 20000 in
theorem inW_wsX8_fell : ∀ w ∈ wsX8_fell, w ∈ lw_tbl := inCo mw_18_8 (inAp (inAp (inCo mw_1_23 (inCo mw_16_2 (inCo mw_16_3 (inCo mw_16_4 (inCo mw_16_5 (inCo mw_1_22 (inCo mw_16_6 (inCo mw_9_10 (inCo mw_6_13 (inCo mw_1_2 (inCo mw_6_14 (inCo mw_16_8 (inCo mw_13_11 (inCo mw_13_12 (inNi))))))))))))))) (inT_X8)) (inT_X2))
set_option maxRecDepth 20000 in
theorem ggL_X8_fell : GoodIn lw_tbl wsX8_fell := goodIn_sub inW_wsX8_fell (by decide +kernel)
set_option maxRecDepth 20000 in
theorem gL_X8_fell : GoodIn lw_tbl (wsV RL 44 RX8 yX8_fell wsX8_fell) := goodIn_app (goodIn_sub (inCo mw_18_5 (inCo mw_18_6 (inCo mw_18_7 (inCo mw_1_2 (inNi))))) (by decide +kernel)) ggL_X8_fell
set_option maxRecDepth 20000 in
theorem inW_wsX9_fell : ∀ w ∈ wsX9_fell, w ∈ lw_tbl := inCo mw_18_12 (inAp (inCo mw_5_9 (inCo mw_16_13 (inCo mw_16_14 (inCo mw_16_15 (inCo mw_1_5 (inCo mw_16_16 (inCo mw_10_17 (inCo mw_11_2 (inCo mw_11_3 (inCo mw_11_4 (inNi))))))))))) (inT_X9))
set_option maxRecDepth 20000 in
theorem ggL_X9_fell : GoodIn lw_tbl wsX9_fell := goodIn_sub inW_wsX9_fell (by decide +kernel)
set_option maxRecDepth 20000 in
theorem gL_X9_fell : GoodIn lw_tbl (wsV RL 48 RX9 yX9_fell wsX9_fell) := goodIn_app (goodIn_sub (inCo mw_18_9 (inCo mw_18_10 (inCo mw_18_11 (inCo mw_1_5 (inNi))))) (by decide +kernel)) ggL_X9_fell
set_option maxRecDepth 20000 in
theorem inW_wsX8_see_r1 : ∀ w ∈ wsX8_see_r1, w ∈ lw_tbl := inCo mw_1_23 (inCo mw_2_3 (inCo mw_14_23 (inCo mw_15_1 (inCo mw_15_5 (inCo mw_15_6 (inCo mw_15_7 (inCo mw_1_22 (inCo mw_15_8 (inCo mw_9_9 (inCo mw_6_13 (inCo mw_1_2 (inCo mw_6_14 (inCo mw_18_17 (inCo mw_18_18 (inCo mw_18_19 (inCo mw_2_2 (inCo mw_18_20 (inCo mw_4_3 (inCo mw_18_21 (inCo mw_18_22 (inCo mw_18_23 (inCo mw_4_1 (inCo mw_19_0 (inNi))))))))))))))))))))))))
set_option maxRecDepth 20000 in
theorem inW_wsX8_see_r2 : ∀ w ∈ wsX8_see_r2, w ∈ lw_tbl := inCo mw_13_0 (inCo mw_13_1 (inCo mw_13_2 (inCo mw_3_4 (inCo mw_13_3 (inCo mw_13_4 (inCo mw_13_5 (inCo mw_13_6 (inCo mw_3_6 (inCo mw_9_12 (inCo mw_9_11 (inCo mw_3_8 (inCo mw_10_3 (inCo mw_9_14 (inCo mw_3_5 (inCo mw_13_7 (inCo mw_13_8 (inCo mw_13_9 (inCo mw_13_10 (inCo mw_3_10 (inCo mw_9_23 (inCo mw_13_11 (inCo mw_13_12 (inCo mw_13_13 (inNi))))))))))))))))))))))))
set_option maxRecDepth 20000 in
theorem inW_wsX8_see_r3 : ∀ w ∈ wsX8_see_r3, w ∈ lw_tbl := inCo mw_13_14 (inCo mw_13_15 (inCo mw_3_12 (inCo mw_13_16 (inCo mw_13_17 (inCo mw_13_18 (inCo mw_13_19 (inCo mw_13_20 (inCo mw_13_21 (inCo mw_13_22 (inCo mw_19_1 (inCo mw_19_2 (inCo mw_19_3 (inCo mw_19_4 (inCo mw_19_5 (inCo mw_19_6 (inCo mw_19_7 (inCo mw_19_8 (inCo mw_19_9 (inCo mw_19_10 (inCo mw_19_11 (inCo mw_19_12 (inCo mw_19_13 (inCo mw_19_14 (inNi))))))))))))))))))))))))
set_option maxRecDepth 20000 in
theorem inW_wsX8_see_r4 : ∀ w ∈ wsX8_see_r4, w ∈ lw_tbl := inCo mw_19_15 (inNi)
set_option maxRecDepth 20000 in
theorem inW_wsX8_see : ∀ w ∈ wsX8_see, w ∈ lw_tbl := inCo mw_18_16 (inAp (inAp (inAp (inAp (inAp (inAp (inW_wsX8_see_r1) (inAp (inW_wsX8_see_r2) (inAp (inW_wsX8_see_r3) (inW_wsX8_see_r4)))) (inT_X8)) (inT_X2)) (inT_X1)) (inT_X5)) (inT_X7))
set_option maxRecDepth 20000 in
theorem ggL_X8_see : GoodIn lw_tbl wsX8_see := goodIn_sub inW_wsX8_see (by decide +kernel)
set_option maxRecDepth 20000 in
theorem gL_X8_see : GoodIn lw_tbl (wsV RL 49 RX8 yX8_see wsX8_see) := goodIn_app (goodIn_sub (inCo mw_18_13 (inCo mw_18_14 (inCo mw_18_15 (inCo mw_1_2 (inNi))))) (by decide +kernel)) ggL_X8_see
set_option maxRecDepth 20000 in
theorem inW_wsX9_see_r1 : ∀ w ∈ wsX9_see_r1, w ∈ lw_tbl := inCo mw_15_14 (inCo mw_15_15 (inCo mw_15_16 (inCo mw_1_5 (inCo mw_15_17 (inCo mw_10_15 (inCo mw_11_2 (inCo mw_11_3 (inCo mw_11_4 (inCo mw_19_20 (inCo mw_19_21 (inCo mw_19_22 (inCo mw_19_23 (inCo mw_5_3 (inCo mw_10_13 (inCo mw_10_19 (inCo mw_20_0 (inCo mw_20_1 (inCo mw_20_2 (inCo mw_20_3 (inCo mw_20_4 (inCo mw_20_5 (inCo mw_14_7 (inCo mw_14_8 (inNi))))))))))))))))))))))))
set_option maxRecDepth 20000 in
theorem inW_wsX9_see_r2 : ∀ w ∈ wsX9_see_r2, w ∈ lw_tbl := inCo mw_14_9 (inCo mw_14_10 (inCo mw_5_0 (inCo mw_5_1 (inCo mw_4_23 (inCo mw_14_11 (inCo mw_14_12 (inCo mw_14_13 (inCo mw_14_14 (inCo mw_5_4 (inCo mw_5_5 (inCo mw_5_2 (inCo mw_10_20 (inCo mw_14_15 (inCo mw_14_16 (inCo mw_14_17 (inCo mw_14_18 (inCo mw_5_9 (inCo mw_5_7 (inCo mw_10_18 (inNi))))))))))))))))))))
set_option maxRecDepth 20000 in
theorem inW_wsX9_see : ∀ w ∈ wsX9_see, w ∈ lw_tbl := inCo mw_19_19 (inAp (inAp (inW_wsX9_see_r1) (inW_wsX9_see_r2)) (inT_X9))
set_option maxRecDepth 20000 in
theorem ggL_X9_see : GoodIn lw_tbl wsX9_see := goodIn_sub inW_wsX9_see (by decide +kernel)
set_option maxRecDepth 20000 in
theorem gL_X9_see : GoodIn lw_tbl (wsV RL 52 RX9 yX9_see wsX9_see) := goodIn_app (goodIn_sub (inCo mw_19_16 (inCo mw_19_17 (inCo mw_19_18 (inCo mw_1_5 (inNi))))) (by decide +kernel)) ggL_X9_see
set_option maxRecDepth 20000 in
theorem inW_wsX8_number_r1 : ∀ w ∈ wsX8_number_r1, w ∈ lw_tbl := inCo mw_1_23 (inCo mw_2_3 (inCo mw_15_5 (inCo mw_15_6 (inCo mw_15_7 (inCo mw_1_22 (inCo mw_15_8 (inCo mw_9_9 (inCo mw_6_13 (inCo mw_1_2 (inCo mw_6_14 (inCo mw_18_17 (inCo mw_18_18 (inCo mw_18_19 (inCo mw_2_2 (inCo mw_18_20 (inCo mw_4_3 (inCo mw_18_21 (inCo mw_18_22 (inCo mw_18_23 (inCo mw_4_1 (inCo mw_19_0 (inCo mw_13_0 (inCo mw_13_1 (inNi))))))))))))))))))))))))
set_option maxRecDepth 20000 in
theorem inW_wsX8_number_r2 : ∀ w ∈ wsX8_number_r2, w ∈ lw_tbl := inCo mw_13_2 (inCo mw_3_4 (inCo mw_13_3 (inCo mw_13_4 (inCo mw_13_5 (inCo mw_13_6 (inCo mw_3_6 (inCo mw_9_12 (inCo mw_9_11 (inCo mw_3_8 (inCo mw_10_3 (inCo mw_9_14 (inCo mw_3_5 (inCo mw_13_7 (inCo mw_13_8 (inCo mw_13_9 (inCo mw_13_10 (inCo mw_3_10 (inCo mw_9_23 (inCo mw_13_11 (inCo mw_13_12 (inCo mw_13_13 (inCo mw_13_14 (inCo mw_13_15 (inNi))))))))))))))))))))))))
set_option maxRecDepth 20000 in
theorem inW_wsX8_number_r3 : ∀ w ∈ wsX8_number_r3, w ∈ lw_tbl := inCo mw_3_12 (inCo mw_13_16 (inCo mw_13_17 (inCo mw_13_18 (inCo mw_13_19 (inCo mw_13_20 (inCo mw_13_21 (inCo mw_13_22 (inCo mw_20_10 (inCo mw_20_11 (inCo mw_20_12 (inCo mw_20_13 (inCo mw_20_14 (inCo mw_20_15 (inCo mw_20_16 (inCo mw_20_17 (inCo mw_20_18 (inCo mw_20_19 (inCo mw_20_20 (inCo mw_20_21 (inCo mw_19_2 (inCo mw_19_3 (inCo mw_19_4 (inCo mw_19_5 (inNi))))))))))))))))))))))))
set_option maxRecDepth 20000 in
theorem inW_wsX8_number_r4 : ∀ w ∈ wsX8_number_r4, w ∈ lw_tbl := inCo mw_19_6 (inCo mw_19_7 (inCo mw_19_8 (inCo mw_19_9 (inCo mw_19_10 (inCo mw_19_11 (inCo mw_19_12 (inCo mw_19_13 (inCo mw_19_14 (inCo mw_19_15 (inNi))))))))))
set_option maxRecDepth 20000 in
theorem inW_wsX8_number : ∀ w ∈ wsX8_number, w ∈ lw_tbl := inCo mw_20_9 (inAp (inAp (inAp (inAp (inAp (inAp (inW_wsX8_number_r1) (inAp (inW_wsX8_number_r2) (inAp (inW_wsX8_number_r3) (inW_wsX8_number_r4)))) (inT_X8)) (inT_X2)) (inT_X5)) (inT_X1)) (inT_X7))
set_option maxRecDepth 20000 in
theorem ggL_X8_number : GoodIn lw_tbl wsX8_number := goodIn_sub inW_wsX8_number (by decide +kernel)
set_option maxRecDepth 20000 in
theorem gL_X8_number : GoodIn lw_tbl (wsV RL 53 RX8 yX8_number wsX8_number) := goodIn_app (goodIn_sub (inCo mw_20_6 (inCo mw_20_7 (inCo mw_20_8 (inCo mw_1_2 (inNi))))) (by decide +kernel)) ggL_X8_number
set_option maxRecDepth 20000 in
theorem inW_wsX9_number_r1 : ∀ w ∈ wsX9_number_r1, w ∈ lw_tbl := inCo mw_15_14 (inCo mw_15_15 (inCo mw_15_16 (inCo mw_1_5 (inCo mw_15_17 (inCo mw_10_15 (inCo mw_11_2 (inCo mw_11_3 (inCo mw_11_4 (inCo mw_21_2 (inCo mw_21_3 (inCo mw_21_4 (inCo mw_21_5 (inCo mw_19_20 (inCo mw_19_21 (inCo mw_19_22 (inCo mw_19_23 (inCo mw_5_3 (inCo mw_10_13 (inCo mw_10_19 (inCo mw_20_0 (inCo mw_20_1 (inCo mw_20_2 (inCo mw_20_3 (inNi))))))))))))))))))))))))
set_option maxRecDepth 20000 in
theorem inW_wsX9_number_r2 : ∀ w ∈ wsX9_number_r2, w ∈ lw_tbl := inCo mw_20_4 (inCo mw_20_5 (inCo mw_14_7 (inCo mw_14_8 (inCo mw_14_9 (inCo mw_14_10 (inCo mw_5_0 (inCo mw_5_1 (inCo mw_4_23 (inCo mw_14_11 (inCo mw_14_12 (inCo mw_14_13 (inCo mw_14_14 (inCo mw_5_4 (inCo mw_5_5 (inCo mw_5_2 (inCo mw_10_20 (inCo mw_14_15 (inCo mw_14_16 (inCo mw_14_17 (inCo mw_14_18 (inCo mw_5_9 (inCo mw_5_7 (inCo mw_10_18 (inNi))))))))))))))))))))))))
set_option maxRecDepth 20000 in
theorem inW_wsX9_number : ∀ w ∈ wsX9_number, w ∈ lw_tbl := inCo mw_21_1 (inAp (inAp (inW_wsX9_number_r1) (inW_wsX9_number_r2)) (inT_X9))
set_option maxRecDepth 20000 in
theorem ggL_X9_number : GoodIn lw_tbl wsX9_number := goodIn_sub inW_wsX9_number (by decide +kernel)
set_option maxRecDepth 20000 in
theorem gL_X9_number : GoodIn lw_tbl (wsV RL 57 RX9 yX9_number wsX9_number) := goodIn_app (goodIn_sub (inCo mw_20_22 (inCo mw_20_23 (inCo mw_21_0 (inCo mw_1_5 (inNi))))) (by decide +kernel)) ggL_X9_number
set_option maxRecDepth 20000 in
theorem inW_wsX8_having_r1 : ∀ w ∈ wsX8_having_r1, w ∈ lw_tbl := inCo mw_1_23 (inCo mw_2_3 (inCo mw_6_12 (inCo mw_6_13 (inCo mw_1_2 (inCo mw_6_14 (inCo mw_16_22 (inCo mw_16_23 (inCo mw_17_0 (inCo mw_1_22 (inCo mw_17_1 (inCo mw_9_8 (inCo mw_21_10 (inCo mw_21_11 (inCo mw_21_12 (inCo mw_2_2 (inCo mw_21_13 (inCo mw_4_3 (inCo mw_20_20 (inCo mw_4_2 (inCo mw_21_14 (inCo mw_18_18 (inCo mw_18_19 (inCo mw_18_20 (inNi))))))))))))))))))))))))
set_option maxRecDepth 20000 in
theorem inW_wsX8_having_r2 : ∀ w ∈ wsX8_having_r2, w ∈ lw_tbl := inCo mw_18_21 (inCo mw_18_22 (inCo mw_18_23 (inCo mw_4_1 (inCo mw_19_0 (inCo mw_13_0 (inCo mw_13_1 (inCo mw_13_2 (inCo mw_3_4 (inCo mw_13_3 (inCo mw_13_4 (inCo mw_13_5 (inCo mw_13_6 (inCo mw_3_6 (inCo mw_9_12 (inCo mw_9_11 (inCo mw_3_8 (inCo mw_10_3 (inCo mw_9_14 (inCo mw_3_5 (inCo mw_13_7 (inCo mw_13_8 (inCo mw_13_9 (inCo mw_13_10 (inNi))))))))))))))))))))))))
set_option maxRecDepth 20000 in
theorem inW_wsX8_having_r3 : ∀ w ∈ wsX8_having_r3, w ∈ lw_tbl := inCo mw_3_10 (inCo mw_9_23 (inCo mw_13_11 (inCo mw_13_12 (inCo mw_13_13 (inCo mw_13_14 (inCo mw_13_15 (inCo mw_3_12 (inCo mw_13_16 (inCo mw_13_17 (inCo mw_13_18 (inCo mw_13_19 (inCo mw_13_20 (inCo mw_13_21 (inCo mw_13_22 (inCo mw_21_15 (inCo mw_20_11 (inCo mw_20_12 (inCo mw_20_13 (inCo mw_20_14 (inCo mw_20_15 (inCo mw_20_16 (inCo mw_20_17 (inCo mw_20_18 (inNi))))))))))))))))))))))))
set_option maxRecDepth 20000 in
theorem inW_wsX8_having_r4 : ∀ w ∈ wsX8_having_r4, w ∈ lw_tbl := inCo mw_20_19 (inCo mw_20_21 (inCo mw_19_2 (inCo mw_19_3 (inCo mw_19_4 (inCo mw_19_5 (inCo mw_19_6 (inCo mw_19_7 (inCo mw_19_8 (inCo mw_19_9 (inCo mw_19_10 (inCo mw_19_11 (inCo mw_19_12 (inCo mw_19_13 (inCo mw_19_14 (inCo mw_19_15 (inCo mw_21_16 (inCo mw_21_17 (inCo mw_21_18 (inCo mw_21_19 (inNi))))))))))))))))))))
set_option maxRecDepth 20000 in
theorem inW_wsX8_having : ∀ w ∈ wsX8_having, w ∈ lw_tbl := inCo mw_21_9 (inAp (inAp (inAp (inAp (inAp (inAp (inW_wsX8_having_r1) (inAp (inW_wsX8_having_r2) (inAp (inW_wsX8_having_r3) (inW_wsX8_having_r4)))) (inT_X8)) (inT_X2)) (inT_X5)) (inT_X1)) (inT_X7))
set_option maxRecDepth 20000 in
theorem ggL_X8_having : GoodIn lw_tbl wsX8_having := goodIn_sub inW_wsX8_having (by decide +kernel)
set_option maxRecDepth 20000 in
theorem gL_X8_having : GoodIn lw_tbl (wsV RL 58 RX8 yX8_having wsX8_having) := goodIn_app (goodIn_sub (inCo mw_21_6 (inCo mw_21_7 (inCo mw_21_8 (inCo mw_1_2 (inNi))))) (by decide +kernel)) ggL_X8_having
set_option maxRecDepth 20000 in
theorem inW_wsX9_having_r1 : ∀ w ∈ wsX9_having_r1, w ∈ lw_tbl := inCo mw_10_11 (inCo mw_22_0 (inCo mw_22_1 (inCo mw_1_5 (inCo mw_22_2 (inCo mw_22_3 (inCo mw_11_2 (inCo mw_11_3 (inCo mw_11_4 (inCo mw_22_4 (inCo mw_22_5 (inCo mw_22_6 (inCo mw_22_7 (inCo mw_10_15 (inCo mw_21_2 (inCo mw_21_3 (inCo mw_21_4 (inCo mw_21_5 (inCo mw_19_20 (inCo mw_19_21 (inCo mw_19_22 (inCo mw_19_23 (inCo mw_5_3 (inCo mw_10_13 (inNi))))))))))))))))))))))))
set_option maxRecDepth 20000 in
theorem inW_wsX9_having_r2 : ∀ w ∈ wsX9_having_r2, w ∈ lw_tbl := inCo mw_10_19 (inCo mw_20_0 (inCo mw_20_1 (inCo mw_20_2 (inCo mw_20_3 (inCo mw_20_4 (inCo mw_20_5 (inCo mw_14_7 (inCo mw_14_8 (inCo mw_14_9 (inCo mw_14_10 (inCo mw_5_0 (inCo mw_5_1 (inCo mw_4_23 (inCo mw_14_11 (inCo mw_14_12 (inCo mw_14_13 (inCo mw_14_14 (inCo mw_5_4 (inCo mw_5_5 (inCo mw_5_2 (inCo mw_10_20 (inCo mw_14_15 (inCo mw_14_16 (inNi))))))))))))))))))))))))
set_option maxRecDepth 20000 in
theorem inW_wsX9_having_r3 : ∀ w ∈ wsX9_having_r3, w ∈ lw_tbl := inCo mw_14_17 (inCo mw_14_18 (inCo mw_5_9 (inCo mw_5_7 (inCo mw_10_18 (inNi)))))
set_option maxRecDepth 20000 in
theorem inW_wsX9_having : ∀ w ∈ wsX9_having, w ∈ lw_tbl := inCo mw_21_23 (inAp (inAp (inW_wsX9_having_r1) (inAp (inW_wsX9_having_r2) (inW_wsX9_having_r3))) (inT_X9))
set_option maxRecDepth 20000 in
theorem ggL_X9_having : GoodIn lw_tbl wsX9_having := goodIn_sub inW_wsX9_having (by decide +kernel)
set_option maxRecDepth 20000 in
theorem gL_X9_having : GoodIn lw_tbl (wsV RL 61 RX9 yX9_having wsX9_having) := goodIn_app (goodIn_sub (inCo mw_21_20 (inCo mw_21_21 (inCo mw_21_22 (inCo mw_1_5 (inNi))))) (by decide +kernel)) ggL_X9_having
set_option maxRecDepth 20000 in
theorem inW_wsX8_alone_r1 : ∀ w ∈ wsX8_alone_r1, w ∈ lw_tbl := inCo mw_1_23 (inCo mw_2_3 (inCo mw_16_22 (inCo mw_16_23 (inCo mw_17_0 (inCo mw_1_22 (inCo mw_17_1 (inCo mw_9_8 (inCo mw_21_10 (inCo mw_21_11 (inCo mw_21_12 (inCo mw_2_2 (inCo mw_21_13 (inCo mw_4_3 (inCo mw_20_20 (inCo mw_4_2 (inCo mw_21_14 (inCo mw_18_18 (inCo mw_18_19 (inCo mw_18_20 (inCo mw_18_21 (inCo mw_18_22 (inCo mw_18_23 (inCo mw_4_1 (inNi))))))))))))))))))))))))
set_option maxRecDepth 20000 in
theorem inW_wsX8_alone_r2 : ∀ w ∈ wsX8_alone_r2, w ∈ lw_tbl := inCo mw_19_0 (inCo mw_13_0 (inCo mw_13_1 (inCo mw_13_2 (inCo mw_3_4 (inCo mw_13_3 (inCo mw_13_4 (inCo mw_13_5 (inCo mw_13_6 (inCo mw_3_6 (inCo mw_9_12 (inCo mw_9_11 (inCo mw_3_8 (inCo mw_10_3 (inCo mw_9_14 (inCo mw_3_5 (inCo mw_13_7 (inCo mw_13_8 (inCo mw_13_9 (inCo mw_13_10 (inCo mw_3_10 (inCo mw_9_23 (inCo mw_13_11 (inCo mw_1_2 (inNi))))))))))))))))))))))))
set_option maxRecDepth 20000 in
theorem inW_wsX8_alone_r3 : ∀ w ∈ wsX8_alone_r3, w ∈ lw_tbl := inCo mw_13_12 (inCo mw_13_13 (inCo mw_13_14 (inCo mw_13_15 (inCo mw_3_12 (inCo mw_13_16 (inCo mw_13_17 (inCo mw_13_18 (inCo mw_13_19 (inCo mw_13_20 (inCo mw_13_21 (inCo mw_13_22 (inCo mw_21_15 (inCo mw_20_11 (inCo mw_20_12 (inCo mw_20_13 (inCo mw_20_14 (inCo mw_20_15 (inCo mw_20_16 (inCo mw_20_17 (inCo mw_20_18 (inCo mw_20_19 (inCo mw_20_21 (inCo mw_19_2 (inNi))))))))))))))))))))))))
set_option maxRecDepth 20000 in
theorem inW_wsX8_alone_r4 : ∀ w ∈ wsX8_alone_r4, w ∈ lw_tbl := inCo mw_19_3 (inCo mw_19_4 (inCo mw_19_5 (inCo mw_19_6 (inCo mw_19_7 (inCo mw_19_8 (inCo mw_19_9 (inCo mw_19_10 (inCo mw_19_11 (inCo mw_19_12 (inCo mw_19_13 (inCo mw_19_14 (inCo mw_19_15 (inCo mw_21_16 (inCo mw_21_17 (inCo mw_21_18 (inCo mw_21_19 (inCo mw_22_12 (inCo mw_22_13 (inCo mw_22_14 (inCo mw_22_15 (inCo mw_22_16 (inCo mw_22_17 (inCo mw_22_18 (inNi))))))))))))))))))))))))
set_option maxRecDepth 20000 in
theorem inW_wsX8_alone : ∀ w ∈ wsX8_alone, w ∈ lw_tbl := inCo mw_22_11 (inAp (inAp (inAp (inAp (inAp (inAp (inW_wsX8_alone_r1) (inAp (inW_wsX8_alone_r2) (inAp (inW_wsX8_alone_r3) (inW_wsX8_alone_r4)))) (inT_X8)) (inT_X2)) (inT_X5)) (inT_X1)) (inT_X7))
set_option maxRecDepth 20000 in
theorem ggL_X8_alone : GoodIn lw_tbl wsX8_alone := goodIn_sub inW_wsX8_alone (by decide +kernel)
set_option maxRecDepth 20000 in
theorem gL_X8_alone : GoodIn lw_tbl (wsV RL 62 RX8 yX8_alone wsX8_alone) := goodIn_app (goodIn_sub (inCo mw_22_8 (inCo mw_22_9 (inCo mw_22_10 (inCo mw_1_2 (inNi))))) (by decide +kernel)) ggL_X8_alone
set_option maxRecDepth 20000 in
theorem inW_wsX9_alone_r1 : ∀ w ∈ wsX9_alone_r1, w ∈ lw_tbl := inCo mw_10_11 (inCo mw_22_4 (inCo mw_22_5 (inCo mw_22_6 (inCo mw_1_5 (inCo mw_22_7 (inCo mw_10_15 (inCo mw_21_2 (inCo mw_21_3 (inCo mw_21_4 (inCo mw_21_5 (inCo mw_19_20 (inCo mw_19_21 (inCo mw_19_22 (inCo mw_19_23 (inCo mw_5_3 (inCo mw_10_13 (inCo mw_10_19 (inCo mw_20_0 (inCo mw_20_1 (inCo mw_20_2 (inCo mw_20_3 (inCo mw_20_4 (inCo mw_20_5 (inNi))))))))))))))))))))))))
set_option maxRecDepth 20000 in
theorem inW_wsX9_alone_r2 : ∀ w ∈ wsX9_alone_r2, w ∈ lw_tbl := inCo mw_14_7 (inCo mw_14_8 (inCo mw_14_9 (inCo mw_14_10 (inCo mw_5_0 (inCo mw_5_1 (inCo mw_4_23 (inCo mw_14_11 (inCo mw_14_12 (inCo mw_14_13 (inCo mw_14_14 (inCo mw_5_4 (inCo mw_5_5 (inCo mw_5_2 (inCo mw_10_20 (inCo mw_14_15 (inCo mw_14_16 (inCo mw_14_17 (inCo mw_14_18 (inCo mw_5_9 (inCo mw_5_7 (inCo mw_10_18 (inCo mw_22_23 (inCo mw_23_0 (inNi))))))))))))))))))))))))
set_option maxRecDepth 20000 in
theorem inW_wsX9_alone_r3 : ∀ w ∈ wsX9_alone_r3, w ∈ lw_tbl := inCo mw_23_1 (inNi)
set_option maxRecDepth 20000 in
theorem inW_wsX9_alone : ∀ w ∈ wsX9_alone, w ∈ lw_tbl := inCo mw_22_22 (inAp (inAp (inW_wsX9_alone_r1) (inAp (inW_wsX9_alone_r2) (inW_wsX9_alone_r3))) (inT_X9))
set_option maxRecDepth 20000 in
theorem ggL_X9_alone : GoodIn lw_tbl wsX9_alone := goodIn_sub inW_wsX9_alone (by decide +kernel)
set_option maxRecDepth 20000 in
theorem gL_X9_alone : GoodIn lw_tbl (wsV RL 66 RX9 yX9_alone wsX9_alone) := goodIn_app (goodIn_sub (inCo mw_22_19 (inCo mw_22_20 (inCo mw_22_21 (inCo mw_1_5 (inNi))))) (by decide +kernel)) ggL_X9_alone
set_option maxRecDepth 20000 in
theorem inW_wsX8_letter_r1 : ∀ w ∈ wsX8_letter_r1, w ∈ lw_tbl := inCo mw_1_23 (inCo mw_2_3 (inCo mw_6_12 (inCo mw_6_13 (inCo mw_1_2 (inCo mw_6_14 (inCo mw_16_22 (inCo mw_16_23 (inCo mw_17_0 (inCo mw_1_22 (inCo mw_17_1 (inCo mw_9_8 (inCo mw_21_10 (inCo mw_21_11 (inCo mw_21_12 (inCo mw_2_2 (inCo mw_21_13 (inCo mw_4_3 (inCo mw_20_20 (inCo mw_4_2 (inCo mw_21_14 (inCo mw_18_18 (inCo mw_18_19 (inCo mw_18_20 (inNi))))))))))))))))))))))))
set_option maxRecDepth 20000 in
theorem inW_wsX8_letter_r2 : ∀ w ∈ wsX8_letter_r2, w ∈ lw_tbl := inCo mw_18_21 (inCo mw_18_22 (inCo mw_18_23 (inCo mw_4_1 (inCo mw_19_0 (inCo mw_13_0 (inCo mw_13_1 (inCo mw_13_2 (inCo mw_3_4 (inCo mw_13_3 (inCo mw_13_4 (inCo mw_13_5 (inCo mw_13_6 (inCo mw_3_6 (inCo mw_9_12 (inCo mw_9_11 (inCo mw_3_8 (inCo mw_10_3 (inCo mw_9_14 (inCo mw_3_5 (inCo mw_13_7 (inCo mw_13_8 (inCo mw_13_9 (inCo mw_13_10 (inNi))))))))))))))))))))))))
set_option maxRecDepth 20000 in
theorem inW_wsX8_letter_r3 : ∀ w ∈ wsX8_letter_r3, w ∈ lw_tbl := inCo mw_3_10 (inCo mw_9_23 (inCo mw_13_11 (inCo mw_13_12 (inCo mw_13_13 (inCo mw_13_14 (inCo mw_13_15 (inCo mw_3_12 (inCo mw_13_16 (inCo mw_13_17 (inCo mw_13_18 (inCo mw_13_19 (inCo mw_13_20 (inCo mw_13_21 (inCo mw_13_22 (inCo mw_21_15 (inCo mw_20_11 (inCo mw_20_12 (inCo mw_20_13 (inCo mw_20_14 (inCo mw_20_15 (inCo mw_20_16 (inCo mw_20_17 (inCo mw_20_18 (inNi))))))))))))))))))))))))
set_option maxRecDepth 20000 in
theorem inW_wsX8_letter_r4 : ∀ w ∈ wsX8_letter_r4, w ∈ lw_tbl := inCo mw_20_19 (inCo mw_20_21 (inCo mw_19_2 (inCo mw_19_3 (inCo mw_19_4 (inCo mw_19_5 (inCo mw_19_6 (inCo mw_19_7 (inCo mw_19_8 (inCo mw_19_9 (inCo mw_19_10 (inCo mw_19_11 (inCo mw_19_12 (inCo mw_19_13 (inCo mw_19_14 (inCo mw_19_15 (inCo mw_21_16 (inCo mw_21_17 (inCo mw_21_18 (inCo mw_21_19 (inCo mw_23_6 (inCo mw_23_7 (inCo mw_23_8 (inCo mw_23_9 (inNi))))))))))))))))))))))))
set_option maxRecDepth 20000 in
theorem inW_wsX8_letter_r5 : ∀ w ∈ wsX8_letter_r5, w ∈ lw_tbl := inCo mw_23_10 (inCo mw_23_11 (inCo mw_23_12 (inCo mw_23_13 (inNi))))
set_option maxRecDepth 20000 in
theorem inW_wsX8_letter : ∀ w ∈ wsX8_letter, w ∈ lw_tbl := inCo mw_23_5 (inAp (inAp (inAp (inAp (inAp (inAp (inW_wsX8_letter_r1) (inAp (inW_wsX8_letter_r2) (inAp (inW_wsX8_letter_r3) (inAp (inW_wsX8_letter_r4) (inW_wsX8_letter_r5))))) (inT_X8)) (inT_X2)) (inT_X5)) (inT_X1)) (inT_X7))
set_option maxRecDepth 20000 in
theorem ggL_X8_letter : GoodIn lw_tbl wsX8_letter := goodIn_sub inW_wsX8_letter (by decide +kernel)
set_option maxRecDepth 20000 in
theorem gL_X8_letter : GoodIn lw_tbl (wsV RL 67 RX8 yX8_letter wsX8_letter) := goodIn_app (goodIn_sub (inCo mw_23_2 (inCo mw_23_3 (inCo mw_23_4 (inCo mw_1_2 (inNi))))) (by decide +kernel)) ggL_X8_letter
set_option maxRecDepth 20000 in
theorem inW_wsX9_letter_r1 : ∀ w ∈ wsX9_letter_r1, w ∈ lw_tbl := inCo mw_10_11 (inCo mw_10_15 (inCo mw_22_0 (inCo mw_22_1 (inCo mw_1_5 (inCo mw_22_2 (inCo mw_22_3 (inCo mw_11_2 (inCo mw_11_3 (inCo mw_11_4 (inCo mw_22_4 (inCo mw_22_5 (inCo mw_22_6 (inCo mw_22_7 (inCo mw_21_2 (inCo mw_21_3 (inCo mw_21_4 (inCo mw_21_5 (inCo mw_19_20 (inCo mw_19_21 (inCo mw_19_22 (inCo mw_19_23 (inCo mw_5_3 (inCo mw_10_13 (inNi))))))))))))))))))))))))
set_option maxRecDepth 20000 in
theorem inW_wsX9_letter_r2 : ∀ w ∈ wsX9_letter_r2, w ∈ lw_tbl := inCo mw_10_19 (inCo mw_20_0 (inCo mw_20_1 (inCo mw_20_2 (inCo mw_20_3 (inCo mw_20_4 (inCo mw_20_5 (inCo mw_14_7 (inCo mw_14_8 (inCo mw_14_9 (inCo mw_14_10 (inCo mw_5_0 (inCo mw_5_1 (inCo mw_4_23 (inCo mw_14_11 (inCo mw_14_12 (inCo mw_14_13 (inCo mw_14_14 (inCo mw_5_4 (inCo mw_5_5 (inCo mw_5_2 (inCo mw_10_20 (inCo mw_14_15 (inCo mw_14_16 (inNi))))))))))))))))))))))))
set_option maxRecDepth 20000 in
theorem inW_wsX9_letter_r3 : ∀ w ∈ wsX9_letter_r3, w ∈ lw_tbl := inCo mw_14_17 (inCo mw_14_18 (inCo mw_5_9 (inCo mw_5_7 (inCo mw_10_18 (inCo mw_23_18 (inCo mw_23_19 (inCo mw_23_20 (inNi))))))))
set_option maxRecDepth 20000 in
theorem inW_wsX9_letter : ∀ w ∈ wsX9_letter, w ∈ lw_tbl := inCo mw_23_17 (inAp (inAp (inW_wsX9_letter_r1) (inAp (inW_wsX9_letter_r2) (inW_wsX9_letter_r3))) (inT_X9))
set_option maxRecDepth 20000 in
theorem ggL_X9_letter : GoodIn lw_tbl wsX9_letter := goodIn_sub inW_wsX9_letter (by decide +kernel)
set_option maxRecDepth 20000 in
theorem gL_X9_letter : GoodIn lw_tbl (wsV RL 70 RX9 yX9_letter wsX9_letter) := goodIn_app (goodIn_sub (inCo mw_23_14 (inCo mw_23_15 (inCo mw_23_16 (inCo mw_1_5 (inNi))))) (by decide +kernel)) ggL_X9_letter
set_option maxRecDepth 20000 in
theorem inW_wsX8_mean_r1 : ∀ w ∈ wsX8_mean_r1, w ∈ lw_tbl := inCo mw_1_23 (inCo mw_24_1 (inCo mw_24_2 (inCo mw_2_3 (inCo mw_6_12 (inCo mw_6_13 (inCo mw_1_2 (inCo mw_6_14 (inCo mw_16_22 (inCo mw_16_23 (inCo mw_17_0 (inCo mw_1_22 (inCo mw_17_1 (inCo mw_9_8 (inCo mw_21_10 (inCo mw_21_11 (inCo mw_21_12 (inCo mw_2_2 (inCo mw_21_13 (inCo mw_4_3 (inCo mw_20_20 (inCo mw_4_2 (inCo mw_21_14 (inCo mw_18_18 (inNi))))))))))))))))))))))))
set_option maxRecDepth 20000 in
theorem inW_wsX8_mean_r2 : ∀ w ∈ wsX8_mean_r2, w ∈ lw_tbl := inCo mw_18_19 (inCo mw_18_20 (inCo mw_18_21 (inCo mw_18_22 (inCo mw_18_23 (inCo mw_4_1 (inCo mw_19_0 (inCo mw_13_0 (inCo mw_13_1 (inCo mw_13_2 (inCo mw_3_4 (inCo mw_13_3 (inCo mw_13_4 (inCo mw_13_5 (inCo mw_13_6 (inCo mw_3_6 (inCo mw_9_12 (inCo mw_9_11 (inCo mw_3_8 (inCo mw_10_3 (inCo mw_9_14 (inCo mw_3_5 (inCo mw_13_7 (inCo mw_13_8 (inNi))))))))))))))))))))))))
set_option maxRecDepth 20000 in
theorem inW_wsX8_mean_r3 : ∀ w ∈ wsX8_mean_r3, w ∈ lw_tbl := inCo mw_13_9 (inCo mw_13_10 (inCo mw_3_10 (inCo mw_9_23 (inCo mw_13_11 (inCo mw_13_12 (inCo mw_13_13 (inCo mw_13_14 (inCo mw_13_15 (inCo mw_3_12 (inCo mw_13_16 (inCo mw_13_17 (inCo mw_13_18 (inCo mw_13_19 (inCo mw_13_20 (inCo mw_13_21 (inCo mw_13_22 (inCo mw_21_15 (inCo mw_20_11 (inCo mw_20_12 (inCo mw_20_13 (inCo mw_20_14 (inCo mw_20_15 (inCo mw_20_16 (inNi))))))))))))))))))))))))
set_option maxRecDepth 20000 in
theorem inW_wsX8_mean_r4 : ∀ w ∈ wsX8_mean_r4, w ∈ lw_tbl := inCo mw_20_17 (inCo mw_20_18 (inCo mw_20_19 (inCo mw_20_21 (inCo mw_19_2 (inCo mw_19_3 (inCo mw_19_4 (inCo mw_19_5 (inCo mw_19_6 (inCo mw_19_7 (inCo mw_19_8 (inCo mw_19_9 (inCo mw_19_10 (inCo mw_19_11 (inCo mw_19_12 (inCo mw_19_13 (inCo mw_19_14 (inCo mw_19_15 (inCo mw_24_3 (inCo mw_24_4 (inCo mw_24_5 (inCo mw_24_6 (inCo mw_24_7 (inNi)))))))))))))))))))))))
set_option maxRecDepth 20000 in
theorem inW_wsX8_mean : ∀ w ∈ wsX8_mean, w ∈ lw_tbl := inCo mw_24_0 (inAp (inAp (inAp (inAp (inAp (inAp (inW_wsX8_mean_r1) (inAp (inW_wsX8_mean_r2) (inAp (inW_wsX8_mean_r3) (inW_wsX8_mean_r4)))) (inT_X8)) (inT_X2)) (inT_X5)) (inT_X1)) (inT_X7))
set_option maxRecDepth 20000 in
theorem ggL_X8_mean : GoodIn lw_tbl wsX8_mean := goodIn_sub inW_wsX8_mean (by decide +kernel)
set_option maxRecDepth 20000 in
theorem gL_X8_mean : GoodIn lw_tbl (wsV RL 71 RX8 yX8_mean wsX8_mean) := goodIn_app (goodIn_sub (inCo mw_23_21 (inCo mw_23_22 (inCo mw_23_23 (inCo mw_1_2 (inNi))))) (by decide +kernel)) ggL_X8_mean
set_option maxRecDepth 20000 in
theorem inW_wsX9_mean_r1 : ∀ w ∈ wsX9_mean_r1, w ∈ lw_tbl := inCo mw_10_11 (inCo mw_10_15 (inCo mw_11_2 (inCo mw_11_3 (inCo mw_1_5 (inCo mw_11_4 (inCo mw_24_12 (inCo mw_24_13 (inCo mw_24_14 (inCo mw_24_15 (inCo mw_21_2 (inCo mw_21_3 (inCo mw_21_4 (inCo mw_21_5 (inCo mw_19_20 (inCo mw_19_21 (inCo mw_19_22 (inCo mw_19_23 (inCo mw_5_3 (inCo mw_10_13 (inCo mw_10_19 (inCo mw_20_0 (inCo mw_20_1 (inCo mw_20_2 (inNi))))))))))))))))))))))))
set_option maxRecDepth 20000 in
theorem inW_wsX9_mean_r2 : ∀ w ∈ wsX9_mean_r2, w ∈ lw_tbl := inCo mw_20_3 (inCo mw_20_4 (inCo mw_20_5 (inCo mw_14_7 (inCo mw_14_8 (inCo mw_14_9 (inCo mw_14_10 (inCo mw_5_0 (inCo mw_5_1 (inCo mw_4_23 (inCo mw_14_11 (inCo mw_14_12 (inCo mw_14_13 (inCo mw_14_14 (inCo mw_5_4 (inCo mw_5_5 (inCo mw_5_2 (inCo mw_10_20 (inCo mw_14_15 (inCo mw_14_16 (inCo mw_14_17 (inCo mw_14_18 (inCo mw_5_9 (inCo mw_5_7 (inNi))))))))))))))))))))))))
set_option maxRecDepth 20000 in
theorem inW_wsX9_mean_r3 : ∀ w ∈ wsX9_mean_r3, w ∈ lw_tbl := inCo mw_10_18 (inNi)
set_option maxRecDepth 20000 in
theorem inW_wsX9_mean : ∀ w ∈ wsX9_mean, w ∈ lw_tbl := inCo mw_24_11 (inAp (inAp (inW_wsX9_mean_r1) (inAp (inW_wsX9_mean_r2) (inW_wsX9_mean_r3))) (inT_X9))
set_option maxRecDepth 20000 in
theorem ggL_X9_mean : GoodIn lw_tbl wsX9_mean := goodIn_sub inW_wsX9_mean (by decide +kernel)
set_option maxRecDepth 20000 in
theorem gL_X9_mean : GoodIn lw_tbl (wsV RL 75 RX9 yX9_mean wsX9_mean) := goodIn_app (goodIn_sub (inCo mw_24_8 (inCo mw_24_9 (inCo mw_24_10 (inCo mw_1_5 (inNi))))) (by decide +kernel)) ggL_X9_mean
set_option maxRecDepth 20000 in
theorem inW_wsX8_walled_r1 : ∀ w ∈ wsX8_walled_r1, w ∈ lw_tbl := inCo mw_2_7 (inCo mw_24_20 (inCo mw_24_21 (inCo mw_24_22 (inCo mw_1_2 (inCo mw_24_23 (inCo mw_1_23 (inCo mw_15_5 (inCo mw_15_6 (inCo mw_15_7 (inCo mw_1_22 (inCo mw_15_8 (inCo mw_9_9 (inCo mw_6_13 (inCo mw_6_14 (inCo mw_6_12 (inCo mw_25_0 (inCo mw_25_1 (inCo mw_25_2 (inCo mw_2_6 (inCo mw_25_3 (inCo mw_4_9 (inCo mw_4_8 (inCo mw_25_4 (inNi))))))))))))))))))))))))
set_option maxRecDepth 20000 in
theorem inW_wsX8_walled_r2 : ∀ w ∈ wsX8_walled_r2, w ∈ lw_tbl := inCo mw_25_5 (inCo mw_25_6 (inCo mw_25_7 (inCo mw_25_8 (inCo mw_18_18 (inCo mw_18_19 (inCo mw_2_2 (inCo mw_18_20 (inCo mw_4_3 (inCo mw_18_21 (inCo mw_18_22 (inCo mw_18_23 (inCo mw_4_1 (inCo mw_19_0 (inCo mw_13_0 (inCo mw_13_1 (inCo mw_13_2 (inCo mw_3_4 (inCo mw_13_3 (inCo mw_13_4 (inCo mw_13_5 (inCo mw_13_6 (inCo mw_3_6 (inCo mw_9_12 (inNi))))))))))))))))))))))))
set_option maxRecDepth 20000 in
theorem inW_wsX8_walled_r3 : ∀ w ∈ wsX8_walled_r3, w ∈ lw_tbl := inCo mw_9_11 (inCo mw_3_8 (inCo mw_10_3 (inCo mw_9_14 (inCo mw_3_5 (inCo mw_13_7 (inCo mw_13_8 (inCo mw_13_9 (inCo mw_13_10 (inCo mw_3_10 (inCo mw_9_23 (inCo mw_13_11 (inCo mw_13_12 (inCo mw_13_13 (inCo mw_13_14 (inCo mw_13_15 (inCo mw_3_12 (inCo mw_13_16 (inCo mw_13_17 (inCo mw_13_18 (inCo mw_13_19 (inCo mw_13_20 (inCo mw_13_21 (inCo mw_13_22 (inNi))))))))))))))))))))))))
set_option maxRecDepth 20000 in
theorem inW_wsX8_walled_r4 : ∀ w ∈ wsX8_walled_r4, w ∈ lw_tbl := inCo mw_25_9 (inCo mw_17_14 (inCo mw_17_15 (inCo mw_17_16 (inCo mw_25_10 (inCo mw_25_11 (inCo mw_25_12 (inCo mw_25_13 (inCo mw_20_16 (inCo mw_20_17 (inCo mw_20_18 (inCo mw_20_19 (inCo mw_20_20 (inCo mw_20_14 (inCo mw_20_15 (inCo mw_20_21 (inCo mw_19_2 (inCo mw_19_3 (inCo mw_19_4 (inCo mw_19_5 (inCo mw_19_6 (inCo mw_19_7 (inCo mw_19_8 (inCo mw_19_9 (inNi))))))))))))))))))))))))
set_option maxRecDepth 20000 in
theorem inW_wsX8_walled_r5 : ∀ w ∈ wsX8_walled_r5, w ∈ lw_tbl := inCo mw_19_10 (inCo mw_19_11 (inCo mw_19_12 (inCo mw_19_13 (inCo mw_19_14 (inCo mw_19_15 (inNi))))))
set_option maxRecDepth 20000 in
theorem inW_wsX8_walled : ∀ w ∈ wsX8_walled, w ∈ lw_tbl := inCo mw_24_19 (inAp (inAp (inAp (inAp (inAp (inAp (inAp (inW_wsX8_walled_r1) (inAp (inW_wsX8_walled_r2) (inAp (inW_wsX8_walled_r3) (inAp (inW_wsX8_walled_r4) (inW_wsX8_walled_r5))))) (inT_X8)) (inT_X2)) (inT_X0)) (inT_X1)) (inT_X5)) (inT_X7))
set_option maxRecDepth 20000 in
theorem ggL_X8_walled : GoodIn lw_tbl wsX8_walled := goodIn_sub inW_wsX8_walled (by decide +kernel)
set_option maxRecDepth 20000 in
theorem gL_X8_walled : GoodIn lw_tbl (wsV RL 76 RX8 yX8_walled wsX8_walled) := goodIn_app (goodIn_sub (inCo mw_24_16 (inCo mw_24_17 (inCo mw_24_18 (inCo mw_1_2 (inNi))))) (by decide +kernel)) ggL_X8_walled
set_option maxRecDepth 20000 in
theorem inW_wsX9_walled_r1 : ∀ w ∈ wsX9_walled_r1, w ∈ lw_tbl := inCo mw_5_0 (inCo mw_5_1 (inCo mw_15_14 (inCo mw_15_15 (inCo mw_15_16 (inCo mw_1_5 (inCo mw_15_17 (inCo mw_10_15 (inCo mw_11_2 (inCo mw_11_3 (inCo mw_11_4 (inCo mw_22_0 (inCo mw_22_1 (inCo mw_22_2 (inCo mw_22_3 (inCo mw_12_9 (inCo mw_12_10 (inCo mw_12_11 (inCo mw_12_12 (inCo mw_10_11 (inCo mw_10_13 (inCo mw_21_2 (inCo mw_21_3 (inCo mw_21_4 (inNi))))))))))))))))))))))))
set_option maxRecDepth 20000 in
theorem inW_wsX9_walled_r2 : ∀ w ∈ wsX9_walled_r2, w ∈ lw_tbl := inCo mw_21_5 (inCo mw_19_20 (inCo mw_19_21 (inCo mw_19_22 (inCo mw_19_23 (inCo mw_5_3 (inCo mw_10_19 (inCo mw_20_0 (inCo mw_20_1 (inCo mw_20_2 (inCo mw_20_3 (inCo mw_20_4 (inCo mw_20_5 (inCo mw_14_7 (inCo mw_14_8 (inCo mw_14_9 (inCo mw_14_10 (inCo mw_4_23 (inCo mw_14_11 (inCo mw_14_12 (inCo mw_14_13 (inCo mw_14_14 (inCo mw_5_4 (inCo mw_5_5 (inNi))))))))))))))))))))))))
set_option maxRecDepth 20000 in
theorem inW_wsX9_walled_r3 : ∀ w ∈ wsX9_walled_r3, w ∈ lw_tbl := inCo mw_5_2 (inCo mw_10_20 (inCo mw_14_15 (inCo mw_14_16 (inCo mw_14_17 (inCo mw_14_18 (inCo mw_5_9 (inCo mw_5_7 (inCo mw_10_18 (inNi)))))))))
set_option maxRecDepth 20000 in
theorem inW_wsX9_walled : ∀ w ∈ wsX9_walled, w ∈ lw_tbl := inCo mw_25_17 (inAp (inAp (inW_wsX9_walled_r1) (inAp (inW_wsX9_walled_r2) (inW_wsX9_walled_r3))) (inT_X9))
set_option maxRecDepth 20000 in
theorem ggL_X9_walled : GoodIn lw_tbl wsX9_walled := goodIn_sub inW_wsX9_walled (by decide +kernel)
set_option maxRecDepth 20000 in
theorem gL_X9_walled : GoodIn lw_tbl (wsV RL 79 RX9 yX9_walled wsX9_walled) := goodIn_app (goodIn_sub (inCo mw_25_14 (inCo mw_25_15 (inCo mw_25_16 (inCo mw_1_5 (inNi))))) (by decide +kernel)) ggL_X9_walled
set_option maxRecDepth 20000 in
theorem inW_wsX8_raised_r1 : ∀ w ∈ wsX8_raised_r1, w ∈ lw_tbl := inCo mw_2_7 (inCo mw_24_20 (inCo mw_24_21 (inCo mw_24_22 (inCo mw_1_2 (inCo mw_24_23 (inCo mw_1_23 (inCo mw_15_5 (inCo mw_15_6 (inCo mw_15_7 (inCo mw_1_22 (inCo mw_15_8 (inCo mw_9_9 (inCo mw_6_13 (inCo mw_6_14 (inCo mw_6_12 (inCo mw_25_22 (inCo mw_25_23 (inCo mw_26_0 (inCo mw_2_6 (inCo mw_26_1 (inCo mw_4_9 (inCo mw_4_8 (inCo mw_25_4 (inNi))))))))))))))))))))))))
set_option maxRecDepth 20000 in
theorem inW_wsX8_raised_r2 : ∀ w ∈ wsX8_raised_r2, w ∈ lw_tbl := inCo mw_25_7 (inCo mw_25_5 (inCo mw_26_2 (inCo mw_25_8 (inCo mw_18_18 (inCo mw_18_19 (inCo mw_2_2 (inCo mw_18_20 (inCo mw_4_3 (inCo mw_18_21 (inCo mw_18_22 (inCo mw_18_23 (inCo mw_4_1 (inCo mw_19_0 (inCo mw_13_0 (inCo mw_13_1 (inCo mw_13_2 (inCo mw_3_4 (inCo mw_13_3 (inCo mw_13_4 (inCo mw_13_5 (inCo mw_13_6 (inCo mw_3_6 (inCo mw_9_12 (inNi))))))))))))))))))))))))
set_option maxRecDepth 20000 in
theorem inW_wsX8_raised_r3 : ∀ w ∈ wsX8_raised_r3, w ∈ lw_tbl := inCo mw_9_11 (inCo mw_3_8 (inCo mw_10_3 (inCo mw_9_14 (inCo mw_3_5 (inCo mw_13_7 (inCo mw_13_8 (inCo mw_13_9 (inCo mw_13_10 (inCo mw_3_10 (inCo mw_9_23 (inCo mw_13_11 (inCo mw_13_12 (inCo mw_13_13 (inCo mw_13_14 (inCo mw_13_15 (inCo mw_3_12 (inCo mw_13_16 (inCo mw_13_17 (inCo mw_13_18 (inCo mw_13_19 (inCo mw_13_20 (inCo mw_13_21 (inCo mw_13_22 (inNi))))))))))))))))))))))))
set_option maxRecDepth 20000 in
theorem inW_wsX8_raised_r4 : ∀ w ∈ wsX8_raised_r4, w ∈ lw_tbl := inCo mw_26_3 (inCo mw_25_10 (inCo mw_25_11 (inCo mw_25_12 (inCo mw_25_13 (inCo mw_20_16 (inCo mw_20_17 (inCo mw_20_18 (inCo mw_20_19 (inCo mw_20_20 (inCo mw_20_14 (inCo mw_20_15 (inCo mw_20_21 (inCo mw_19_2 (inCo mw_19_3 (inCo mw_19_4 (inCo mw_19_5 (inCo mw_19_6 (inCo mw_19_7 (inCo mw_19_8 (inCo mw_19_9 (inCo mw_19_10 (inCo mw_19_11 (inCo mw_19_12 (inNi))))))))))))))))))))))))
set_option maxRecDepth 20000 in
theorem inW_wsX8_raised_r5 : ∀ w ∈ wsX8_raised_r5, w ∈ lw_tbl := inCo mw_19_13 (inCo mw_19_14 (inCo mw_19_15 (inNi)))
set_option maxRecDepth 20000 in
theorem inW_wsX8_raised : ∀ w ∈ wsX8_raised, w ∈ lw_tbl := inCo mw_25_21 (inAp (inAp (inAp (inAp (inAp (inAp (inAp (inW_wsX8_raised_r1) (inAp (inW_wsX8_raised_r2) (inAp (inW_wsX8_raised_r3) (inAp (inW_wsX8_raised_r4) (inW_wsX8_raised_r5))))) (inT_X8)) (inT_X2)) (inT_X0)) (inT_X1)) (inT_X5)) (inT_X7))
set_option maxRecDepth 20000 in
theorem ggL_X8_raised : GoodIn lw_tbl wsX8_raised := goodIn_sub inW_wsX8_raised (by decide +kernel)
set_option maxRecDepth 20000 in
theorem gL_X8_raised : GoodIn lw_tbl (wsV RL 80 RX8 yX8_raised wsX8_raised) := goodIn_app (goodIn_sub (inCo mw_25_18 (inCo mw_25_19 (inCo mw_25_20 (inCo mw_1_2 (inNi))))) (by decide +kernel)) ggL_X8_raised
set_option maxRecDepth 20000 in
theorem inW_wsX9_raised_r1 : ∀ w ∈ wsX9_raised_r1, w ∈ lw_tbl := inCo mw_5_5 (inCo mw_15_14 (inCo mw_15_15 (inCo mw_15_16 (inCo mw_1_5 (inCo mw_15_17 (inCo mw_10_15 (inCo mw_11_2 (inCo mw_11_3 (inCo mw_11_4 (inCo mw_22_0 (inCo mw_22_1 (inCo mw_22_2 (inCo mw_22_3 (inCo mw_21_2 (inCo mw_21_3 (inCo mw_21_4 (inCo mw_21_5 (inCo mw_19_20 (inCo mw_19_21 (inCo mw_19_22 (inCo mw_19_23 (inCo mw_5_3 (inCo mw_10_13 (inNi))))))))))))))))))))))))
set_option maxRecDepth 20000 in
theorem inW_wsX9_raised_r2 : ∀ w ∈ wsX9_raised_r2, w ∈ lw_tbl := inCo mw_10_19 (inCo mw_20_0 (inCo mw_20_1 (inCo mw_20_2 (inCo mw_20_3 (inCo mw_20_4 (inCo mw_20_5 (inCo mw_14_7 (inCo mw_14_8 (inCo mw_14_9 (inCo mw_14_10 (inCo mw_5_0 (inCo mw_5_1 (inCo mw_4_23 (inCo mw_14_11 (inCo mw_14_12 (inCo mw_14_13 (inCo mw_14_14 (inCo mw_5_4 (inCo mw_5_2 (inCo mw_10_20 (inCo mw_14_15 (inCo mw_14_16 (inCo mw_14_17 (inNi))))))))))))))))))))))))
set_option maxRecDepth 20000 in
theorem inW_wsX9_raised_r3 : ∀ w ∈ wsX9_raised_r3, w ∈ lw_tbl := inCo mw_14_18 (inCo mw_5_9 (inCo mw_5_7 (inCo mw_10_18 (inNi))))
set_option maxRecDepth 20000 in
theorem inW_wsX9_raised : ∀ w ∈ wsX9_raised, w ∈ lw_tbl := inCo mw_26_7 (inAp (inAp (inW_wsX9_raised_r1) (inAp (inW_wsX9_raised_r2) (inW_wsX9_raised_r3))) (inT_X9))
set_option maxRecDepth 20000 in
theorem ggL_X9_raised : GoodIn lw_tbl wsX9_raised := goodIn_sub inW_wsX9_raised (by decide +kernel)
set_option maxRecDepth 20000 in
theorem gL_X9_raised : GoodIn lw_tbl (wsV RL 83 RX9 yX9_raised wsX9_raised) := goodIn_app (goodIn_sub (inCo mw_26_4 (inCo mw_26_5 (inCo mw_26_6 (inCo mw_1_5 (inNi))))) (by decide +kernel)) ggL_X9_raised
set_option maxRecDepth 20000 in
theorem inW_wsX8_felling_r1 : ∀ w ∈ wsX8_felling_r1, w ∈ lw_tbl := inCo mw_2_7 (inCo mw_24_20 (inCo mw_24_21 (inCo mw_24_22 (inCo mw_1_2 (inCo mw_24_23 (inCo mw_1_23 (inCo mw_15_5 (inCo mw_15_6 (inCo mw_15_7 (inCo mw_1_22 (inCo mw_15_8 (inCo mw_9_9 (inCo mw_6_13 (inCo mw_6_14 (inCo mw_6_12 (inCo mw_26_12 (inCo mw_26_13 (inCo mw_26_14 (inCo mw_2_6 (inCo mw_26_15 (inCo mw_4_9 (inCo mw_4_8 (inCo mw_26_16 (inNi))))))))))))))))))))))))
set_option maxRecDepth 20000 in
theorem inW_wsX8_felling_r2 : ∀ w ∈ wsX8_felling_r2, w ∈ lw_tbl := inCo mw_26_17 (inCo mw_25_8 (inCo mw_18_18 (inCo mw_18_19 (inCo mw_2_2 (inCo mw_18_20 (inCo mw_4_3 (inCo mw_18_21 (inCo mw_18_22 (inCo mw_18_23 (inCo mw_4_1 (inCo mw_19_0 (inCo mw_13_0 (inCo mw_13_1 (inCo mw_13_2 (inCo mw_3_4 (inCo mw_13_3 (inCo mw_13_4 (inCo mw_13_5 (inCo mw_13_6 (inCo mw_3_6 (inCo mw_9_12 (inCo mw_9_11 (inCo mw_3_8 (inNi))))))))))))))))))))))))
set_option maxRecDepth 20000 in
theorem inW_wsX8_felling_r3 : ∀ w ∈ wsX8_felling_r3, w ∈ lw_tbl := inCo mw_10_3 (inCo mw_9_14 (inCo mw_3_5 (inCo mw_13_7 (inCo mw_13_8 (inCo mw_13_9 (inCo mw_13_10 (inCo mw_3_10 (inCo mw_9_23 (inCo mw_13_11 (inCo mw_13_12 (inCo mw_13_13 (inCo mw_13_14 (inCo mw_13_15 (inCo mw_3_12 (inCo mw_13_16 (inCo mw_13_17 (inCo mw_13_18 (inCo mw_13_19 (inCo mw_13_20 (inCo mw_13_21 (inCo mw_13_22 (inCo mw_26_18 (inCo mw_22_13 (inNi))))))))))))))))))))))))
set_option maxRecDepth 20000 in
theorem inW_wsX8_felling_r4 : ∀ w ∈ wsX8_felling_r4, w ∈ lw_tbl := inCo mw_22_14 (inCo mw_22_15 (inCo mw_22_16 (inCo mw_22_17 (inCo mw_22_18 (inCo mw_26_19 (inCo mw_26_20 (inCo mw_26_21 (inCo mw_26_22 (inCo mw_26_23 (inCo mw_27_0 (inCo mw_27_1 (inCo mw_27_2 (inCo mw_27_3 (inCo mw_27_4 (inCo mw_27_5 (inCo mw_27_6 (inCo mw_27_7 (inCo mw_27_8 (inCo mw_27_9 (inCo mw_20_11 (inCo mw_20_12 (inCo mw_20_13 (inCo mw_20_14 (inNi))))))))))))))))))))))))
set_option maxRecDepth 20000 in
theorem inW_wsX8_felling_r5 : ∀ w ∈ wsX8_felling_r5, w ∈ lw_tbl := inCo mw_20_15 (inCo mw_20_16 (inCo mw_20_17 (inCo mw_20_18 (inCo mw_20_19 (inCo mw_20_20 (inCo mw_20_21 (inCo mw_19_2 (inCo mw_19_3 (inCo mw_19_4 (inCo mw_19_5 (inCo mw_19_6 (inCo mw_19_7 (inCo mw_19_8 (inCo mw_19_9 (inCo mw_19_10 (inCo mw_19_11 (inCo mw_19_12 (inCo mw_19_13 (inCo mw_19_14 (inCo mw_19_15 (inNi)))))))))))))))))))))
set_option maxRecDepth 20000 in
theorem inW_wsX8_felling : ∀ w ∈ wsX8_felling, w ∈ lw_tbl := inCo mw_26_11 (inAp (inAp (inAp (inAp (inAp (inAp (inAp (inW_wsX8_felling_r1) (inAp (inW_wsX8_felling_r2) (inAp (inW_wsX8_felling_r3) (inAp (inW_wsX8_felling_r4) (inW_wsX8_felling_r5))))) (inT_X8)) (inT_X2)) (inT_X0)) (inT_X5)) (inT_X1)) (inT_X7))
set_option maxRecDepth 20000 in
theorem ggL_X8_felling : GoodIn lw_tbl wsX8_felling := goodIn_sub inW_wsX8_felling (by decide +kernel)
set_option maxRecDepth 20000 in
theorem gL_X8_felling : GoodIn lw_tbl (wsV RL 84 RX8 yX8_felling wsX8_felling) := goodIn_app (goodIn_sub (inCo mw_26_8 (inCo mw_26_9 (inCo mw_26_10 (inCo mw_1_2 (inNi))))) (by decide +kernel)) ggL_X8_felling
set_option maxRecDepth 20000 in
theorem inW_wsX9_felling_r1 : ∀ w ∈ wsX9_felling_r1, w ∈ lw_tbl := inCo mw_10_17 (inCo mw_15_14 (inCo mw_15_15 (inCo mw_15_16 (inCo mw_1_5 (inCo mw_15_17 (inCo mw_10_15 (inCo mw_11_2 (inCo mw_11_3 (inCo mw_11_4 (inCo mw_22_0 (inCo mw_22_1 (inCo mw_22_2 (inCo mw_22_3 (inCo mw_27_14 (inCo mw_27_15 (inCo mw_27_16 (inCo mw_27_17 (inCo mw_5_9 (inCo mw_22_23 (inCo mw_23_0 (inCo mw_23_1 (inCo mw_27_18 (inCo mw_27_19 (inNi))))))))))))))))))))))))
set_option maxRecDepth 20000 in
theorem inW_wsX9_felling_r2 : ∀ w ∈ wsX9_felling_r2, w ∈ lw_tbl := inCo mw_27_20 (inCo mw_27_21 (inCo mw_23_18 (inCo mw_23_19 (inCo mw_23_20 (inCo mw_21_2 (inCo mw_21_3 (inCo mw_21_4 (inCo mw_21_5 (inCo mw_19_20 (inCo mw_19_21 (inCo mw_19_22 (inCo mw_19_23 (inCo mw_5_3 (inCo mw_10_13 (inCo mw_10_19 (inCo mw_20_0 (inCo mw_20_1 (inCo mw_20_2 (inCo mw_20_3 (inCo mw_20_4 (inCo mw_20_5 (inCo mw_14_7 (inCo mw_14_8 (inNi))))))))))))))))))))))))
set_option maxRecDepth 20000 in
theorem inW_wsX9_felling_r3 : ∀ w ∈ wsX9_felling_r3, w ∈ lw_tbl := inCo mw_14_9 (inCo mw_14_10 (inCo mw_5_0 (inCo mw_5_1 (inCo mw_4_23 (inCo mw_14_11 (inCo mw_14_12 (inCo mw_14_13 (inCo mw_14_14 (inCo mw_5_4 (inCo mw_5_5 (inCo mw_5_2 (inCo mw_10_20 (inCo mw_14_15 (inCo mw_14_16 (inCo mw_14_17 (inCo mw_14_18 (inCo mw_5_7 (inCo mw_10_18 (inNi)))))))))))))))))))
set_option maxRecDepth 20000 in
theorem inW_wsX9_felling : ∀ w ∈ wsX9_felling, w ∈ lw_tbl := inCo mw_27_13 (inAp (inAp (inW_wsX9_felling_r1) (inAp (inW_wsX9_felling_r2) (inW_wsX9_felling_r3))) (inT_X9))
set_option maxRecDepth 20000 in
theorem ggL_X9_felling : GoodIn lw_tbl wsX9_felling := goodIn_sub inW_wsX9_felling (by decide +kernel)
set_option maxRecDepth 20000 in
theorem gL_X9_felling : GoodIn lw_tbl (wsV RL 87 RX9 yX9_felling wsX9_felling) := goodIn_app (goodIn_sub (inCo mw_27_10 (inCo mw_27_11 (inCo mw_27_12 (inCo mw_1_5 (inNi))))) (by decide +kernel)) ggL_X9_felling
set_option maxRecDepth 20000 in
theorem inW_wsX8_fresh_r1 : ∀ w ∈ wsX8_fresh_r1, w ∈ lw_tbl := inCo mw_1_23 (inCo mw_2_7 (inCo mw_12_19 (inCo mw_12_20 (inCo mw_12_21 (inCo mw_1_22 (inCo mw_12_22 (inCo mw_9_8 (inCo mw_6_13 (inCo mw_1_2 (inCo mw_6_14 (inCo mw_6_12 (inCo mw_28_2 (inCo mw_28_3 (inCo mw_28_4 (inCo mw_28_5 (inCo mw_3_5 (inCo mw_28_6 (inCo mw_17_14 (inCo mw_17_15 (inCo mw_17_16 (inCo mw_3_6 (inCo mw_28_7 (inCo mw_28_8 (inNi))))))))))))))))))))))))
set_option maxRecDepth 20000 in
theorem inW_wsX8_fresh_r2 : ∀ w ∈ wsX8_fresh_r2, w ∈ lw_tbl := inCo mw_28_9 (inCo mw_2_6 (inCo mw_28_10 (inCo mw_4_9 (inCo mw_4_8 (inCo mw_25_7 (inCo mw_25_8 (inCo mw_18_18 (inCo mw_18_19 (inCo mw_2_2 (inCo mw_18_20 (inCo mw_4_3 (inCo mw_18_21 (inCo mw_18_22 (inCo mw_18_23 (inCo mw_4_1 (inCo mw_19_0 (inCo mw_13_0 (inCo mw_13_1 (inCo mw_13_2 (inCo mw_3_4 (inCo mw_13_3 (inCo mw_13_4 (inCo mw_13_5 (inNi))))))))))))))))))))))))
set_option maxRecDepth 20000 in
theorem inW_wsX8_fresh_r3 : ∀ w ∈ wsX8_fresh_r3, w ∈ lw_tbl := inCo mw_13_6 (inCo mw_9_12 (inCo mw_9_11 (inCo mw_3_8 (inCo mw_10_3 (inCo mw_9_14 (inCo mw_13_7 (inCo mw_13_8 (inCo mw_13_9 (inCo mw_13_10 (inCo mw_3_10 (inCo mw_9_23 (inCo mw_13_11 (inCo mw_13_12 (inCo mw_13_13 (inCo mw_13_14 (inCo mw_13_15 (inCo mw_3_12 (inCo mw_13_16 (inCo mw_13_17 (inCo mw_13_18 (inCo mw_13_19 (inCo mw_13_20 (inCo mw_13_21 (inNi))))))))))))))))))))))))
set_option maxRecDepth 20000 in
theorem inW_wsX8_fresh_r4 : ∀ w ∈ wsX8_fresh_r4, w ∈ lw_tbl := inCo mw_13_22 (inCo mw_25_10 (inCo mw_25_11 (inCo mw_25_12 (inCo mw_25_13 (inCo mw_20_16 (inCo mw_20_17 (inCo mw_20_18 (inCo mw_20_19 (inCo mw_20_20 (inCo mw_20_14 (inCo mw_20_15 (inCo mw_20_21 (inCo mw_19_2 (inCo mw_19_3 (inCo mw_19_4 (inCo mw_19_5 (inCo mw_19_6 (inCo mw_19_7 (inCo mw_19_8 (inCo mw_19_9 (inCo mw_19_10 (inCo mw_19_11 (inCo mw_19_12 (inNi))))))))))))))))))))))))
set_option maxRecDepth 20000 in
theorem inW_wsX8_fresh_r5 : ∀ w ∈ wsX8_fresh_r5, w ∈ lw_tbl := inCo mw_19_13 (inCo mw_19_14 (inCo mw_19_15 (inCo mw_28_11 (inCo mw_28_12 (inCo mw_28_13 (inCo mw_28_14 (inCo mw_28_15 (inCo mw_28_16 (inCo mw_25_4 (inCo mw_25_5 (inCo mw_28_17 (inCo mw_28_18 (inCo mw_21_11 (inCo mw_21_12 (inCo mw_21_13 (inCo mw_4_2 (inCo mw_21_14 (inCo mw_21_15 (inCo mw_20_11 (inCo mw_20_12 (inCo mw_20_13 (inCo mw_27_9 (inCo mw_28_19 (inNi))))))))))))))))))))))))
set_option maxRecDepth 20000 in
theorem inW_wsX8_fresh : ∀ w ∈ wsX8_fresh, w ∈ lw_tbl := inCo mw_28_1 (inAp (inAp (inAp (inAp (inAp (inAp (inAp (inW_wsX8_fresh_r1) (inAp (inW_wsX8_fresh_r2) (inAp (inW_wsX8_fresh_r3) (inAp (inW_wsX8_fresh_r4) (inW_wsX8_fresh_r5))))) (inT_X8)) (inT_X2)) (inT_X0)) (inT_X5)) (inT_X1)) (inT_X7))
set_option maxRecDepth 20000 in
theorem ggL_X8_fresh : GoodIn lw_tbl wsX8_fresh := goodIn_sub inW_wsX8_fresh (by decide +kernel)
set_option maxRecDepth 20000 in
theorem gL_X8_fresh : GoodIn lw_tbl (wsV RL 88 RX8 yX8_fresh wsX8_fresh) := goodIn_app (goodIn_sub (inCo mw_27_22 (inCo mw_27_23 (inCo mw_28_0 (inCo mw_1_2 (inNi))))) (by decide +kernel)) ggL_X8_fresh
set_option maxRecDepth 20000 in
theorem inW_wsX9_fresh_r1 : ∀ w ∈ wsX9_fresh_r1, w ∈ lw_tbl := inCo mw_17_7 (inCo mw_5_0 (inCo mw_5_1 (inCo mw_29_0 (inCo mw_14_3 (inCo mw_14_4 (inCo mw_14_5 (inCo mw_1_5 (inCo mw_14_6 (inCo mw_12_9 (inCo mw_12_10 (inCo mw_12_11 (inCo mw_12_12 (inCo mw_10_11 (inCo mw_10_13 (inCo mw_11_2 (inCo mw_11_3 (inCo mw_11_4 (inCo mw_29_1 (inCo mw_29_2 (inCo mw_29_3 (inCo mw_29_4 (inCo mw_10_15 (inCo mw_5_17 (inNi))))))))))))))))))))))))
set_option maxRecDepth 20000 in
theorem inW_wsX9_fresh_r2 : ∀ w ∈ wsX9_fresh_r2, w ∈ lw_tbl := inCo mw_5_2 (inCo mw_5_3 (inCo mw_5_4 (inCo mw_5_5 (inCo mw_21_2 (inCo mw_21_3 (inCo mw_21_4 (inCo mw_21_5 (inCo mw_19_20 (inCo mw_19_21 (inCo mw_19_22 (inCo mw_19_23 (inCo mw_10_19 (inCo mw_20_0 (inCo mw_20_1 (inCo mw_20_2 (inCo mw_20_3 (inCo mw_20_4 (inCo mw_20_5 (inCo mw_14_7 (inCo mw_14_8 (inCo mw_14_9 (inCo mw_14_10 (inCo mw_4_23 (inNi))))))))))))))))))))))))
set_option maxRecDepth 20000 in
theorem inW_wsX9_fresh_r3 : ∀ w ∈ wsX9_fresh_r3, w ∈ lw_tbl := inCo mw_14_11 (inCo mw_14_12 (inCo mw_14_13 (inCo mw_14_14 (inCo mw_10_20 (inCo mw_14_15 (inCo mw_14_16 (inCo mw_14_17 (inCo mw_14_18 (inCo mw_5_9 (inCo mw_5_7 (inCo mw_10_18 (inNi))))))))))))
set_option maxRecDepth 20000 in
theorem inW_wsX9_fresh : ∀ w ∈ wsX9_fresh, w ∈ lw_tbl := inCo mw_28_23 (inAp (inAp (inW_wsX9_fresh_r1) (inAp (inW_wsX9_fresh_r2) (inW_wsX9_fresh_r3))) (inT_X9))
set_option maxRecDepth 20000 in
theorem ggL_X9_fresh : GoodIn lw_tbl wsX9_fresh := goodIn_sub inW_wsX9_fresh (by decide +kernel)
set_option maxRecDepth 20000 in
theorem gL_X9_fresh : GoodIn lw_tbl (wsV RL 91 RX9 yX9_fresh wsX9_fresh) := goodIn_app (goodIn_sub (inCo mw_28_20 (inCo mw_28_21 (inCo mw_28_22 (inCo mw_1_5 (inNi))))) (by decide +kernel)) ggL_X9_fresh
set_option maxRecDepth 20000 in
theorem inW_wsX8_free_r1 : ∀ w ∈ wsX8_free_r1, w ∈ lw_tbl := inCo mw_1_23 (inCo mw_24_1 (inCo mw_2_7 (inCo mw_6_12 (inCo mw_6_13 (inCo mw_1_2 (inCo mw_6_14 (inCo mw_16_22 (inCo mw_16_23 (inCo mw_17_0 (inCo mw_1_22 (inCo mw_17_1 (inCo mw_9_8 (inCo mw_29_9 (inCo mw_29_10 (inCo mw_29_11 (inCo mw_2_6 (inCo mw_29_12 (inCo mw_4_9 (inCo mw_4_8 (inCo mw_25_6 (inCo mw_25_7 (inCo mw_25_8 (inCo mw_18_18 (inNi))))))))))))))))))))))))
set_option maxRecDepth 20000 in
theorem inW_wsX8_free_r2 : ∀ w ∈ wsX8_free_r2, w ∈ lw_tbl := inCo mw_18_19 (inCo mw_2_2 (inCo mw_18_20 (inCo mw_4_3 (inCo mw_18_21 (inCo mw_18_22 (inCo mw_18_23 (inCo mw_4_1 (inCo mw_19_0 (inCo mw_13_0 (inCo mw_13_1 (inCo mw_13_2 (inCo mw_3_4 (inCo mw_13_3 (inCo mw_13_4 (inCo mw_13_5 (inCo mw_13_6 (inCo mw_3_6 (inCo mw_9_12 (inCo mw_9_11 (inCo mw_3_8 (inCo mw_10_3 (inCo mw_9_14 (inCo mw_3_5 (inNi))))))))))))))))))))))))
set_option maxRecDepth 20000 in
theorem inW_wsX8_free_r3 : ∀ w ∈ wsX8_free_r3, w ∈ lw_tbl := inCo mw_13_7 (inCo mw_13_8 (inCo mw_13_9 (inCo mw_13_10 (inCo mw_3_10 (inCo mw_9_23 (inCo mw_13_11 (inCo mw_13_12 (inCo mw_13_13 (inCo mw_13_14 (inCo mw_13_15 (inCo mw_3_12 (inCo mw_13_16 (inCo mw_13_17 (inCo mw_13_18 (inCo mw_13_19 (inCo mw_13_20 (inCo mw_13_21 (inCo mw_13_22 (inCo mw_29_13 (inCo mw_28_3 (inCo mw_28_4 (inCo mw_28_5 (inCo mw_28_6 (inNi))))))))))))))))))))))))
set_option maxRecDepth 20000 in
theorem inW_wsX8_free_r4 : ∀ w ∈ wsX8_free_r4, w ∈ lw_tbl := inCo mw_17_14 (inCo mw_17_15 (inCo mw_17_16 (inCo mw_25_10 (inCo mw_25_11 (inCo mw_25_12 (inCo mw_25_13 (inCo mw_20_16 (inCo mw_20_17 (inCo mw_20_18 (inCo mw_20_19 (inCo mw_20_20 (inCo mw_20_14 (inCo mw_20_15 (inCo mw_20_21 (inCo mw_19_2 (inCo mw_19_3 (inCo mw_19_4 (inCo mw_19_5 (inCo mw_19_6 (inCo mw_19_7 (inCo mw_19_8 (inCo mw_19_9 (inCo mw_19_10 (inNi))))))))))))))))))))))))
set_option maxRecDepth 20000 in
theorem inW_wsX8_free_r5 : ∀ w ∈ wsX8_free_r5, w ∈ lw_tbl := inCo mw_19_11 (inCo mw_19_12 (inCo mw_19_13 (inCo mw_19_14 (inCo mw_19_15 (inNi)))))
set_option maxRecDepth 20000 in
theorem inW_wsX8_free : ∀ w ∈ wsX8_free, w ∈ lw_tbl := inCo mw_29_8 (inAp (inAp (inAp (inAp (inAp (inAp (inAp (inW_wsX8_free_r1) (inAp (inW_wsX8_free_r2) (inAp (inW_wsX8_free_r3) (inAp (inW_wsX8_free_r4) (inW_wsX8_free_r5))))) (inT_X8)) (inT_X2)) (inT_X0)) (inT_X5)) (inT_X1)) (inT_X7))
set_option maxRecDepth 20000 in
theorem ggL_X8_free : GoodIn lw_tbl wsX8_free := goodIn_sub inW_wsX8_free (by decide +kernel)
set_option maxRecDepth 20000 in
theorem gL_X8_free : GoodIn lw_tbl (wsV RL 92 RX8 yX8_free wsX8_free) := goodIn_app (goodIn_sub (inCo mw_29_5 (inCo mw_29_6 (inCo mw_29_7 (inCo mw_1_2 (inNi))))) (by decide +kernel)) ggL_X8_free
set_option maxRecDepth 20000 in
theorem inW_wsX9_free_r1 : ∀ w ∈ wsX9_free_r1, w ∈ lw_tbl := inCo mw_17_7 (inCo mw_29_18 (inCo mw_10_11 (inCo mw_5_0 (inCo mw_5_1 (inCo mw_11_2 (inCo mw_11_3 (inCo mw_1_5 (inCo mw_11_4 (inCo mw_24_12 (inCo mw_24_13 (inCo mw_24_14 (inCo mw_24_15 (inCo mw_12_9 (inCo mw_12_10 (inCo mw_12_11 (inCo mw_12_12 (inCo mw_10_13 (inCo mw_29_1 (inCo mw_29_2 (inCo mw_29_3 (inCo mw_29_4 (inCo mw_10_15 (inCo mw_5_17 (inNi))))))))))))))))))))))))
set_option maxRecDepth 20000 in
theorem inW_wsX9_free_r2 : ∀ w ∈ wsX9_free_r2, w ∈ lw_tbl := inCo mw_5_2 (inCo mw_5_3 (inCo mw_5_4 (inCo mw_5_5 (inCo mw_29_0 (inCo mw_21_2 (inCo mw_21_3 (inCo mw_21_4 (inCo mw_21_5 (inCo mw_19_20 (inCo mw_19_21 (inCo mw_19_22 (inCo mw_19_23 (inCo mw_10_19 (inCo mw_20_0 (inCo mw_20_1 (inCo mw_20_2 (inCo mw_20_3 (inCo mw_20_4 (inCo mw_20_5 (inCo mw_14_7 (inCo mw_14_8 (inCo mw_14_9 (inCo mw_14_10 (inNi))))))))))))))))))))))))
set_option maxRecDepth 20000 in
theorem inW_wsX9_free_r3 : ∀ w ∈ wsX9_free_r3, w ∈ lw_tbl := inCo mw_4_23 (inCo mw_14_11 (inCo mw_14_12 (inCo mw_14_13 (inCo mw_14_14 (inCo mw_10_20 (inCo mw_14_15 (inCo mw_14_16 (inCo mw_14_17 (inCo mw_14_18 (inCo mw_5_9 (inCo mw_5_7 (inCo mw_10_18 (inNi)))))))))))))
set_option maxRecDepth 20000 in
theorem inW_wsX9_free : ∀ w ∈ wsX9_free, w ∈ lw_tbl := inCo mw_29_17 (inAp (inAp (inW_wsX9_free_r1) (inAp (inW_wsX9_free_r2) (inW_wsX9_free_r3))) (inT_X9))
set_option maxRecDepth 20000 in
theorem ggL_X9_free : GoodIn lw_tbl wsX9_free := goodIn_sub inW_wsX9_free (by decide +kernel)
set_option maxRecDepth 20000 in
theorem gL_X9_free : GoodIn lw_tbl (wsV RL 96 RX9 yX9_free wsX9_free) := goodIn_app (goodIn_sub (inCo mw_29_14 (inCo mw_29_15 (inCo mw_29_16 (inCo mw_1_5 (inNi))))) (by decide +kernel)) ggL_X9_free
set_option maxRecDepth 20000 in
theorem inW_wsX8_change_r1 : ∀ w ∈ wsX8_change_r1, w ∈ lw_tbl := inCo mw_1_23 (inCo mw_2_7 (inCo mw_15_5 (inCo mw_15_6 (inCo mw_15_7 (inCo mw_1_22 (inCo mw_15_8 (inCo mw_9_9 (inCo mw_6_13 (inCo mw_1_2 (inCo mw_6_14 (inCo mw_29_23 (inCo mw_30_0 (inCo mw_30_1 (inCo mw_2_6 (inCo mw_30_2 (inCo mw_4_9 (inCo mw_4_8 (inCo mw_26_23 (inCo mw_26_17 (inCo mw_25_8 (inCo mw_18_18 (inCo mw_18_19 (inCo mw_2_2 (inNi))))))))))))))))))))))))
set_option maxRecDepth 20000 in
theorem inW_wsX8_change_r2 : ∀ w ∈ wsX8_change_r2, w ∈ lw_tbl := inCo mw_18_20 (inCo mw_4_3 (inCo mw_18_21 (inCo mw_18_22 (inCo mw_18_23 (inCo mw_4_1 (inCo mw_19_0 (inCo mw_13_0 (inCo mw_13_1 (inCo mw_13_2 (inCo mw_3_4 (inCo mw_13_3 (inCo mw_13_4 (inCo mw_13_5 (inCo mw_13_6 (inCo mw_3_6 (inCo mw_9_12 (inCo mw_9_11 (inCo mw_3_8 (inCo mw_10_3 (inCo mw_9_14 (inCo mw_3_5 (inCo mw_13_7 (inCo mw_13_8 (inNi))))))))))))))))))))))))
set_option maxRecDepth 20000 in
theorem inW_wsX8_change_r3 : ∀ w ∈ wsX8_change_r3, w ∈ lw_tbl := inCo mw_13_9 (inCo mw_13_10 (inCo mw_3_10 (inCo mw_9_23 (inCo mw_13_11 (inCo mw_13_12 (inCo mw_13_13 (inCo mw_13_14 (inCo mw_13_15 (inCo mw_3_12 (inCo mw_13_16 (inCo mw_13_17 (inCo mw_13_18 (inCo mw_13_19 (inCo mw_13_20 (inCo mw_13_21 (inCo mw_13_22 (inCo mw_27_9 (inCo mw_20_11 (inCo mw_20_12 (inCo mw_20_13 (inCo mw_20_14 (inCo mw_20_15 (inCo mw_20_16 (inNi))))))))))))))))))))))))
set_option maxRecDepth 20000 in
theorem inW_wsX8_change_r4 : ∀ w ∈ wsX8_change_r4, w ∈ lw_tbl := inCo mw_20_17 (inCo mw_20_18 (inCo mw_20_19 (inCo mw_20_20 (inCo mw_20_21 (inCo mw_19_2 (inCo mw_19_3 (inCo mw_19_4 (inCo mw_19_5 (inCo mw_19_6 (inCo mw_19_7 (inCo mw_19_8 (inCo mw_19_9 (inCo mw_19_10 (inCo mw_19_11 (inCo mw_19_12 (inCo mw_19_13 (inCo mw_19_14 (inCo mw_19_15 (inCo mw_27_0 (inCo mw_27_1 (inCo mw_27_2 (inCo mw_27_3 (inCo mw_27_4 (inNi))))))))))))))))))))))))
set_option maxRecDepth 20000 in
theorem inW_wsX8_change_r5 : ∀ w ∈ wsX8_change_r5, w ∈ lw_tbl := inCo mw_27_5 (inCo mw_27_6 (inCo mw_27_7 (inCo mw_27_8 (inNi))))
set_option maxRecDepth 20000 in
theorem inW_wsX8_change : ∀ w ∈ wsX8_change, w ∈ lw_tbl := inCo mw_29_22 (inAp (inAp (inAp (inAp (inAp (inAp (inAp (inW_wsX8_change_r1) (inAp (inW_wsX8_change_r2) (inAp (inW_wsX8_change_r3) (inAp (inW_wsX8_change_r4) (inW_wsX8_change_r5))))) (inT_X8)) (inT_X2)) (inT_X0)) (inT_X5)) (inT_X1)) (inT_X7))
set_option maxRecDepth 20000 in
theorem ggL_X8_change : GoodIn lw_tbl wsX8_change := goodIn_sub inW_wsX8_change (by decide +kernel)
set_option maxRecDepth 20000 in
theorem gL_X8_change : GoodIn lw_tbl (wsV RL 97 RX8 yX8_change wsX8_change) := goodIn_app (goodIn_sub (inCo mw_29_19 (inCo mw_29_20 (inCo mw_29_21 (inCo mw_1_2 (inNi))))) (by decide +kernel)) ggL_X8_change
set_option maxRecDepth 20000 in
theorem inW_wsX9_change_r1 : ∀ w ∈ wsX9_change_r1, w ∈ lw_tbl := inCo mw_10_18 (inCo mw_15_14 (inCo mw_15_15 (inCo mw_15_16 (inCo mw_1_5 (inCo mw_15_17 (inCo mw_10_15 (inCo mw_11_2 (inCo mw_11_3 (inCo mw_11_4 (inCo mw_21_2 (inCo mw_21_3 (inCo mw_21_4 (inCo mw_21_5 (inCo mw_19_20 (inCo mw_19_21 (inCo mw_19_22 (inCo mw_19_23 (inCo mw_5_3 (inCo mw_10_13 (inCo mw_10_19 (inCo mw_20_0 (inCo mw_20_1 (inCo mw_20_2 (inNi))))))))))))))))))))))))
set_option maxRecDepth 20000 in
theorem inW_wsX9_change_r2 : ∀ w ∈ wsX9_change_r2, w ∈ lw_tbl := inCo mw_20_3 (inCo mw_20_4 (inCo mw_20_5 (inCo mw_14_7 (inCo mw_14_8 (inCo mw_14_9 (inCo mw_14_10 (inCo mw_5_0 (inCo mw_5_1 (inCo mw_4_23 (inCo mw_14_11 (inCo mw_14_12 (inCo mw_14_13 (inCo mw_14_14 (inCo mw_5_4 (inCo mw_5_5 (inCo mw_5_2 (inCo mw_10_20 (inCo mw_14_15 (inCo mw_14_16 (inCo mw_14_17 (inCo mw_14_18 (inCo mw_5_9 (inCo mw_5_7 (inNi))))))))))))))))))))))))
set_option maxRecDepth 20000 in
theorem inW_wsX9_change : ∀ w ∈ wsX9_change, w ∈ lw_tbl := inCo mw_30_6 (inAp (inAp (inW_wsX9_change_r1) (inW_wsX9_change_r2)) (inT_X9))
set_option maxRecDepth 20000 in
theorem ggL_X9_change : GoodIn lw_tbl wsX9_change := goodIn_sub inW_wsX9_change (by decide +kernel)
set_option maxRecDepth 20000 in
theorem gL_X9_change : GoodIn lw_tbl (wsV RL 100 RX9 yX9_change wsX9_change) := goodIn_app (goodIn_sub (inCo mw_30_3 (inCo mw_30_4 (inCo mw_30_5 (inCo mw_1_5 (inNi))))) (by decide +kernel)) ggL_X9_change
set_option maxRecDepth 20000 in
theorem inW_wsX8_reading_r1 : ∀ w ∈ wsX8_reading_r1, w ∈ lw_tbl := inCo mw_1_23 (inCo mw_2_11 (inCo mw_15_5 (inCo mw_15_6 (inCo mw_15_7 (inCo mw_1_22 (inCo mw_15_8 (inCo mw_9_9 (inCo mw_6_13 (inCo mw_1_2 (inCo mw_6_14 (inCo mw_6_12 (inCo mw_30_11 (inCo mw_30_12 (inCo mw_30_13 (inCo mw_2_10 (inCo mw_30_14 (inCo mw_30_15 (inCo mw_30_16 (inCo mw_30_17 (inCo mw_30_18 (inCo mw_30_19 (inCo mw_4_14 (inCo mw_4_15 (inNi))))))))))))))))))))))))
set_option maxRecDepth 20000 in
theorem inW_wsX8_reading_r2 : ∀ w ∈ wsX8_reading_r2, w ∈ lw_tbl := inCo mw_4_16 (inNi)
set_option maxRecDepth 20000 in
theorem inW_wsX8_reading : ∀ w ∈ wsX8_reading, w ∈ lw_tbl := inCo mw_30_10 (inAp (inAp (inAp (inAp (inW_wsX8_reading_r1) (inW_wsX8_reading_r2)) (inT_X8)) (inT_X2)) (inT_X3))
set_option maxRecDepth 20000 in
theorem ggL_X8_reading : GoodIn lw_tbl wsX8_reading := goodIn_sub inW_wsX8_reading (by decide +kernel)
set_option maxRecDepth 20000 in
theorem gL_X8_reading : GoodIn lw_tbl (wsV RL 101 RX8 yX8_reading wsX8_reading) := goodIn_app (goodIn_sub (inCo mw_30_7 (inCo mw_30_8 (inCo mw_30_9 (inCo mw_1_2 (inNi))))) (by decide +kernel)) ggL_X8_reading
set_option maxRecDepth 20000 in
theorem inW_wsX9_reading : ∀ w ∈ wsX9_reading, w ∈ lw_tbl := inCo mw_30_23 (inAp (inCo mw_17_6 (inCo mw_10_21 (inCo mw_5_18 (inCo mw_5_19 (inCo mw_5_20 (inCo mw_15_14 (inCo mw_15_15 (inCo mw_15_16 (inCo mw_1_5 (inCo mw_15_17 (inCo mw_10_15 (inCo mw_11_2 (inCo mw_11_3 (inCo mw_11_4 (inCo mw_22_0 (inCo mw_22_1 (inCo mw_22_2 (inCo mw_22_3 (inNi))))))))))))))))))) (inT_X9))
set_option maxRecDepth 20000 in
theorem ggL_X9_reading : GoodIn lw_tbl wsX9_reading := goodIn_sub inW_wsX9_reading (by decide +kernel)
set_option maxRecDepth 20000 in
theorem gL_X9_reading : GoodIn lw_tbl (wsV RL 104 RX9 yX9_reading wsX9_reading) := goodIn_app (goodIn_sub (inCo mw_30_20 (inCo mw_30_21 (inCo mw_30_22 (inCo mw_1_5 (inNi))))) (by decide +kernel)) ggL_X9_reading
set_option maxRecDepth 20000 in
theorem inW_wsX8_back : ∀ w ∈ wsX8_back, w ∈ lw_tbl := inCo mw_31_3 (inAp (inAp (inCo mw_2_11 (inCo mw_6_7 (inCo mw_6_12 (inCo mw_6_13 (inCo mw_1_2 (inCo mw_6_14 (inNi))))))) (inT_X8)) (inT_X3))
set_option maxRecDepth 20000 in
theorem ggL_X8_back : GoodIn lw_tbl wsX8_back := goodIn_sub inW_wsX8_back (by decide +kernel)
set_option maxRecDepth 20000 in
theorem gL_X8_back : GoodIn lw_tbl (wsV RL 105 RX8 yX8_back wsX8_back) := goodIn_app (goodIn_sub (inCo mw_31_0 (inCo mw_31_1 (inCo mw_31_2 (inCo mw_1_2 (inNi))))) (by decide +kernel)) ggL_X8_back
set_option maxRecDepth 20000 in
theorem inW_wsX9_back : ∀ w ∈ wsX9_back, w ∈ lw_tbl := inCo mw_31_7 (inAp (inCo mw_10_21 (inCo mw_11_2 (inCo mw_11_3 (inCo mw_1_5 (inCo mw_11_4 (inNi)))))) (inT_X9))
set_option maxRecDepth 20000 in
theorem ggL_X9_back : GoodIn lw_tbl wsX9_back := goodIn_sub inW_wsX9_back (by decide +kernel)
set_option maxRecDepth 20000 in
theorem gL_X9_back : GoodIn lw_tbl (wsV RL 108 RX9 yX9_back wsX9_back) := goodIn_app (goodIn_sub (inCo mw_31_4 (inCo mw_31_5 (inCo mw_31_6 (inCo mw_1_5 (inNi))))) (by decide +kernel)) ggL_X9_back
set_option maxRecDepth 20000 in
theorem inW_wsX8_fogs_r1 : ∀ w ∈ wsX8_fogs_r1, w ∈ lw_tbl := inCo mw_1_23 (inCo mw_2_11 (inCo mw_16_22 (inCo mw_16_23 (inCo mw_17_0 (inCo mw_1_22 (inCo mw_17_1 (inCo mw_9_8 (inCo mw_31_12 (inCo mw_31_13 (inCo mw_31_14 (inCo mw_2_10 (inCo mw_31_15 (inCo mw_4_18 (inCo mw_31_16 (inCo mw_4_17 (inCo mw_31_17 (inCo mw_31_18 (inCo mw_18_18 (inCo mw_18_19 (inCo mw_2_2 (inCo mw_18_20 (inCo mw_4_3 (inCo mw_18_21 (inNi))))))))))))))))))))))))
set_option maxRecDepth 20000 in
theorem inW_wsX8_fogs_r2 : ∀ w ∈ wsX8_fogs_r2, w ∈ lw_tbl := inCo mw_18_22 (inCo mw_18_23 (inCo mw_4_1 (inCo mw_19_0 (inCo mw_13_0 (inCo mw_13_1 (inCo mw_13_2 (inCo mw_3_4 (inCo mw_13_3 (inCo mw_13_4 (inCo mw_13_5 (inCo mw_13_6 (inCo mw_3_6 (inCo mw_9_12 (inCo mw_9_11 (inCo mw_3_8 (inCo mw_10_3 (inCo mw_9_14 (inCo mw_3_5 (inCo mw_13_7 (inCo mw_13_8 (inCo mw_13_9 (inCo mw_13_10 (inCo mw_3_10 (inNi))))))))))))))))))))))))
set_option maxRecDepth 20000 in
theorem inW_wsX8_fogs_r3 : ∀ w ∈ wsX8_fogs_r3, w ∈ lw_tbl := inCo mw_9_23 (inCo mw_13_11 (inCo mw_1_2 (inCo mw_13_12 (inCo mw_13_13 (inCo mw_13_14 (inCo mw_13_15 (inCo mw_3_12 (inCo mw_13_16 (inCo mw_13_17 (inCo mw_13_18 (inCo mw_13_19 (inCo mw_13_20 (inCo mw_13_21 (inCo mw_13_22 (inCo mw_31_19 (inCo mw_31_20 (inCo mw_31_21 (inCo mw_31_22 (inCo mw_30_15 (inCo mw_4_15 (inCo mw_4_14 (inCo mw_4_16 (inCo mw_31_23 (inNi))))))))))))))))))))))))
set_option maxRecDepth 20000 in
theorem inW_wsX8_fogs_r4 : ∀ w ∈ wsX8_fogs_r4, w ∈ lw_tbl := inCo mw_27_1 (inCo mw_27_2 (inCo mw_27_3 (inCo mw_27_4 (inCo mw_27_5 (inCo mw_27_6 (inCo mw_27_7 (inCo mw_27_8 (inCo mw_32_0 (inCo mw_20_11 (inCo mw_20_12 (inCo mw_20_13 (inCo mw_20_14 (inCo mw_20_15 (inCo mw_20_16 (inCo mw_20_17 (inCo mw_20_18 (inCo mw_20_19 (inCo mw_20_20 (inCo mw_20_21 (inCo mw_19_2 (inCo mw_19_3 (inCo mw_19_4 (inCo mw_19_5 (inNi))))))))))))))))))))))))
set_option maxRecDepth 20000 in
theorem inW_wsX8_fogs_r5 : ∀ w ∈ wsX8_fogs_r5, w ∈ lw_tbl := inCo mw_19_6 (inCo mw_19_7 (inCo mw_19_8 (inCo mw_19_9 (inCo mw_19_10 (inCo mw_19_11 (inCo mw_19_12 (inCo mw_19_13 (inCo mw_19_14 (inCo mw_19_15 (inNi))))))))))
set_option maxRecDepth 20000 in
theorem inW_wsX8_fogs : ∀ w ∈ wsX8_fogs, w ∈ lw_tbl := inCo mw_31_11 (inAp (inAp (inAp (inAp (inAp (inAp (inAp (inW_wsX8_fogs_r1) (inAp (inW_wsX8_fogs_r2) (inAp (inW_wsX8_fogs_r3) (inAp (inW_wsX8_fogs_r4) (inW_wsX8_fogs_r5))))) (inT_X8)) (inT_X2)) (inT_X3)) (inT_X5)) (inT_X1)) (inT_X7))
set_option maxRecDepth 20000 in
theorem ggL_X8_fogs : GoodIn lw_tbl wsX8_fogs := goodIn_sub inW_wsX8_fogs (by decide +kernel)
set_option maxRecDepth 20000 in
theorem gL_X8_fogs : GoodIn lw_tbl (wsV RL 109 RX8 yX8_fogs wsX8_fogs) := goodIn_app (goodIn_sub (inCo mw_31_8 (inCo mw_31_9 (inCo mw_31_10 (inCo mw_1_2 (inNi))))) (by decide +kernel)) ggL_X8_fogs
set_option maxRecDepth 20000 in
theorem inW_wsX9_fogs_r1 : ∀ w ∈ wsX9_fogs_r1, w ∈ lw_tbl := inCo mw_10_11 (inCo mw_10_19 (inCo mw_32_5 (inCo mw_32_6 (inCo mw_32_7 (inCo mw_1_5 (inCo mw_32_8 (inCo mw_10_18 (inCo mw_10_21 (inCo mw_5_19 (inCo mw_5_18 (inCo mw_5_20 (inCo mw_21_2 (inCo mw_21_3 (inCo mw_21_4 (inCo mw_21_5 (inCo mw_10_15 (inCo mw_19_20 (inCo mw_19_21 (inCo mw_19_22 (inCo mw_19_23 (inCo mw_5_3 (inCo mw_10_13 (inCo mw_20_0 (inNi))))))))))))))))))))))))
set_option maxRecDepth 20000 in
theorem inW_wsX9_fogs_r2 : ∀ w ∈ wsX9_fogs_r2, w ∈ lw_tbl := inCo mw_20_1 (inCo mw_20_2 (inCo mw_20_3 (inCo mw_20_4 (inCo mw_20_5 (inCo mw_14_7 (inCo mw_14_8 (inCo mw_14_9 (inCo mw_14_10 (inCo mw_5_0 (inCo mw_5_1 (inCo mw_4_23 (inCo mw_14_11 (inCo mw_14_12 (inCo mw_14_13 (inCo mw_14_14 (inCo mw_5_4 (inCo mw_5_5 (inCo mw_5_2 (inCo mw_10_20 (inCo mw_14_15 (inCo mw_14_16 (inCo mw_14_17 (inCo mw_14_18 (inNi))))))))))))))))))))))))
set_option maxRecDepth 20000 in
theorem inW_wsX9_fogs_r3 : ∀ w ∈ wsX9_fogs_r3, w ∈ lw_tbl := inCo mw_5_9 (inCo mw_5_7 (inNi))
set_option maxRecDepth 20000 in
theorem inW_wsX9_fogs : ∀ w ∈ wsX9_fogs, w ∈ lw_tbl := inCo mw_32_4 (inAp (inAp (inW_wsX9_fogs_r1) (inAp (inW_wsX9_fogs_r2) (inW_wsX9_fogs_r3))) (inT_X9))
set_option maxRecDepth 20000 in
theorem ggL_X9_fogs : GoodIn lw_tbl wsX9_fogs := goodIn_sub inW_wsX9_fogs (by decide +kernel)
set_option maxRecDepth 20000 in
theorem gL_X9_fogs : GoodIn lw_tbl (wsV RL 112 RX9 yX9_fogs wsX9_fogs) := goodIn_app (goodIn_sub (inCo mw_32_1 (inCo mw_32_2 (inCo mw_32_3 (inCo mw_1_5 (inNi))))) (by decide +kernel)) ggL_X9_fogs
set_option maxRecDepth 20000 in
theorem inW_wsX8_stood_r1 : ∀ w ∈ wsX8_stood_r1, w ∈ lw_tbl := inCo mw_1_23 (inCo mw_2_11 (inCo mw_6_12 (inCo mw_6_13 (inCo mw_1_2 (inCo mw_6_14 (inCo mw_16_22 (inCo mw_16_23 (inCo mw_17_0 (inCo mw_1_22 (inCo mw_17_1 (inCo mw_9_8 (inCo mw_32_13 (inCo mw_32_14 (inCo mw_32_15 (inCo mw_2_10 (inCo mw_32_16 (inCo mw_4_18 (inCo mw_4_17 (inCo mw_32_17 (inCo mw_31_18 (inCo mw_18_18 (inCo mw_18_19 (inCo mw_2_2 (inNi))))))))))))))))))))))))
set_option maxRecDepth 20000 in
theorem inW_wsX8_stood_r2 : ∀ w ∈ wsX8_stood_r2, w ∈ lw_tbl := inCo mw_18_20 (inCo mw_4_3 (inCo mw_18_21 (inCo mw_18_22 (inCo mw_18_23 (inCo mw_4_1 (inCo mw_19_0 (inCo mw_13_0 (inCo mw_13_1 (inCo mw_13_2 (inCo mw_3_4 (inCo mw_13_3 (inCo mw_13_4 (inCo mw_13_5 (inCo mw_13_6 (inCo mw_3_6 (inCo mw_9_12 (inCo mw_9_11 (inCo mw_3_8 (inCo mw_10_3 (inCo mw_9_14 (inCo mw_3_5 (inCo mw_13_7 (inCo mw_13_8 (inNi))))))))))))))))))))))))
set_option maxRecDepth 20000 in
theorem inW_wsX8_stood_r3 : ∀ w ∈ wsX8_stood_r3, w ∈ lw_tbl := inCo mw_13_9 (inCo mw_13_10 (inCo mw_3_10 (inCo mw_9_23 (inCo mw_13_11 (inCo mw_13_12 (inCo mw_13_13 (inCo mw_13_14 (inCo mw_13_15 (inCo mw_3_12 (inCo mw_13_16 (inCo mw_13_17 (inCo mw_13_18 (inCo mw_13_19 (inCo mw_13_20 (inCo mw_13_21 (inCo mw_13_22 (inCo mw_31_19 (inCo mw_31_20 (inCo mw_31_21 (inCo mw_31_22 (inCo mw_30_15 (inCo mw_4_15 (inCo mw_4_14 (inNi))))))))))))))))))))))))
set_option maxRecDepth 20000 in
theorem inW_wsX8_stood_r4 : ∀ w ∈ wsX8_stood_r4, w ∈ lw_tbl := inCo mw_4_16 (inCo mw_31_23 (inCo mw_27_1 (inCo mw_27_2 (inCo mw_27_3 (inCo mw_27_4 (inCo mw_27_5 (inCo mw_27_6 (inCo mw_27_7 (inCo mw_27_8 (inCo mw_32_0 (inCo mw_20_11 (inCo mw_20_12 (inCo mw_20_13 (inCo mw_20_14 (inCo mw_20_15 (inCo mw_20_16 (inCo mw_20_17 (inCo mw_20_18 (inCo mw_20_19 (inCo mw_20_20 (inCo mw_20_21 (inCo mw_19_2 (inCo mw_19_3 (inNi))))))))))))))))))))))))
set_option maxRecDepth 20000 in
theorem inW_wsX8_stood_r5 : ∀ w ∈ wsX8_stood_r5, w ∈ lw_tbl := inCo mw_19_4 (inCo mw_19_5 (inCo mw_19_6 (inCo mw_19_7 (inCo mw_19_8 (inCo mw_19_9 (inCo mw_19_10 (inCo mw_19_11 (inCo mw_19_12 (inCo mw_19_13 (inCo mw_19_14 (inCo mw_19_15 (inCo mw_32_18 (inCo mw_32_19 (inCo mw_32_20 (inCo mw_32_21 (inNi))))))))))))))))
set_option maxRecDepth 20000 in
theorem inW_wsX8_stood : ∀ w ∈ wsX8_stood, w ∈ lw_tbl := inCo mw_32_12 (inAp (inAp (inAp (inAp (inAp (inAp (inAp (inW_wsX8_stood_r1) (inAp (inW_wsX8_stood_r2) (inAp (inW_wsX8_stood_r3) (inAp (inW_wsX8_stood_r4) (inW_wsX8_stood_r5))))) (inT_X8)) (inT_X2)) (inT_X3)) (inT_X5)) (inT_X1)) (inT_X7))
set_option maxRecDepth 20000 in
theorem ggL_X8_stood : GoodIn lw_tbl wsX8_stood := goodIn_sub inW_wsX8_stood (by decide +kernel)
set_option maxRecDepth 20000 in
theorem gL_X8_stood : GoodIn lw_tbl (wsV RL 113 RX8 yX8_stood wsX8_stood) := goodIn_app (goodIn_sub (inCo mw_32_9 (inCo mw_32_10 (inCo mw_32_11 (inCo mw_1_2 (inNi))))) (by decide +kernel)) ggL_X8_stood
set_option maxRecDepth 20000 in
theorem inW_wsX9_stood_r1 : ∀ w ∈ wsX9_stood_r1, w ∈ lw_tbl := inCo mw_10_11 (inCo mw_10_17 (inCo mw_11_2 (inCo mw_11_3 (inCo mw_1_5 (inCo mw_11_4 (inCo mw_27_14 (inCo mw_27_15 (inCo mw_27_16 (inCo mw_27_17 (inCo mw_5_9 (inCo mw_27_18 (inCo mw_27_19 (inCo mw_27_20 (inCo mw_27_21 (inCo mw_23_18 (inCo mw_23_19 (inCo mw_23_20 (inCo mw_32_5 (inCo mw_32_6 (inCo mw_32_7 (inCo mw_32_8 (inCo mw_10_18 (inCo mw_10_21 (inNi))))))))))))))))))))))))
set_option maxRecDepth 20000 in
theorem inW_wsX9_stood_r2 : ∀ w ∈ wsX9_stood_r2, w ∈ lw_tbl := inCo mw_5_19 (inCo mw_5_18 (inCo mw_5_20 (inCo mw_21_2 (inCo mw_21_3 (inCo mw_21_4 (inCo mw_21_5 (inCo mw_10_15 (inCo mw_19_20 (inCo mw_19_21 (inCo mw_19_22 (inCo mw_19_23 (inCo mw_5_3 (inCo mw_10_13 (inCo mw_10_19 (inCo mw_20_0 (inCo mw_20_1 (inCo mw_20_2 (inCo mw_20_3 (inCo mw_20_4 (inCo mw_20_5 (inCo mw_14_7 (inCo mw_14_8 (inCo mw_14_9 (inNi))))))))))))))))))))))))
set_option maxRecDepth 20000 in
theorem inW_wsX9_stood_r3 : ∀ w ∈ wsX9_stood_r3, w ∈ lw_tbl := inCo mw_14_10 (inCo mw_5_0 (inCo mw_5_1 (inCo mw_4_23 (inCo mw_14_11 (inCo mw_14_12 (inCo mw_14_13 (inCo mw_14_14 (inCo mw_5_4 (inCo mw_5_5 (inCo mw_5_2 (inCo mw_10_20 (inCo mw_14_15 (inCo mw_14_16 (inCo mw_14_17 (inCo mw_14_18 (inCo mw_5_7 (inNi)))))))))))))))))
set_option maxRecDepth 20000 in
theorem inW_wsX9_stood : ∀ w ∈ wsX9_stood, w ∈ lw_tbl := inCo mw_33_1 (inAp (inAp (inW_wsX9_stood_r1) (inAp (inW_wsX9_stood_r2) (inW_wsX9_stood_r3))) (inT_X9))
set_option maxRecDepth 20000 in
theorem ggL_X9_stood : GoodIn lw_tbl wsX9_stood := goodIn_sub inW_wsX9_stood (by decide +kernel)
set_option maxRecDepth 20000 in
theorem gL_X9_stood : GoodIn lw_tbl (wsV RL 116 RX9 yX9_stood wsX9_stood) := goodIn_app (goodIn_sub (inCo mw_32_22 (inCo mw_32_23 (inCo mw_33_0 (inCo mw_1_5 (inNi))))) (by decide +kernel)) ggL_X9_stood
set_option maxRecDepth 20000 in
theorem inW_wsX8_sheet : ∀ w ∈ wsX8_sheet, w ∈ lw_tbl := inCo mw_33_5 (inAp (inAp (inCo mw_6_5 (inCo mw_1_13 (inCo mw_6_9 (inCo mw_6_10 (inCo mw_1_2 (inCo mw_6_11 (inCo mw_6_12 (inCo mw_6_13 (inCo mw_6_14 (inCo mw_7_4 (inCo mw_7_5 (inCo mw_7_6 (inCo mw_7_7 (inCo mw_33_6 (inCo mw_33_7 (inCo mw_33_8 (inCo mw_1_15 (inCo mw_33_9 (inCo mw_6_19 (inCo mw_2_17 (inCo mw_2_16 (inNi)))))))))))))))))))))) (inT_X8)) (inT_X4))
set_option maxRecDepth 20000 in
theorem ggL_X8_sheet : GoodIn lw_tbl wsX8_sheet := goodIn_sub inW_wsX8_sheet (by decide +kernel)
set_option maxRecDepth 20000 in
theorem gL_X8_sheet : GoodIn lw_tbl (wsV RL 117 RX8 yX8_sheet wsX8_sheet) := goodIn_app (goodIn_sub (inCo mw_33_2 (inCo mw_33_3 (inCo mw_33_4 (inCo mw_1_2 (inNi))))) (by decide +kernel)) ggL_X8_sheet
set_option maxRecDepth 20000 in
theorem inW_wsX9_sheet : ∀ w ∈ wsX9_sheet, w ∈ lw_tbl := inCo mw_33_13 (inAp (inCo mw_10_8 (inCo mw_5_21 (inCo mw_5_22 (inCo mw_5_23 (inCo mw_10_22 (inCo mw_10_23 (inCo mw_1_5 (inCo mw_11_0 (inCo mw_11_1 (inCo mw_11_2 (inCo mw_11_3 (inCo mw_11_4 (inCo mw_11_5 (inCo mw_11_6 (inCo mw_11_7 (inCo mw_11_8 (inCo mw_11_9 (inCo mw_11_10 (inCo mw_11_11 (inCo mw_11_12 (inCo mw_11_13 (inNi)))))))))))))))))))))) (inT_X9))
set_option maxRecDepth 20000 in
theorem ggL_X9_sheet : GoodIn lw_tbl wsX9_sheet := goodIn_sub inW_wsX9_sheet (by decide +kernel)
set_option maxRecDepth 20000 in
theorem gL_X9_sheet : GoodIn lw_tbl (wsV RL 120 RX9 yX9_sheet wsX9_sheet) := goodIn_app (goodIn_sub (inCo mw_33_10 (inCo mw_33_11 (inCo mw_33_12 (inCo mw_1_5 (inNi))))) (by decide +kernel)) ggL_X9_sheet
set_option maxRecDepth 20000 in
theorem inW_wsX8_lose : ∀ w ∈ wsX8_lose, w ∈ lw_tbl := inCo mw_33_17 (inAp (inAp (inCo mw_1_13 (inCo mw_6_9 (inCo mw_6_10 (inCo mw_1_2 (inCo mw_6_11 (inCo mw_6_12 (inCo mw_6_13 (inCo mw_6_14 (inCo mw_33_18 (inCo mw_6_21 (inCo mw_6_22 (inCo mw_1_15 (inCo mw_6_23 (inCo mw_2_17 (inCo mw_33_19 (inCo mw_33_20 (inCo mw_33_21 (inCo mw_33_22 (inNi))))))))))))))))))) (inT_X8)) (inT_X4))
set_option maxRecDepth 20000 in
theorem ggL_X8_lose : GoodIn lw_tbl wsX8_lose := goodIn_sub inW_wsX8_lose (by decide +kernel)
set_option maxRecDepth 20000 in
theorem gL_X8_lose : GoodIn lw_tbl (wsV RL 121 RX8 yX8_lose wsX8_lose) := goodIn_app (goodIn_sub (inCo mw_33_14 (inCo mw_33_15 (inCo mw_33_16 (inCo mw_1_2 (inNi))))) (by decide +kernel)) ggL_X8_lose
set_option maxRecDepth 20000 in
theorem inW_wsX9_lose : ∀ w ∈ wsX9_lose, w ∈ lw_tbl := inCo mw_34_2 (inAp (inCo mw_5_21 (inCo mw_10_22 (inCo mw_10_23 (inCo mw_1_5 (inCo mw_11_0 (inCo mw_11_1 (inCo mw_11_2 (inCo mw_11_3 (inCo mw_11_4 (inNi)))))))))) (inT_X9))
set_option maxRecDepth 20000 in
theorem ggL_X9_lose : GoodIn lw_tbl wsX9_lose := goodIn_sub inW_wsX9_lose (by decide +kernel)
set_option maxRecDepth 20000 in
theorem gL_X9_lose : GoodIn lw_tbl (wsV RL 124 RX9 yX9_lose wsX9_lose) := goodIn_app (goodIn_sub (inCo mw_33_23 (inCo mw_34_0 (inCo mw_34_1 (inCo mw_1_5 (inNi))))) (by decide +kernel)) ggL_X9_lose
set_option maxRecDepth 20000 in
theorem inW_wsX8_put_r1 : ∀ w ∈ wsX8_put_r1, w ∈ lw_tbl := inCo mw_6_5 (inCo mw_1_13 (inCo mw_6_9 (inCo mw_6_10 (inCo mw_1_2 (inCo mw_6_11 (inCo mw_6_12 (inCo mw_6_13 (inCo mw_6_14 (inCo mw_33_18 (inCo mw_6_21 (inCo mw_6_22 (inCo mw_1_15 (inCo mw_6_23 (inCo mw_2_17 (inCo mw_7_4 (inCo mw_7_5 (inCo mw_7_6 (inCo mw_7_7 (inCo mw_34_7 (inCo mw_34_8 (inCo mw_34_9 (inCo mw_34_10 (inCo mw_34_11 (inNi))))))))))))))))))))))))
set_option maxRecDepth 20000 in
theorem inW_wsX8_put_r2 : ∀ w ∈ wsX8_put_r2, w ∈ lw_tbl := inCo mw_34_12 (inCo mw_34_13 (inCo mw_34_14 (inCo mw_6_19 (inCo mw_2_16 (inNi)))))
set_option maxRecDepth 20000 in
theorem inW_wsX8_put : ∀ w ∈ wsX8_put, w ∈ lw_tbl := inCo mw_34_6 (inAp (inAp (inAp (inW_wsX8_put_r1) (inW_wsX8_put_r2)) (inT_X8)) (inT_X4))
set_option maxRecDepth 20000 in
theorem ggL_X8_put : GoodIn lw_tbl wsX8_put := goodIn_sub inW_wsX8_put (by decide +kernel)
set_option maxRecDepth 20000 in
theorem gL_X8_put : GoodIn lw_tbl (wsV RL 125 RX8 yX8_put wsX8_put) := goodIn_app (goodIn_sub (inCo mw_34_3 (inCo mw_34_4 (inCo mw_34_5 (inCo mw_1_2 (inNi))))) (by decide +kernel)) ggL_X8_put
set_option maxRecDepth 20000 in
theorem inW_wsX9_put : ∀ w ∈ wsX9_put, w ∈ lw_tbl := inCo mw_34_18 (inAp (inCo mw_5_23 (inCo mw_5_22 (inCo mw_10_22 (inCo mw_10_23 (inCo mw_1_5 (inCo mw_11_0 (inCo mw_11_1 (inCo mw_11_2 (inCo mw_11_3 (inCo mw_11_4 (inCo mw_11_5 (inCo mw_11_6 (inCo mw_11_7 (inCo mw_11_8 (inCo mw_11_9 (inCo mw_34_19 (inCo mw_34_20 (inCo mw_34_21 (inCo mw_34_22 (inCo mw_5_21 (inCo mw_11_10 (inCo mw_11_11 (inCo mw_11_12 (inCo mw_11_13 (inNi))))))))))))))))))))))))) (inT_X9))
set_option maxRecDepth 20000 in
theorem ggL_X9_put : GoodIn lw_tbl wsX9_put := goodIn_sub inW_wsX9_put (by decide +kernel)
set_option maxRecDepth 20000 in
theorem gL_X9_put : GoodIn lw_tbl (wsV RL 128 RX9 yX9_put wsX9_put) := goodIn_app (goodIn_sub (inCo mw_34_15 (inCo mw_34_16 (inCo mw_34_17 (inCo mw_1_5 (inNi))))) (by decide +kernel)) ggL_X9_put
set_option maxRecDepth 20000 in
theorem inW_wsX8_cell_r1 : ∀ w ∈ wsX8_cell_r1, w ∈ lw_tbl := inCo mw_6_5 (inCo mw_24_1 (inCo mw_1_13 (inCo mw_35_3 (inCo mw_6_9 (inCo mw_6_10 (inCo mw_1_2 (inCo mw_6_11 (inCo mw_6_12 (inCo mw_6_13 (inCo mw_6_14 (inCo mw_6_15 (inCo mw_6_16 (inCo mw_6_17 (inCo mw_1_15 (inCo mw_6_18 (inCo mw_6_19 (inCo mw_6_20 (inCo mw_6_21 (inCo mw_6_22 (inCo mw_6_23 (inCo mw_2_17 (inCo mw_34_7 (inCo mw_34_8 (inNi))))))))))))))))))))))))
set_option maxRecDepth 20000 in
theorem inW_wsX8_cell_r2 : ∀ w ∈ wsX8_cell_r2, w ∈ lw_tbl := inCo mw_34_9 (inCo mw_34_10 (inNi))
set_option maxRecDepth 20000 in
theorem inW_wsX8_cell : ∀ w ∈ wsX8_cell, w ∈ lw_tbl := inCo mw_35_2 (inAp (inAp (inAp (inW_wsX8_cell_r1) (inW_wsX8_cell_r2)) (inT_X8)) (inT_X4))
set_option maxRecDepth 20000 in
theorem ggL_X8_cell : GoodIn lw_tbl wsX8_cell := goodIn_sub inW_wsX8_cell (by decide +kernel)
set_option maxRecDepth 20000 in
theorem gL_X8_cell : GoodIn lw_tbl (wsV RL 129 RX8 yX8_cell wsX8_cell) := goodIn_app (goodIn_sub (inCo mw_34_23 (inCo mw_35_0 (inCo mw_35_1 (inCo mw_1_2 (inNi))))) (by decide +kernel)) ggL_X8_cell
set_option maxRecDepth 20000 in
theorem inW_wsX9_cell_r1 : ∀ w ∈ wsX9_cell_r1, w ∈ lw_tbl := inCo mw_11_9 (inCo mw_10_8 (inCo mw_5_21 (inCo mw_5_22 (inCo mw_5_23 (inCo mw_10_22 (inCo mw_10_23 (inCo mw_1_5 (inCo mw_11_0 (inCo mw_11_1 (inCo mw_11_2 (inCo mw_11_3 (inCo mw_11_4 (inCo mw_24_12 (inCo mw_24_13 (inCo mw_24_14 (inCo mw_24_15 (inCo mw_35_8 (inCo mw_35_9 (inCo mw_35_10 (inCo mw_35_11 (inCo mw_34_19 (inCo mw_34_20 (inCo mw_34_21 (inNi))))))))))))))))))))))))
set_option maxRecDepth 20000 in
theorem inW_wsX9_cell_r2 : ∀ w ∈ wsX9_cell_r2, w ∈ lw_tbl := inCo mw_34_22 (inNi)
set_option maxRecDepth 20000 in
theorem inW_wsX9_cell : ∀ w ∈ wsX9_cell, w ∈ lw_tbl := inCo mw_35_7 (inAp (inAp (inW_wsX9_cell_r1) (inW_wsX9_cell_r2)) (inT_X9))
set_option maxRecDepth 20000 in
theorem ggL_X9_cell : GoodIn lw_tbl wsX9_cell := goodIn_sub inW_wsX9_cell (by decide +kernel)
set_option maxRecDepth 20000 in
theorem gL_X9_cell : GoodIn lw_tbl (wsV RL 133 RX9 yX9_cell wsX9_cell) := goodIn_app (goodIn_sub (inCo mw_35_4 (inCo mw_35_5 (inCo mw_35_6 (inCo mw_1_5 (inNi))))) (by decide +kernel)) ggL_X9_cell
set_option maxRecDepth 20000 in
theorem inW_wsX8_copy_r1 : ∀ w ∈ wsX8_copy_r1, w ∈ lw_tbl := inCo mw_6_5 (inCo mw_1_13 (inCo mw_35_16 (inCo mw_35_3 (inCo mw_35_17 (inCo mw_35_18 (inCo mw_35_19 (inCo mw_35_20 (inCo mw_6_9 (inCo mw_6_10 (inCo mw_1_2 (inCo mw_6_11 (inCo mw_6_12 (inCo mw_6_13 (inCo mw_6_14 (inCo mw_33_18 (inCo mw_6_21 (inCo mw_6_22 (inCo mw_1_15 (inCo mw_6_23 (inCo mw_2_17 (inCo mw_7_4 (inCo mw_7_5 (inCo mw_7_6 (inNi))))))))))))))))))))))))
set_option maxRecDepth 20000 in
theorem inW_wsX8_copy_r2 : ∀ w ∈ wsX8_copy_r2, w ∈ lw_tbl := inCo mw_7_7 (inCo mw_7_0 (inCo mw_7_1 (inCo mw_7_2 (inCo mw_7_3 (inNi)))))
set_option maxRecDepth 20000 in
theorem inW_wsX8_copy : ∀ w ∈ wsX8_copy, w ∈ lw_tbl := inCo mw_35_15 (inAp (inAp (inAp (inW_wsX8_copy_r1) (inW_wsX8_copy_r2)) (inT_X8)) (inT_X4))
set_option maxRecDepth 20000 in
theorem ggL_X8_copy : GoodIn lw_tbl wsX8_copy := goodIn_sub inW_wsX8_copy (by decide +kernel)
set_option maxRecDepth 20000 in
theorem gL_X8_copy : GoodIn lw_tbl (wsV RL 134 RX8 yX8_copy wsX8_copy) := goodIn_app (goodIn_sub (inCo mw_35_12 (inCo mw_35_13 (inCo mw_35_14 (inCo mw_1_2 (inNi))))) (by decide +kernel)) ggL_X8_copy
set_option maxRecDepth 20000 in
theorem inW_wsX9_copy : ∀ w ∈ wsX9_copy, w ∈ lw_tbl := inCo mw_36_0 (inAp (inCo mw_5_21 (inCo mw_5_22 (inCo mw_6_0 (inCo mw_5_23 (inCo mw_10_22 (inCo mw_10_23 (inCo mw_1_5 (inCo mw_11_0 (inCo mw_11_1 (inCo mw_11_2 (inCo mw_11_3 (inCo mw_11_4 (inCo mw_11_5 (inCo mw_11_6 (inCo mw_11_7 (inCo mw_11_8 (inCo mw_11_9 (inCo mw_11_10 (inCo mw_11_11 (inCo mw_11_12 (inCo mw_11_13 (inCo mw_11_14 (inCo mw_11_15 (inCo mw_11_16 (inNi))))))))))))))))))))))))) (inT_X9))
set_option maxRecDepth 20000 in
theorem ggL_X9_copy : GoodIn lw_tbl wsX9_copy := goodIn_sub inW_wsX9_copy (by decide +kernel)
set_option maxRecDepth 20000 in
theorem gL_X9_copy : GoodIn lw_tbl (wsV RL 138 RX9 yX9_copy wsX9_copy) := goodIn_app (goodIn_sub (inCo mw_35_21 (inCo mw_35_22 (inCo mw_35_23 (inCo mw_1_5 (inNi))))) (by decide +kernel)) ggL_X9_copy
set_option maxRecDepth 20000 in
theorem inW_wsX8_tell_r1 : ∀ w ∈ wsX8_tell_r1, w ∈ lw_tbl := inCo mw_1_23 (inCo mw_14_23 (inCo mw_15_0 (inCo mw_15_5 (inCo mw_15_6 (inCo mw_15_7 (inCo mw_1_22 (inCo mw_15_8 (inCo mw_9_9 (inCo mw_6_13 (inCo mw_1_2 (inCo mw_6_14 (inCo mw_36_5 (inCo mw_36_6 (inCo mw_36_7 (inCo mw_36_8 (inCo mw_36_9 (inCo mw_36_10 (inCo mw_36_11 (inCo mw_36_12 (inCo mw_36_13 (inCo mw_36_14 (inCo mw_36_15 (inCo mw_36_16 (inNi))))))))))))))))))))))))
set_option maxRecDepth 20000 in
theorem inW_wsX8_tell_r2 : ∀ w ∈ wsX8_tell_r2, w ∈ lw_tbl := inCo mw_36_17 (inCo mw_36_18 (inCo mw_36_19 (inCo mw_36_20 (inCo mw_36_21 (inCo mw_15_2 (inNi))))))
set_option maxRecDepth 20000 in
theorem inW_wsX8_tell : ∀ w ∈ wsX8_tell, w ∈ lw_tbl := inCo mw_36_4 (inAp (inAp (inAp (inAp (inW_wsX8_tell_r1) (inW_wsX8_tell_r2)) (inT_X8)) (inT_X2)) (inT_X1))
set_option maxRecDepth 20000 in
theorem ggL_X8_tell : GoodIn lw_tbl wsX8_tell := goodIn_sub inW_wsX8_tell (by decide +kernel)
set_option maxRecDepth 20000 in
theorem gL_X8_tell : GoodIn lw_tbl (wsV RL 139 RX8 yX8_tell wsX8_tell) := goodIn_app (goodIn_sub (inCo mw_36_1 (inCo mw_36_2 (inCo mw_36_3 (inCo mw_1_2 (inNi))))) (by decide +kernel)) ggL_X8_tell
set_option maxRecDepth 20000 in
theorem inW_wsX9_tell : ∀ w ∈ wsX9_tell, w ∈ lw_tbl := inCo mw_37_1 (inAp (inCo mw_5_2 (inCo mw_5_4 (inCo mw_15_14 (inCo mw_15_15 (inCo mw_15_16 (inCo mw_1_5 (inCo mw_15_17 (inCo mw_10_15 (inCo mw_11_2 (inCo mw_11_3 (inCo mw_11_4 (inCo mw_37_2 (inCo mw_37_3 (inCo mw_37_4 (inCo mw_37_5 (inCo mw_37_6 (inNi))))))))))))))))) (inT_X9))
set_option maxRecDepth 20000 in
theorem ggL_X9_tell : GoodIn lw_tbl wsX9_tell := goodIn_sub inW_wsX9_tell (by decide +kernel)
set_option maxRecDepth 20000 in
theorem gL_X9_tell : GoodIn lw_tbl (wsV RL 142 RX9 yX9_tell wsX9_tell) := goodIn_app (goodIn_sub (inCo mw_36_22 (inCo mw_36_23 (inCo mw_37_0 (inCo mw_1_5 (inNi))))) (by decide +kernel)) ggL_X9_tell
set_option maxRecDepth 20000 in
theorem inW_wsX8_rent : ∀ w ∈ wsX8_rent, w ∈ lw_tbl := inCo mw_37_10 (inAp (inAp (inAp (inCo mw_1_23 (inCo mw_14_23 (inCo mw_15_0 (inCo mw_15_5 (inCo mw_15_6 (inCo mw_15_7 (inCo mw_1_22 (inCo mw_15_8 (inCo mw_9_9 (inCo mw_6_13 (inCo mw_1_2 (inCo mw_6_14 (inCo mw_36_9 (inCo mw_36_10 (inCo mw_36_11 (inCo mw_36_12 (inCo mw_36_13 (inNi)))))))))))))))))) (inT_X8)) (inT_X2)) (inT_X1))
set_option maxRecDepth 20000 in
theorem ggL_X8_rent : GoodIn lw_tbl wsX8_rent := goodIn_sub inW_wsX8_rent (by decide +kernel)
set_option maxRecDepth 20000 in
theorem gL_X8_rent : GoodIn lw_tbl (wsV RL 143 RX8 yX8_rent wsX8_rent) := goodIn_app (goodIn_sub (inCo mw_37_7 (inCo mw_37_8 (inCo mw_37_9 (inCo mw_1_2 (inNi))))) (by decide +kernel)) ggL_X8_rent
set_option maxRecDepth 20000 in
theorem inW_wsX9_rent : ∀ w ∈ wsX9_rent, w ∈ lw_tbl := inCo mw_37_14 (inAp (inCo mw_5_2 (inCo mw_15_14 (inCo mw_15_15 (inCo mw_15_16 (inCo mw_1_5 (inCo mw_15_17 (inCo mw_10_15 (inCo mw_11_2 (inCo mw_11_3 (inCo mw_11_4 (inCo mw_37_2 (inCo mw_37_3 (inCo mw_37_4 (inCo mw_37_5 (inCo mw_37_6 (inNi)))))))))))))))) (inT_X9))
set_option maxRecDepth 20000 in
theorem ggL_X9_rent : GoodIn lw_tbl wsX9_rent := goodIn_sub inW_wsX9_rent (by decide +kernel)
set_option maxRecDepth 20000 in
theorem gL_X9_rent : GoodIn lw_tbl (wsV RL 146 RX9 yX9_rent wsX9_rent) := goodIn_app (goodIn_sub (inCo mw_37_11 (inCo mw_37_12 (inCo mw_37_13 (inCo mw_1_5 (inNi))))) (by decide +kernel)) ggL_X9_rent
set_option maxRecDepth 20000 in
theorem inW_wsX8_as : ∀ w ∈ wsX8_as, w ∈ lw_tbl := inCo mw_37_18 (inAp (inAp (inAp (inCo mw_6_5 (inCo mw_1_23 (inCo mw_14_23 (inCo mw_15_5 (inCo mw_15_6 (inCo mw_15_7 (inCo mw_1_22 (inCo mw_15_8 (inCo mw_9_9 (inCo mw_6_13 (inCo mw_1_2 (inCo mw_6_14 (inCo mw_6_12 (inCo mw_37_19 (inCo mw_13_19 (inCo mw_13_20 (inCo mw_3_12 (inCo mw_13_21 (inCo mw_13_22 (inCo mw_7_4 (inCo mw_7_5 (inCo mw_7_6 (inCo mw_7_7 (inNi)))))))))))))))))))))))) (inT_X8)) (inT_X2)) (inT_X1))
set_option maxRecDepth 20000 in
theorem ggL_X8_as : GoodIn lw_tbl wsX8_as := goodIn_sub inW_wsX8_as (by decide +kernel)
set_option maxRecDepth 20000 in
theorem gL_X8_as : GoodIn lw_tbl (wsV RL 147 RX8 yX8_as wsX8_as) := goodIn_app (goodIn_sub (inCo mw_37_15 (inCo mw_37_16 (inCo mw_37_17 (inCo mw_1_2 (inNi))))) (by decide +kernel)) ggL_X8_as
set_option maxRecDepth 20000 in
theorem inW_wsX9_as : ∀ w ∈ wsX9_as, w ∈ lw_tbl := inCo mw_37_23 (inAp (inCo mw_10_8 (inCo mw_5_2 (inCo mw_15_14 (inCo mw_15_15 (inCo mw_15_16 (inCo mw_1_5 (inCo mw_15_17 (inCo mw_10_15 (inCo mw_11_2 (inCo mw_11_3 (inCo mw_11_4 (inCo mw_11_5 (inCo mw_11_6 (inCo mw_11_7 (inCo mw_11_8 (inCo mw_11_9 (inCo mw_11_10 (inCo mw_11_11 (inCo mw_11_12 (inCo mw_11_13 (inNi))))))))))))))))))))) (inT_X9))
set_option maxRecDepth 20000 in
theorem ggL_X9_as : GoodIn lw_tbl wsX9_as := goodIn_sub inW_wsX9_as (by decide +kernel)
set_option maxRecDepth 20000 in
theorem gL_X9_as : GoodIn lw_tbl (wsV RL 150 RX9 yX9_as wsX9_as) := goodIn_app (goodIn_sub (inCo mw_37_20 (inCo mw_37_21 (inCo mw_37_22 (inCo mw_1_5 (inNi))))) (by decide +kernel)) ggL_X9_as
set_option maxRecDepth 20000 in
theorem inW_wsX8_trace : ∀ w ∈ wsX8_trace, w ∈ lw_tbl := inCo mw_38_3 (inAp (inCo mw_36_13 (inNi)) (inT_X8))
set_option maxRecDepth 20000 in
theorem ggL_X8_trace : GoodIn lw_tbl wsX8_trace := goodIn_sub inW_wsX8_trace (by decide +kernel)
set_option maxRecDepth 20000 in
theorem gL_X8_trace : GoodIn lw_tbl (wsV RL 151 RX8 yX8_trace wsX8_trace) := goodIn_app (goodIn_sub (inCo mw_38_0 (inCo mw_38_1 (inCo mw_38_2 (inCo mw_1_2 (inNi))))) (by decide +kernel)) ggL_X8_trace
set_option maxRecDepth 20000 in
theorem inW_wsX9_trace : ∀ w ∈ wsX9_trace, w ∈ lw_tbl := inCo mw_38_7 (inAp (inCo mw_37_6 (inNi)) (inT_X9))
set_option maxRecDepth 20000 in
theorem ggL_X9_trace : GoodIn lw_tbl wsX9_trace := goodIn_sub inW_wsX9_trace (by decide +kernel)
set_option maxRecDepth 20000 in
theorem gL_X9_trace : GoodIn lw_tbl (wsV RL 154 RX9 yX9_trace wsX9_trace) := goodIn_app (goodIn_sub (inCo mw_38_4 (inCo mw_38_5 (inCo mw_38_6 (inCo mw_1_5 (inNi))))) (by decide +kernel)) ggL_X9_trace
set_option maxRecDepth 20000 in
theorem inW_wsX8_fault : ∀ w ∈ wsX8_fault, w ∈ lw_tbl := inCo mw_38_11 (inAp (inCo mw_6_5 (inNi)) (inT_X8))
set_option maxRecDepth 20000 in
theorem ggL_X8_fault : GoodIn lw_tbl wsX8_fault := goodIn_sub inW_wsX8_fault (by decide +kernel)
set_option maxRecDepth 20000 in
theorem gL_X8_fault : GoodIn lw_tbl (wsV RL 155 RX8 yX8_fault wsX8_fault) := goodIn_app (goodIn_sub (inCo mw_38_8 (inCo mw_38_9 (inCo mw_38_10 (inCo mw_1_2 (inNi))))) (by decide +kernel)) ggL_X8_fault
set_option maxRecDepth 20000 in
theorem inW_wsX9_fault : ∀ w ∈ wsX9_fault, w ∈ lw_tbl := inCo mw_38_15 (inAp (inCo mw_11_9 (inNi)) (inT_X9))
set_option maxRecDepth 20000 in
theorem ggL_X9_fault : GoodIn lw_tbl wsX9_fault := goodIn_sub inW_wsX9_fault (by decide +kernel)
set_option maxRecDepth 20000 in
theorem gL_X9_fault : GoodIn lw_tbl (wsV RL 158 RX9 yX9_fault wsX9_fault) := goodIn_app (goodIn_sub (inCo mw_38_12 (inCo mw_38_13 (inCo mw_38_14 (inCo mw_1_5 (inNi))))) (by decide +kernel)) ggL_X9_fault
set_option maxRecDepth 20000 in
theorem inW_wsX8_many : ∀ w ∈ wsX8_many, w ∈ lw_tbl := inCo mw_38_19 (inAp (inAp (inAp (inCo mw_1_23 (inCo mw_6_8 (inCo mw_38_20 (inCo mw_24_2 (inCo mw_38_21 (inCo mw_2_11 (inCo mw_6_7 (inCo mw_16_1 (inCo mw_16_21 (inNi)))))))))) (inT_X8)) (inT_X2)) (inT_X3))
set_option maxRecDepth 20000 in
theorem ggL_X8_many : GoodIn lw_tbl wsX8_many := goodIn_sub inW_wsX8_many (by decide +kernel)
set_option maxRecDepth 20000 in
theorem gL_X8_many : GoodIn lw_tbl (wsV RL 159 RX8 yX8_many wsX8_many) := goodIn_app (goodIn_sub (inCo mw_38_16 (inCo mw_38_17 (inCo mw_38_18 (inCo mw_1_2 (inNi))))) (by decide +kernel)) ggL_X8_many
set_option maxRecDepth 20000 in
theorem inW_wsX9_many : ∀ w ∈ wsX9_many, w ∈ lw_tbl := inCo mw_39_1 (inAp (inCo mw_10_13 (inCo mw_10_15 (inCo mw_10_17 (inCo mw_10_21 (inCo mw_10_18 (inCo mw_10_19 (inCo mw_12_9 (inCo mw_12_10 (inCo mw_12_11 (inCo mw_1_5 (inCo mw_12_12 (inCo mw_10_11 (inNi))))))))))))) (inT_X9))
set_option maxRecDepth 20000 in
theorem ggL_X9_many : GoodIn lw_tbl wsX9_many := goodIn_sub inW_wsX9_many (by decide +kernel)
set_option maxRecDepth 20000 in
theorem gL_X9_many : GoodIn lw_tbl (wsV RL 162 RX9 yX9_many wsX9_many) := goodIn_app (goodIn_sub (inCo mw_38_22 (inCo mw_38_23 (inCo mw_39_0 (inCo mw_1_5 (inNi))))) (by decide +kernel)) ggL_X9_many
