set_option maxRecDepth 20000 in
theorem ggX0_tally_X0_goesAs : GoodIn wsX0_tally wsX0_goesAs := goodIn_r _ [6, 7, 10, 11, 12, 13, 14, 15, 16, 17, 18] (by decide +kernel) (by decide +kernel)
set_option maxRecDepth 20000 in
theorem gX0_tally_X0_goesAs_u18X1 : GoodIn wsX0_tally (va_wsU RX0 18 RX1 "CustomsYard$Load" ⟨"CustomsYard$Load", "goesAs", "(I)Z"⟩ yX0_goesAs wsX0_goesAs) := goodIn_app (goodIn_of _ (by decide +kernel)) ggX0_tally_X0_goesAs
set_option maxRecDepth 20000 in
theorem gX0_tally_X0_goesAs_u18X2 : GoodIn wsX0_tally (va_wsU RX0 18 RX2 "CustomsYard$Load" ⟨"CustomsYard$Load", "goesAs", "(I)Z"⟩ yX0_goesAs wsX0_goesAs) := goodIn_app (goodIn_of _ (by decide +kernel)) ggX0_tally_X0_goesAs
set_option maxRecDepth 20000 in
theorem gX0_tally_X0_goesAs_u18X3 : GoodIn wsX0_tally (va_wsU RX0 18 RX3 "CustomsYard$Load" ⟨"CustomsYard$Load", "goesAs", "(I)Z"⟩ yX0_goesAs wsX0_goesAs) := goodIn_app (goodIn_of _ (by decide +kernel)) ggX0_tally_X0_goesAs
set_option maxRecDepth 20000 in
theorem ggX1_init_X0_init : GoodIn wsX1_init wsX0_init := goodIn_r _ [5, 6, 7, 8, 9, 10, 11, 12, 13, 14, 15, 16, 17, 18, 19] (by decide +kernel) (by decide +kernel)
set_option maxRecDepth 20000 in
theorem gX1_init_X0_init : GoodIn wsX1_init (wsX0_init) := ggX1_init_X0_init
set_option maxRecDepth 20000 in
theorem ggX2_init_X0_init : GoodIn wsX2_init wsX0_init := goodIn_r _ [5, 6, 7, 8, 9, 10, 14, 15, 16, 11, 12, 13, 17, 18, 19] (by decide +kernel) (by decide +kernel)
set_option maxRecDepth 20000 in
theorem gX2_init_X0_init : GoodIn wsX2_init (wsX0_init) := ggX2_init_X0_init
set_option maxRecDepth 20000 in
theorem ggX2_comesAs_X2_declaration : GoodIn wsX2_comesAs wsX2_declaration := goodIn_r _ [6, 7, 8, 1, 12, 13, 14, 9, 10, 11, 15, 16, 17] (by decide +kernel) (by decide +kernel)
set_option maxRecDepth 20000 in
theorem gX2_comesAs_X2_declaration : GoodIn wsX2_comesAs (wsV RX2 15 RX2 yX2_declaration wsX2_declaration) := goodIn_app (goodIn_of _ (by decide +kernel)) ggX2_comesAs_X2_declaration
set_option maxRecDepth 20000 in
theorem ggX3_init_X0_init : GoodIn wsX3_init wsX0_init := goodIn_r _ [5, 6, 7, 8, 9, 10, 14, 15, 16, 17, 18, 19, 11, 12, 13] (by decide +kernel) (by decide +kernel)
set_option maxRecDepth 20000 in
theorem gX3_init_X0_init : GoodIn wsX3_init (wsX0_init) := ggX3_init_X0_init
set_option maxRecDepth 20000 in
theorem ggX3_viewKept_X3_viewAsked : GoodIn wsX3_viewKept wsX3_viewAsked := goodIn_r _ [7, 1, 2, 8, 9, 10, 11, 12, 13, 14, 15, 16] (by decide +kernel) (by decide +kernel)
set_option maxRecDepth 20000 in
theorem gX3_viewKept_X3_viewAsked : GoodIn wsX3_viewKept (wsV RX3 19 RX3 yX3_viewAsked wsX3_viewAsked) := goodIn_app (goodIn_of _ (by decide +kernel)) ggX3_viewKept_X3_viewAsked
set_option maxRecDepth 20000 in
theorem ggX3_weigh_X1_weigh : GoodIn wsX3_weigh wsX1_weigh := goodIn_r _ [7, 8, 20, 21, 22] (by decide +kernel) (by decide +kernel)
set_option maxRecDepth 20000 in
theorem gX3_weigh_X1_weigh_u23X1 : GoodIn wsX3_weigh (va_wsU RX3 23 RX1 "CustomsYard$Load" ⟨"CustomsYard$Load", "weigh", "(I)J"⟩ yX1_weigh wsX1_weigh) := goodIn_app (goodIn_of _ (by decide +kernel)) ggX3_weigh_X1_weigh
set_option maxRecDepth 20000 in
theorem ggX3_weigh_X2_weigh : GoodIn wsX3_weigh wsX2_weigh := goodIn_r _ [12, 13, 23, 24, 25] (by decide +kernel) (by decide +kernel)
set_option maxRecDepth 20000 in
theorem gX3_weigh_X2_weigh_u23X2 : GoodIn wsX3_weigh (va_wsU RX3 23 RX2 "CustomsYard$Load" ⟨"CustomsYard$Load", "weigh", "(I)J"⟩ yX2_weigh wsX2_weigh) := goodIn_app (goodIn_of _ (by decide +kernel)) ggX3_weigh_X2_weigh
set_option maxRecDepth 20000 in
theorem ggX3_weigh_X3_weigh : GoodIn wsX3_weigh wsX3_weigh := goodIn_r _ [0, 1, 2, 3, 4, 5, 6, 7, 8, 9, 10, 11, 12, 13, 14, 15, 16, 17, 18, 19, 20, 21, 22, 23, 24, 25] (by decide +kernel) (by decide +kernel)
set_option maxRecDepth 20000 in
theorem gX3_weigh_X3_weigh_u23X3 : GoodIn wsX3_weigh (va_wsU RX3 23 RX3 "CustomsYard$Load" ⟨"CustomsYard$Load", "weigh", "(I)J"⟩ yX3_weigh wsX3_weigh) := goodIn_app (goodIn_of _ (by decide +kernel)) ggX3_weigh_X3_weigh
set_option maxRecDepth 20000 in
theorem ggX3_tally_X0_goesAs : GoodIn wsX3_tally wsX0_goesAs := goodIn_r _ [7, 8, 27, 28, 29, 30, 31, 32, 24, 25, 26] (by decide +kernel) (by decide +kernel)
set_option maxRecDepth 20000 in
theorem gX3_tally_X0_goesAs_u27X3 : GoodIn wsX3_tally (va_wsU RX3 27 RX3 "CustomsYard$Load" ⟨"CustomsYard$Things", "goesAs", "(I)Z"⟩ yX0_goesAs wsX0_goesAs) := goodIn_app (goodIn_of _ (by decide +kernel)) ggX3_tally_X0_goesAs
set_option maxRecDepth 20000 in
theorem ggX3_tally_X0_tally : GoodIn wsX3_tally wsX0_tally := goodIn_r _ [13, 14, 15, 16, 5, 6, 7, 8, 17, 18, 27, 28, 29, 30, 31, 32, 24, 25, 26] (by decide +kernel) (by decide +kernel)
set_option maxRecDepth 20000 in
theorem gX3_tally_X0_tally_u31X1 : GoodIn wsX3_tally (va_wsU RX3 31 RX1 "CustomsYard$Load" ⟨"CustomsYard$Load", "tally", "(II)I"⟩ yX0_tally wsX0_tally) := goodIn_app (goodIn_of _ (by decide +kernel)) ggX3_tally_X0_tally
set_option maxRecDepth 20000 in
theorem gX3_tally_X0_tally_u31X2 : GoodIn wsX3_tally (va_wsU RX3 31 RX2 "CustomsYard$Load" ⟨"CustomsYard$Load", "tally", "(II)I"⟩ yX0_tally wsX0_tally) := goodIn_app (goodIn_of _ (by decide +kernel)) ggX3_tally_X0_tally
set_option maxRecDepth 20000 in
theorem ggX3_tally_X3_tally : GoodIn wsX3_tally wsX3_tally := goodIn_r _ [0, 1, 2, 3, 4, 5, 6, 7, 8, 9, 10, 11, 12, 13, 14, 15, 16, 17, 18, 19, 20, 21, 22, 23, 24, 25, 26, 27, 28, 29, 30, 31, 32] (by decide +kernel) (by decide +kernel)
set_option maxRecDepth 20000 in
theorem gX3_tally_X3_tally_u31X3 : GoodIn wsX3_tally (va_wsO RX3 31 RX3 "CustomsYard$Load" ⟨"CustomsYard$Load", "tally", "(II)I"⟩ yX3_tally wsX3_tally) := goodIn_app (goodIn_of _ (by decide +kernel)) ggX3_tally_X3_tally
set_option maxRecDepth 20000 in
theorem ggX4_init_J7_fill_53178 : GoodIn wsX4_init wsJ7_fill_53178 := goodIn_r _ [16] (by decide +kernel) (by decide +kernel)
set_option maxRecDepth 20000 in
theorem gX4_init_J7_fill_53178 : GoodIn wsX4_init (va_wsS RX4 32 yJ7_fill_53178 wsJ7_fill_53178) := goodIn_app (goodIn_of _ (by decide +kernel)) ggX4_init_J7_fill_53178
set_option maxRecDepth 20000 in
theorem ggX4_load_X4_mostOf : GoodIn wsX4_load wsX4_mostOf := goodIn_r _ [7, 8, 9, 6, 10] (by decide +kernel) (by decide +kernel)
set_option maxRecDepth 20000 in
theorem gX4_load_X4_mostOf : GoodIn wsX4_load (va_wsS RX4 42 yX4_mostOf wsX4_mostOf) := goodIn_app (goodIn_of _ (by decide +kernel)) ggX4_load_X4_mostOf
set_option maxRecDepth 20000 in
theorem ggX4_load_X4_refuse : GoodIn wsX4_load wsX4_refuse := goodIn_r _ [14, 1, 15, 16, 17, 55, 56, 57, 58, 59, 60, 61, 62, 63, 64, 65, 66, 67] (by decide +kernel) (by decide +kernel)
set_option maxRecDepth 20000 in
theorem gX4_load_X4_refuse : GoodIn wsX4_load (wsV RX4 46 RX4 yX4_refuse wsX4_refuse) := goodIn_app (goodIn_of _ (by decide +kernel)) ggX4_load_X4_refuse
set_option maxRecDepth 20000 in
theorem ggX4_load_X4_makeLoad : GoodIn wsX4_load wsX4_makeLoad := goodIn_r _ [20, 21, 22, 23, 24, 25, 26, 27, 28, 29, 30, 31, 8, 9, 6, 10, 32, 33, 34, 35, 36, 37, 38, 39, 40, 41, 42, 43, 44, 45, 46, 47, 48, 49, 50, 51, 52, 53, 54, 68, 69, 70, 71, 72, 73, 74, 75, 76] (by decide +kernel) (by decide +kernel)
set_option maxRecDepth 20000 in
theorem gX4_load_X4_makeLoad : GoodIn wsX4_load (va_wsS RX4 52 yX4_makeLoad wsX4_makeLoad) := goodIn_app (goodIn_of _ (by decide +kernel)) ggX4_load_X4_makeLoad
set_option maxRecDepth 20000 in
theorem ggX4_set_X4_numbersWith : GoodIn wsX4_set wsX4_numbersWith := goodIn_r _ [9, 10, 11, 12, 13, 8, 14, 15, 16, 17, 18, 19, 1, 20, 21, 22, 23, 24, 25, 26, 27, 28, 29, 30, 31, 32, 33, 34, 35, 36, 37, 38, 39, 40, 41, 42, 43, 44] (by decide +kernel) (by decide +kernel)
set_option maxRecDepth 20000 in
theorem gX4_set_X4_numbersWith : GoodIn wsX4_set (wsV RX4 56 RX4 yX4_numbersWith wsX4_numbersWith) := goodIn_app (goodIn_of _ (by decide +kernel)) ggX4_set_X4_numbersWith
set_option maxRecDepth 20000 in
theorem ggX4_number_X4_numbersWith : GoodIn wsX4_number wsX4_numbersWith := goodIn_r _ [7, 8, 9, 10, 11, 6, 12, 13, 14, 15, 16, 17, 1, 18, 19, 20, 21, 22, 23, 24, 25, 26, 27, 28, 29, 30, 31, 32, 33, 34, 35, 36, 37, 38, 39, 40, 41, 42] (by decide +kernel) (by decide +kernel)
set_option maxRecDepth 20000 in
theorem gX4_number_X4_numbersWith : GoodIn wsX4_number (wsV RX4 56 RX4 yX4_numbersWith wsX4_numbersWith) := goodIn_app (goodIn_of _ (by decide +kernel)) ggX4_number_X4_numbersWith
set_option maxRecDepth 20000 in
theorem ggX4_put_X4_find : GoodIn wsX4_put wsX4_find := goodIn_r _ [8, 9, 43, 44, 45, 46, 47, 48, 49, 50, 51, 52, 53, 54, 55] (by decide +kernel) (by decide +kernel)
set_option maxRecDepth 20000 in
theorem gX4_put_X4_find : GoodIn wsX4_put (wsV RX4 68 RX4 yX4_find wsX4_find) := goodIn_app (goodIn_of _ (by decide +kernel)) ggX4_put_X4_find
set_option maxRecDepth 20000 in
theorem ggX4_put_X4_refuse : GoodIn wsX4_put wsX4_refuse := goodIn_r _ [13, 1, 14, 15, 16, 43, 44, 45, 46, 47, 48, 49, 50, 51, 52, 53, 54, 55] (by decide +kernel) (by decide +kernel)
set_option maxRecDepth 20000 in
theorem gX4_put_X4_refuse : GoodIn wsX4_put (wsV RX4 46 RX4 yX4_refuse wsX4_refuse) := goodIn_app (goodIn_of _ (by decide +kernel)) ggX4_put_X4_refuse
set_option maxRecDepth 20000 in
theorem ggX4_put_X3_viewAsked : GoodIn wsX4_put wsX3_viewAsked := goodIn_r _ [21, 22, 23, 59, 60, 61, 62, 63, 64, 56, 57, 58] (by decide +kernel) (by decide +kernel)
set_option maxRecDepth 20000 in
theorem gX4_put_X3_viewAsked : GoodIn wsX4_put (wsV RX4 74 RX3 yX3_viewAsked wsX3_viewAsked) := goodIn_app (goodIn_of _ (by decide +kernel)) ggX4_put_X3_viewAsked
set_option maxRecDepth 20000 in
theorem ggX4_put_X0_goesAs : GoodIn wsX4_put wsX0_goesAs := goodIn_r _ [29, 30, 59, 60, 61, 62, 63, 64, 56, 57, 58] (by decide +kernel) (by decide +kernel)
set_option maxRecDepth 20000 in
theorem gX4_put_X0_goesAs_u78X1 : GoodIn wsX4_put (va_wsU RX4 78 RX1 "CustomsYard$Load" ⟨"CustomsYard$Load", "goesAs", "(I)Z"⟩ yX0_goesAs wsX0_goesAs) := goodIn_app (goodIn_of _ (by decide +kernel)) ggX4_put_X0_goesAs
set_option maxRecDepth 20000 in
theorem gX4_put_X0_goesAs_u78X2 : GoodIn wsX4_put (va_wsU RX4 78 RX2 "CustomsYard$Load" ⟨"CustomsYard$Load", "goesAs", "(I)Z"⟩ yX0_goesAs wsX0_goesAs) := goodIn_app (goodIn_of _ (by decide +kernel)) ggX4_put_X0_goesAs
set_option maxRecDepth 20000 in
theorem gX4_put_X0_goesAs_u78X3 : GoodIn wsX4_put (va_wsU RX4 78 RX3 "CustomsYard$Load" ⟨"CustomsYard$Load", "goesAs", "(I)Z"⟩ yX0_goesAs wsX0_goesAs) := goodIn_app (goodIn_of _ (by decide +kernel)) ggX4_put_X0_goesAs
set_option maxRecDepth 20000 in
theorem ggX4_put_X3_hasPlace : GoodIn wsX4_put wsX3_hasPlace := goodIn_r _ [36, 37, 56, 57, 58] (by decide +kernel) (by decide +kernel)
set_option maxRecDepth 20000 in
theorem gX4_put_X3_hasPlace : GoodIn wsX4_put (wsV RX4 82 RX3 yX3_hasPlace wsX3_hasPlace) := goodIn_app (goodIn_of _ (by decide +kernel)) ggX4_put_X3_hasPlace
set_option maxRecDepth 20000 in
theorem ggX4_put_X3_viewKept : GoodIn wsX4_put wsX3_viewKept := goodIn_r _ [41, 22, 23, 42, 18, 19, 20, 21, 59, 60, 61, 62, 63, 64, 56, 57, 58] (by decide +kernel) (by decide +kernel)
set_option maxRecDepth 20000 in
theorem gX4_put_X3_viewKept : GoodIn wsX4_put (wsV RX4 85 RX3 yX3_viewKept wsX3_viewKept) := goodIn_app (goodIn_of _ (by decide +kernel)) ggX4_put_X3_viewKept
set_option maxRecDepth 20000 in
theorem ggX4_at_X4_find : GoodIn wsX4_at wsX4_find := goodIn_r _ [8, 9, 27, 28, 29, 30, 31, 32, 33, 34, 35, 36, 37, 38, 39] (by decide +kernel) (by decide +kernel)
set_option maxRecDepth 20000 in
theorem gX4_at_X4_find : GoodIn wsX4_at (wsV RX4 68 RX4 yX4_find wsX4_find) := goodIn_app (goodIn_of _ (by decide +kernel)) ggX4_at_X4_find
set_option maxRecDepth 20000 in
theorem ggX4_at_X4_refuse : GoodIn wsX4_at wsX4_refuse := goodIn_r _ [13, 1, 14, 15, 16, 27, 28, 29, 30, 31, 32, 33, 34, 35, 36, 37, 38, 39] (by decide +kernel) (by decide +kernel)
set_option maxRecDepth 20000 in
theorem gX4_at_X4_refuse : GoodIn wsX4_at (wsV RX4 46 RX4 yX4_refuse wsX4_refuse) := goodIn_app (goodIn_of _ (by decide +kernel)) ggX4_at_X4_refuse
set_option maxRecDepth 20000 in
theorem ggX4_at_X3_hasPlace : GoodIn wsX4_at wsX3_hasPlace := goodIn_r _ [21, 22, 40, 41, 42] (by decide +kernel) (by decide +kernel)
set_option maxRecDepth 20000 in
theorem gX4_at_X3_hasPlace : GoodIn wsX4_at (wsV RX4 82 RX3 yX3_hasPlace wsX3_hasPlace) := goodIn_app (goodIn_of _ (by decide +kernel)) ggX4_at_X3_hasPlace
set_option maxRecDepth 20000 in
theorem ggX4_at_X4_numberOf : GoodIn wsX4_at wsX4_numberOf := goodIn_r _ [25, 26, 43, 44, 45, 46, 47, 48, 40, 41, 42] (by decide +kernel) (by decide +kernel)
set_option maxRecDepth 20000 in
theorem gX4_at_X4_numberOf : GoodIn wsX4_at (va_wsS RX4 90 yX4_numberOf wsX4_numberOf) := goodIn_app (goodIn_of _ (by decide +kernel)) ggX4_at_X4_numberOf
set_option maxRecDepth 20000 in
theorem ggX4_is_X4_find : GoodIn wsX4_is wsX4_find := goodIn_r _ [6, 7, 27, 28, 29, 30, 31, 32, 33, 34, 35, 36, 37, 38, 39] (by decide +kernel) (by decide +kernel)
set_option maxRecDepth 20000 in
theorem gX4_is_X4_find : GoodIn wsX4_is (wsV RX4 68 RX4 yX4_find wsX4_find) := goodIn_app (goodIn_of _ (by decide +kernel)) ggX4_is_X4_find
set_option maxRecDepth 20000 in
theorem ggX4_is_X4_isView : GoodIn wsX4_is wsX4_isView := goodIn_r _ [10] (by decide +kernel) (by decide +kernel)
set_option maxRecDepth 20000 in
theorem gX4_is_X4_isView : GoodIn wsX4_is (va_wsS RX4 94 yX4_isView wsX4_isView) := goodIn_app (goodIn_of _ (by decide +kernel)) ggX4_is_X4_isView
set_option maxRecDepth 20000 in
theorem ggX4_is_X4_refuse : GoodIn wsX4_is wsX4_refuse := goodIn_r _ [14, 1, 15, 16, 17, 27, 28, 29, 30, 31, 32, 33, 34, 35, 36, 37, 38, 39] (by decide +kernel) (by decide +kernel)
set_option maxRecDepth 20000 in
theorem gX4_is_X4_refuse : GoodIn wsX4_is (wsV RX4 46 RX4 yX4_refuse wsX4_refuse) := goodIn_app (goodIn_of _ (by decide +kernel)) ggX4_is_X4_refuse
set_option maxRecDepth 20000 in
theorem ggX4_is_X0_goesAs : GoodIn wsX4_is wsX0_goesAs := goodIn_r _ [23, 24, 40, 41, 42, 43, 44, 45, 46, 47, 48] (by decide +kernel) (by decide +kernel)
set_option maxRecDepth 20000 in
theorem gX4_is_X0_goesAs_u78X1 : GoodIn wsX4_is (va_wsU RX4 78 RX1 "CustomsYard$Load" ⟨"CustomsYard$Load", "goesAs", "(I)Z"⟩ yX0_goesAs wsX0_goesAs) := goodIn_app (goodIn_of _ (by decide +kernel)) ggX4_is_X0_goesAs
set_option maxRecDepth 20000 in
theorem gX4_is_X0_goesAs_u78X2 : GoodIn wsX4_is (va_wsU RX4 78 RX2 "CustomsYard$Load" ⟨"CustomsYard$Load", "goesAs", "(I)Z"⟩ yX0_goesAs wsX0_goesAs) := goodIn_app (goodIn_of _ (by decide +kernel)) ggX4_is_X0_goesAs
set_option maxRecDepth 20000 in
theorem gX4_is_X0_goesAs_u78X3 : GoodIn wsX4_is (va_wsU RX4 78 RX3 "CustomsYard$Load" ⟨"CustomsYard$Load", "goesAs", "(I)Z"⟩ yX0_goesAs wsX0_goesAs) := goodIn_app (goodIn_of _ (by decide +kernel)) ggX4_is_X0_goesAs
set_option maxRecDepth 20000 in
theorem ggX4_take_X4_find : GoodIn wsX4_take wsX4_find := goodIn_r _ [6, 7, 54, 55, 56, 57, 58, 59, 60, 61, 62, 63, 64, 65, 66] (by decide +kernel) (by decide +kernel)
set_option maxRecDepth 20000 in
theorem gX4_take_X4_find : GoodIn wsX4_take (wsV RX4 68 RX4 yX4_find wsX4_find) := goodIn_app (goodIn_of _ (by decide +kernel)) ggX4_take_X4_find
set_option maxRecDepth 20000 in
theorem ggX4_take_X4_isView : GoodIn wsX4_take wsX4_isView := goodIn_r _ [10] (by decide +kernel) (by decide +kernel)
set_option maxRecDepth 20000 in
theorem gX4_take_X4_isView : GoodIn wsX4_take (va_wsS RX4 94 yX4_isView wsX4_isView) := goodIn_app (goodIn_of _ (by decide +kernel)) ggX4_take_X4_isView
set_option maxRecDepth 20000 in
theorem ggX4_take_X4_refuse : GoodIn wsX4_take wsX4_refuse := goodIn_r _ [14, 1, 15, 16, 17, 54, 55, 56, 57, 58, 59, 60, 61, 62, 63, 64, 65, 66] (by decide +kernel) (by decide +kernel)
set_option maxRecDepth 20000 in
theorem gX4_take_X4_refuse : GoodIn wsX4_take (wsV RX4 46 RX4 yX4_refuse wsX4_refuse) := goodIn_app (goodIn_of _ (by decide +kernel)) ggX4_take_X4_refuse
set_option maxRecDepth 20000 in
theorem ggX4_take_X4_takeAs : GoodIn wsX4_take wsX4_takeAs := goodIn_r _ [21, 22, 23, 24, 25, 26, 27, 28, 29, 30, 31, 32, 33, 34, 35, 36, 37, 38, 39, 40, 41, 42, 43, 44, 45, 46, 47, 48, 49, 50, 51, 52, 53, 11, 12, 13, 5, 14, 1, 15, 16, 17, 67, 68, 69, 70, 71, 72, 73, 74, 75, 54, 55, 56, 57, 58, 59, 60, 61, 62, 63, 64, 65, 66] (by decide +kernel) (by decide +kernel)
set_option maxRecDepth 20000 in
theorem gX4_take_X4_takeAs : GoodIn wsX4_take (wsV RX4 97 RX4 yX4_takeAs wsX4_takeAs) := goodIn_app (goodIn_of _ (by decide +kernel)) ggX4_take_X4_takeAs
set_option maxRecDepth 20000 in
theorem ggX4_sort_X4_find : GoodIn wsX4_sort wsX4_find := goodIn_r _ [7, 8, 16, 17, 18, 19, 20, 21, 22, 23, 24, 25, 26, 27, 28] (by decide +kernel) (by decide +kernel)
set_option maxRecDepth 20000 in
theorem gX4_sort_X4_find : GoodIn wsX4_sort (wsV RX4 68 RX4 yX4_find wsX4_find) := goodIn_app (goodIn_of _ (by decide +kernel)) ggX4_sort_X4_find
set_option maxRecDepth 20000 in
theorem ggX4_sort_X4_refuse : GoodIn wsX4_sort wsX4_refuse := goodIn_r _ [12, 1, 13, 14, 15, 16, 17, 18, 19, 20, 21, 22, 23, 24, 25, 26, 27, 28] (by decide +kernel) (by decide +kernel)
set_option maxRecDepth 20000 in
theorem gX4_sort_X4_refuse : GoodIn wsX4_sort (wsV RX4 46 RX4 yX4_refuse wsX4_refuse) := goodIn_app (goodIn_of _ (by decide +kernel)) ggX4_sort_X4_refuse
set_option maxRecDepth 20000 in
theorem ggX4_weight_X4_find : GoodIn wsX4_weight wsX4_find := goodIn_r _ [6, 7, 33, 34, 35, 36, 37, 38, 39, 40, 41, 42, 43, 44, 45] (by decide +kernel) (by decide +kernel)
set_option maxRecDepth 20000 in
theorem gX4_weight_X4_find : GoodIn wsX4_weight (wsV RX4 68 RX4 yX4_find wsX4_find) := goodIn_app (goodIn_of _ (by decide +kernel)) ggX4_weight_X4_find
set_option maxRecDepth 20000 in
theorem ggX4_weight_X4_refuse : GoodIn wsX4_weight wsX4_refuse := goodIn_r _ [11, 1, 12, 13, 14, 33, 34, 35, 36, 37, 38, 39, 40, 41, 42, 43, 44, 45] (by decide +kernel) (by decide +kernel)
set_option maxRecDepth 20000 in
theorem gX4_weight_X4_refuse : GoodIn wsX4_weight (wsV RX4 46 RX4 yX4_refuse wsX4_refuse) := goodIn_app (goodIn_of _ (by decide +kernel)) ggX4_weight_X4_refuse
set_option maxRecDepth 20000 in
theorem ggX4_weight_X1_weigh : GoodIn wsX4_weight wsX1_weigh := goodIn_r _ [20, 21, 46, 47, 48] (by decide +kernel) (by decide +kernel)
set_option maxRecDepth 20000 in
theorem gX4_weight_X1_weigh_u102X1 : GoodIn wsX4_weight (va_wsU RX4 102 RX1 "CustomsYard$Load" ⟨"CustomsYard$Load", "weigh", "(I)J"⟩ yX1_weigh wsX1_weigh) := goodIn_app (goodIn_of _ (by decide +kernel)) ggX4_weight_X1_weigh
set_option maxRecDepth 20000 in
theorem ggX4_weight_X2_weigh : GoodIn wsX4_weight wsX2_weigh := goodIn_r _ [25, 26, 49, 50, 51] (by decide +kernel) (by decide +kernel)
set_option maxRecDepth 20000 in
theorem gX4_weight_X2_weigh_u102X2 : GoodIn wsX4_weight (va_wsU RX4 102 RX2 "CustomsYard$Load" ⟨"CustomsYard$Load", "weigh", "(I)J"⟩ yX2_weigh wsX2_weigh) := goodIn_app (goodIn_of _ (by decide +kernel)) ggX4_weight_X2_weigh
set_option maxRecDepth 20000 in
theorem ggX4_weight_X3_weigh : GoodIn wsX4_weight wsX3_weigh := goodIn_r _ [30, 31, 32, 16, 17, 18, 19, 20, 21, 22, 23, 24, 25, 26, 27, 28, 29, 52, 53, 54, 46, 47, 48, 49, 50, 51] (by decide +kernel) (by decide +kernel)
set_option maxRecDepth 20000 in
theorem gX4_weight_X3_weigh_u102X3 : GoodIn wsX4_weight (va_wsU RX4 102 RX3 "CustomsYard$Load" ⟨"CustomsYard$Load", "weigh", "(I)J"⟩ yX3_weigh wsX3_weigh) := goodIn_app (goodIn_of _ (by decide +kernel)) ggX4_weight_X3_weigh
set_option maxRecDepth 20000 in
theorem ggX4_inside_X4_find : GoodIn wsX4_inside wsX4_find := goodIn_r _ [6, 7, 43, 44, 45, 46, 47, 48, 49, 50, 51, 52, 53, 54, 55] (by decide +kernel) (by decide +kernel)
set_option maxRecDepth 20000 in
theorem gX4_inside_X4_find : GoodIn wsX4_inside (wsV RX4 68 RX4 yX4_find wsX4_find) := goodIn_app (goodIn_of _ (by decide +kernel)) ggX4_inside_X4_find
set_option maxRecDepth 20000 in
theorem ggX4_inside_X4_isView : GoodIn wsX4_inside wsX4_isView := goodIn_r _ [10] (by decide +kernel) (by decide +kernel)
set_option maxRecDepth 20000 in
theorem gX4_inside_X4_isView : GoodIn wsX4_inside (va_wsS RX4 94 yX4_isView wsX4_isView) := goodIn_app (goodIn_of _ (by decide +kernel)) ggX4_inside_X4_isView
set_option maxRecDepth 20000 in
theorem ggX4_inside_X4_refuse : GoodIn wsX4_inside wsX4_refuse := goodIn_r _ [14, 1, 15, 16, 17, 43, 44, 45, 46, 47, 48, 49, 50, 51, 52, 53, 54, 55] (by decide +kernel) (by decide +kernel)
set_option maxRecDepth 20000 in
theorem gX4_inside_X4_refuse : GoodIn wsX4_inside (wsV RX4 46 RX4 yX4_refuse wsX4_refuse) := goodIn_app (goodIn_of _ (by decide +kernel)) ggX4_inside_X4_refuse
set_option maxRecDepth 20000 in
theorem ggX4_inside_X0_tally : GoodIn wsX4_inside wsX0_tally := goodIn_r _ [23, 24, 25, 26, 27, 22, 28, 29, 30, 31, 56, 57, 58, 59, 60, 61, 62, 63, 64] (by decide +kernel) (by decide +kernel)
set_option maxRecDepth 20000 in
theorem gX4_inside_X0_tally_u106X1 : GoodIn wsX4_inside (va_wsU RX4 106 RX1 "CustomsYard$Load" ⟨"CustomsYard$Load", "tally", "(II)I"⟩ yX0_tally wsX0_tally) := goodIn_app (goodIn_of _ (by decide +kernel)) ggX4_inside_X0_tally
set_option maxRecDepth 20000 in
theorem gX4_inside_X0_tally_u106X2 : GoodIn wsX4_inside (va_wsU RX4 106 RX2 "CustomsYard$Load" ⟨"CustomsYard$Load", "tally", "(II)I"⟩ yX0_tally wsX0_tally) := goodIn_app (goodIn_of _ (by decide +kernel)) ggX4_inside_X0_tally
set_option maxRecDepth 20000 in
theorem ggX4_inside_X3_tally : GoodIn wsX4_inside wsX3_tally := goodIn_r _ [37, 38, 39, 40, 41, 27, 22, 28, 29, 42, 19, 20, 21, 23, 24, 25, 26, 30, 31, 32, 33, 34, 35, 36, 62, 63, 64, 56, 57, 58, 59, 60, 61] (by decide +kernel) (by decide +kernel)
set_option maxRecDepth 20000 in
theorem gX4_inside_X3_tally_u106X3 : GoodIn wsX4_inside (va_wsO RX4 106 RX3 "CustomsYard$Load" ⟨"CustomsYard$Load", "tally", "(II)I"⟩ yX3_tally wsX3_tally) := goodIn_app (goodIn_of _ (by decide +kernel)) ggX4_inside_X3_tally
set_option maxRecDepth 20000 in
theorem ggX4_hold_X4_find : GoodIn wsX4_hold wsX4_find := goodIn_r _ [7, 8, 23, 24, 25, 26, 27, 28, 29, 30, 31, 32, 33, 34, 35] (by decide +kernel) (by decide +kernel)
set_option maxRecDepth 20000 in
theorem gX4_hold_X4_find : GoodIn wsX4_hold (wsV RX4 68 RX4 yX4_find wsX4_find) := goodIn_app (goodIn_of _ (by decide +kernel)) ggX4_hold_X4_find
set_option maxRecDepth 20000 in
theorem ggX4_hold_X4_isBay : GoodIn wsX4_hold wsX4_isBay := goodIn_r _ [11] (by decide +kernel) (by decide +kernel)
set_option maxRecDepth 20000 in
theorem gX4_hold_X4_isBay : GoodIn wsX4_hold (va_wsS RX4 110 yX4_isBay wsX4_isBay) := goodIn_app (goodIn_of _ (by decide +kernel)) ggX4_hold_X4_isBay
set_option maxRecDepth 20000 in
theorem ggX4_hold_X4_refuse : GoodIn wsX4_hold wsX4_refuse := goodIn_r _ [15, 1, 16, 17, 18, 23, 24, 25, 26, 27, 28, 29, 30, 31, 32, 33, 34, 35] (by decide +kernel) (by decide +kernel)
set_option maxRecDepth 20000 in
theorem gX4_hold_X4_refuse : GoodIn wsX4_hold (wsV RX4 46 RX4 yX4_refuse wsX4_refuse) := goodIn_app (goodIn_of _ (by decide +kernel)) ggX4_hold_X4_refuse
set_option maxRecDepth 20000 in
theorem ggX4_hold_X4_numberOf : GoodIn wsX4_hold wsX4_numberOf := goodIn_r _ [21, 22, 36, 37, 38, 39, 40, 41, 42, 43, 44] (by decide +kernel) (by decide +kernel)
set_option maxRecDepth 20000 in
theorem gX4_hold_X4_numberOf : GoodIn wsX4_hold (va_wsS RX4 90 yX4_numberOf wsX4_numberOf) := goodIn_app (goodIn_of _ (by decide +kernel)) ggX4_hold_X4_numberOf
set_option maxRecDepth 20000 in
theorem ggX4_bay_X4_isBay : GoodIn wsX4_bay wsX4_isBay := goodIn_r _ [6] (by decide +kernel) (by decide +kernel)
set_option maxRecDepth 20000 in
theorem gX4_bay_X4_isBay : GoodIn wsX4_bay (va_wsS RX4 110 yX4_isBay wsX4_isBay) := goodIn_app (goodIn_of _ (by decide +kernel)) ggX4_bay_X4_isBay
set_option maxRecDepth 20000 in
theorem ggX4_bay_X4_isView : GoodIn wsX4_bay wsX4_isView := goodIn_r _ [9] (by decide +kernel) (by decide +kernel)
set_option maxRecDepth 20000 in
theorem gX4_bay_X4_isView : GoodIn wsX4_bay (va_wsS RX4 94 yX4_isView wsX4_isView) := goodIn_app (goodIn_of _ (by decide +kernel)) ggX4_bay_X4_isView
set_option maxRecDepth 20000 in
theorem ggX4_bay_X4_refuse : GoodIn wsX4_bay wsX4_refuse := goodIn_r _ [13, 1, 14, 15, 16, 53, 54, 55, 56, 57, 58, 59, 60, 61, 62, 63, 64, 65] (by decide +kernel) (by decide +kernel)
set_option maxRecDepth 20000 in
theorem gX4_bay_X4_refuse : GoodIn wsX4_bay (wsV RX4 46 RX4 yX4_refuse wsX4_refuse) := goodIn_app (goodIn_of _ (by decide +kernel)) ggX4_bay_X4_refuse
set_option maxRecDepth 20000 in
theorem ggX4_bay_X4_takeAs : GoodIn wsX4_bay wsX4_takeAs := goodIn_r _ [20, 21, 22, 23, 24, 25, 26, 27, 28, 29, 30, 31, 32, 33, 34, 35, 36, 37, 38, 39, 40, 41, 42, 43, 44, 45, 46, 47, 48, 49, 50, 51, 52, 10, 11, 12, 5, 13, 1, 14, 15, 16, 66, 67, 68, 69, 70, 71, 72, 73, 74, 53, 54, 55, 56, 57, 58, 59, 60, 61, 62, 63, 64, 65] (by decide +kernel) (by decide +kernel)
set_option maxRecDepth 20000 in
theorem gX4_bay_X4_takeAs : GoodIn wsX4_bay (wsV RX4 97 RX4 yX4_takeAs wsX4_takeAs) := goodIn_app (goodIn_of _ (by decide +kernel)) ggX4_bay_X4_takeAs
set_option maxRecDepth 20000 in
theorem ggX4_gate_X4_isGate : GoodIn wsX4_gate wsX4_isGate := goodIn_r _ [7] (by decide +kernel) (by decide +kernel)
set_option maxRecDepth 20000 in
theorem gX4_gate_X4_isGate : GoodIn wsX4_gate (va_wsS RX4 113 yX4_isGate wsX4_isGate) := goodIn_app (goodIn_of _ (by decide +kernel)) ggX4_gate_X4_isGate
set_option maxRecDepth 20000 in
theorem ggX4_gate_X4_isView : GoodIn wsX4_gate wsX4_isView := goodIn_r _ [10] (by decide +kernel) (by decide +kernel)
set_option maxRecDepth 20000 in
theorem gX4_gate_X4_isView : GoodIn wsX4_gate (va_wsS RX4 94 yX4_isView wsX4_isView) := goodIn_app (goodIn_of _ (by decide +kernel)) ggX4_gate_X4_isView
set_option maxRecDepth 20000 in
theorem ggX4_gate_X4_refuse : GoodIn wsX4_gate wsX4_refuse := goodIn_r _ [14, 1, 15, 16, 17, 18, 19, 20, 21, 22, 23, 24, 25, 26, 27, 28, 29, 30] (by decide +kernel) (by decide +kernel)
set_option maxRecDepth 20000 in
theorem gX4_gate_X4_refuse : GoodIn wsX4_gate (wsV RX4 46 RX4 yX4_refuse wsX4_refuse) := goodIn_app (goodIn_of _ (by decide +kernel)) ggX4_gate_X4_refuse
set_option maxRecDepth 20000 in
theorem ggX4_pass_X4_find : GoodIn wsX4_pass wsX4_find := goodIn_r _ [9, 10, 48, 49, 50, 51, 52, 53, 54, 55, 56, 57, 58, 59, 60] (by decide +kernel) (by decide +kernel)
set_option maxRecDepth 20000 in
theorem gX4_pass_X4_find : GoodIn wsX4_pass (wsV RX4 68 RX4 yX4_find wsX4_find) := goodIn_app (goodIn_of _ (by decide +kernel)) ggX4_pass_X4_find
set_option maxRecDepth 20000 in
theorem ggX4_pass_X4_isGate : GoodIn wsX4_pass wsX4_isGate := goodIn_r _ [13] (by decide +kernel) (by decide +kernel)
set_option maxRecDepth 20000 in
theorem gX4_pass_X4_isGate : GoodIn wsX4_pass (va_wsS RX4 113 yX4_isGate wsX4_isGate) := goodIn_app (goodIn_of _ (by decide +kernel)) ggX4_pass_X4_isGate
set_option maxRecDepth 20000 in
theorem ggX4_pass_X4_refuse : GoodIn wsX4_pass wsX4_refuse := goodIn_r _ [17, 1, 18, 19, 20, 48, 49, 50, 51, 52, 53, 54, 55, 56, 57, 58, 59, 60] (by decide +kernel) (by decide +kernel)
set_option maxRecDepth 20000 in
theorem gX4_pass_X4_refuse : GoodIn wsX4_pass (wsV RX4 46 RX4 yX4_refuse wsX4_refuse) := goodIn_app (goodIn_of _ (by decide +kernel)) ggX4_pass_X4_refuse
set_option maxRecDepth 20000 in
theorem ggX4_pass_X0_goesAs : GoodIn wsX4_pass wsX0_goesAs := goodIn_r _ [26, 27, 61, 62, 63, 64, 65, 66, 67, 68, 69] (by decide +kernel) (by decide +kernel)
set_option maxRecDepth 20000 in
theorem gX4_pass_X0_goesAs_u78X1 : GoodIn wsX4_pass (va_wsU RX4 78 RX1 "CustomsYard$Load" ⟨"CustomsYard$Load", "goesAs", "(I)Z"⟩ yX0_goesAs wsX0_goesAs) := goodIn_app (goodIn_of _ (by decide +kernel)) ggX4_pass_X0_goesAs
set_option maxRecDepth 20000 in
theorem gX4_pass_X0_goesAs_u78X2 : GoodIn wsX4_pass (va_wsU RX4 78 RX2 "CustomsYard$Load" ⟨"CustomsYard$Load", "goesAs", "(I)Z"⟩ yX0_goesAs wsX0_goesAs) := goodIn_app (goodIn_of _ (by decide +kernel)) ggX4_pass_X0_goesAs
set_option maxRecDepth 20000 in
theorem gX4_pass_X0_goesAs_u78X3 : GoodIn wsX4_pass (va_wsU RX4 78 RX3 "CustomsYard$Load" ⟨"CustomsYard$Load", "goesAs", "(I)Z"⟩ yX0_goesAs wsX0_goesAs) := goodIn_app (goodIn_of _ (by decide +kernel)) ggX4_pass_X0_goesAs
set_option maxRecDepth 20000 in
theorem ggX4_pass_X1_weigh : GoodIn wsX4_pass wsX1_weigh := goodIn_r _ [35, 36, 61, 62, 63] (by decide +kernel) (by decide +kernel)
set_option maxRecDepth 20000 in
theorem gX4_pass_X1_weigh_u102X1 : GoodIn wsX4_pass (va_wsU RX4 102 RX1 "CustomsYard$Load" ⟨"CustomsYard$Load", "weigh", "(I)J"⟩ yX1_weigh wsX1_weigh) := goodIn_app (goodIn_of _ (by decide +kernel)) ggX4_pass_X1_weigh
set_option maxRecDepth 20000 in
theorem ggX4_pass_X2_weigh : GoodIn wsX4_pass wsX2_weigh := goodIn_r _ [40, 41, 64, 65, 66] (by decide +kernel) (by decide +kernel)
set_option maxRecDepth 20000 in
theorem gX4_pass_X2_weigh_u102X2 : GoodIn wsX4_pass (va_wsU RX4 102 RX2 "CustomsYard$Load" ⟨"CustomsYard$Load", "weigh", "(I)J"⟩ yX2_weigh wsX2_weigh) := goodIn_app (goodIn_of _ (by decide +kernel)) ggX4_pass_X2_weigh
set_option maxRecDepth 20000 in
theorem ggX4_pass_X3_weigh : GoodIn wsX4_pass wsX3_weigh := goodIn_r _ [45, 46, 47, 31, 32, 33, 34, 35, 36, 37, 38, 39, 40, 41, 42, 43, 44, 67, 68, 69, 61, 62, 63, 64, 65, 66] (by decide +kernel) (by decide +kernel)
set_option maxRecDepth 20000 in
theorem gX4_pass_X3_weigh_u102X3 : GoodIn wsX4_pass (va_wsU RX4 102 RX3 "CustomsYard$Load" ⟨"CustomsYard$Load", "weigh", "(I)J"⟩ yX3_weigh wsX3_weigh) := goodIn_app (goodIn_of _ (by decide +kernel)) ggX4_pass_X3_weigh
set_option maxRecDepth 20000 in
theorem ggX4_passed_X4_isGate : GoodIn wsX4_passed wsX4_isGate := goodIn_r _ [6] (by decide +kernel) (by decide +kernel)
set_option maxRecDepth 20000 in
theorem gX4_passed_X4_isGate : GoodIn wsX4_passed (va_wsS RX4 113 yX4_isGate wsX4_isGate) := goodIn_app (goodIn_of _ (by decide +kernel)) ggX4_passed_X4_isGate
set_option maxRecDepth 20000 in
theorem ggX4_passed_X4_refuse : GoodIn wsX4_passed wsX4_refuse := goodIn_r _ [10, 1, 11, 12, 13, 14, 15, 16, 17, 18, 19, 20, 21, 22, 23, 24, 25, 26] (by decide +kernel) (by decide +kernel)
set_option maxRecDepth 20000 in
theorem gX4_passed_X4_refuse : GoodIn wsX4_passed (wsV RX4 46 RX4 yX4_refuse wsX4_refuse) := goodIn_app (goodIn_of _ (by decide +kernel)) ggX4_passed_X4_refuse
set_option maxRecDepth 20000 in
theorem ggX4_tariff_X4_isView : GoodIn wsX4_tariff wsX4_isView := goodIn_r _ [8] (by decide +kernel) (by decide +kernel)
set_option maxRecDepth 20000 in
theorem gX4_tariff_X4_isView : GoodIn wsX4_tariff (va_wsS RX4 94 yX4_isView wsX4_isView) := goodIn_app (goodIn_of _ (by decide +kernel)) ggX4_tariff_X4_isView
set_option maxRecDepth 20000 in
theorem ggX4_tariff_X4_refuse : GoodIn wsX4_tariff wsX4_refuse := goodIn_r _ [12, 1, 13, 14, 15, 16, 17, 18, 19, 20, 21, 22, 23, 24, 25, 26, 27, 28] (by decide +kernel) (by decide +kernel)
set_option maxRecDepth 20000 in
theorem gX4_tariff_X4_refuse : GoodIn wsX4_tariff (wsV RX4 46 RX4 yX4_refuse wsX4_refuse) := goodIn_app (goodIn_of _ (by decide +kernel)) ggX4_tariff_X4_refuse
set_option maxRecDepth 20000 in
theorem ggX4_duty_X4_find : GoodIn wsX4_duty wsX4_find := goodIn_r _ [8, 9, 54, 55, 56, 57, 58, 59, 60, 61, 62, 63, 64, 65, 66] (by decide +kernel) (by decide +kernel)
set_option maxRecDepth 20000 in
theorem gX4_duty_X4_find : GoodIn wsX4_duty (wsV RX4 68 RX4 yX4_find wsX4_find) := goodIn_app (goodIn_of _ (by decide +kernel)) ggX4_duty_X4_find
set_option maxRecDepth 20000 in
theorem ggX4_duty_X4_refuse : GoodIn wsX4_duty wsX4_refuse := goodIn_r _ [13, 1, 14, 15, 16, 54, 55, 56, 57, 58, 59, 60, 61, 62, 63, 64, 65, 66] (by decide +kernel) (by decide +kernel)
set_option maxRecDepth 20000 in
theorem gX4_duty_X4_refuse : GoodIn wsX4_duty (wsV RX4 46 RX4 yX4_refuse wsX4_refuse) := goodIn_app (goodIn_of _ (by decide +kernel)) ggX4_duty_X4_refuse
set_option maxRecDepth 20000 in
theorem ggX4_duty_X4_lineFor : GoodIn wsX4_duty wsX4_lineFor := goodIn_r _ [20, 21, 3, 22, 23, 24, 25, 26, 27, 28, 29, 30, 54, 55, 56, 57, 58, 59, 60, 61, 62, 63, 64, 65, 66, 67, 68, 69, 70, 71, 72, 73, 74, 75] (by decide +kernel) (by decide +kernel)
set_option maxRecDepth 20000 in
theorem gX4_duty_X4_lineFor : GoodIn wsX4_duty (wsV RX4 122 RX4 yX4_lineFor wsX4_lineFor) := goodIn_app (goodIn_of _ (by decide +kernel)) ggX4_duty_X4_lineFor
set_option maxRecDepth 20000 in
theorem ggX4_duty_X1_comesAs : GoodIn wsX4_duty wsX1_comesAs := goodIn_r _ [36, 37, 67, 68, 69] (by decide +kernel) (by decide +kernel)
set_option maxRecDepth 20000 in
theorem gX4_duty_X1_comesAs_u125X1 : GoodIn wsX4_duty (va_wsU RX4 125 RX1 "CustomsYard$Load" ⟨"CustomsYard$Load", "comesAs", "(I)I"⟩ yX1_comesAs wsX1_comesAs) := goodIn_app (goodIn_of _ (by decide +kernel)) ggX4_duty_X1_comesAs
set_option maxRecDepth 20000 in
theorem ggX4_duty_X2_comesAs : GoodIn wsX4_duty wsX2_comesAs := goodIn_r _ [41, 42, 43, 44, 45, 40, 46, 47, 48, 70, 71, 72, 67, 68, 69, 73, 74, 75] (by decide +kernel) (by decide +kernel)
set_option maxRecDepth 20000 in
theorem gX4_duty_X2_comesAs_u125X2 : GoodIn wsX4_duty (va_wsU RX4 125 RX2 "CustomsYard$Load" ⟨"CustomsYard$Load", "comesAs", "(I)I"⟩ yX2_comesAs wsX2_comesAs) := goodIn_app (goodIn_of _ (by decide +kernel)) ggX4_duty_X2_comesAs
set_option maxRecDepth 20000 in
theorem ggX4_duty_X3_comesAs : GoodIn wsX4_duty wsX3_comesAs := goodIn_r _ [52, 53, 73, 74, 75] (by decide +kernel) (by decide +kernel)
set_option maxRecDepth 20000 in
theorem gX4_duty_X3_comesAs_u125X3 : GoodIn wsX4_duty (va_wsU RX4 125 RX3 "CustomsYard$Load" ⟨"CustomsYard$Load", "comesAs", "(I)I"⟩ yX3_comesAs wsX3_comesAs) := goodIn_app (goodIn_of _ (by decide +kernel)) ggX4_duty_X3_comesAs
set_option maxRecDepth 20000 in
theorem ggX4_line_X4_find : GoodIn wsX4_line wsX4_find := goodIn_r _ [6, 7, 30, 31, 32, 33, 34, 35, 36, 37, 38, 39, 40, 41, 42] (by decide +kernel) (by decide +kernel)
set_option maxRecDepth 20000 in
theorem gX4_line_X4_find : GoodIn wsX4_line (wsV RX4 68 RX4 yX4_find wsX4_find) := goodIn_app (goodIn_of _ (by decide +kernel)) ggX4_line_X4_find
set_option maxRecDepth 20000 in
theorem ggX4_line_X4_refuse : GoodIn wsX4_line wsX4_refuse := goodIn_r _ [11, 1, 12, 13, 14, 30, 31, 32, 33, 34, 35, 36, 37, 38, 39, 40, 41, 42] (by decide +kernel) (by decide +kernel)
set_option maxRecDepth 20000 in
theorem gX4_line_X4_refuse : GoodIn wsX4_line (wsV RX4 46 RX4 yX4_refuse wsX4_refuse) := goodIn_app (goodIn_of _ (by decide +kernel)) ggX4_line_X4_refuse
set_option maxRecDepth 20000 in
theorem ggX4_line_X4_lineFor : GoodIn wsX4_line wsX4_lineFor := goodIn_r _ [18, 19, 20, 21, 22, 23, 24, 25, 26, 27, 28, 29, 30, 31, 32, 33, 34, 35, 36, 37, 38, 39, 40, 41, 42, 43, 44, 45, 46, 47, 48, 49, 50, 51] (by decide +kernel) (by decide +kernel)
set_option maxRecDepth 20000 in
theorem gX4_line_X4_lineFor : GoodIn wsX4_line (wsV RX4 122 RX4 yX4_lineFor wsX4_lineFor) := goodIn_app (goodIn_of _ (by decide +kernel)) ggX4_line_X4_lineFor
set_option maxRecDepth 20000 in
theorem ggX4_numbersWith_X4_find : GoodIn wsX4_numbersWith wsX4_find := goodIn_r _ [6, 7, 22, 23, 24, 25, 26, 27, 28, 29, 30, 31, 32, 33, 34] (by decide +kernel) (by decide +kernel)
set_option maxRecDepth 20000 in
theorem gX4_numbersWith_X4_find : GoodIn wsX4_numbersWith (wsV RX4 68 RX4 yX4_find wsX4_find) := goodIn_app (goodIn_of _ (by decide +kernel)) ggX4_numbersWith_X4_find
set_option maxRecDepth 20000 in
theorem ggX4_numbersWith_X4_refuse : GoodIn wsX4_numbersWith wsX4_refuse := goodIn_r _ [11, 12, 13, 14, 15, 22, 23, 24, 25, 26, 27, 28, 29, 30, 31, 32, 33, 34] (by decide +kernel) (by decide +kernel)
set_option maxRecDepth 20000 in
theorem gX4_numbersWith_X4_refuse : GoodIn wsX4_numbersWith (wsV RX4 46 RX4 yX4_refuse wsX4_refuse) := goodIn_app (goodIn_of _ (by decide +kernel)) ggX4_numbersWith_X4_refuse
set_option maxRecDepth 20000 in
theorem ggX4_numbersWith_X1_hasPlace : GoodIn wsX4_numbersWith wsX1_hasPlace := goodIn_r _ [20, 21, 35, 36, 37] (by decide +kernel) (by decide +kernel)
set_option maxRecDepth 20000 in
theorem gX4_numbersWith_X1_hasPlace : GoodIn wsX4_numbersWith (wsV RX4 137 RX1 yX1_hasPlace wsX1_hasPlace) := goodIn_app (goodIn_of _ (by decide +kernel)) ggX4_numbersWith_X1_hasPlace
set_option maxRecDepth 20000 in
theorem ggX4_takeAs_X0_goesAs : GoodIn wsX4_takeAs wsX0_goesAs := goodIn_r _ [6, 7, 42, 43, 44, 45, 46, 47, 48, 49, 50] (by decide +kernel) (by decide +kernel)
set_option maxRecDepth 20000 in
theorem gX4_takeAs_X0_goesAs_u78X1 : GoodIn wsX4_takeAs (va_wsU RX4 78 RX1 "CustomsYard$Load" ⟨"CustomsYard$Load", "goesAs", "(I)Z"⟩ yX0_goesAs wsX0_goesAs) := goodIn_app (goodIn_of _ (by decide +kernel)) ggX4_takeAs_X0_goesAs
set_option maxRecDepth 20000 in
theorem gX4_takeAs_X0_goesAs_u78X2 : GoodIn wsX4_takeAs (va_wsU RX4 78 RX2 "CustomsYard$Load" ⟨"CustomsYard$Load", "goesAs", "(I)Z"⟩ yX0_goesAs wsX0_goesAs) := goodIn_app (goodIn_of _ (by decide +kernel)) ggX4_takeAs_X0_goesAs
set_option maxRecDepth 20000 in
theorem gX4_takeAs_X0_goesAs_u78X3 : GoodIn wsX4_takeAs (va_wsU RX4 78 RX3 "CustomsYard$Load" ⟨"CustomsYard$Load", "goesAs", "(I)Z"⟩ yX0_goesAs wsX0_goesAs) := goodIn_app (goodIn_of _ (by decide +kernel)) ggX4_takeAs_X0_goesAs
set_option maxRecDepth 20000 in
theorem ggX4_takeAs_X1_comesAs : GoodIn wsX4_takeAs wsX1_comesAs := goodIn_r _ [15, 16, 42, 43, 44] (by decide +kernel) (by decide +kernel)
set_option maxRecDepth 20000 in
theorem gX4_takeAs_X1_comesAs_u125X1 : GoodIn wsX4_takeAs (va_wsU RX4 125 RX1 "CustomsYard$Load" ⟨"CustomsYard$Load", "comesAs", "(I)I"⟩ yX1_comesAs wsX1_comesAs) := goodIn_app (goodIn_of _ (by decide +kernel)) ggX4_takeAs_X1_comesAs
set_option maxRecDepth 20000 in
theorem ggX4_takeAs_X2_comesAs : GoodIn wsX4_takeAs wsX2_comesAs := goodIn_r _ [20, 21, 22, 23, 24, 19, 25, 26, 27, 45, 46, 47, 42, 43, 44, 48, 49, 50] (by decide +kernel) (by decide +kernel)
set_option maxRecDepth 20000 in
theorem gX4_takeAs_X2_comesAs_u125X2 : GoodIn wsX4_takeAs (va_wsU RX4 125 RX2 "CustomsYard$Load" ⟨"CustomsYard$Load", "comesAs", "(I)I"⟩ yX2_comesAs wsX2_comesAs) := goodIn_app (goodIn_of _ (by decide +kernel)) ggX4_takeAs_X2_comesAs
set_option maxRecDepth 20000 in
theorem ggX4_takeAs_X3_comesAs : GoodIn wsX4_takeAs wsX3_comesAs := goodIn_r _ [31, 32, 48, 49, 50] (by decide +kernel) (by decide +kernel)
set_option maxRecDepth 20000 in
theorem gX4_takeAs_X3_comesAs_u125X3 : GoodIn wsX4_takeAs (va_wsU RX4 125 RX3 "CustomsYard$Load" ⟨"CustomsYard$Load", "comesAs", "(I)I"⟩ yX3_comesAs wsX3_comesAs) := goodIn_app (goodIn_of _ (by decide +kernel)) ggX4_takeAs_X3_comesAs
set_option maxRecDepth 20000 in
theorem ggX4_takeAs_X4_refuse : GoodIn wsX4_takeAs wsX4_refuse := goodIn_r _ [37, 38, 39, 40, 41, 51, 52, 53, 54, 55, 56, 57, 58, 59, 60, 61, 62, 63] (by decide +kernel) (by decide +kernel)
set_option maxRecDepth 20000 in
theorem gX4_takeAs_X4_refuse : GoodIn wsX4_takeAs (wsV RX4 46 RX4 yX4_refuse wsX4_refuse) := goodIn_app (goodIn_of _ (by decide +kernel)) ggX4_takeAs_X4_refuse
set_option maxRecDepth 20000 in
theorem ggX4_lineFor_X0_goesAs : GoodIn wsX4_lineFor wsX0_goesAs := goodIn_r _ [8, 9, 25, 26, 27, 28, 29, 30, 31, 32, 33] (by decide +kernel) (by decide +kernel)
set_option maxRecDepth 20000 in
theorem gX4_lineFor_X0_goesAs_u78X1 : GoodIn wsX4_lineFor (va_wsU RX4 78 RX1 "CustomsYard$Load" ⟨"CustomsYard$Load", "goesAs", "(I)Z"⟩ yX0_goesAs wsX0_goesAs) := goodIn_app (goodIn_of _ (by decide +kernel)) ggX4_lineFor_X0_goesAs
set_option maxRecDepth 20000 in
theorem gX4_lineFor_X0_goesAs_u78X2 : GoodIn wsX4_lineFor (va_wsU RX4 78 RX2 "CustomsYard$Load" ⟨"CustomsYard$Load", "goesAs", "(I)Z"⟩ yX0_goesAs wsX0_goesAs) := goodIn_app (goodIn_of _ (by decide +kernel)) ggX4_lineFor_X0_goesAs
set_option maxRecDepth 20000 in
theorem gX4_lineFor_X0_goesAs_u78X3 : GoodIn wsX4_lineFor (va_wsU RX4 78 RX3 "CustomsYard$Load" ⟨"CustomsYard$Load", "goesAs", "(I)Z"⟩ yX0_goesAs wsX0_goesAs) := goodIn_app (goodIn_of _ (by decide +kernel)) ggX4_lineFor_X0_goesAs
set_option maxRecDepth 20000 in
theorem ggX4_mostOf_X4_hasWeightTold : GoodIn wsX4_mostOf wsX4_hasWeightTold := goodIn_r _ [4] (by decide +kernel) (by decide +kernel)
set_option maxRecDepth 20000 in
theorem gX4_mostOf_X4_hasWeightTold : GoodIn wsX4_mostOf (va_wsS RX4 141 yX4_hasWeightTold wsX4_hasWeightTold) := goodIn_app (goodIn_of _ (by decide +kernel)) ggX4_mostOf_X4_hasWeightTold
set_option maxRecDepth 20000 in
theorem ggX4_makeLoad_X4_hasWeightTold : GoodIn wsX4_makeLoad wsX4_hasWeightTold := goodIn_r _ [15] (by decide +kernel) (by decide +kernel)
set_option maxRecDepth 20000 in
theorem gX4_makeLoad_X4_hasWeightTold : GoodIn wsX4_makeLoad (va_wsS RX4 141 yX4_hasWeightTold wsX4_hasWeightTold) := goodIn_app (goodIn_of _ (by decide +kernel)) ggX4_makeLoad_X4_hasWeightTold
set_option maxRecDepth 20000 in
theorem ggX4_makeLoad_X2_init : GoodIn wsX4_makeLoad wsX2_init := goodIn_r _ [18, 19, 20, 21, 22, 23, 24, 25, 26, 27, 28, 39, 40, 41, 42, 43, 44, 45, 46, 47] (by decide +kernel) (by decide +kernel)
set_option maxRecDepth 20000 in
theorem gX4_makeLoad_X2_init : GoodIn wsX4_makeLoad (wsX2_init) := ggX4_makeLoad_X2_init
set_option maxRecDepth 20000 in
theorem ggX4_makeLoad_X1_init : GoodIn wsX4_makeLoad wsX1_init := goodIn_r _ [31, 32, 33, 21, 22, 23, 24, 25, 26, 27, 28, 42, 43, 44, 39, 40, 41, 45, 46, 47] (by decide +kernel) (by decide +kernel)
set_option maxRecDepth 20000 in
theorem gX4_makeLoad_X1_init : GoodIn wsX4_makeLoad (wsX1_init) := ggX4_makeLoad_X1_init
set_option maxRecDepth 20000 in
theorem ggX4_makeLoad_X3_init : GoodIn wsX4_makeLoad wsX3_init := goodIn_r _ [36, 37, 38, 21, 22, 23, 24, 25, 26, 27, 28, 45, 46, 47, 42, 43, 44, 39, 40, 41] (by decide +kernel) (by decide +kernel)
set_option maxRecDepth 20000 in
theorem gX4_makeLoad_X3_init : GoodIn wsX4_makeLoad (wsX3_init) := ggX4_makeLoad_X3_init
set_option maxRecDepth 20000 in
theorem ggX5_isLoad_X5_isIn : GoodIn wsX5_isLoad wsX5_isIn := goodIn_r _ [5] (by decide +kernel) (by decide +kernel)
set_option maxRecDepth 20000 in
theorem gX5_isLoad_X5_isIn : GoodIn wsX5_isLoad (va_wsS RX5 48 yX5_isIn wsX5_isIn) := goodIn_app (goodIn_of _ (by decide +kernel)) ggX5_isLoad_X5_isIn
set_option maxRecDepth 20000 in
theorem ggX5_isView_X5_isIn : GoodIn wsX5_isView wsX5_isIn := goodIn_r _ [4] (by decide +kernel) (by decide +kernel)
set_option maxRecDepth 20000 in
theorem gX5_isView_X5_isIn : GoodIn wsX5_isView (va_wsS RX5 48 yX5_isIn wsX5_isIn) := goodIn_app (goodIn_of _ (by decide +kernel)) ggX5_isView_X5_isIn
set_option maxRecDepth 20000 in
theorem ggX5_isSingle_X5_isIn : GoodIn wsX5_isSingle wsX5_isIn := goodIn_r _ [4] (by decide +kernel) (by decide +kernel)
set_option maxRecDepth 20000 in
theorem gX5_isSingle_X5_isIn : GoodIn wsX5_isSingle (va_wsS RX5 48 yX5_isIn wsX5_isIn) := goodIn_app (goodIn_of _ (by decide +kernel)) ggX5_isSingle_X5_isIn
set_option maxRecDepth 20000 in
theorem ggX5_isOfNumbers_X5_isIn : GoodIn wsX5_isOfNumbers wsX5_isIn := goodIn_r _ [4] (by decide +kernel) (by decide +kernel)
set_option maxRecDepth 20000 in
theorem gX5_isOfNumbers_X5_isIn : GoodIn wsX5_isOfNumbers (va_wsS RX5 48 yX5_isIn wsX5_isIn) := goodIn_app (goodIn_of _ (by decide +kernel)) ggX5_isOfNumbers_X5_isIn
set_option maxRecDepth 20000 in
theorem ggX5_isOfThings_X5_isIn : GoodIn wsX5_isOfThings wsX5_isIn := goodIn_r _ [4] (by decide +kernel) (by decide +kernel)
set_option maxRecDepth 20000 in
theorem gX5_isOfThings_X5_isIn : GoodIn wsX5_isOfThings (va_wsS RX5 48 yX5_isIn wsX5_isIn) := goodIn_app (goodIn_of _ (by decide +kernel)) ggX5_isOfThings_X5_isIn
set_option maxRecDepth 20000 in
theorem ggX5_load_X5_isIn : GoodIn wsX5_load wsX5_isIn := goodIn_r _ [11] (by decide +kernel) (by decide +kernel)
set_option maxRecDepth 20000 in
theorem gX5_load_X5_isIn : GoodIn wsX5_load (va_wsS RX5 48 yX5_isIn wsX5_isIn) := goodIn_app (goodIn_of _ (by decide +kernel)) ggX5_load_X5_isIn
set_option maxRecDepth 20000 in
theorem ggX5_load_X5_isSingle : GoodIn wsX5_load wsX5_isSingle := goodIn_r _ [14, 8, 9, 10, 11] (by decide +kernel) (by decide +kernel)
set_option maxRecDepth 20000 in
theorem gX5_load_X5_isSingle : GoodIn wsX5_load (va_wsS RX5 64 yX5_isSingle wsX5_isSingle) := goodIn_app (goodIn_of _ (by decide +kernel)) ggX5_load_X5_isSingle
set_option maxRecDepth 20000 in
theorem ggX5_load_X5_no : GoodIn wsX5_load wsX5_no := goodIn_r _ [18, 1, 19, 20, 21, 22, 23, 24, 25, 26, 27, 28, 29, 30, 31, 32, 33, 34, 35, 36, 37, 38, 39, 40] (by decide +kernel) (by decide +kernel)
set_option maxRecDepth 20000 in
theorem gX5_load_X5_no : GoodIn wsX5_load (wsV RX5 68 RX5 yX5_no wsX5_no) := goodIn_app (goodIn_of _ (by decide +kernel)) ggX5_load_X5_no
set_option maxRecDepth 20000 in
theorem ggX5_isPlace_X5_isIn : GoodIn wsX5_isPlace wsX5_isIn := goodIn_r _ [5] (by decide +kernel) (by decide +kernel)
set_option maxRecDepth 20000 in
theorem gX5_isPlace_X5_isIn : GoodIn wsX5_isPlace (va_wsS RX5 48 yX5_isIn wsX5_isIn) := goodIn_app (goodIn_of _ (by decide +kernel)) ggX5_isPlace_X5_isIn
set_option maxRecDepth 20000 in
theorem ggX5_set_X5_isLoad : GoodIn wsX5_set wsX5_isLoad := goodIn_r _ [8, 9, 10, 11, 7, 12, 28, 29, 30, 31, 32, 33, 34, 35, 36, 37, 38, 39, 40, 41, 42, 43, 44, 45, 46] (by decide +kernel) (by decide +kernel)
set_option maxRecDepth 20000 in
theorem gX5_set_X5_isLoad : GoodIn wsX5_set (wsV RX5 72 RX5 yX5_isLoad wsX5_isLoad) := goodIn_app (goodIn_of _ (by decide +kernel)) ggX5_set_X5_isLoad
set_option maxRecDepth 20000 in
theorem ggX5_set_X5_no : GoodIn wsX5_set wsX5_no := goodIn_r _ [16, 1, 17, 18, 19, 28, 29, 30, 31, 32, 33, 34, 35, 36, 37, 38, 39, 40, 41, 42, 43, 44, 45, 46] (by decide +kernel) (by decide +kernel)
set_option maxRecDepth 20000 in
theorem gX5_set_X5_no : GoodIn wsX5_set (wsV RX5 68 RX5 yX5_no wsX5_no) := goodIn_app (goodIn_of _ (by decide +kernel)) ggX5_set_X5_no
set_option maxRecDepth 20000 in
theorem ggX5_set_X5_isOfNumbers : GoodIn wsX5_set wsX5_isOfNumbers := goodIn_r _ [22, 10, 11, 7, 12] (by decide +kernel) (by decide +kernel)
set_option maxRecDepth 20000 in
theorem gX5_set_X5_isOfNumbers : GoodIn wsX5_set (va_wsS RX5 75 yX5_isOfNumbers wsX5_isOfNumbers) := goodIn_app (goodIn_of _ (by decide +kernel)) ggX5_set_X5_isOfNumbers
set_option maxRecDepth 20000 in
theorem ggX5_set_X5_isPlace : GoodIn wsX5_set wsX5_isPlace := goodIn_r _ [26, 27, 10, 11, 7, 12, 28, 29, 30, 31, 32, 33, 34, 35, 36, 37, 38, 39, 40, 41, 42, 43, 44, 45, 46] (by decide +kernel) (by decide +kernel)
set_option maxRecDepth 20000 in
theorem gX5_set_X5_isPlace : GoodIn wsX5_set (wsV RX5 78 RX5 yX5_isPlace wsX5_isPlace) := goodIn_app (goodIn_of _ (by decide +kernel)) ggX5_set_X5_isPlace
set_option maxRecDepth 20000 in
theorem ggX5_number_X5_isLoad : GoodIn wsX5_number wsX5_isLoad := goodIn_r _ [8, 9, 10, 11, 7, 12, 28, 29, 30, 31, 32, 33, 34, 35, 36, 37, 38, 39, 40, 41, 42, 43, 44, 45, 46] (by decide +kernel) (by decide +kernel)
set_option maxRecDepth 20000 in
theorem gX5_number_X5_isLoad : GoodIn wsX5_number (wsV RX5 72 RX5 yX5_isLoad wsX5_isLoad) := goodIn_app (goodIn_of _ (by decide +kernel)) ggX5_number_X5_isLoad
set_option maxRecDepth 20000 in
theorem ggX5_number_X5_isOfNumbers : GoodIn wsX5_number wsX5_isOfNumbers := goodIn_r _ [15, 10, 11, 7, 12] (by decide +kernel) (by decide +kernel)
set_option maxRecDepth 20000 in
theorem gX5_number_X5_isOfNumbers : GoodIn wsX5_number (va_wsS RX5 75 yX5_isOfNumbers wsX5_isOfNumbers) := goodIn_app (goodIn_of _ (by decide +kernel)) ggX5_number_X5_isOfNumbers
set_option maxRecDepth 20000 in
theorem ggX5_number_X5_isPlace : GoodIn wsX5_number wsX5_isPlace := goodIn_r _ [19, 20, 10, 11, 7, 12, 28, 29, 30, 31, 32, 33, 34, 35, 36, 37, 38, 39, 40, 41, 42, 43, 44, 45, 46] (by decide +kernel) (by decide +kernel)
set_option maxRecDepth 20000 in
theorem gX5_number_X5_isPlace : GoodIn wsX5_number (wsV RX5 78 RX5 yX5_isPlace wsX5_isPlace) := goodIn_app (goodIn_of _ (by decide +kernel)) ggX5_number_X5_isPlace
set_option maxRecDepth 20000 in
theorem ggX5_number_X5_no : GoodIn wsX5_number wsX5_no := goodIn_r _ [24, 1, 25, 26, 27, 28, 29, 30, 31, 32, 33, 34, 35, 36, 37, 38, 39, 40, 41, 42, 43, 44, 45, 46] (by decide +kernel) (by decide +kernel)
set_option maxRecDepth 20000 in
theorem gX5_number_X5_no : GoodIn wsX5_number (wsV RX5 68 RX5 yX5_no wsX5_no) := goodIn_app (goodIn_of _ (by decide +kernel)) ggX5_number_X5_no
set_option maxRecDepth 20000 in
theorem ggX5_had_X5_wanted : GoodIn wsX5_had wsX5_wanted := goodIn_r _ [4] (by decide +kernel) (by decide +kernel)
set_option maxRecDepth 20000 in
theorem gX5_had_X5_wanted : GoodIn wsX5_had (va_wsS RX5 82 yX5_wanted wsX5_wanted) := goodIn_app (goodIn_of _ (by decide +kernel)) ggX5_had_X5_wanted
set_option maxRecDepth 20000 in
theorem ggX5_put_X5_isLoad : GoodIn wsX5_put wsX5_isLoad := goodIn_r _ [8, 9, 10, 11, 7, 12, 37, 38, 39, 40, 41, 42, 43, 44, 45, 46, 47, 48, 49, 50, 51, 52, 53, 54, 55] (by decide +kernel) (by decide +kernel)
set_option maxRecDepth 20000 in
theorem gX5_put_X5_isLoad : GoodIn wsX5_put (wsV RX5 72 RX5 yX5_isLoad wsX5_isLoad) := goodIn_app (goodIn_of _ (by decide +kernel)) ggX5_put_X5_isLoad
set_option maxRecDepth 20000 in
theorem ggX5_put_X5_no : GoodIn wsX5_put wsX5_no := goodIn_r _ [16, 1, 17, 18, 19, 37, 38, 39, 40, 41, 42, 43, 44, 45, 46, 47, 48, 49, 50, 51, 52, 53, 54, 55] (by decide +kernel) (by decide +kernel)
set_option maxRecDepth 20000 in
theorem gX5_put_X5_no : GoodIn wsX5_put (wsV RX5 68 RX5 yX5_no wsX5_no) := goodIn_app (goodIn_of _ (by decide +kernel)) ggX5_put_X5_no
set_option maxRecDepth 20000 in
theorem ggX5_put_X5_isOfThings : GoodIn wsX5_put wsX5_isOfThings := goodIn_r _ [22, 10, 11, 7, 12] (by decide +kernel) (by decide +kernel)
set_option maxRecDepth 20000 in
theorem gX5_put_X5_isOfThings : GoodIn wsX5_put (va_wsS RX5 85 yX5_isOfThings wsX5_isOfThings) := goodIn_app (goodIn_of _ (by decide +kernel)) ggX5_put_X5_isOfThings
set_option maxRecDepth 20000 in
theorem ggX5_put_X5_wanted : GoodIn wsX5_put wsX5_wanted := goodIn_r _ [25] (by decide +kernel) (by decide +kernel)
set_option maxRecDepth 20000 in
theorem gX5_put_X5_wanted : GoodIn wsX5_put (va_wsS RX5 82 yX5_wanted wsX5_wanted) := goodIn_app (goodIn_of _ (by decide +kernel)) ggX5_put_X5_wanted
set_option maxRecDepth 20000 in
theorem ggX5_put_X5_goes : GoodIn wsX5_put wsX5_goes := goodIn_r _ [28] (by decide +kernel) (by decide +kernel)
set_option maxRecDepth 20000 in
theorem gX5_put_X5_goes : GoodIn wsX5_put (va_wsS RX5 88 yX5_goes wsX5_goes) := goodIn_app (goodIn_of _ (by decide +kernel)) ggX5_put_X5_goes
set_option maxRecDepth 20000 in
theorem ggX5_put_X5_isPlace : GoodIn wsX5_put wsX5_isPlace := goodIn_r _ [32, 33, 10, 11, 7, 12, 37, 38, 39, 40, 41, 42, 43, 44, 45, 46, 47, 48, 49, 50, 51, 52, 53, 54, 55] (by decide +kernel) (by decide +kernel)
set_option maxRecDepth 20000 in
theorem gX5_put_X5_isPlace : GoodIn wsX5_put (wsV RX5 78 RX5 yX5_isPlace wsX5_isPlace) := goodIn_app (goodIn_of _ (by decide +kernel)) ggX5_put_X5_isPlace
set_option maxRecDepth 20000 in
theorem ggX5_put_X5_had : GoodIn wsX5_put wsX5_had := goodIn_r _ [36, 23, 24, 7, 25] (by decide +kernel) (by decide +kernel)
set_option maxRecDepth 20000 in
theorem gX5_put_X5_had : GoodIn wsX5_put (va_wsS RX5 91 yX5_had wsX5_had) := goodIn_app (goodIn_of _ (by decide +kernel)) ggX5_put_X5_had
set_option maxRecDepth 20000 in
theorem ggX5_at_X5_isLoad : GoodIn wsX5_at wsX5_isLoad := goodIn_r _ [8, 9, 10, 11, 7, 12, 28, 29, 30, 31, 32, 33, 34, 35, 36, 37, 38, 39, 40, 41, 42, 43, 44, 45, 46] (by decide +kernel) (by decide +kernel)
set_option maxRecDepth 20000 in
theorem gX5_at_X5_isLoad : GoodIn wsX5_at (wsV RX5 72 RX5 yX5_isLoad wsX5_isLoad) := goodIn_app (goodIn_of _ (by decide +kernel)) ggX5_at_X5_isLoad
set_option maxRecDepth 20000 in
theorem ggX5_at_X5_no : GoodIn wsX5_at wsX5_no := goodIn_r _ [16, 1, 17, 18, 19, 28, 29, 30, 31, 32, 33, 34, 35, 36, 37, 38, 39, 40, 41, 42, 43, 44, 45, 46] (by decide +kernel) (by decide +kernel)
set_option maxRecDepth 20000 in
theorem gX5_at_X5_no : GoodIn wsX5_at (wsV RX5 68 RX5 yX5_no wsX5_no) := goodIn_app (goodIn_of _ (by decide +kernel)) ggX5_at_X5_no
set_option maxRecDepth 20000 in
theorem ggX5_at_X5_isOfThings : GoodIn wsX5_at wsX5_isOfThings := goodIn_r _ [22, 10, 11, 7, 12] (by decide +kernel) (by decide +kernel)
set_option maxRecDepth 20000 in
theorem gX5_at_X5_isOfThings : GoodIn wsX5_at (va_wsS RX5 85 yX5_isOfThings wsX5_isOfThings) := goodIn_app (goodIn_of _ (by decide +kernel)) ggX5_at_X5_isOfThings
set_option maxRecDepth 20000 in
theorem ggX5_at_X5_isPlace : GoodIn wsX5_at wsX5_isPlace := goodIn_r _ [26, 27, 10, 11, 7, 12, 28, 29, 30, 31, 32, 33, 34, 35, 36, 37, 38, 39, 40, 41, 42, 43, 44, 45, 46] (by decide +kernel) (by decide +kernel)
set_option maxRecDepth 20000 in
theorem gX5_at_X5_isPlace : GoodIn wsX5_at (wsV RX5 78 RX5 yX5_isPlace wsX5_isPlace) := goodIn_app (goodIn_of _ (by decide +kernel)) ggX5_at_X5_isPlace
set_option maxRecDepth 20000 in
theorem ggX5_is_X5_isLoad : GoodIn wsX5_is wsX5_isLoad := goodIn_r _ [7, 8, 9, 10, 6, 11, 25, 26, 27, 28, 29, 30, 31, 32, 33, 34, 35, 36, 37, 38, 39, 40, 41, 42, 43] (by decide +kernel) (by decide +kernel)
set_option maxRecDepth 20000 in
theorem gX5_is_X5_isLoad : GoodIn wsX5_is (wsV RX5 72 RX5 yX5_isLoad wsX5_isLoad) := goodIn_app (goodIn_of _ (by decide +kernel)) ggX5_is_X5_isLoad
set_option maxRecDepth 20000 in
theorem ggX5_is_X5_isView : GoodIn wsX5_is wsX5_isView := goodIn_r _ [14, 9, 10, 6, 11] (by decide +kernel) (by decide +kernel)
set_option maxRecDepth 20000 in
theorem gX5_is_X5_isView : GoodIn wsX5_is (va_wsS RX5 94 yX5_isView wsX5_isView) := goodIn_app (goodIn_of _ (by decide +kernel)) ggX5_is_X5_isView
set_option maxRecDepth 20000 in
theorem ggX5_is_X5_no : GoodIn wsX5_is wsX5_no := goodIn_r _ [18, 1, 19, 20, 21, 25, 26, 27, 28, 29, 30, 31, 32, 33, 34, 35, 36, 37, 38, 39, 40, 41, 42, 43] (by decide +kernel) (by decide +kernel)
set_option maxRecDepth 20000 in
theorem gX5_is_X5_no : GoodIn wsX5_is (wsV RX5 68 RX5 yX5_no wsX5_no) := goodIn_app (goodIn_of _ (by decide +kernel)) ggX5_is_X5_no
set_option maxRecDepth 20000 in
theorem ggX5_is_X5_goes : GoodIn wsX5_is wsX5_goes := goodIn_r _ [24] (by decide +kernel) (by decide +kernel)
set_option maxRecDepth 20000 in
theorem gX5_is_X5_goes : GoodIn wsX5_is (va_wsS RX5 88 yX5_goes wsX5_goes) := goodIn_app (goodIn_of _ (by decide +kernel)) ggX5_is_X5_goes
set_option maxRecDepth 20000 in
theorem ggX5_comes_X5_isSingle : GoodIn wsX5_comes wsX5_isSingle := goodIn_r _ [7, 8, 9, 6, 10] (by decide +kernel) (by decide +kernel)
set_option maxRecDepth 20000 in
theorem gX5_comes_X5_isSingle : GoodIn wsX5_comes (va_wsS RX5 64 yX5_isSingle wsX5_isSingle) := goodIn_app (goodIn_of _ (by decide +kernel)) ggX5_comes_X5_isSingle
set_option maxRecDepth 20000 in
theorem ggX5_take_X5_isLoad : GoodIn wsX5_take wsX5_isLoad := goodIn_r _ [7, 8, 9, 10, 6, 11, 34, 35, 36, 37, 38, 39, 40, 41, 42, 43, 44, 45, 46, 47, 48, 49, 50, 51, 52] (by decide +kernel) (by decide +kernel)
set_option maxRecDepth 20000 in
theorem gX5_take_X5_isLoad : GoodIn wsX5_take (wsV RX5 72 RX5 yX5_isLoad wsX5_isLoad) := goodIn_app (goodIn_of _ (by decide +kernel)) ggX5_take_X5_isLoad
set_option maxRecDepth 20000 in
theorem ggX5_take_X5_isView : GoodIn wsX5_take wsX5_isView := goodIn_r _ [14, 9, 10, 6, 11] (by decide +kernel) (by decide +kernel)
set_option maxRecDepth 20000 in
theorem gX5_take_X5_isView : GoodIn wsX5_take (va_wsS RX5 94 yX5_isView wsX5_isView) := goodIn_app (goodIn_of _ (by decide +kernel)) ggX5_take_X5_isView
set_option maxRecDepth 20000 in
theorem ggX5_take_X5_no : GoodIn wsX5_take wsX5_no := goodIn_r _ [18, 1, 19, 20, 21, 34, 35, 36, 37, 38, 39, 40, 41, 42, 43, 44, 45, 46, 47, 48, 49, 50, 51, 52] (by decide +kernel) (by decide +kernel)
set_option maxRecDepth 20000 in
theorem gX5_take_X5_no : GoodIn wsX5_take (wsV RX5 68 RX5 yX5_no wsX5_no) := goodIn_app (goodIn_of _ (by decide +kernel)) ggX5_take_X5_no
set_option maxRecDepth 20000 in
theorem ggX5_take_X5_goes : GoodIn wsX5_take wsX5_goes := goodIn_r _ [24] (by decide +kernel) (by decide +kernel)
set_option maxRecDepth 20000 in
theorem gX5_take_X5_goes : GoodIn wsX5_take (va_wsS RX5 88 yX5_goes wsX5_goes) := goodIn_app (goodIn_of _ (by decide +kernel)) ggX5_take_X5_goes
set_option maxRecDepth 20000 in
theorem ggX5_take_X5_comes : GoodIn wsX5_take wsX5_comes := goodIn_r _ [28, 2, 29, 30, 31, 32, 6, 33, 9, 10, 11, 34, 35, 36, 37, 38, 39, 40, 41, 42, 43, 44, 45, 46, 47, 48, 49, 50, 51, 52] (by decide +kernel) (by decide +kernel)
set_option maxRecDepth 20000 in
theorem gX5_take_X5_comes : GoodIn wsX5_take (wsV RX5 97 RX5 yX5_comes wsX5_comes) := goodIn_app (goodIn_of _ (by decide +kernel)) ggX5_take_X5_comes
set_option maxRecDepth 20000 in
theorem ggX5_sort_X5_isLoad : GoodIn wsX5_sort wsX5_isLoad := goodIn_r _ [7, 8, 9, 10, 6, 11, 19, 20, 21, 22, 23, 24, 25, 26, 27, 28, 29, 30, 31, 32, 33, 34, 35, 36, 37] (by decide +kernel) (by decide +kernel)
set_option maxRecDepth 20000 in
theorem gX5_sort_X5_isLoad : GoodIn wsX5_sort (wsV RX5 72 RX5 yX5_isLoad wsX5_isLoad) := goodIn_app (goodIn_of _ (by decide +kernel)) ggX5_sort_X5_isLoad
set_option maxRecDepth 20000 in
theorem ggX5_sort_X5_no : GoodIn wsX5_sort wsX5_no := goodIn_r _ [15, 1, 16, 17, 18, 19, 20, 21, 22, 23, 24, 25, 26, 27, 28, 29, 30, 31, 32, 33, 34, 35, 36, 37] (by decide +kernel) (by decide +kernel)
set_option maxRecDepth 20000 in
theorem gX5_sort_X5_no : GoodIn wsX5_sort (wsV RX5 68 RX5 yX5_no wsX5_no) := goodIn_app (goodIn_of _ (by decide +kernel)) ggX5_sort_X5_no
set_option maxRecDepth 20000 in
theorem ggX5_next_X5_isOfThings : GoodIn wsX5_next wsX5_isOfThings := goodIn_r _ [9, 10, 11, 8, 12] (by decide +kernel) (by decide +kernel)
set_option maxRecDepth 20000 in
theorem gX5_next_X5_isOfThings : GoodIn wsX5_next (va_wsS RX5 85 yX5_isOfThings wsX5_isOfThings) := goodIn_app (goodIn_of _ (by decide +kernel)) ggX5_next_X5_isOfThings
set_option maxRecDepth 20000 in
theorem ggX5_next_X5_lay : GoodIn wsX5_next wsX5_lay := goodIn_r _ [16, 2, 1, 17, 18, 19, 20, 21, 22, 23, 24, 25, 26, 27, 28, 29, 30, 31, 32, 33, 34, 35] (by decide +kernel) (by decide +kernel)
set_option maxRecDepth 20000 in
theorem gX5_next_X5_lay : GoodIn wsX5_next (wsV RX5 104 RX5 yX5_lay wsX5_lay) := goodIn_app (goodIn_of _ (by decide +kernel)) ggX5_next_X5_lay
set_option maxRecDepth 20000 in
theorem ggX5_weightOf_X5_lay : GoodIn wsX5_weightOf wsX5_lay := goodIn_r _ [9, 10, 1, 23, 24, 25, 26, 27, 28, 29, 30, 31, 32, 33, 34, 35, 36, 37, 38, 39, 40, 41] (by decide +kernel) (by decide +kernel)
set_option maxRecDepth 20000 in
theorem gX5_weightOf_X5_lay : GoodIn wsX5_weightOf (wsV RX5 104 RX5 yX5_lay wsX5_lay) := goodIn_app (goodIn_of _ (by decide +kernel)) ggX5_weightOf_X5_lay
set_option maxRecDepth 20000 in
theorem ggX5_weightOf_X5_next : GoodIn wsX5_weightOf wsX5_next := goodIn_r _ [14, 1, 10, 3, 15, 16, 17, 18, 8, 19, 20, 21, 22, 5, 6, 7, 9, 23, 24, 25, 26, 27, 28, 29, 30, 31, 32, 33, 34, 35, 36, 37, 38, 39, 40, 41] (by decide +kernel) (by decide +kernel)
set_option maxRecDepth 20000 in
theorem gX5_weightOf_X5_next : GoodIn wsX5_weightOf (wsV RX5 108 RX5 yX5_next wsX5_next) := goodIn_app (goodIn_of _ (by decide +kernel)) ggX5_weightOf_X5_next
set_option maxRecDepth 20000 in
theorem ggX5_weight_X5_isLoad : GoodIn wsX5_weight wsX5_isLoad := goodIn_r _ [6, 7, 8, 9, 5, 10, 33, 34, 35, 36, 37, 38, 39, 40, 41, 42, 43, 44, 45, 46, 47, 48, 49, 50, 51] (by decide +kernel) (by decide +kernel)
set_option maxRecDepth 20000 in
theorem gX5_weight_X5_isLoad : GoodIn wsX5_weight (wsV RX5 72 RX5 yX5_isLoad wsX5_isLoad) := goodIn_app (goodIn_of _ (by decide +kernel)) ggX5_weight_X5_isLoad
set_option maxRecDepth 20000 in
theorem ggX5_weight_X5_weightOf : GoodIn wsX5_weight wsX5_weightOf := goodIn_r _ [14, 15, 16, 17, 18, 19, 20, 21, 5, 22, 23, 24, 25, 26, 27, 28, 29, 30, 31, 32, 8, 9, 10, 33, 34, 35, 36, 37, 38, 39, 40, 41, 42, 43, 44, 45, 46, 47, 48, 49, 50, 51] (by decide +kernel) (by decide +kernel)
set_option maxRecDepth 20000 in
theorem gX5_weight_X5_weightOf : GoodIn wsX5_weight (wsV RX5 112 RX5 yX5_weightOf wsX5_weightOf) := goodIn_app (goodIn_of _ (by decide +kernel)) ggX5_weight_X5_weightOf
set_option maxRecDepth 20000 in
theorem ggX5_inside_X5_isLoad : GoodIn wsX5_inside wsX5_isLoad := goodIn_r _ [8, 9, 10, 11, 7, 12, 40, 41, 42, 43, 44, 45, 46, 47, 48, 49, 50, 51, 52, 53, 54, 55, 56, 57, 58] (by decide +kernel) (by decide +kernel)
set_option maxRecDepth 20000 in
theorem gX5_inside_X5_isLoad : GoodIn wsX5_inside (wsV RX5 72 RX5 yX5_isLoad wsX5_isLoad) := goodIn_app (goodIn_of _ (by decide +kernel)) ggX5_inside_X5_isLoad
set_option maxRecDepth 20000 in
theorem ggX5_inside_X5_isView : GoodIn wsX5_inside wsX5_isView := goodIn_r _ [15, 10, 11, 7, 12] (by decide +kernel) (by decide +kernel)
set_option maxRecDepth 20000 in
theorem gX5_inside_X5_isView : GoodIn wsX5_inside (va_wsS RX5 94 yX5_isView wsX5_isView) := goodIn_app (goodIn_of _ (by decide +kernel)) ggX5_inside_X5_isView
set_option maxRecDepth 20000 in
theorem ggX5_inside_X5_no : GoodIn wsX5_inside wsX5_no := goodIn_r _ [19, 1, 20, 21, 22, 40, 41, 42, 43, 44, 45, 46, 47, 48, 49, 50, 51, 52, 53, 54, 55, 56, 57, 58] (by decide +kernel) (by decide +kernel)
set_option maxRecDepth 20000 in
theorem gX5_inside_X5_no : GoodIn wsX5_inside (wsV RX5 68 RX5 yX5_no wsX5_no) := goodIn_app (goodIn_of _ (by decide +kernel)) ggX5_inside_X5_no
set_option maxRecDepth 20000 in
theorem ggX5_inside_X5_lay : GoodIn wsX5_inside wsX5_lay := goodIn_r _ [26, 27, 2, 40, 41, 42, 43, 44, 45, 46, 47, 48, 49, 50, 51, 52, 53, 54, 55, 56, 57, 58] (by decide +kernel) (by decide +kernel)
set_option maxRecDepth 20000 in
theorem gX5_inside_X5_lay : GoodIn wsX5_inside (wsV RX5 104 RX5 yX5_lay wsX5_lay) := goodIn_app (goodIn_of _ (by decide +kernel)) ggX5_inside_X5_lay
set_option maxRecDepth 20000 in
theorem ggX5_inside_X5_next : GoodIn wsX5_inside wsX5_next := goodIn_r _ [31, 2, 27, 32, 3, 33, 34, 35, 7, 36, 10, 11, 12, 23, 24, 25, 26, 40, 41, 42, 43, 44, 45, 46, 47, 48, 49, 50, 51, 52, 53, 54, 55, 56, 57, 58] (by decide +kernel) (by decide +kernel)
set_option maxRecDepth 20000 in
theorem gX5_inside_X5_next : GoodIn wsX5_inside (wsV RX5 108 RX5 yX5_next wsX5_next) := goodIn_app (goodIn_of _ (by decide +kernel)) ggX5_inside_X5_next
set_option maxRecDepth 20000 in
theorem ggX5_inside_X5_goes : GoodIn wsX5_inside wsX5_goes := goodIn_r _ [39] (by decide +kernel) (by decide +kernel)
set_option maxRecDepth 20000 in
theorem gX5_inside_X5_goes : GoodIn wsX5_inside (va_wsS RX5 88 yX5_goes wsX5_goes) := goodIn_app (goodIn_of _ (by decide +kernel)) ggX5_inside_X5_goes
set_option maxRecDepth 20000 in
theorem ggX5_hold_X5_isIn : GoodIn wsX5_hold wsX5_isIn := goodIn_r _ [6] (by decide +kernel) (by decide +kernel)
set_option maxRecDepth 20000 in
theorem gX5_hold_X5_isIn : GoodIn wsX5_hold (va_wsS RX5 48 yX5_isIn wsX5_isIn) := goodIn_app (goodIn_of _ (by decide +kernel)) ggX5_hold_X5_isIn
set_option maxRecDepth 20000 in
theorem ggX5_hold_X5_isLoad : GoodIn wsX5_hold wsX5_isLoad := goodIn_r _ [10, 11, 3, 4, 5, 6, 19, 20, 21, 22, 23, 24, 25, 26, 27, 28, 29, 30, 31, 32, 33, 34, 35, 36, 37] (by decide +kernel) (by decide +kernel)
set_option maxRecDepth 20000 in
theorem gX5_hold_X5_isLoad : GoodIn wsX5_hold (wsV RX5 72 RX5 yX5_isLoad wsX5_isLoad) := goodIn_app (goodIn_of _ (by decide +kernel)) ggX5_hold_X5_isLoad
set_option maxRecDepth 20000 in
theorem ggX5_hold_X5_no : GoodIn wsX5_hold wsX5_no := goodIn_r _ [15, 1, 16, 17, 18, 19, 20, 21, 22, 23, 24, 25, 26, 27, 28, 29, 30, 31, 32, 33, 34, 35, 36, 37] (by decide +kernel) (by decide +kernel)
set_option maxRecDepth 20000 in
theorem gX5_hold_X5_no : GoodIn wsX5_hold (wsV RX5 68 RX5 yX5_no wsX5_no) := goodIn_app (goodIn_of _ (by decide +kernel)) ggX5_hold_X5_no
set_option maxRecDepth 20000 in
theorem ggX5_bay_X5_isIn : GoodIn wsX5_bay wsX5_isIn := goodIn_r _ [7] (by decide +kernel) (by decide +kernel)
set_option maxRecDepth 20000 in
theorem gX5_bay_X5_isIn : GoodIn wsX5_bay (va_wsS RX5 48 yX5_isIn wsX5_isIn) := goodIn_app (goodIn_of _ (by decide +kernel)) ggX5_bay_X5_isIn
set_option maxRecDepth 20000 in
theorem ggX5_bay_X5_isView : GoodIn wsX5_bay wsX5_isView := goodIn_r _ [10, 4, 5, 6, 7] (by decide +kernel) (by decide +kernel)
set_option maxRecDepth 20000 in
theorem gX5_bay_X5_isView : GoodIn wsX5_bay (va_wsS RX5 94 yX5_isView wsX5_isView) := goodIn_app (goodIn_of _ (by decide +kernel)) ggX5_bay_X5_isView
set_option maxRecDepth 20000 in
theorem ggX5_bay_X5_no : GoodIn wsX5_bay wsX5_no := goodIn_r _ [14, 1, 15, 16, 17, 30, 31, 32, 33, 34, 35, 36, 37, 38, 39, 40, 41, 42, 43, 44, 45, 46, 47, 48] (by decide +kernel) (by decide +kernel)
set_option maxRecDepth 20000 in
theorem gX5_bay_X5_no : GoodIn wsX5_bay (wsV RX5 68 RX5 yX5_no wsX5_no) := goodIn_app (goodIn_of _ (by decide +kernel)) ggX5_bay_X5_no
set_option maxRecDepth 20000 in
theorem ggX5_bay_X5_goes : GoodIn wsX5_bay wsX5_goes := goodIn_r _ [20] (by decide +kernel) (by decide +kernel)
set_option maxRecDepth 20000 in
theorem gX5_bay_X5_goes : GoodIn wsX5_bay (va_wsS RX5 88 yX5_goes wsX5_goes) := goodIn_app (goodIn_of _ (by decide +kernel)) ggX5_bay_X5_goes
set_option maxRecDepth 20000 in
theorem ggX5_bay_X5_comes : GoodIn wsX5_bay wsX5_comes := goodIn_r _ [24, 3, 25, 26, 27, 28, 6, 29, 4, 5, 7, 30, 31, 32, 33, 34, 35, 36, 37, 38, 39, 40, 41, 42, 43, 44, 45, 46, 47, 48] (by decide +kernel) (by decide +kernel)
set_option maxRecDepth 20000 in
theorem gX5_bay_X5_comes : GoodIn wsX5_bay (wsV RX5 97 RX5 yX5_comes wsX5_comes) := goodIn_app (goodIn_of _ (by decide +kernel)) ggX5_bay_X5_comes
set_option maxRecDepth 20000 in
theorem ggX5_isGate_X5_isIn : GoodIn wsX5_isGate wsX5_isIn := goodIn_r _ [4] (by decide +kernel) (by decide +kernel)
set_option maxRecDepth 20000 in
theorem gX5_isGate_X5_isIn : GoodIn wsX5_isGate (va_wsS RX5 48 yX5_isIn wsX5_isIn) := goodIn_app (goodIn_of _ (by decide +kernel)) ggX5_isGate_X5_isIn
set_option maxRecDepth 20000 in
theorem ggX5_gate_X5_isGate : GoodIn wsX5_gate wsX5_isGate := goodIn_r _ [7, 8, 9, 6, 10] (by decide +kernel) (by decide +kernel)
set_option maxRecDepth 20000 in
theorem gX5_gate_X5_isGate : GoodIn wsX5_gate (va_wsS RX5 116 yX5_isGate wsX5_isGate) := goodIn_app (goodIn_of _ (by decide +kernel)) ggX5_gate_X5_isGate
set_option maxRecDepth 20000 in
theorem ggX5_gate_X5_isView : GoodIn wsX5_gate wsX5_isView := goodIn_r _ [13, 8, 9, 6, 10] (by decide +kernel) (by decide +kernel)
set_option maxRecDepth 20000 in
theorem gX5_gate_X5_isView : GoodIn wsX5_gate (va_wsS RX5 94 yX5_isView wsX5_isView) := goodIn_app (goodIn_of _ (by decide +kernel)) ggX5_gate_X5_isView
set_option maxRecDepth 20000 in
theorem ggX5_gate_X5_no : GoodIn wsX5_gate wsX5_no := goodIn_r _ [17, 1, 18, 19, 20, 21, 22, 23, 24, 25, 26, 27, 28, 29, 30, 31, 32, 33, 34, 35, 36, 37, 38, 39] (by decide +kernel) (by decide +kernel)
set_option maxRecDepth 20000 in
theorem gX5_gate_X5_no : GoodIn wsX5_gate (wsV RX5 68 RX5 yX5_no wsX5_no) := goodIn_app (goodIn_of _ (by decide +kernel)) ggX5_gate_X5_no
set_option maxRecDepth 20000 in
theorem ggX5_pass_X5_isLoad : GoodIn wsX5_pass wsX5_isLoad := goodIn_r _ [10, 11, 12, 13, 9, 14, 49, 50, 51, 52, 53, 54, 55, 56, 57, 58, 59, 60, 61, 62, 63, 64, 65, 66, 67] (by decide +kernel) (by decide +kernel)
set_option maxRecDepth 20000 in
theorem gX5_pass_X5_isLoad : GoodIn wsX5_pass (wsV RX5 72 RX5 yX5_isLoad wsX5_isLoad) := goodIn_app (goodIn_of _ (by decide +kernel)) ggX5_pass_X5_isLoad
set_option maxRecDepth 20000 in
theorem ggX5_pass_X5_isGate : GoodIn wsX5_pass wsX5_isGate := goodIn_r _ [17, 12, 13, 9, 14] (by decide +kernel) (by decide +kernel)
set_option maxRecDepth 20000 in
theorem gX5_pass_X5_isGate : GoodIn wsX5_pass (va_wsS RX5 116 yX5_isGate wsX5_isGate) := goodIn_app (goodIn_of _ (by decide +kernel)) ggX5_pass_X5_isGate
set_option maxRecDepth 20000 in
theorem ggX5_pass_X5_no : GoodIn wsX5_pass wsX5_no := goodIn_r _ [21, 1, 22, 23, 24, 49, 50, 51, 52, 53, 54, 55, 56, 57, 58, 59, 60, 61, 62, 63, 64, 65, 66, 67] (by decide +kernel) (by decide +kernel)
set_option maxRecDepth 20000 in
theorem gX5_pass_X5_no : GoodIn wsX5_pass (wsV RX5 68 RX5 yX5_no wsX5_no) := goodIn_app (goodIn_of _ (by decide +kernel)) ggX5_pass_X5_no
set_option maxRecDepth 20000 in
theorem ggX5_pass_X5_goes : GoodIn wsX5_pass wsX5_goes := goodIn_r _ [27] (by decide +kernel) (by decide +kernel)
set_option maxRecDepth 20000 in
theorem gX5_pass_X5_goes : GoodIn wsX5_pass (va_wsS RX5 88 yX5_goes wsX5_goes) := goodIn_app (goodIn_of _ (by decide +kernel)) ggX5_pass_X5_goes
set_option maxRecDepth 20000 in
theorem ggX5_pass_X5_weightOf : GoodIn wsX5_pass wsX5_weightOf := goodIn_r _ [31, 32, 33, 34, 35, 36, 37, 38, 9, 39, 40, 41, 42, 43, 44, 3, 45, 46, 47, 48, 12, 13, 14, 49, 50, 51, 52, 53, 54, 55, 56, 57, 58, 59, 60, 61, 62, 63, 64, 65, 66, 67] (by decide +kernel) (by decide +kernel)
set_option maxRecDepth 20000 in
theorem gX5_pass_X5_weightOf : GoodIn wsX5_pass (wsV RX5 112 RX5 yX5_weightOf wsX5_weightOf) := goodIn_app (goodIn_of _ (by decide +kernel)) ggX5_pass_X5_weightOf
set_option maxRecDepth 20000 in
theorem ggX5_passed_X5_isGate : GoodIn wsX5_passed wsX5_isGate := goodIn_r _ [6, 7, 8, 5, 9] (by decide +kernel) (by decide +kernel)
set_option maxRecDepth 20000 in
theorem gX5_passed_X5_isGate : GoodIn wsX5_passed (va_wsS RX5 116 yX5_isGate wsX5_isGate) := goodIn_app (goodIn_of _ (by decide +kernel)) ggX5_passed_X5_isGate
set_option maxRecDepth 20000 in
theorem ggX5_tariff_X5_isView : GoodIn wsX5_tariff wsX5_isView := goodIn_r _ [8, 9, 10, 7, 11] (by decide +kernel) (by decide +kernel)
set_option maxRecDepth 20000 in
theorem gX5_tariff_X5_isView : GoodIn wsX5_tariff (va_wsS RX5 94 yX5_isView wsX5_isView) := goodIn_app (goodIn_of _ (by decide +kernel)) ggX5_tariff_X5_isView
set_option maxRecDepth 20000 in
theorem ggX5_tariff_X5_isIn : GoodIn wsX5_tariff wsX5_isIn := goodIn_r _ [11] (by decide +kernel) (by decide +kernel)
set_option maxRecDepth 20000 in
theorem gX5_tariff_X5_isIn : GoodIn wsX5_tariff (va_wsS RX5 48 yX5_isIn wsX5_isIn) := goodIn_app (goodIn_of _ (by decide +kernel)) ggX5_tariff_X5_isIn
set_option maxRecDepth 20000 in
theorem ggX5_tariff_X5_no : GoodIn wsX5_tariff wsX5_no := goodIn_r _ [15, 1, 16, 17, 18, 19, 20, 21, 22, 23, 24, 25, 26, 27, 28, 29, 30, 31, 32, 33, 34, 35, 36, 37] (by decide +kernel) (by decide +kernel)
set_option maxRecDepth 20000 in
theorem gX5_tariff_X5_no : GoodIn wsX5_tariff (wsV RX5 68 RX5 yX5_no wsX5_no) := goodIn_app (goodIn_of _ (by decide +kernel)) ggX5_tariff_X5_no
set_option maxRecDepth 20000 in
theorem ggX5_lineOf_X5_goes : GoodIn wsX5_lineOf wsX5_goes := goodIn_r _ [7] (by decide +kernel) (by decide +kernel)
set_option maxRecDepth 20000 in
theorem gX5_lineOf_X5_goes : GoodIn wsX5_lineOf (va_wsS RX5 88 yX5_goes wsX5_goes) := goodIn_app (goodIn_of _ (by decide +kernel)) ggX5_lineOf_X5_goes
set_option maxRecDepth 20000 in
theorem ggX5_duty_X5_isLoad : GoodIn wsX5_duty wsX5_isLoad := goodIn_r _ [8, 9, 10, 11, 7, 12, 31, 32, 33, 34, 35, 36, 37, 38, 39, 40, 41, 42, 43, 44, 45, 46, 47, 48, 49] (by decide +kernel) (by decide +kernel)
set_option maxRecDepth 20000 in
theorem gX5_duty_X5_isLoad : GoodIn wsX5_duty (wsV RX5 72 RX5 yX5_isLoad wsX5_isLoad) := goodIn_app (goodIn_of _ (by decide +kernel)) ggX5_duty_X5_isLoad
set_option maxRecDepth 20000 in
theorem ggX5_duty_X5_lineOf : GoodIn wsX5_duty wsX5_lineOf := goodIn_r _ [16, 17, 18, 3, 19, 20, 7, 21, 31, 32, 33, 34, 35, 36, 37, 38, 39, 40, 41, 42, 43, 44, 45, 46, 47, 48, 49] (by decide +kernel) (by decide +kernel)
set_option maxRecDepth 20000 in
theorem gX5_duty_X5_lineOf : GoodIn wsX5_duty (wsV RX5 125 RX5 yX5_lineOf wsX5_lineOf) := goodIn_app (goodIn_of _ (by decide +kernel)) ggX5_duty_X5_lineOf
set_option maxRecDepth 20000 in
theorem ggX5_duty_X5_comes : GoodIn wsX5_duty wsX5_comes := goodIn_r _ [25, 18, 26, 27, 28, 29, 7, 30, 10, 11, 12, 31, 32, 33, 34, 35, 36, 37, 38, 39, 40, 41, 42, 43, 44, 45, 46, 47, 48, 49] (by decide +kernel) (by decide +kernel)
set_option maxRecDepth 20000 in
theorem gX5_duty_X5_comes : GoodIn wsX5_duty (wsV RX5 97 RX5 yX5_comes wsX5_comes) := goodIn_app (goodIn_of _ (by decide +kernel)) ggX5_duty_X5_comes
set_option maxRecDepth 20000 in
theorem ggX5_line_X5_isLoad : GoodIn wsX5_line wsX5_isLoad := goodIn_r _ [6, 7, 8, 9, 5, 10, 28, 29, 30, 31, 32, 33, 34, 35, 36, 37, 38, 39, 40, 41, 42, 43, 44, 45, 46] (by decide +kernel) (by decide +kernel)
set_option maxRecDepth 20000 in
theorem gX5_line_X5_isLoad : GoodIn wsX5_line (wsV RX5 72 RX5 yX5_isLoad wsX5_isLoad) := goodIn_app (goodIn_of _ (by decide +kernel)) ggX5_line_X5_isLoad
set_option maxRecDepth 20000 in
theorem ggX5_line_X5_lineOf : GoodIn wsX5_line wsX5_lineOf := goodIn_r _ [14, 15, 16, 17, 18, 19, 5, 20, 28, 29, 30, 31, 32, 33, 34, 35, 36, 37, 38, 39, 40, 41, 42, 43, 44, 45, 46] (by decide +kernel) (by decide +kernel)
set_option maxRecDepth 20000 in
theorem gX5_line_X5_lineOf : GoodIn wsX5_line (wsV RX5 125 RX5 yX5_lineOf wsX5_lineOf) := goodIn_app (goodIn_of _ (by decide +kernel)) ggX5_line_X5_lineOf
set_option maxRecDepth 20000 in
theorem ggX5_line_X5_no : GoodIn wsX5_line wsX5_no := goodIn_r _ [24, 1, 25, 26, 27, 28, 29, 30, 31, 32, 33, 34, 35, 36, 37, 38, 39, 40, 41, 42, 43, 44, 45, 46] (by decide +kernel) (by decide +kernel)
set_option maxRecDepth 20000 in
theorem gX5_line_X5_no : GoodIn wsX5_line (wsV RX5 68 RX5 yX5_no wsX5_no) := goodIn_app (goodIn_of _ (by decide +kernel)) ggX5_line_X5_no
set_option maxRecDepth 20000 in
theorem ggL_law_X4_init : GoodIn wsL_law wsX4_init := goodIn_r _ [8, 9, 10, 11, 12, 13, 14, 15, 16, 17, 18, 19, 20, 21, 22, 23, 24, 423, 424, 425, 426, 427, 428, 429, 430, 431, 432, 433, 434, 435] (by decide +kernel) (by decide +kernel)
set_option maxRecDepth 20000 in
theorem gL_law_X4_init : GoodIn wsL_law (wsX4_init) := ggL_law_X4_init
set_option maxRecDepth 20000 in
theorem ggL_law_X5_init : GoodIn wsL_law wsX5_init := goodIn_r _ [27, 28, 10, 11, 15, 29, 30, 31, 17, 32, 33, 34, 35, 36, 37, 38, 39, 436, 437, 438, 439, 440, 441, 442, 443, 444, 445, 446, 447, 448, 449, 450, 451, 452, 453, 454] (by decide +kernel) (by decide +kernel)
set_option maxRecDepth 20000 in
theorem gL_law_X5_init : GoodIn wsL_law (wsX5_init) := ggL_law_X5_init
set_option maxRecDepth 20000 in
theorem ggL_law_X4_load : GoodIn wsL_law wsX4_load := goodIn_r _ [43, 44, 45, 13, 46, 47, 2, 48, 49, 50, 51, 52, 53, 54, 55, 56, 57, 58, 59, 60, 61, 62, 63, 64, 65, 66, 67, 17, 68, 69, 70, 12, 71, 72, 73, 74, 75, 76, 77, 78, 79, 10, 11, 80, 81, 82, 83, 84, 85, 86, 87, 88, 89, 90, 91, 423, 424, 425, 426, 427, 428, 429, 430, 431, 432, 433, 434, 435, 455, 456, 457, 458, 459, 460, 461, 462, 463] (by decide +kernel) (by decide +kernel)
set_option maxRecDepth 20000 in
theorem gL_law_X4_load : GoodIn wsL_law (wsV RL 13 RX4 yX4_load wsX4_load) := goodIn_app (goodIn_of _ (by decide +kernel)) ggL_law_X4_load
set_option maxRecDepth 20000 in
theorem ggL_law_X5_load : GoodIn wsL_law wsX5_load := goodIn_r _ [95, 96, 97, 29, 30, 31, 32, 33, 98, 99, 5, 100, 101, 102, 103, 104, 105, 106, 107, 108, 109, 110, 436, 437, 438, 439, 440, 441, 442, 443, 444, 445, 446, 447, 448, 449, 450, 451, 452, 453, 454] (by decide +kernel) (by decide +kernel)
set_option maxRecDepth 20000 in
theorem gL_law_X5_load : GoodIn wsL_law (wsV RL 17 RX5 yX5_load wsX5_load) := goodIn_app (goodIn_of _ (by decide +kernel)) ggL_law_X5_load
set_option maxRecDepth 20000 in
theorem ggL_law_X4_set : GoodIn wsL_law wsX4_set := goodIn_r _ [114, 44, 115, 116, 117, 118, 119, 120, 2, 121, 122, 123, 124, 125, 126, 13, 52, 53, 54, 55, 56, 57, 58, 127, 128, 129, 67, 130, 85, 423, 424, 425, 426, 427, 428, 429, 430, 431, 432, 433, 434, 435, 458, 459, 460, 455, 456, 457, 461, 462, 463] (by decide +kernel) (by decide +kernel)
set_option maxRecDepth 20000 in
theorem gL_law_X4_set : GoodIn wsL_law (wsV RL 18 RX4 yX4_set wsX4_set) := goodIn_app (goodIn_of _ (by decide +kernel)) ggL_law_X4_set
set_option maxRecDepth 20000 in
theorem ggL_law_X5_set : GoodIn wsL_law wsX5_set := goodIn_r _ [134, 96, 29, 32, 135, 136, 137, 5, 138, 97, 98, 99, 100, 104, 105, 106, 107, 108, 109, 110, 139, 140, 141, 142, 143, 144, 145, 30, 436, 437, 438, 439, 440, 441, 442, 443, 444, 445, 446, 447, 448, 449, 450, 451, 452, 453, 454] (by decide +kernel) (by decide +kernel)
set_option maxRecDepth 20000 in
theorem gL_law_X5_set : GoodIn wsL_law (wsV RL 22 RX5 yX5_set wsX5_set) := goodIn_app (goodIn_of _ (by decide +kernel)) ggL_law_X5_set
set_option maxRecDepth 20000 in
theorem ggL_law_X4_number : GoodIn wsL_law wsX4_number := goodIn_r _ [149, 44, 115, 118, 119, 120, 2, 121, 122, 123, 124, 125, 126, 13, 52, 53, 54, 55, 56, 57, 58, 127, 128, 129, 67, 130, 85, 423, 424, 425, 426, 427, 428, 429, 430, 431, 432, 433, 434, 435, 458, 459, 460] (by decide +kernel) (by decide +kernel)
set_option maxRecDepth 20000 in
theorem gL_law_X4_number : GoodIn wsL_law (wsV RL 23 RX4 yX4_number wsX4_number) := goodIn_app (goodIn_of _ (by decide +kernel)) ggL_law_X4_number
set_option maxRecDepth 20000 in
theorem ggL_law_X5_number : GoodIn wsL_law wsX5_number := goodIn_r _ [153, 96, 29, 32, 135, 136, 137, 5, 138, 97, 98, 99, 100, 139, 140, 141, 142, 143, 144, 145, 30, 104, 105, 106, 107, 108, 109, 110, 436, 437, 438, 439, 440, 441, 442, 443, 444, 445, 446, 447, 448, 449, 450, 451, 452, 453, 454] (by decide +kernel) (by decide +kernel)
set_option maxRecDepth 20000 in
theorem gL_law_X5_number : GoodIn wsL_law (wsV RL 27 RX5 yX5_number wsX5_number) := goodIn_app (goodIn_of _ (by decide +kernel)) ggL_law_X5_number
set_option maxRecDepth 20000 in
theorem ggL_law_X4_put : GoodIn wsL_law wsX4_put := goodIn_r _ [157, 44, 158, 159, 123, 124, 125, 2, 126, 13, 52, 53, 54, 55, 56, 57, 58, 160, 161, 162, 70, 163, 164, 165, 166, 167, 168, 169, 77, 170, 81, 171, 172, 173, 174, 175, 176, 90, 177, 178, 179, 180, 181, 423, 424, 425, 426, 427, 428, 429, 430, 431, 432, 433, 434, 435, 461, 462, 463, 458, 459, 460, 455, 456, 457] (by decide +kernel) (by decide +kernel)
set_option maxRecDepth 20000 in
theorem gL_law_X4_put : GoodIn wsL_law (wsV RL 28 RX4 yX4_put wsX4_put) := goodIn_app (goodIn_of _ (by decide +kernel)) ggL_law_X4_put
set_option maxRecDepth 20000 in
theorem ggL_law_X5_put : GoodIn wsL_law wsX5_put := goodIn_r _ [185, 96, 29, 33, 135, 136, 137, 5, 138, 97, 98, 99, 100, 104, 105, 106, 107, 108, 109, 110, 186, 187, 188, 189, 190, 191, 192, 193, 194, 142, 143, 144, 145, 30, 195, 196, 197, 436, 437, 438, 439, 440, 441, 442, 443, 444, 445, 446, 447, 448, 449, 450, 451, 452, 453, 454] (by decide +kernel) (by decide +kernel)
set_option maxRecDepth 20000 in
theorem gL_law_X5_put : GoodIn wsL_law (wsV RL 31 RX5 yX5_put wsX5_put) := goodIn_app (goodIn_of _ (by decide +kernel)) ggL_law_X5_put
set_option maxRecDepth 20000 in
theorem ggL_law_X4_at : GoodIn wsL_law wsX4_at := goodIn_r _ [201, 44, 158, 159, 123, 124, 125, 2, 126, 13, 52, 53, 54, 55, 56, 57, 58, 173, 174, 175, 70, 176, 90, 202, 203, 204, 205, 423, 424, 425, 426, 427, 428, 429, 430, 431, 432, 433, 434, 435, 461, 462, 463, 458, 459, 460, 455, 456, 457] (by decide +kernel) (by decide +kernel)
set_option maxRecDepth 20000 in
theorem gL_law_X4_at : GoodIn wsL_law (wsV RL 32 RX4 yX4_at wsX4_at) := goodIn_app (goodIn_of _ (by decide +kernel)) ggL_law_X4_at
set_option maxRecDepth 20000 in
theorem ggL_law_X5_at : GoodIn wsL_law wsX5_at := goodIn_r _ [209, 96, 29, 33, 135, 136, 137, 5, 138, 97, 98, 99, 100, 104, 105, 106, 107, 108, 109, 110, 186, 187, 188, 142, 143, 144, 145, 30, 436, 437, 438, 439, 440, 441, 442, 443, 444, 445, 446, 447, 448, 449, 450, 451, 452, 453, 454] (by decide +kernel) (by decide +kernel)
set_option maxRecDepth 20000 in
theorem gL_law_X5_at : GoodIn wsL_law (wsV RL 35 RX5 yX5_at wsX5_at) := goodIn_app (goodIn_of _ (by decide +kernel)) ggL_law_X5_at
set_option maxRecDepth 20000 in
theorem ggL_law_X4_is : GoodIn wsL_law wsX4_is := goodIn_r _ [213, 44, 123, 124, 125, 2, 126, 13, 214, 215, 216, 52, 53, 54, 55, 56, 57, 58, 166, 167, 168, 169, 77, 170, 81, 171, 172, 423, 424, 425, 426, 427, 428, 429, 430, 431, 432, 433, 434, 435, 458, 459, 460, 455, 456, 457, 461, 462, 463] (by decide +kernel) (by decide +kernel)
set_option maxRecDepth 20000 in
theorem gL_law_X4_is : GoodIn wsL_law (wsV RL 36 RX4 yX4_is wsX4_is) := goodIn_app (goodIn_of _ (by decide +kernel)) ggL_law_X4_is
set_option maxRecDepth 20000 in
theorem ggL_law_X5_is : GoodIn wsL_law wsX5_is := goodIn_r _ [220, 96, 29, 135, 136, 137, 5, 138, 97, 98, 99, 100, 221, 222, 223, 104, 105, 106, 107, 108, 109, 110, 192, 193, 194, 436, 437, 438, 439, 440, 441, 442, 443, 444, 445, 446, 447, 448, 449, 450, 451, 452, 453, 454] (by decide +kernel) (by decide +kernel)
set_option maxRecDepth 20000 in
theorem gL_law_X5_is : GoodIn wsL_law (wsV RL 39 RX5 yX5_is wsX5_is) := goodIn_app (goodIn_of _ (by decide +kernel)) ggL_law_X5_is
set_option maxRecDepth 20000 in
theorem ggL_law_X4_take : GoodIn wsL_law wsX4_take := goodIn_r _ [227, 44, 123, 124, 125, 2, 126, 13, 214, 215, 216, 52, 53, 54, 55, 56, 57, 58, 228, 229, 230, 231, 166, 167, 168, 169, 77, 170, 81, 171, 172, 232, 233, 234, 235, 67, 236, 85, 237, 238, 64, 239, 74, 240, 241, 242, 243, 244, 245, 246, 247, 70, 248, 90, 423, 424, 425, 426, 427, 428, 429, 430, 431, 432, 433, 434, 435, 458, 459, 460, 455, 456, 457, 461, 462, 463] (by decide +kernel) (by decide +kernel)
set_option maxRecDepth 20000 in
theorem gL_law_X4_take : GoodIn wsL_law (wsV RL 40 RX4 yX4_take wsX4_take) := goodIn_app (goodIn_of _ (by decide +kernel)) ggL_law_X4_take
set_option maxRecDepth 20000 in
theorem ggL_law_X5_take : GoodIn wsL_law wsX5_take := goodIn_r _ [252, 96, 29, 135, 136, 137, 5, 138, 97, 98, 99, 100, 221, 222, 223, 104, 105, 106, 107, 108, 109, 110, 192, 193, 194, 253, 254, 255, 256, 30, 31, 101, 102, 103, 436, 437, 438, 439, 440, 441, 442, 443, 444, 445, 446, 447, 448, 449, 450, 451, 452, 453, 454] (by decide +kernel) (by decide +kernel)
set_option maxRecDepth 20000 in
theorem gL_law_X5_take : GoodIn wsL_law (wsV RL 43 RX5 yX5_take wsX5_take) := goodIn_app (goodIn_of _ (by decide +kernel)) ggL_law_X5_take
set_option maxRecDepth 20000 in
theorem ggL_law_X4_sort : GoodIn wsL_law wsX4_sort := goodIn_r _ [260, 44, 261, 123, 124, 125, 2, 126, 13, 52, 53, 54, 55, 56, 57, 58, 423, 424, 425, 426, 427, 428, 429, 430, 431, 432, 433, 434, 435, 458, 459, 460, 455, 456, 457, 461, 462, 463] (by decide +kernel) (by decide +kernel)
set_option maxRecDepth 20000 in
theorem gL_law_X4_sort : GoodIn wsL_law (wsV RL 44 RX4 yX4_sort wsX4_sort) := goodIn_app (goodIn_of _ (by decide +kernel)) ggL_law_X4_sort
set_option maxRecDepth 20000 in
theorem ggL_law_X5_sort : GoodIn wsL_law wsX5_sort := goodIn_r _ [265, 96, 29, 135, 136, 137, 5, 138, 97, 98, 99, 100, 104, 105, 106, 107, 108, 109, 110, 436, 437, 438, 439, 440, 441, 442, 443, 444, 445, 446, 447, 448, 449, 450, 451, 452, 453, 454] (by decide +kernel) (by decide +kernel)
set_option maxRecDepth 20000 in
theorem gL_law_X5_sort : GoodIn wsL_law (wsV RL 48 RX5 yX5_sort wsX5_sort) := goodIn_app (goodIn_of _ (by decide +kernel)) ggL_law_X5_sort
set_option maxRecDepth 20000 in
theorem ggL_law_X4_weight : GoodIn wsL_law wsX4_weight := goodIn_r _ [269, 44, 123, 124, 125, 2, 126, 13, 52, 53, 54, 55, 56, 57, 58, 270, 271, 272, 273, 67, 274, 85, 275, 276, 64, 277, 74, 278, 279, 70, 280, 90, 281, 423, 424, 425, 426, 427, 428, 429, 430, 431, 432, 433, 434, 435, 458, 459, 460, 455, 456, 457, 461, 462, 463] (by decide +kernel) (by decide +kernel)
set_option maxRecDepth 20000 in
theorem gL_law_X4_weight : GoodIn wsL_law (wsV RL 49 RX4 yX4_weight wsX4_weight) := goodIn_app (goodIn_of _ (by decide +kernel)) ggL_law_X4_weight
set_option maxRecDepth 20000 in
theorem ggL_law_X5_weight : GoodIn wsL_law wsX5_weight := goodIn_r _ [285, 96, 135, 136, 137, 5, 138, 97, 98, 99, 100, 286, 287, 288, 289, 290, 31, 30, 32, 291, 292, 293, 294, 39, 295, 296, 297, 298, 29, 33, 186, 187, 188, 436, 437, 438, 439, 440, 441, 442, 443, 444, 445, 446, 447, 448, 449, 450, 451, 452, 453, 454] (by decide +kernel) (by decide +kernel)
set_option maxRecDepth 20000 in
theorem gL_law_X5_weight : GoodIn wsL_law (wsV RL 53 RX5 yX5_weight wsX5_weight) := goodIn_app (goodIn_of _ (by decide +kernel)) ggL_law_X5_weight
set_option maxRecDepth 20000 in
theorem ggL_law_X4_inside : GoodIn wsL_law wsX4_inside := goodIn_r _ [302, 44, 123, 124, 125, 2, 126, 13, 214, 215, 216, 52, 53, 54, 55, 56, 57, 58, 303, 304, 305, 306, 77, 307, 308, 167, 168, 169, 170, 81, 171, 172, 309, 310, 311, 312, 70, 313, 90, 314, 315, 316, 317, 423, 424, 425, 426, 427, 428, 429, 430, 431, 432, 433, 434, 435, 458, 459, 460, 455, 456, 457, 461, 462, 463] (by decide +kernel) (by decide +kernel)
set_option maxRecDepth 20000 in
theorem gL_law_X4_inside : GoodIn wsL_law (wsV RL 54 RX4 yX4_inside wsX4_inside) := goodIn_app (goodIn_of _ (by decide +kernel)) ggL_law_X4_inside
set_option maxRecDepth 20000 in
theorem ggL_law_X5_inside : GoodIn wsL_law wsX5_inside := goodIn_r _ [321, 96, 290, 29, 135, 136, 137, 5, 138, 97, 98, 99, 100, 221, 222, 223, 104, 105, 106, 107, 108, 109, 110, 291, 292, 293, 294, 39, 295, 296, 297, 298, 30, 33, 186, 187, 188, 192, 193, 194, 436, 437, 438, 439, 440, 441, 442, 443, 444, 445, 446, 447, 448, 449, 450, 451, 452, 453, 454] (by decide +kernel) (by decide +kernel)
set_option maxRecDepth 20000 in
theorem gL_law_X5_inside : GoodIn wsL_law (wsV RL 57 RX5 yX5_inside wsX5_inside) := goodIn_app (goodIn_of _ (by decide +kernel)) ggL_law_X5_inside
set_option maxRecDepth 20000 in
theorem ggL_law_X4_hold : GoodIn wsL_law wsX4_hold := goodIn_r _ [325, 44, 14, 123, 124, 125, 2, 126, 13, 326, 327, 328, 52, 53, 54, 55, 56, 57, 58, 202, 203, 204, 205, 423, 424, 425, 426, 427, 428, 429, 430, 431, 432, 433, 434, 435, 458, 459, 460, 455, 456, 457, 461, 462, 463] (by decide +kernel) (by decide +kernel)
set_option maxRecDepth 20000 in
theorem gL_law_X4_hold : GoodIn wsL_law (wsV RL 58 RX4 yX4_hold wsX4_hold) := goodIn_app (goodIn_of _ (by decide +kernel)) ggL_law_X4_hold
set_option maxRecDepth 20000 in
theorem ggL_law_X5_hold : GoodIn wsL_law wsX5_hold := goodIn_r _ [332, 96, 34, 98, 99, 5, 100, 135, 136, 137, 138, 97, 104, 105, 106, 107, 108, 109, 110, 436, 437, 438, 439, 440, 441, 442, 443, 444, 445, 446, 447, 448, 449, 450, 451, 452, 453, 454] (by decide +kernel) (by decide +kernel)
set_option maxRecDepth 20000 in
theorem gL_law_X5_hold : GoodIn wsL_law (wsV RL 61 RX5 yX5_hold wsX5_hold) := goodIn_app (goodIn_of _ (by decide +kernel)) ggL_law_X5_hold
set_option maxRecDepth 20000 in
theorem ggL_law_X4_bay : GoodIn wsL_law wsX4_bay := goodIn_r _ [336, 44, 14, 326, 327, 2, 328, 214, 215, 216, 52, 53, 54, 55, 56, 57, 58, 228, 229, 230, 231, 166, 167, 168, 169, 77, 170, 81, 171, 172, 232, 233, 234, 235, 67, 236, 85, 237, 238, 64, 239, 74, 240, 241, 242, 243, 244, 245, 246, 247, 70, 248, 90, 423, 424, 425, 426, 427, 428, 429, 430, 431, 432, 433, 434, 435, 458, 459, 460, 455, 456, 457, 461, 462, 463] (by decide +kernel) (by decide +kernel)
set_option maxRecDepth 20000 in
theorem gL_law_X4_bay : GoodIn wsL_law (wsV RL 62 RX4 yX4_bay wsX4_bay) := goodIn_app (goodIn_of _ (by decide +kernel)) ggL_law_X4_bay
set_option maxRecDepth 20000 in
theorem ggL_law_X5_bay : GoodIn wsL_law wsX5_bay := goodIn_r _ [340, 96, 34, 29, 98, 99, 5, 100, 221, 222, 223, 104, 105, 106, 107, 108, 109, 110, 192, 193, 194, 253, 254, 255, 256, 30, 31, 101, 102, 103, 436, 437, 438, 439, 440, 441, 442, 443, 444, 445, 446, 447, 448, 449, 450, 451, 452, 453, 454] (by decide +kernel) (by decide +kernel)
set_option maxRecDepth 20000 in
theorem gL_law_X5_bay : GoodIn wsL_law (wsV RL 65 RX5 yX5_bay wsX5_bay) := goodIn_app (goodIn_of _ (by decide +kernel)) ggL_law_X5_bay
set_option maxRecDepth 20000 in
theorem ggL_law_X4_gate : GoodIn wsL_law wsX4_gate := goodIn_r _ [344, 44, 16, 18, 345, 346, 2, 347, 214, 215, 216, 52, 53, 54, 55, 56, 57, 58, 423, 424, 425, 426, 427, 428, 429, 430, 431, 432, 433, 434, 435] (by decide +kernel) (by decide +kernel)
set_option maxRecDepth 20000 in
theorem gL_law_X4_gate : GoodIn wsL_law (wsV RL 66 RX4 yX4_gate wsX4_gate) := goodIn_app (goodIn_of _ (by decide +kernel)) ggL_law_X4_gate
set_option maxRecDepth 20000 in
theorem ggL_law_X5_gate : GoodIn wsL_law wsX5_gate := goodIn_r _ [351, 96, 35, 36, 352, 353, 5, 354, 98, 99, 100, 221, 222, 223, 104, 105, 106, 107, 108, 109, 110, 436, 437, 438, 439, 440, 441, 442, 443, 444, 445, 446, 447, 448, 449, 450, 451, 452, 453, 454] (by decide +kernel) (by decide +kernel)
set_option maxRecDepth 20000 in
theorem gL_law_X5_gate : GoodIn wsL_law (wsV RL 69 RX5 yX5_gate wsX5_gate) := goodIn_app (goodIn_of _ (by decide +kernel)) ggL_law_X5_gate
set_option maxRecDepth 20000 in
theorem ggL_law_X4_pass : GoodIn wsL_law wsX4_pass := goodIn_r _ [358, 44, 16, 359, 18, 123, 124, 125, 2, 126, 13, 345, 346, 347, 52, 53, 54, 55, 56, 57, 58, 166, 167, 168, 169, 77, 170, 81, 171, 172, 270, 271, 272, 273, 67, 274, 85, 275, 276, 64, 277, 74, 278, 279, 70, 280, 90, 281, 423, 424, 425, 426, 427, 428, 429, 430, 431, 432, 433, 434, 435, 458, 459, 460, 455, 456, 457, 461, 462, 463] (by decide +kernel) (by decide +kernel)
set_option maxRecDepth 20000 in
theorem gL_law_X4_pass : GoodIn wsL_law (wsV RL 70 RX4 yX4_pass wsX4_pass) := goodIn_app (goodIn_of _ (by decide +kernel)) ggL_law_X4_pass
set_option maxRecDepth 20000 in
theorem ggL_law_X5_pass : GoodIn wsL_law wsX5_pass := goodIn_r _ [363, 96, 35, 29, 364, 36, 135, 136, 137, 5, 138, 97, 98, 99, 100, 352, 353, 354, 104, 105, 106, 107, 108, 109, 110, 192, 193, 194, 286, 287, 288, 289, 290, 31, 30, 32, 291, 292, 293, 294, 39, 295, 296, 297, 298, 33, 186, 187, 188, 436, 437, 438, 439, 440, 441, 442, 443, 444, 445, 446, 447, 448, 449, 450, 451, 452, 453, 454] (by decide +kernel) (by decide +kernel)
set_option maxRecDepth 20000 in
theorem gL_law_X5_pass : GoodIn wsL_law (wsV RL 73 RX5 yX5_pass wsX5_pass) := goodIn_app (goodIn_of _ (by decide +kernel)) ggL_law_X5_pass
set_option maxRecDepth 20000 in
theorem ggL_law_X4_passed : GoodIn wsL_law wsX4_passed := goodIn_r _ [368, 44, 18, 345, 346, 2, 347, 52, 53, 54, 55, 56, 57, 58, 423, 424, 425, 426, 427, 428, 429, 430, 431, 432, 433, 434, 435] (by decide +kernel) (by decide +kernel)
set_option maxRecDepth 20000 in
theorem gL_law_X4_passed : GoodIn wsL_law (wsV RL 74 RX4 yX4_passed wsX4_passed) := goodIn_app (goodIn_of _ (by decide +kernel)) ggL_law_X4_passed
set_option maxRecDepth 20000 in
theorem ggL_law_X5_passed : GoodIn wsL_law wsX5_passed := goodIn_r _ [372, 96, 36, 352, 353, 5, 354, 98, 99, 100, 436, 437, 438, 439, 440, 441, 442, 443, 444, 445, 446, 447, 448, 449, 450, 451, 452, 453, 454] (by decide +kernel) (by decide +kernel)
set_option maxRecDepth 20000 in
theorem gL_law_X5_passed : GoodIn wsL_law (wsV RL 77 RX5 yX5_passed wsX5_passed) := goodIn_app (goodIn_of _ (by decide +kernel)) ggL_law_X5_passed
set_option maxRecDepth 20000 in
theorem ggL_law_X4_tariff : GoodIn wsL_law wsX4_tariff := goodIn_r _ [376, 44, 377, 19, 20, 214, 215, 2, 216, 52, 53, 54, 55, 56, 57, 58, 423, 424, 425, 426, 427, 428, 429, 430, 431, 432, 433, 434, 435] (by decide +kernel) (by decide +kernel)
set_option maxRecDepth 20000 in
theorem gL_law_X4_tariff : GoodIn wsL_law (wsV RL 78 RX4 yX4_tariff wsX4_tariff) := goodIn_app (goodIn_of _ (by decide +kernel)) ggL_law_X4_tariff
set_option maxRecDepth 20000 in
theorem ggL_law_X5_tariff : GoodIn wsL_law wsX5_tariff := goodIn_r _ [381, 96, 382, 37, 38, 221, 222, 5, 223, 98, 99, 100, 104, 105, 106, 107, 108, 109, 110, 436, 437, 438, 439, 440, 441, 442, 443, 444, 445, 446, 447, 448, 449, 450, 451, 452, 453, 454] (by decide +kernel) (by decide +kernel)
set_option maxRecDepth 20000 in
theorem gL_law_X5_tariff : GoodIn wsL_law (wsV RL 81 RX5 yX5_tariff wsX5_tariff) := goodIn_app (goodIn_of _ (by decide +kernel)) ggL_law_X5_tariff
set_option maxRecDepth 20000 in
theorem ggL_law_X4_duty : GoodIn wsL_law wsX4_duty := goodIn_r _ [386, 44, 20, 19, 123, 124, 125, 2, 126, 13, 52, 53, 54, 55, 56, 57, 58, 387, 388, 389, 390, 377, 166, 167, 168, 169, 77, 170, 81, 171, 172, 232, 233, 234, 235, 67, 236, 85, 237, 238, 64, 239, 74, 240, 241, 242, 243, 244, 245, 246, 247, 70, 248, 90, 423, 424, 425, 426, 427, 428, 429, 430, 431, 432, 433, 434, 435, 458, 459, 460, 455, 456, 457, 461, 462, 463] (by decide +kernel) (by decide +kernel)
set_option maxRecDepth 20000 in
theorem gL_law_X4_duty : GoodIn wsL_law (wsV RL 82 RX4 yX4_duty wsX4_duty) := goodIn_app (goodIn_of _ (by decide +kernel)) ggL_law_X4_duty
set_option maxRecDepth 20000 in
theorem ggL_law_X5_duty : GoodIn wsL_law wsX5_duty := goodIn_r _ [394, 96, 38, 37, 135, 136, 137, 5, 138, 97, 98, 99, 100, 395, 396, 397, 398, 382, 29, 192, 193, 194, 253, 254, 255, 256, 30, 31, 101, 102, 103, 436, 437, 438, 439, 440, 441, 442, 443, 444, 445, 446, 447, 448, 449, 450, 451, 452, 453, 454] (by decide +kernel) (by decide +kernel)
set_option maxRecDepth 20000 in
theorem gL_law_X5_duty : GoodIn wsL_law (wsV RL 85 RX5 yX5_duty wsX5_duty) := goodIn_app (goodIn_of _ (by decide +kernel)) ggL_law_X5_duty
set_option maxRecDepth 20000 in
theorem ggL_law_X4_line : GoodIn wsL_law wsX4_line := goodIn_r _ [402, 44, 123, 124, 125, 2, 126, 13, 52, 53, 54, 55, 56, 57, 58, 387, 388, 389, 390, 377, 19, 166, 167, 168, 169, 77, 170, 81, 171, 172, 423, 424, 425, 426, 427, 428, 429, 430, 431, 432, 433, 434, 435, 458, 459, 460, 455, 456, 457, 461, 462, 463] (by decide +kernel) (by decide +kernel)
set_option maxRecDepth 20000 in
theorem gL_law_X4_line : GoodIn wsL_law (wsV RL 86 RX4 yX4_line wsX4_line) := goodIn_app (goodIn_of _ (by decide +kernel)) ggL_law_X4_line
set_option maxRecDepth 20000 in
theorem ggL_law_X5_line : GoodIn wsL_law wsX5_line := goodIn_r _ [406, 96, 135, 136, 137, 5, 138, 97, 98, 99, 100, 395, 396, 397, 398, 382, 29, 37, 192, 193, 194, 104, 105, 106, 107, 108, 109, 110, 436, 437, 438, 439, 440, 441, 442, 443, 444, 445, 446, 447, 448, 449, 450, 451, 452, 453, 454] (by decide +kernel) (by decide +kernel)
set_option maxRecDepth 20000 in
theorem gL_law_X5_line : GoodIn wsL_law (wsV RL 89 RX5 yX5_line wsX5_line) := goodIn_app (goodIn_of _ (by decide +kernel)) ggL_law_X5_line
set_option maxRecDepth 20000 in
theorem ggL_law_X4_refused : GoodIn wsL_law wsX4_refused := goodIn_r _ [410, 44, 423, 424, 425, 426, 427, 428, 429, 430, 431, 432, 433, 434, 435] (by decide +kernel) (by decide +kernel)
set_option maxRecDepth 20000 in
theorem gL_law_X4_refused : GoodIn wsL_law (wsV RL 90 RX4 yX4_refused wsX4_refused) := goodIn_app (goodIn_of _ (by decide +kernel)) ggL_law_X4_refused
set_option maxRecDepth 20000 in
theorem ggL_law_X5_refused : GoodIn wsL_law wsX5_refused := goodIn_r _ [414, 96, 436, 437, 438, 439, 440, 441, 442, 443, 444, 445, 446, 447, 448, 449, 450, 451, 452, 453, 454] (by decide +kernel) (by decide +kernel)
set_option maxRecDepth 20000 in
theorem gL_law_X5_refused : GoodIn wsL_law (wsV RL 94 RX5 yX5_refused wsX5_refused) := goodIn_app (goodIn_of _ (by decide +kernel)) ggL_law_X5_refused
set_option maxRecDepth 20000 in
theorem ggL_law_X4_count : GoodIn wsL_law wsX4_count := goodIn_r _ [418, 45, 56, 57, 58, 359, 377, 423, 424, 425, 426, 427, 428, 429, 430, 431, 432, 433, 434, 435] (by decide +kernel) (by decide +kernel)
set_option maxRecDepth 20000 in
theorem gL_law_X4_count : GoodIn wsL_law (wsV RL 95 RX4 yX4_count wsX4_count) := goodIn_app (goodIn_of _ (by decide +kernel)) ggL_law_X4_count
set_option maxRecDepth 20000 in
theorem ggL_law_X5_count : GoodIn wsL_law wsX5_count := goodIn_r _ [422, 97, 108, 109, 110, 364, 382, 436, 437, 438, 439, 440, 441, 442, 443, 444, 445, 446, 447, 448, 449, 450, 451, 452, 453, 454] (by decide +kernel) (by decide +kernel)
set_option maxRecDepth 20000 in
theorem gL_law_X5_count : GoodIn wsL_law (wsV RL 98 RX5 yX5_count wsX5_count) := goodIn_app (goodIn_of _ (by decide +kernel)) ggL_law_X5_count
