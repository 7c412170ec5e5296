set_option maxRecDepth 20000 in
theorem gL_does_X6_build : GoodIn wsL_does (wsV RL 8 RX6 yX6_build wsX6_build) := goodIn_app (goodIn_of _ (by decide +kernel)) ggL_does_X6_build
set_option maxRecDepth 20000 in
theorem gL_does_X6_tear : GoodIn wsL_does (wsV RL 14 RX6 yX6_tear wsX6_tear) := goodIn_app (goodIn_of _ (by decide +kernel)) ggL_does_X6_tear
set_option maxRecDepth 20000 in
theorem gL_does_X6_pass : GoodIn wsL_does (wsV RL 28 RX6 yX6_pass wsX6_pass) := goodIn_app (goodIn_of _ (by decide +kernel)) ggL_does_X6_pass
set_option maxRecDepth 20000 in
theorem gL_asks_X6_sign : GoodIn wsL_asks (wsV RL 46 RX6 yX6_sign wsX6_sign) := goodIn_app (goodIn_of _ (by decide +kernel)) ggL_asks_X6_sign
set_option maxRecDepth 20000 in
theorem gL_isText_L_asks : GoodIn wsL_isText (va_wsS RL 81 yL_asks wsL_asks) := goodIn_app (goodIn_of _ (by decide +kernel)) ggL_isText_L_asks
set_option maxRecDepth 20000 in
theorem gL_isCell_L_isText : GoodIn wsL_isCell (va_wsS RL 89 yL_isText wsL_isText) := goodIn_app (goodIn_of _ (by decide +kernel)) ggL_isCell_L_isText
