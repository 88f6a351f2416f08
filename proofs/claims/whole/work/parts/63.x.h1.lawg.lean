set_option maxRecDepth 20000 in
theorem ggL_law_X6_comes : GoodIn wsL_law wsX6_comes := goodIn_c _ [(22, 13), (1, 3), (22, 14), (11, 5), (11, 6), (11, 7), (1, 2), (11, 8), (3, 4), (27, 0), (27, 1), (27, 2), (27, 3), (27, 4), (32, 0), (32, 1), (32, 2), (32, 3), (32, 4), (32, 5), (32, 6), (32, 7), (32, 8), (32, 9), (32, 10)] (by decide +kernel) (by decide +kernel)
set_option maxRecDepth 20000 in
theorem gL_law_X6_comes : GoodIn wsL_law (wsV RL 49 RX6 yX6_comes wsX6_comes) := goodIn_app (goodIn_of _ (by decide +kernel)) ggL_law_X6_comes
set_option maxRecDepth 20000 in
theorem ggL_law_X7_comes : GoodIn wsL_law wsX7_comes := goodIn_c _ [(22, 18), (5, 21), (22, 19), (22, 20), (22, 21), (0, 5), (22, 22), (12, 10), (6, 18), (6, 19), (6, 20), (28, 0), (28, 1), (28, 2), (28, 3), (28, 4), (28, 5), (28, 6), (28, 7), (28, 8), (28, 9), (28, 10), (28, 11), (28, 12), (28, 13), (28, 14), (28, 15), (28, 16), (28, 17), (28, 18), (28, 19), (28, 20), (28, 21), (28, 22), (28, 23), (28, 24), (28, 25), (28, 26), (28, 27), (28, 28), (28, 29), (28, 30), (28, 31), (28, 32), (28, 33), (28, 34)] (by decide +kernel) (by decide +kernel)
set_option maxRecDepth 20000 in
theorem gL_law_X7_comes : GoodIn wsL_law (wsV RL 53 RX7 yX7_comes wsX7_comes) := goodIn_app (goodIn_of _ (by decide +kernel)) ggL_law_X7_comes
set_option maxRecDepth 20000 in
theorem ggL_law_X6_reason : GoodIn wsL_law wsX6_reason := goodIn_c _ [(23, 2), (1, 3), (23, 3), (11, 5), (11, 6), (11, 7), (1, 2), (11, 8), (3, 4), (27, 0), (27, 1), (27, 2), (27, 3), (27, 4), (32, 0), (32, 1), (32, 2), (32, 3), (32, 4), (32, 5), (32, 6), (32, 7), (32, 8), (32, 9), (32, 10)] (by decide +kernel) (by decide +kernel)
set_option maxRecDepth 20000 in
theorem gL_law_X6_reason : GoodIn wsL_law (wsV RL 54 RX6 yX6_reason wsX6_reason) := goodIn_app (goodIn_of _ (by decide +kernel)) ggL_law_X6_reason
set_option maxRecDepth 20000 in
theorem ggL_law_X7_reason : GoodIn wsL_law wsX7_reason := goodIn_c _ [(23, 7), (5, 22), (22, 19), (22, 20), (22, 21), (0, 5), (22, 22), (12, 10), (6, 18), (6, 19), (6, 20), (28, 0), (28, 1), (28, 2), (28, 3), (28, 4), (28, 5), (28, 6), (28, 7), (28, 8), (28, 9), (28, 10), (28, 11), (28, 12), (28, 13), (28, 14), (28, 15), (28, 16), (28, 17), (28, 18), (28, 19), (28, 20), (28, 21), (28, 22), (28, 23), (28, 24), (28, 25), (28, 26), (28, 27), (28, 28), (28, 29), (28, 30), (28, 31), (28, 32), (28, 33), (28, 34)] (by decide +kernel) (by decide +kernel)
set_option maxRecDepth 20000 in
theorem gL_law_X7_reason : GoodIn wsL_law (wsV RL 57 RX7 yX7_reason wsX7_reason) := goodIn_app (goodIn_of _ (by decide +kernel)) ggL_law_X7_reason
set_option maxRecDepth 20000 in
theorem ggL_law_X6_mayFail : GoodIn wsL_law wsX6_mayFail := goodIn_c _ [(23, 11), (1, 3), (23, 12), (11, 5), (11, 6), (11, 7), (1, 2), (11, 8), (3, 4), (27, 0), (27, 1), (27, 2), (27, 3), (27, 4), (32, 0), (32, 1), (32, 2), (32, 3), (32, 4), (32, 5), (32, 6), (32, 7), (32, 8), (32, 9), (32, 10)] (by decide +kernel) (by decide +kernel)
set_option maxRecDepth 20000 in
theorem gL_law_X6_mayFail : GoodIn wsL_law (wsV RL 58 RX6 yX6_mayFail wsX6_mayFail) := goodIn_app (goodIn_of _ (by decide +kernel)) ggL_law_X6_mayFail
