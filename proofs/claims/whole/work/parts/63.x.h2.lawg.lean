set_option maxRecDepth 20000 in
theorem ggL_law_X7_mayFail : GoodIn wsL_law wsX7_mayFail := goodIn_c _ [(23, 16), (5, 23), (22, 19), (22, 20), (22, 21), (0, 5), (22, 22), (12, 10), (6, 18), (6, 19), (6, 20), (28, 0), (28, 1), (28, 2), (28, 3), (28, 4), (28, 5), (28, 6), (28, 7), (28, 8), (28, 9), (28, 10), (28, 11), (28, 12), (28, 13), (28, 14), (28, 15), (28, 16), (28, 17), (28, 18), (28, 19), (28, 20), (28, 21), (28, 22), (28, 23), (28, 24), (28, 25), (28, 26), (28, 27), (28, 28), (28, 29), (28, 30), (28, 31), (28, 32), (28, 33), (28, 34)] (by decide +kernel) (by decide +kernel)
set_option maxRecDepth 20000 in
theorem gL_law_X7_mayFail : GoodIn wsL_law (wsV RL 61 RX7 yX7_mayFail wsX7_mayFail) := goodIn_app (goodIn_of _ (by decide +kernel)) ggL_law_X7_mayFail
set_option maxRecDepth 20000 in
theorem ggL_law_X6_cast : GoodIn wsL_law wsX6_cast := goodIn_c _ [(23, 20), (1, 3), (12, 23), (23, 12), (27, 0), (27, 1), (27, 2), (27, 3), (27, 4), (32, 0), (32, 1), (32, 2), (32, 3), (32, 4), (32, 5), (32, 6), (32, 7), (32, 8), (32, 9), (32, 10)] (by decide +kernel) (by decide +kernel)
set_option maxRecDepth 20000 in
theorem gL_law_X6_cast : GoodIn wsL_law (wsV RL 62 RX6 yX6_cast wsX6_cast) := goodIn_app (goodIn_of _ (by decide +kernel)) ggL_law_X6_cast
set_option maxRecDepth 20000 in
theorem ggL_law_X7_cast : GoodIn wsL_law wsX7_cast := goodIn_c _ [(24, 0), (12, 10), (5, 23), (28, 0), (28, 1), (28, 2), (28, 3), (28, 4), (28, 5), (28, 6), (28, 7), (28, 8), (28, 9), (28, 10), (28, 11), (28, 12), (28, 13), (28, 14), (28, 15), (28, 16), (28, 17), (28, 18), (28, 19), (28, 20), (28, 21), (28, 22), (28, 23), (28, 24), (28, 25), (28, 26), (28, 27), (28, 28), (28, 29), (28, 30), (28, 31), (28, 32), (28, 33), (28, 34)] (by decide +kernel) (by decide +kernel)
set_option maxRecDepth 20000 in
theorem gL_law_X7_cast : GoodIn wsL_law (wsV RL 65 RX7 yX7_cast wsX7_cast) := goodIn_app (goodIn_of _ (by decide +kernel)) ggL_law_X7_cast
set_option maxRecDepth 20000 in
theorem ggL_law_X6_boundTo : GoodIn wsL_law wsX6_boundTo := goodIn_c _ [(24, 4), (1, 3), (24, 5), (11, 5), (11, 6), (11, 7), (1, 2), (11, 8), (3, 4), (10, 5), (10, 6), (0, 2), (10, 7), (27, 0), (27, 1), (27, 2), (27, 3), (27, 4), (32, 0), (32, 1), (32, 2), (32, 3), (32, 4), (32, 5), (32, 6), (32, 7), (32, 8), (32, 9), (32, 10)] (by decide +kernel) (by decide +kernel)
set_option maxRecDepth 20000 in
theorem gL_law_X6_boundTo : GoodIn wsL_law (wsV RL 66 RX6 yX6_boundTo wsX6_boundTo) := goodIn_app (goodIn_of _ (by decide +kernel)) ggL_law_X6_boundTo
set_option maxRecDepth 20000 in
theorem ggL_law_X7_boundTo : GoodIn wsL_law wsX7_boundTo := goodIn_c _ [(24, 9), (6, 0), (22, 19), (22, 20), (22, 21), (0, 5), (22, 22), (12, 10), (6, 18), (6, 19), (6, 20), (28, 0), (28, 1), (28, 2), (28, 3), (28, 4), (28, 5), (28, 6), (28, 7), (28, 8), (28, 9), (28, 10), (28, 11), (28, 12), (28, 13), (28, 14), (28, 15), (28, 16), (28, 17), (28, 18), (28, 19), (28, 20), (28, 21), (28, 22), (28, 23), (28, 24), (28, 25), (28, 26), (28, 27), (28, 28), (28, 29), (28, 30), (28, 31), (28, 32), (28, 33), (28, 34)] (by decide +kernel) (by decide +kernel)
set_option maxRecDepth 20000 in
theorem gL_law_X7_boundTo : GoodIn wsL_law (wsV RL 69 RX7 yX7_boundTo wsX7_boundTo) := goodIn_app (goodIn_of _ (by decide +kernel)) ggL_law_X7_boundTo
