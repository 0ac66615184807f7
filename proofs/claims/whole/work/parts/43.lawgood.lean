theorem inlX0 : ∀ w ∈ wsX00, w ∈ wsL_law := fun _ h => List.mem_append_left _ (List.mem_append_right _ h)
theorem inX0 : ∀ w ∈ wsX00, w ∈ lw_tbl := fun w h => wsL_law_in w (inlX0 w h)
theorem inlX1 : ∀ w ∈ wsX10, w ∈ wsL_law := fun _ h => List.mem_append_left _ (List.mem_append_left _ (List.mem_append_left _ (List.mem_append_left _ (List.mem_append_right _ h))))
theorem inX1 : ∀ w ∈ wsX10, w ∈ lw_tbl := fun w h => wsL_law_in w (inlX1 w h)
theorem inlX2 : ∀ w ∈ wsX20, w ∈ wsL_law := fun _ h => List.mem_append_left _ (List.mem_append_left _ (List.mem_append_right _ h))
theorem inX2 : ∀ w ∈ wsX20, w ∈ lw_tbl := fun w h => wsL_law_in w (inlX2 w h)
theorem inlX3 : ∀ w ∈ wsX30, w ∈ wsL_law := fun _ h => List.mem_append_left _ (List.mem_append_left _ (List.mem_append_left _ (List.mem_append_left _ (List.mem_append_left _ (List.mem_append_right _ h)))))
theorem inX3 : ∀ w ∈ wsX30, w ∈ lw_tbl := fun w h => wsL_law_in w (inlX3 w h)
theorem inlX4 : ∀ w ∈ wsX40, w ∈ wsL_law := fun _ h => List.mem_append_left _ (List.mem_append_left _ (List.mem_append_left _ (List.mem_append_right _ h)))
theorem inX4 : ∀ w ∈ wsX40, w ∈ lw_tbl := fun w h => wsL_law_in w (inlX4 w h)
theorem inlX5 : ∀ w ∈ wsX50, w ∈ wsL_law := fun _ h => List.mem_append_left _ (List.mem_append_left _ (List.mem_append_left _ (List.mem_append_left _ (List.mem_append_left _ (List.mem_append_left _ (List.mem_append_left _ (List.mem_append_right _ h)))))))
theorem inX5 : ∀ w ∈ wsX50, w ∈ lw_tbl := fun w h => wsL_law_in w (inlX5 w h)
theorem inlX6 : ∀ w ∈ wsX60, w ∈ wsL_law := fun _ h => List.mem_append_left _ (List.mem_append_left _ (List.mem_append_left _ (List.mem_append_left _ (List.mem_append_left _ (List.mem_append_left _ (List.mem_append_right _ h))))))
theorem inX6 : ∀ w ∈ wsX60, w ∈ lw_tbl := fun w h => wsL_law_in w (inlX6 w h)
set_option maxRecDepth 20000 in
theorem ggL_law_X5_init : GoodIn wsL_law wsX5_init := goodIn_r _ [9, 10, 11, 12, 13, 14, 15, 16, 17, 18, 19, 20, 21, 22, 23, 24, 25, 26, 27, 28, 29, 30, 31, 32, 33, 34, 35, 36, 37, 38, 39, 40, 41, 42, 43, 44, 45, 46, 47, 48, 49, 50, 51, 52, 53, 54, 55, 56, 57, 58, 59, 60, 61, 62, 63, 64, 65, 66, 67, 68, 69, 70, 71, 72, 73, 74, 75, 76, 77, 78, 79, 80, 81, 82, 83, 84, 85, 86, 87, 88, 89, 90, 91, 92, 93, 94, 95, 96, 970, 971, 972, 973, 974, 975, 976, 977, 978, 979, 980, 981, 982, 983, 984, 985, 941, 942, 943, 944, 945, 946, 947, 948, 949, 986, 987, 988, 989, 990, 991, 992, 993, 994, 995, 996, 997, 998, 999, 1000, 1001, 1002] (by decide +kernel) (by decide +kernel)
set_option maxRecDepth 20000 in
theorem gL_law_X5_init : GoodIn wsL_law (wsX5_init) := ggL_law_X5_init
set_option maxRecDepth 20000 in
theorem ggL_law_X6_init : GoodIn wsL_law wsX6_init := goodIn_r _ [99, 100, 11, 12, 32, 101, 102, 103, 104, 105, 106, 107, 108, 109, 110, 111, 112, 113, 114, 115, 5, 116, 950, 951, 952, 953, 954, 955, 956, 957, 958, 959, 960, 961, 962, 963, 964, 965, 966, 967, 968, 969] (by decide +kernel) (by decide +kernel)
set_option maxRecDepth 20000 in
theorem gL_law_X6_init : GoodIn wsL_law (wsX6_init) := ggL_law_X6_init
set_option maxRecDepth 20000 in
theorem ggL_law_X5_build : GoodIn wsL_law wsX5_build := goodIn_r _ [120, 16, 121, 122, 2, 123, 124, 125, 126, 127, 34, 128, 63, 15, 64, 65, 66, 67, 39, 68, 69, 70, 71, 941, 942, 943, 944, 945, 946, 947, 948, 949, 970, 971, 972, 973, 974, 975, 976, 977, 978, 979, 980, 981, 982, 983, 984, 985] (by decide +kernel) (by decide +kernel)
set_option maxRecDepth 20000 in
theorem gL_law_X5_build : GoodIn wsL_law (wsV RL 13 RX5 yX5_build wsX5_build) := goodIn_app (goodIn_of _ (by decide +kernel)) ggL_law_X5_build
set_option maxRecDepth 20000 in
theorem ggL_law_X6_build : GoodIn wsL_law wsX6_build := goodIn_r _ [132, 101, 133, 134, 5, 135, 136, 137, 138, 139, 104, 140, 113, 114, 115, 116, 950, 951, 952, 953, 954, 955, 956, 957, 958, 959, 960, 961, 962, 963, 964, 965, 966, 967, 968, 969] (by decide +kernel) (by decide +kernel)
set_option maxRecDepth 20000 in
theorem gL_law_X6_build : GoodIn wsL_law (wsV RL 17 RX6 yX6_build wsX6_build) := goodIn_app (goodIn_of _ (by decide +kernel)) ggL_law_X6_build
set_option maxRecDepth 20000 in
theorem ggL_law_X5_rise : GoodIn wsL_law wsX5_rise := goodIn_r _ [144, 16, 145, 15, 146, 147, 66, 121, 122, 2, 123, 124, 125, 126, 127, 34, 128, 941, 942, 943, 944, 945, 946, 947, 948, 949, 970, 971, 972, 973, 974, 975, 976, 977, 978, 979, 980, 981, 982, 983, 984, 985] (by decide +kernel) (by decide +kernel)
set_option maxRecDepth 20000 in
theorem gL_law_X5_rise : GoodIn wsL_law (wsV RL 18 RX5 yX5_rise wsX5_rise) := goodIn_app (goodIn_of _ (by decide +kernel)) ggL_law_X5_rise
set_option maxRecDepth 20000 in
theorem ggL_law_X6_rise : GoodIn wsL_law wsX6_rise := goodIn_r _ [151, 152, 153, 154, 5, 155, 101, 133, 134, 135, 156, 157, 158, 159, 136, 137, 138, 139, 104, 140, 950, 951, 952, 953, 954, 955, 956, 957, 958, 959, 960, 961, 962, 963, 964, 965, 966, 967, 968, 969] (by decide +kernel) (by decide +kernel)
set_option maxRecDepth 20000 in
theorem gL_law_X6_rise : GoodIn wsL_law (wsV RL 22 RX6 yX6_rise wsX6_rise) := goodIn_app (goodIn_of _ (by decide +kernel)) ggL_law_X6_rise
set_option maxRecDepth 20000 in
theorem ggL_law_X5_stepIs : GoodIn wsL_law wsX5_stepIs := goodIn_r _ [163, 16, 145, 15, 146, 147, 66, 121, 122, 2, 123, 124, 125, 126, 127, 34, 128, 164, 165, 166, 41, 44, 941, 942, 943, 944, 945, 946, 947, 948, 949, 970, 971, 972, 973, 974, 975, 976, 977, 978, 979, 980, 981, 982, 983, 984, 985] (by decide +kernel) (by decide +kernel)
set_option maxRecDepth 20000 in
theorem gL_law_X5_stepIs : GoodIn wsL_law (wsV RL 23 RX5 yX5_stepIs wsX5_stepIs) := goodIn_app (goodIn_of _ (by decide +kernel)) ggL_law_X5_stepIs
set_option maxRecDepth 20000 in
theorem ggL_law_X6_stepIs : GoodIn wsL_law wsX6_stepIs := goodIn_r _ [170, 101, 152, 153, 154, 5, 155, 133, 134, 135, 136, 137, 138, 139, 104, 140, 171, 172, 173, 174, 175, 176, 177, 178, 950, 951, 952, 953, 954, 955, 956, 957, 958, 959, 960, 961, 962, 963, 964, 965, 966, 967, 968, 969] (by decide +kernel) (by decide +kernel)
set_option maxRecDepth 20000 in
theorem gL_law_X6_stepIs : GoodIn wsL_law (wsV RL 26 RX6 yX6_stepIs wsX6_stepIs) := goodIn_app (goodIn_of _ (by decide +kernel)) ggL_law_X6_stepIs
set_option maxRecDepth 20000 in
theorem ggL_law_X5_hide : GoodIn wsL_law wsX5_hide := goodIn_r _ [182, 16, 145, 15, 146, 147, 66, 124, 125, 126, 2, 127, 34, 128, 941, 942, 943, 944, 945, 946, 947, 948, 949, 970, 971, 972, 973, 974, 975, 976, 977, 978, 979, 980, 981, 982, 983, 984, 985] (by decide +kernel) (by decide +kernel)
set_option maxRecDepth 20000 in
theorem gL_law_X5_hide : GoodIn wsL_law (wsV RL 27 RX5 yX5_hide wsX5_hide) := goodIn_app (goodIn_of _ (by decide +kernel)) ggL_law_X5_hide
set_option maxRecDepth 20000 in
theorem ggL_law_X6_hide : GoodIn wsL_law wsX6_hide := goodIn_r _ [186, 152, 153, 154, 5, 155, 101, 133, 134, 135, 156, 157, 158, 159, 136, 137, 138, 139, 104, 140, 950, 951, 952, 953, 954, 955, 956, 957, 958, 959, 960, 961, 962, 963, 964, 965, 966, 967, 968, 969] (by decide +kernel) (by decide +kernel)
set_option maxRecDepth 20000 in
theorem gL_law_X6_hide : GoodIn wsL_law (wsV RL 30 RX6 yX6_hide wsX6_hide) := goodIn_app (goodIn_of _ (by decide +kernel)) ggL_law_X6_hide
set_option maxRecDepth 20000 in
theorem ggL_law_X5_climber : GoodIn wsL_law wsX5_climber := goodIn_r _ [190, 16, 121, 122, 2, 123, 145, 15, 146, 147, 66, 124, 125, 126, 127, 34, 128, 191, 192, 193, 41, 42, 43, 44, 45, 941, 942, 943, 944, 945, 946, 947, 948, 949, 970, 971, 972, 973, 974, 975, 976, 977, 978, 979, 980, 981, 982, 983, 984, 985] (by decide +kernel) (by decide +kernel)
set_option maxRecDepth 20000 in
theorem gL_law_X5_climber : GoodIn wsL_law (wsV RL 31 RX5 yX5_climber wsX5_climber) := goodIn_app (goodIn_of _ (by decide +kernel)) ggL_law_X5_climber
set_option maxRecDepth 20000 in
theorem ggL_law_X6_climber : GoodIn wsL_law wsX6_climber := goodIn_r _ [197, 101, 198, 199, 5, 200, 133, 134, 135, 152, 153, 154, 155, 136, 137, 138, 139, 104, 140, 201, 202, 203, 204, 950, 951, 952, 953, 954, 955, 956, 957, 958, 959, 960, 961, 962, 963, 964, 965, 966, 967, 968, 969] (by decide +kernel) (by decide +kernel)
set_option maxRecDepth 20000 in
theorem gL_law_X6_climber : GoodIn wsL_law (wsV RL 34 RX6 yX6_climber wsX6_climber) := goodIn_app (goodIn_of _ (by decide +kernel)) ggL_law_X6_climber
set_option maxRecDepth 20000 in
theorem ggL_law_X5_climberIs : GoodIn wsL_law wsX5_climberIs := goodIn_r _ [208, 16, 209, 15, 210, 211, 41, 121, 122, 2, 123, 124, 125, 126, 127, 34, 128, 212, 213, 214, 43, 42, 40, 215, 216, 941, 942, 943, 944, 945, 946, 947, 948, 949, 970, 971, 972, 973, 974, 975, 976, 977, 978, 979, 980, 981, 982, 983, 984, 985] (by decide +kernel) (by decide +kernel)
set_option maxRecDepth 20000 in
theorem gL_law_X5_climberIs : GoodIn wsL_law (wsV RL 35 RX5 yX5_climberIs wsX5_climberIs) := goodIn_app (goodIn_of _ (by decide +kernel)) ggL_law_X5_climberIs
set_option maxRecDepth 20000 in
theorem ggL_law_X6_climberIs : GoodIn wsL_law wsX6_climberIs := goodIn_r _ [220, 221, 222, 223, 5, 224, 101, 133, 134, 135, 136, 137, 138, 139, 104, 140, 175, 176, 177, 178, 225, 226, 227, 228, 950, 951, 952, 953, 954, 955, 956, 957, 958, 959, 960, 961, 962, 963, 964, 965, 966, 967, 968, 969] (by decide +kernel) (by decide +kernel)
set_option maxRecDepth 20000 in
theorem gL_law_X6_climberIs : GoodIn wsL_law (wsV RL 38 RX6 yX6_climberIs wsX6_climberIs) := goodIn_app (goodIn_of _ (by decide +kernel)) ggL_law_X6_climberIs
set_option maxRecDepth 20000 in
theorem ggL_law_X5_become : GoodIn wsL_law wsX5_become := goodIn_r _ [232, 16, 209, 15, 210, 211, 41, 121, 122, 2, 123, 124, 125, 126, 127, 34, 128, 941, 942, 943, 944, 945, 946, 947, 948, 949, 970, 971, 972, 973, 974, 975, 976, 977, 978, 979, 980, 981, 982, 983, 984, 985] (by decide +kernel) (by decide +kernel)
set_option maxRecDepth 20000 in
theorem gL_law_X5_become : GoodIn wsL_law (wsV RL 39 RX5 yX5_become wsX5_become) := goodIn_app (goodIn_of _ (by decide +kernel)) ggL_law_X5_become
set_option maxRecDepth 20000 in
theorem ggL_law_X6_become : GoodIn wsL_law wsX6_become := goodIn_r _ [236, 221, 222, 223, 5, 224, 101, 133, 134, 135, 198, 199, 200, 136, 137, 138, 139, 104, 140, 201, 202, 203, 204, 156, 157, 158, 159, 950, 951, 952, 953, 954, 955, 956, 957, 958, 959, 960, 961, 962, 963, 964, 965, 966, 967, 968, 969] (by decide +kernel) (by decide +kernel)
set_option maxRecDepth 20000 in
theorem gL_law_X6_become : GoodIn wsL_law (wsV RL 42 RX6 yX6_become wsX6_become) := goodIn_app (goodIn_of _ (by decide +kernel)) ggL_law_X6_become
set_option maxRecDepth 20000 in
theorem ggL_law_X5_as : GoodIn wsL_law wsX5_as := goodIn_r _ [240, 16, 209, 15, 210, 211, 41, 121, 122, 2, 123, 124, 125, 126, 127, 34, 128, 241, 242, 243, 244, 941, 942, 943, 944, 945, 946, 947, 948, 949, 970, 971, 972, 973, 974, 975, 976, 977, 978, 979, 980, 981, 982, 983, 984, 985] (by decide +kernel) (by decide +kernel)
set_option maxRecDepth 20000 in
theorem gL_law_X5_as : GoodIn wsL_law (wsV RL 43 RX5 yX5_as wsX5_as) := goodIn_app (goodIn_of _ (by decide +kernel)) ggL_law_X5_as
set_option maxRecDepth 20000 in
theorem ggL_law_X6_as : GoodIn wsL_law wsX6_as := goodIn_r _ [248, 221, 222, 223, 5, 224, 101, 133, 134, 135, 136, 137, 138, 139, 104, 140, 175, 176, 177, 178, 249, 250, 251, 950, 951, 952, 953, 954, 955, 956, 957, 958, 959, 960, 961, 962, 963, 964, 965, 966, 967, 968, 969] (by decide +kernel) (by decide +kernel)
set_option maxRecDepth 20000 in
theorem gL_law_X6_as : GoodIn wsL_law (wsV RL 46 RX6 yX6_as wsX6_as) := goodIn_app (goodIn_of _ (by decide +kernel)) ggL_law_X6_as
set_option maxRecDepth 20000 in
theorem ggL_law_X5_carry : GoodIn wsL_law wsX5_carry := goodIn_r _ [255, 16, 209, 15, 210, 211, 41, 145, 146, 147, 66, 124, 125, 126, 2, 127, 34, 128, 941, 942, 943, 944, 945, 946, 947, 948, 949, 970, 971, 972, 973, 974, 975, 976, 977, 978, 979, 980, 981, 982, 983, 984, 985] (by decide +kernel) (by decide +kernel)
set_option maxRecDepth 20000 in
theorem gL_law_X5_carry : GoodIn wsL_law (wsV RL 47 RX5 yX5_carry wsX5_carry) := goodIn_app (goodIn_of _ (by decide +kernel)) ggL_law_X5_carry
set_option maxRecDepth 20000 in
theorem ggL_law_X6_carry : GoodIn wsL_law wsX6_carry := goodIn_r _ [259, 221, 222, 223, 5, 224, 101, 133, 134, 135, 152, 153, 154, 155, 156, 157, 158, 159, 136, 137, 138, 139, 104, 140, 950, 951, 952, 953, 954, 955, 956, 957, 958, 959, 960, 961, 962, 963, 964, 965, 966, 967, 968, 969] (by decide +kernel) (by decide +kernel)
set_option maxRecDepth 20000 in
theorem gL_law_X6_carry : GoodIn wsL_law (wsV RL 50 RX6 yX6_carry wsX6_carry) := goodIn_app (goodIn_of _ (by decide +kernel)) ggL_law_X6_carry
set_option maxRecDepth 20000 in
theorem ggL_law_X5_height : GoodIn wsL_law wsX5_height := goodIn_r _ [263, 16, 209, 15, 210, 211, 41, 121, 122, 2, 123, 124, 125, 126, 127, 34, 128, 941, 942, 943, 944, 945, 946, 947, 948, 949, 970, 971, 972, 973, 974, 975, 976, 977, 978, 979, 980, 981, 982, 983, 984, 985] (by decide +kernel) (by decide +kernel)
set_option maxRecDepth 20000 in
theorem gL_law_X5_height : GoodIn wsL_law (wsV RL 51 RX5 yX5_height wsX5_height) := goodIn_app (goodIn_of _ (by decide +kernel)) ggL_law_X5_height
set_option maxRecDepth 20000 in
theorem ggL_law_X6_height : GoodIn wsL_law wsX6_height := goodIn_r _ [267, 221, 222, 223, 5, 224, 101, 133, 134, 135, 156, 157, 158, 159, 136, 137, 138, 139, 104, 140, 950, 951, 952, 953, 954, 955, 956, 957, 958, 959, 960, 961, 962, 963, 964, 965, 966, 967, 968, 969] (by decide +kernel) (by decide +kernel)
set_option maxRecDepth 20000 in
theorem gL_law_X6_height : GoodIn wsL_law (wsV RL 54 RX6 yX6_height wsX6_height) := goodIn_app (goodIn_of _ (by decide +kernel)) ggL_law_X6_height
set_option maxRecDepth 20000 in
theorem ggL_law_X5_feed : GoodIn wsL_law wsX5_feed := goodIn_r _ [271, 16, 121, 122, 2, 123, 124, 125, 126, 127, 34, 128, 941, 942, 943, 944, 945, 946, 947, 948, 949, 970, 971, 972, 973, 974, 975, 976, 977, 978, 979, 980, 981, 982, 983, 984, 985] (by decide +kernel) (by decide +kernel)
set_option maxRecDepth 20000 in
theorem gL_law_X5_feed : GoodIn wsL_law (wsV RL 57 RX5 yX5_feed wsX5_feed) := goodIn_app (goodIn_of _ (by decide +kernel)) ggL_law_X5_feed
set_option maxRecDepth 20000 in
theorem ggL_law_X6_feed : GoodIn wsL_law wsX6_feed := goodIn_r _ [275, 101, 276, 133, 134, 5, 135, 136, 137, 138, 139, 104, 140, 950, 951, 952, 953, 954, 955, 956, 957, 958, 959, 960, 961, 962, 963, 964, 965, 966, 967, 968, 969] (by decide +kernel) (by decide +kernel)
set_option maxRecDepth 20000 in
theorem gL_law_X6_feed : GoodIn wsL_law (wsV RL 61 RX6 yX6_feed wsX6_feed) := goodIn_app (goodIn_of _ (by decide +kernel)) ggL_law_X6_feed
set_option maxRecDepth 20000 in
theorem ggL_law_X5_text : GoodIn wsL_law wsX5_text := goodIn_r _ [280, 22, 16, 121, 122, 2, 123, 124, 125, 126, 127, 34, 128, 281, 21, 282, 283, 284, 285, 286, 287, 78, 77, 288, 289, 290, 291, 79, 80, 76, 292, 48, 293, 294, 60, 295, 296, 297, 298, 299, 300, 301, 302, 303, 304, 305, 306, 307, 59, 308, 309, 310, 311, 312, 313, 314, 315, 316, 317, 318, 319, 320, 321, 322, 323, 324, 325, 326, 327, 328, 329, 330, 331, 332, 333, 334, 335, 336, 337, 338, 339, 340, 341, 342, 343, 344, 345, 346, 347, 348, 349, 350, 351, 352, 353, 354, 355, 356, 357, 358, 359, 360, 361, 362, 363, 364, 365, 366, 367, 368, 369, 370, 371, 372, 373, 374, 375, 376, 377, 378, 379, 380, 381, 382, 383, 384, 385, 386, 387, 388, 389, 390, 391, 392, 393, 394, 395, 396, 397, 398, 399, 400, 401, 402, 403, 404, 405, 406, 407, 408, 409, 410, 411, 412, 413, 414, 15, 415, 416, 49, 50, 417, 418, 419, 420, 941, 942, 943, 944, 945, 946, 947, 948, 949, 970, 971, 972, 973, 974, 975, 976, 977, 978, 979, 980, 981, 982, 983, 984, 985, 986, 987, 988, 989, 990, 1000, 1001, 1002] (by decide +kernel) (by decide +kernel)
set_option maxRecDepth 20000 in
theorem gL_law_X5_text : GoodIn wsL_law (wsV RL 62 RX5 yX5_text wsX5_text) := goodIn_app (goodIn_of _ (by decide +kernel)) ggL_law_X5_text
set_option maxRecDepth 20000 in
theorem ggL_law_X6_text : GoodIn wsL_law wsX6_text := goodIn_r _ [424, 425, 426, 427, 428, 101, 105, 133, 134, 5, 135, 136, 137, 138, 139, 104, 140, 429, 430, 431, 432, 433, 434, 435, 436, 437, 438, 439, 440, 441, 442, 443, 444, 445, 446, 447, 448, 449, 450, 451, 452, 453, 454, 455, 456, 457, 458, 459, 460, 461, 462, 463, 464, 465, 466, 467, 468, 950, 951, 952, 953, 954, 955, 956, 957, 958, 959, 960, 961, 962, 963, 964, 965, 966, 967, 968, 969] (by decide +kernel) (by decide +kernel)
set_option maxRecDepth 20000 in
theorem gL_law_X6_text : GoodIn wsL_law (wsV RL 65 RX6 yX6_text wsX6_text) := goodIn_app (goodIn_of _ (by decide +kernel)) ggL_law_X6_text
set_option maxRecDepth 20000 in
theorem ggL_law_X5_untell : GoodIn wsL_law wsX5_untell := goodIn_r _ [472, 16, 121, 122, 2, 123, 124, 125, 126, 127, 34, 128, 414, 15, 415, 416, 49, 50, 473, 48, 474, 475, 60, 292, 293, 294, 941, 942, 943, 944, 945, 946, 947, 948, 949, 970, 971, 972, 973, 974, 975, 976, 977, 978, 979, 980, 981, 982, 983, 984, 985, 1000, 1001, 1002] (by decide +kernel) (by decide +kernel)
set_option maxRecDepth 20000 in
theorem gL_law_X5_untell : GoodIn wsL_law (wsV RL 66 RX5 yX5_untell wsX5_untell) := goodIn_app (goodIn_of _ (by decide +kernel)) ggL_law_X5_untell
set_option maxRecDepth 20000 in
theorem ggL_law_X6_untell : GoodIn wsL_law wsX6_untell := goodIn_r _ [479, 101, 133, 134, 5, 135, 136, 137, 138, 139, 104, 140, 480, 481, 482, 483, 950, 951, 952, 953, 954, 955, 956, 957, 958, 959, 960, 961, 962, 963, 964, 965, 966, 967, 968, 969] (by decide +kernel) (by decide +kernel)
set_option maxRecDepth 20000 in
theorem gL_law_X6_untell : GoodIn wsL_law (wsV RL 69 RX6 yX6_untell wsX6_untell) := goodIn_app (goodIn_of _ (by decide +kernel)) ggL_law_X6_untell
set_option maxRecDepth 20000 in
theorem ggL_law_X5_law : GoodIn wsL_law wsX5_law := goodIn_r _ [487, 16, 121, 122, 2, 123, 124, 125, 126, 127, 34, 128, 488, 15, 489, 490, 49, 473, 48, 474, 475, 60, 491, 492, 493, 59, 61, 494, 495, 496, 497, 498, 499, 285, 286, 287, 500, 350, 351, 501, 502, 503, 50, 941, 942, 943, 944, 945, 946, 947, 948, 949, 970, 971, 972, 973, 974, 975, 976, 977, 978, 979, 980, 981, 982, 983, 984, 985, 1000, 1001, 1002] (by decide +kernel) (by decide +kernel)
set_option maxRecDepth 20000 in
theorem gL_law_X5_law : GoodIn wsL_law (wsV RL 70 RX5 yX5_law wsX5_law) := goodIn_app (goodIn_of _ (by decide +kernel)) ggL_law_X5_law
set_option maxRecDepth 20000 in
theorem ggL_law_X6_law : GoodIn wsL_law wsX6_law := goodIn_r _ [507, 133, 134, 5, 135, 136, 137, 138, 139, 104, 140, 508, 509, 510, 511, 106, 480, 481, 482, 483, 101, 512, 513, 514, 515, 107, 516, 517, 518, 519, 520, 521, 522, 523, 524, 525, 950, 951, 952, 953, 954, 955, 956, 957, 958, 959, 960, 961, 962, 963, 964, 965, 966, 967, 968, 969] (by decide +kernel) (by decide +kernel)
set_option maxRecDepth 20000 in
theorem gL_law_X6_law : GoodIn wsL_law (wsV RL 74 RX6 yX6_law wsX6_law) := goodIn_app (goodIn_of _ (by decide +kernel)) ggL_law_X6_law
set_option maxRecDepth 20000 in
theorem ggL_law_X5_minutes : GoodIn wsL_law wsX5_minutes := goodIn_r _ [529, 16, 121, 122, 2, 123, 124, 125, 126, 127, 34, 128, 530, 15, 531, 532, 41, 40, 533, 534, 535, 536, 44, 45, 537, 212, 213, 214, 43, 42, 215, 216, 538, 539, 540, 541, 67, 39, 542, 488, 489, 490, 49, 473, 48, 474, 475, 60, 491, 492, 493, 59, 61, 494, 495, 496, 497, 498, 499, 285, 286, 287, 500, 350, 351, 543, 544, 545, 546, 547, 548, 549, 550, 66, 551, 552, 553, 554, 555, 556, 557, 941, 942, 943, 944, 945, 946, 947, 948, 949, 970, 971, 972, 973, 974, 975, 976, 977, 978, 979, 980, 981, 982, 983, 984, 985, 1000, 1001, 1002] (by decide +kernel) (by decide +kernel)
set_option maxRecDepth 20000 in
theorem gL_law_X5_minutes : GoodIn wsL_law (wsV RL 75 RX5 yX5_minutes wsX5_minutes) := goodIn_app (goodIn_of _ (by decide +kernel)) ggL_law_X5_minutes
set_option maxRecDepth 20000 in
theorem ggL_law_X6_minutes : GoodIn wsL_law wsX6_minutes := goodIn_r _ [561, 562, 563, 564, 5, 565, 101, 133, 134, 135, 136, 137, 138, 139, 104, 140, 566, 567, 568, 569, 570, 571, 572, 573, 225, 226, 227, 228, 175, 176, 177, 178, 574, 575, 576, 577, 508, 509, 510, 511, 106, 480, 481, 482, 483, 512, 513, 514, 515, 107, 516, 517, 518, 519, 520, 521, 201, 202, 203, 204, 578, 579, 580, 581, 950, 951, 952, 953, 954, 955, 956, 957, 958, 959, 960, 961, 962, 963, 964, 965, 966, 967, 968, 969] (by decide +kernel) (by decide +kernel)
set_option maxRecDepth 20000 in
theorem gL_law_X6_minutes : GoodIn wsL_law (wsV RL 78 RX6 yX6_minutes wsX6_minutes) := goodIn_app (goodIn_of _ (by decide +kernel)) ggL_law_X6_minutes
set_option maxRecDepth 20000 in
theorem ggL_law_X5_loose : GoodIn wsL_law wsX5_loose := goodIn_r _ [585, 16, 121, 122, 2, 123, 124, 125, 126, 127, 34, 128, 586, 15, 587, 588, 41, 66, 44, 589, 590, 591, 592, 51, 593, 530, 531, 532, 40, 533, 534, 535, 536, 45, 537, 212, 213, 214, 43, 42, 215, 216, 538, 539, 540, 541, 67, 39, 542, 488, 489, 490, 49, 473, 48, 474, 475, 60, 491, 492, 493, 59, 61, 494, 495, 496, 497, 498, 499, 285, 286, 287, 500, 350, 351, 543, 544, 545, 546, 547, 548, 549, 550, 551, 552, 553, 554, 555, 556, 557, 941, 942, 943, 944, 945, 946, 947, 948, 949, 970, 971, 972, 973, 974, 975, 976, 977, 978, 979, 980, 981, 982, 983, 984, 985, 1000, 1001, 1002] (by decide +kernel) (by decide +kernel)
set_option maxRecDepth 20000 in
theorem gL_law_X5_loose : GoodIn wsL_law (wsV RL 79 RX5 yX5_loose wsX5_loose) := goodIn_app (goodIn_of _ (by decide +kernel)) ggL_law_X5_loose
set_option maxRecDepth 20000 in
theorem ggL_law_X6_loose : GoodIn wsL_law wsX6_loose := goodIn_r _ [597, 101, 562, 563, 564, 5, 565, 133, 134, 135, 136, 137, 138, 139, 104, 140, 598, 599, 600, 601, 602, 201, 202, 203, 204, 566, 567, 568, 569, 570, 571, 572, 573, 225, 226, 227, 228, 175, 176, 177, 178, 574, 575, 576, 577, 508, 509, 510, 511, 106, 480, 481, 482, 483, 512, 513, 514, 515, 107, 516, 517, 518, 519, 520, 521, 578, 579, 580, 581, 950, 951, 952, 953, 954, 955, 956, 957, 958, 959, 960, 961, 962, 963, 964, 965, 966, 967, 968, 969] (by decide +kernel) (by decide +kernel)
set_option maxRecDepth 20000 in
theorem gL_law_X6_loose : GoodIn wsL_law (wsV RL 82 RX6 yX6_loose wsX6_loose) := goodIn_app (goodIn_of _ (by decide +kernel)) ggL_law_X6_loose
set_option maxRecDepth 20000 in
theorem ggL_law_X5_seed : GoodIn wsL_law wsX5_seed := goodIn_r _ [606, 16, 941, 942, 943, 944, 945, 946, 947, 948, 949, 970, 971, 972, 973, 974, 975, 976, 977, 978, 979, 980, 981, 982, 983, 984, 985] (by decide +kernel) (by decide +kernel)
set_option maxRecDepth 20000 in
theorem gL_law_X5_seed : GoodIn wsL_law (wsV RL 83 RX5 yX5_seed wsX5_seed) := goodIn_app (goodIn_of _ (by decide +kernel)) ggL_law_X5_seed
set_option maxRecDepth 20000 in
theorem ggL_law_X6_seed : GoodIn wsL_law wsX6_seed := goodIn_r _ [610, 156, 157, 158, 5, 159, 101, 950, 951, 952, 953, 954, 955, 956, 957, 958, 959, 960, 961, 962, 963, 964, 965, 966, 967, 968, 969] (by decide +kernel) (by decide +kernel)
set_option maxRecDepth 20000 in
theorem gL_law_X6_seed : GoodIn wsL_law (wsV RL 86 RX6 yX6_seed wsX6_seed) := goodIn_app (goodIn_of _ (by decide +kernel)) ggL_law_X6_seed
set_option maxRecDepth 20000 in
theorem ggL_law_X5_then : GoodIn wsL_law wsX5_then := goodIn_r _ [614, 16, 18, 121, 122, 2, 123, 209, 15, 210, 211, 41, 124, 125, 126, 127, 34, 128, 615, 616, 617, 66, 39, 618, 289, 290, 291, 67, 40, 42, 43, 44, 45, 49, 50, 417, 48, 418, 419, 60, 59, 420, 619, 620, 621, 533, 534, 535, 536, 537, 212, 213, 214, 215, 216, 538, 539, 540, 541, 542, 488, 489, 490, 473, 474, 475, 491, 492, 493, 61, 494, 495, 496, 497, 498, 499, 285, 286, 287, 500, 350, 351, 543, 544, 545, 546, 547, 548, 549, 550, 551, 552, 553, 554, 941, 942, 943, 944, 945, 946, 947, 948, 949, 970, 971, 972, 973, 974, 975, 976, 977, 978, 979, 980, 981, 982, 983, 984, 985, 1000, 1001, 1002] (by decide +kernel) (by decide +kernel)
set_option maxRecDepth 20000 in
theorem gL_law_X5_then : GoodIn wsL_law (wsV RL 87 RX5 yX5_then wsX5_then) := goodIn_app (goodIn_of _ (by decide +kernel)) ggL_law_X5_then
set_option maxRecDepth 20000 in
theorem ggL_law_X6_then : GoodIn wsL_law wsX6_then := goodIn_r _ [625, 133, 134, 5, 135, 221, 222, 223, 224, 101, 136, 137, 138, 139, 104, 140, 626, 627, 628, 629, 103, 566, 567, 568, 569, 570, 571, 572, 573, 225, 226, 227, 228, 175, 176, 177, 178, 574, 575, 576, 577, 508, 509, 510, 511, 106, 480, 481, 482, 483, 512, 513, 514, 515, 107, 516, 517, 518, 519, 520, 521, 201, 202, 203, 204, 630, 631, 632, 633, 950, 951, 952, 953, 954, 955, 956, 957, 958, 959, 960, 961, 962, 963, 964, 965, 966, 967, 968, 969] (by decide +kernel) (by decide +kernel)
set_option maxRecDepth 20000 in
theorem gL_law_X6_then : GoodIn wsL_law (wsV RL 91 RX6 yX6_then wsX6_then) := goodIn_app (goodIn_of _ (by decide +kernel)) ggL_law_X6_then
set_option maxRecDepth 20000 in
theorem ggL_law_X5_meet : GoodIn wsL_law wsX5_meet := goodIn_r _ [637, 18, 16, 638, 639, 640, 2, 641, 209, 15, 210, 211, 41, 124, 125, 126, 127, 34, 128, 615, 616, 617, 66, 39, 618, 289, 290, 291, 67, 40, 42, 43, 44, 45, 49, 50, 417, 48, 418, 419, 60, 59, 420, 642, 643, 644, 645, 646, 647, 648, 537, 212, 213, 214, 215, 216, 547, 548, 549, 550, 551, 552, 553, 554, 941, 942, 943, 944, 945, 946, 947, 948, 949, 970, 971, 972, 973, 974, 975, 976, 977, 978, 979, 980, 981, 982, 983, 984, 985, 1000, 1001, 1002] (by decide +kernel) (by decide +kernel)
set_option maxRecDepth 20000 in
theorem gL_law_X5_meet : GoodIn wsL_law (wsV RL 92 RX5 yX5_meet wsX5_meet) := goodIn_app (goodIn_of _ (by decide +kernel)) ggL_law_X5_meet
set_option maxRecDepth 20000 in
theorem ggL_law_X6_meet : GoodIn wsL_law wsX6_meet := goodIn_r _ [652, 221, 222, 223, 5, 224, 101, 133, 134, 135, 136, 137, 138, 139, 104, 140, 653, 654, 655, 656, 626, 627, 628, 629, 103, 175, 176, 177, 178, 566, 567, 568, 569, 570, 571, 572, 573, 225, 226, 227, 228, 574, 575, 576, 577, 508, 509, 510, 511, 106, 480, 481, 482, 483, 512, 513, 514, 515, 107, 516, 517, 518, 519, 520, 521, 201, 202, 203, 204, 630, 631, 632, 633, 950, 951, 952, 953, 954, 955, 956, 957, 958, 959, 960, 961, 962, 963, 964, 965, 966, 967, 968, 969] (by decide +kernel) (by decide +kernel)
set_option maxRecDepth 20000 in
theorem gL_law_X6_meet : GoodIn wsL_law (wsV RL 95 RX6 yX6_meet wsX6_meet) := goodIn_app (goodIn_of _ (by decide +kernel)) ggL_law_X6_meet
set_option maxRecDepth 20000 in
theorem ggL_law_X5_lap : GoodIn wsL_law wsX5_lap := goodIn_r _ [660, 16, 18, 209, 15, 210, 211, 41, 121, 122, 2, 123, 124, 125, 126, 127, 34, 128, 615, 616, 617, 66, 39, 618, 289, 290, 291, 67, 40, 42, 43, 44, 45, 49, 50, 417, 48, 418, 419, 60, 59, 420, 619, 620, 621, 533, 534, 535, 536, 537, 212, 213, 214, 215, 216, 538, 539, 540, 541, 542, 488, 489, 490, 473, 474, 475, 491, 492, 493, 61, 494, 495, 496, 497, 498, 499, 285, 286, 287, 500, 350, 351, 543, 544, 545, 546, 547, 548, 549, 550, 551, 552, 553, 554, 941, 942, 943, 944, 945, 946, 947, 948, 949, 970, 971, 972, 973, 974, 975, 976, 977, 978, 979, 980, 981, 982, 983, 984, 985, 1000, 1001, 1002] (by decide +kernel) (by decide +kernel)
set_option maxRecDepth 20000 in
theorem gL_law_X5_lap : GoodIn wsL_law (wsV RL 96 RX5 yX5_lap wsX5_lap) := goodIn_app (goodIn_of _ (by decide +kernel)) ggL_law_X5_lap
set_option maxRecDepth 20000 in
theorem ggL_law_X6_lap : GoodIn wsL_law wsX6_lap := goodIn_r _ [664, 221, 222, 223, 5, 224, 101, 133, 134, 135, 136, 137, 138, 139, 104, 140, 175, 176, 177, 178, 626, 627, 628, 629, 103, 566, 567, 568, 569, 570, 571, 572, 573, 225, 226, 227, 228, 574, 575, 576, 577, 508, 509, 510, 511, 106, 480, 481, 482, 483, 512, 513, 514, 515, 107, 516, 517, 518, 519, 520, 521, 201, 202, 203, 204, 630, 631, 632, 633, 950, 951, 952, 953, 954, 955, 956, 957, 958, 959, 960, 961, 962, 963, 964, 965, 966, 967, 968, 969] (by decide +kernel) (by decide +kernel)
set_option maxRecDepth 20000 in
theorem gL_law_X6_lap : GoodIn wsL_law (wsV RL 99 RX6 yX6_lap wsX6_lap) := goodIn_app (goodIn_of _ (by decide +kernel)) ggL_law_X6_lap
set_option maxRecDepth 20000 in
theorem ggL_law_X5_together : GoodIn wsL_law wsX5_together := goodIn_r _ [668, 16, 18, 124, 125, 126, 2, 127, 34, 128, 615, 15, 616, 617, 66, 39, 618, 289, 290, 291, 67, 40, 41, 42, 43, 44, 45, 49, 50, 417, 48, 418, 419, 60, 59, 420, 164, 165, 166, 646, 647, 648, 537, 212, 213, 214, 215, 216, 547, 548, 549, 550, 551, 552, 553, 554, 941, 942, 943, 944, 945, 946, 947, 948, 949, 970, 971, 972, 973, 974, 975, 976, 977, 978, 979, 980, 981, 982, 983, 984, 985, 1000, 1001, 1002] (by decide +kernel) (by decide +kernel)
set_option maxRecDepth 20000 in
theorem gL_law_X5_together : GoodIn wsL_law (wsV RL 100 RX5 yX5_together wsX5_together) := goodIn_app (goodIn_of _ (by decide +kernel)) ggL_law_X5_together
set_option maxRecDepth 20000 in
theorem ggL_law_X6_together : GoodIn wsL_law wsX6_together := goodIn_r _ [672, 101, 136, 137, 138, 5, 139, 104, 140, 626, 627, 628, 629, 103, 673, 674, 675, 676, 175, 176, 177, 178, 566, 567, 568, 569, 570, 571, 572, 573, 225, 226, 227, 228, 574, 575, 576, 577, 508, 509, 510, 511, 106, 480, 481, 482, 483, 512, 513, 514, 515, 107, 516, 517, 518, 519, 520, 521, 201, 202, 203, 204, 630, 631, 632, 633, 950, 951, 952, 953, 954, 955, 956, 957, 958, 959, 960, 961, 962, 963, 964, 965, 966, 967, 968, 969] (by decide +kernel) (by decide +kernel)
set_option maxRecDepth 20000 in
theorem gL_law_X6_together : GoodIn wsL_law (wsV RL 104 RX6 yX6_together wsX6_together) := goodIn_app (goodIn_of _ (by decide +kernel)) ggL_law_X6_together
set_option maxRecDepth 20000 in
theorem ggL_law_X5_dispute : GoodIn wsL_law wsX5_dispute := goodIn_r _ [680, 18, 16, 615, 15, 616, 617, 66, 39, 618, 289, 290, 291, 67, 40, 41, 42, 43, 44, 45, 49, 50, 417, 48, 418, 419, 60, 59, 420, 681, 682, 683, 530, 531, 532, 533, 534, 535, 536, 537, 212, 213, 214, 215, 2, 216, 538, 539, 540, 541, 542, 488, 489, 490, 473, 474, 475, 491, 492, 493, 61, 494, 495, 496, 497, 498, 499, 285, 286, 287, 500, 350, 351, 543, 544, 545, 546, 547, 548, 549, 550, 551, 552, 553, 554, 124, 125, 126, 127, 34, 128, 941, 942, 943, 944, 945, 946, 947, 948, 949, 970, 971, 972, 973, 974, 975, 976, 977, 978, 979, 980, 981, 982, 983, 984, 985, 1000, 1001, 1002] (by decide +kernel) (by decide +kernel)
set_option maxRecDepth 20000 in
theorem gL_law_X5_dispute : GoodIn wsL_law (wsV RL 105 RX5 yX5_dispute wsX5_dispute) := goodIn_app (goodIn_of _ (by decide +kernel)) ggL_law_X5_dispute
set_option maxRecDepth 20000 in
theorem ggL_law_X6_dispute : GoodIn wsL_law wsX6_dispute := goodIn_r _ [687, 626, 627, 628, 5, 629, 103, 101, 688, 689, 690, 691, 175, 176, 177, 178, 566, 567, 568, 569, 570, 571, 572, 573, 225, 226, 227, 228, 574, 575, 576, 577, 508, 509, 510, 511, 106, 480, 481, 482, 483, 512, 513, 514, 515, 107, 516, 517, 518, 519, 520, 521, 201, 202, 203, 204, 630, 631, 632, 633, 136, 137, 138, 139, 104, 140, 950, 951, 952, 953, 954, 955, 956, 957, 958, 959, 960, 961, 962, 963, 964, 965, 966, 967, 968, 969] (by decide +kernel) (by decide +kernel)
set_option maxRecDepth 20000 in
theorem gL_law_X6_dispute : GoodIn wsL_law (wsV RL 108 RX6 yX6_dispute wsX6_dispute) := goodIn_app (goodIn_of _ (by decide +kernel)) ggL_law_X6_dispute
set_option maxRecDepth 20000 in
theorem ggL_law_X5_levels : GoodIn wsL_law wsX5_levels := goodIn_r _ [695, 16, 33, 121, 122, 2, 123, 124, 125, 126, 127, 34, 128, 696, 15, 697, 698, 66, 39, 699, 700, 701, 702, 499, 285, 286, 287, 703, 69, 70, 71, 704, 705, 706, 707, 941, 942, 943, 944, 945, 946, 947, 948, 949, 970, 971, 972, 973, 974, 975, 976, 977, 978, 979, 980, 981, 982, 983, 984, 985] (by decide +kernel) (by decide +kernel)
set_option maxRecDepth 20000 in
theorem gL_law_X5_levels : GoodIn wsL_law (wsV RL 109 RX5 yX5_levels wsX5_levels) := goodIn_app (goodIn_of _ (by decide +kernel)) ggL_law_X5_levels
set_option maxRecDepth 20000 in
theorem ggL_law_X6_levels : GoodIn wsL_law wsX6_levels := goodIn_r _ [711, 101, 133, 134, 5, 135, 136, 137, 138, 139, 104, 140, 712, 713, 714, 715, 716, 717, 718, 950, 951, 952, 953, 954, 955, 956, 957, 958, 959, 960, 961, 962, 963, 964, 965, 966, 967, 968, 969] (by decide +kernel) (by decide +kernel)
set_option maxRecDepth 20000 in
theorem gL_law_X6_levels : GoodIn wsL_law (wsV RL 112 RX6 yX6_levels wsX6_levels) := goodIn_app (goodIn_of _ (by decide +kernel)) ggL_law_X6_levels
set_option maxRecDepth 20000 in
theorem ggL_law_X5_suspects : GoodIn wsL_law wsX5_suspects := goodIn_r _ [722, 16, 30, 18, 209, 15, 210, 211, 41, 121, 122, 2, 123, 124, 125, 126, 127, 34, 128, 723, 29, 724, 725, 95, 615, 616, 617, 66, 39, 618, 289, 290, 291, 67, 40, 42, 43, 44, 45, 49, 50, 417, 48, 418, 419, 60, 59, 420, 726, 727, 728, 729, 619, 620, 621, 533, 534, 535, 536, 537, 212, 213, 214, 215, 216, 538, 539, 540, 541, 542, 488, 489, 490, 473, 474, 475, 491, 492, 493, 61, 494, 495, 496, 497, 498, 499, 285, 286, 287, 500, 350, 351, 543, 544, 545, 546, 547, 548, 549, 550, 551, 552, 553, 554, 941, 942, 943, 944, 945, 946, 947, 948, 949, 970, 971, 972, 973, 974, 975, 976, 977, 978, 979, 980, 981, 982, 983, 984, 985, 997, 998, 999, 1000, 1001, 1002] (by decide +kernel) (by decide +kernel)
set_option maxRecDepth 20000 in
theorem gL_law_X5_suspects : GoodIn wsL_law (wsV RL 113 RX5 yX5_suspects wsX5_suspects) := goodIn_app (goodIn_of _ (by decide +kernel)) ggL_law_X5_suspects
set_option maxRecDepth 20000 in
theorem ggL_law_X6_suspects : GoodIn wsL_law wsX6_suspects := goodIn_r _ [733, 101, 221, 222, 223, 5, 224, 133, 134, 135, 734, 735, 736, 737, 109, 738, 739, 740, 136, 137, 138, 139, 104, 140, 741, 742, 743, 744, 110, 111, 626, 627, 628, 629, 103, 566, 567, 568, 569, 570, 571, 572, 573, 225, 226, 227, 228, 175, 176, 177, 178, 574, 575, 576, 577, 508, 509, 510, 511, 106, 480, 481, 482, 483, 512, 513, 514, 515, 107, 516, 517, 518, 519, 520, 521, 201, 202, 203, 204, 630, 631, 632, 633, 950, 951, 952, 953, 954, 955, 956, 957, 958, 959, 960, 961, 962, 963, 964, 965, 966, 967, 968, 969] (by decide +kernel) (by decide +kernel)
set_option maxRecDepth 20000 in
theorem gL_law_X6_suspects : GoodIn wsL_law (wsV RL 116 RX6 yX6_suspects wsX6_suspects) := goodIn_app (goodIn_of _ (by decide +kernel)) ggL_law_X6_suspects
set_option maxRecDepth 20000 in
theorem ggL_law_X5_best : GoodIn wsL_law wsX5_best := goodIn_r _ [748, 16, 18, 209, 15, 210, 211, 41, 121, 122, 2, 123, 124, 125, 126, 127, 34, 128, 615, 616, 617, 66, 39, 618, 289, 290, 291, 67, 40, 42, 43, 44, 45, 49, 50, 417, 48, 418, 419, 60, 59, 420, 501, 502, 503, 473, 474, 475, 491, 492, 493, 61, 494, 495, 496, 497, 498, 499, 285, 286, 287, 500, 350, 351, 619, 620, 621, 533, 534, 535, 536, 537, 212, 213, 214, 215, 216, 538, 539, 540, 541, 542, 488, 489, 490, 543, 544, 545, 546, 547, 548, 549, 550, 551, 552, 553, 554, 941, 942, 943, 944, 945, 946, 947, 948, 949, 970, 971, 972, 973, 974, 975, 976, 977, 978, 979, 980, 981, 982, 983, 984, 985, 1000, 1001, 1002] (by decide +kernel) (by decide +kernel)
set_option maxRecDepth 20000 in
theorem gL_law_X5_best : GoodIn wsL_law (wsV RL 117 RX5 yX5_best wsX5_best) := goodIn_app (goodIn_of _ (by decide +kernel)) ggL_law_X5_best
set_option maxRecDepth 20000 in
theorem ggL_law_X6_best : GoodIn wsL_law wsX6_best := goodIn_r _ [752, 221, 222, 223, 5, 224, 101, 133, 134, 135, 136, 137, 138, 139, 104, 140, 626, 627, 628, 629, 103, 175, 176, 177, 178, 522, 523, 524, 525, 106, 480, 481, 482, 483, 512, 513, 514, 515, 107, 516, 517, 518, 519, 520, 521, 566, 567, 568, 569, 570, 571, 572, 573, 225, 226, 227, 228, 574, 575, 576, 577, 508, 509, 510, 511, 201, 202, 203, 204, 630, 631, 632, 633, 950, 951, 952, 953, 954, 955, 956, 957, 958, 959, 960, 961, 962, 963, 964, 965, 966, 967, 968, 969] (by decide +kernel) (by decide +kernel)
set_option maxRecDepth 20000 in
theorem gL_law_X6_best : GoodIn wsL_law (wsV RL 120 RX6 yX6_best wsX6_best) := goodIn_app (goodIn_of _ (by decide +kernel)) ggL_law_X6_best
set_option maxRecDepth 20000 in
theorem ggL_law_X5_odds : GoodIn wsL_law wsX5_odds := goodIn_r _ [756, 16, 18, 638, 639, 640, 2, 641, 209, 15, 210, 211, 41, 121, 122, 123, 124, 125, 126, 127, 34, 128, 615, 616, 617, 66, 39, 618, 289, 290, 291, 67, 40, 42, 43, 44, 45, 49, 50, 417, 48, 418, 419, 60, 59, 420, 642, 643, 644, 645, 646, 647, 648, 537, 212, 213, 214, 215, 216, 547, 548, 549, 550, 551, 552, 553, 554, 757, 758, 759, 941, 942, 943, 944, 945, 946, 947, 948, 949, 970, 971, 972, 973, 974, 975, 976, 977, 978, 979, 980, 981, 982, 983, 984, 985, 1000, 1001, 1002] (by decide +kernel) (by decide +kernel)
set_option maxRecDepth 20000 in
theorem gL_law_X5_odds : GoodIn wsL_law (wsV RL 121 RX5 yX5_odds wsX5_odds) := goodIn_app (goodIn_of _ (by decide +kernel)) ggL_law_X5_odds
set_option maxRecDepth 20000 in
theorem ggL_law_X6_odds : GoodIn wsL_law wsX6_odds := goodIn_r _ [763, 101, 221, 222, 223, 5, 224, 133, 134, 135, 136, 137, 138, 139, 104, 140, 175, 176, 177, 178, 201, 202, 203, 204, 653, 654, 655, 656, 626, 627, 628, 629, 103, 566, 567, 568, 569, 570, 571, 572, 573, 225, 226, 227, 228, 574, 575, 576, 577, 508, 509, 510, 511, 106, 480, 481, 482, 483, 512, 513, 514, 515, 107, 516, 517, 518, 519, 520, 521, 630, 631, 632, 633, 764, 765, 766, 950, 951, 952, 953, 954, 955, 956, 957, 958, 959, 960, 961, 962, 963, 964, 965, 966, 967, 968, 969] (by decide +kernel) (by decide +kernel)
set_option maxRecDepth 20000 in
theorem gL_law_X6_odds : GoodIn wsL_law (wsV RL 124 RX6 yX6_odds wsX6_odds) := goodIn_app (goodIn_of _ (by decide +kernel)) ggL_law_X6_odds
set_option maxRecDepth 20000 in
theorem ggL_law_X5_voice : GoodIn wsL_law wsX5_voice := goodIn_r _ [770, 16, 26, 209, 15, 210, 211, 41, 121, 122, 2, 123, 124, 125, 126, 127, 34, 128, 771, 25, 772, 773, 87, 88, 89, 85, 86, 774, 775, 776, 777, 778, 779, 780, 781, 782, 783, 784, 785, 84, 786, 787, 788, 789, 790, 791, 792, 793, 941, 942, 943, 944, 945, 946, 947, 948, 949, 970, 971, 972, 973, 974, 975, 976, 977, 978, 979, 980, 981, 982, 983, 984, 985, 991, 992, 993, 994, 995, 996] (by decide +kernel) (by decide +kernel)
set_option maxRecDepth 20000 in
theorem gL_law_X5_voice : GoodIn wsL_law (wsV RL 125 RX5 yX5_voice wsX5_voice) := goodIn_app (goodIn_of _ (by decide +kernel)) ggL_law_X5_voice
set_option maxRecDepth 20000 in
theorem ggL_law_X6_voice : GoodIn wsL_law wsX6_voice := goodIn_r _ [797, 798, 799, 800, 221, 222, 223, 5, 224, 101, 133, 134, 135, 136, 137, 138, 139, 104, 140, 801, 802, 803, 804, 175, 176, 177, 178, 805, 806, 807, 808, 809, 810, 811, 812, 108, 249, 250, 251, 813, 814, 815, 816, 817, 818, 819, 820, 821, 822, 823, 824, 825, 826, 827, 828, 950, 951, 952, 953, 954, 955, 956, 957, 958, 959, 960, 961, 962, 963, 964, 965, 966, 967, 968, 969] (by decide +kernel) (by decide +kernel)
set_option maxRecDepth 20000 in
theorem gL_law_X6_voice : GoodIn wsL_law (wsV RL 128 RX6 yX6_voice wsX6_voice) := goodIn_app (goodIn_of _ (by decide +kernel)) ggL_law_X6_voice
set_option maxRecDepth 20000 in
theorem ggL_law_X5_body : GoodIn wsL_law wsX5_body := goodIn_r _ [832, 26, 121, 122, 2, 123, 124, 125, 126, 127, 34, 128, 941, 942, 943, 944, 945, 946, 947, 948, 949, 991, 992, 993, 994, 995, 996] (by decide +kernel) (by decide +kernel)
set_option maxRecDepth 20000 in
theorem gL_law_X5_body : GoodIn wsL_law (wsV RL 129 RX5 yX5_body wsX5_body) := goodIn_app (goodIn_of _ (by decide +kernel)) ggL_law_X5_body
set_option maxRecDepth 20000 in
theorem ggL_law_X6_body : GoodIn wsL_law wsX6_body := goodIn_r _ [836, 798, 108, 133, 134, 5, 135, 136, 137, 138, 139, 104, 140, 950, 951, 952, 953, 954, 955, 956, 957, 958, 959, 960, 961, 962, 963, 964, 965, 966, 967, 968, 969] (by decide +kernel) (by decide +kernel)
set_option maxRecDepth 20000 in
theorem gL_law_X6_body : GoodIn wsL_law (wsV RL 132 RX6 yX6_body wsX6_body) := goodIn_app (goodIn_of _ (by decide +kernel)) ggL_law_X6_body
set_option maxRecDepth 20000 in
theorem ggL_law_X5_sheet : GoodIn wsL_law wsX5_sheet := goodIn_r _ [840, 30, 121, 122, 2, 123, 124, 125, 126, 127, 34, 128, 841, 29, 842, 843, 95, 96, 94, 844, 69, 70, 71, 941, 942, 943, 944, 945, 946, 947, 948, 949, 997, 998, 999] (by decide +kernel) (by decide +kernel)
set_option maxRecDepth 20000 in
theorem gL_law_X5_sheet : GoodIn wsL_law (wsV RL 133 RX5 yX5_sheet wsX5_sheet) := goodIn_app (goodIn_of _ (by decide +kernel)) ggL_law_X5_sheet
set_option maxRecDepth 20000 in
theorem ggL_law_X6_sheet : GoodIn wsL_law wsX6_sheet := goodIn_r _ [848, 109, 110, 111, 738, 739, 5, 740, 133, 134, 135, 136, 137, 138, 139, 104, 140, 950, 951, 952, 953, 954, 955, 956, 957, 958, 959, 960, 961, 962, 963, 964, 965, 966, 967, 968, 969] (by decide +kernel) (by decide +kernel)
set_option maxRecDepth 20000 in
theorem gL_law_X6_sheet : GoodIn wsL_law (wsV RL 136 RX6 yX6_sheet wsX6_sheet) := goodIn_app (goodIn_of _ (by decide +kernel)) ggL_law_X6_sheet
set_option maxRecDepth 20000 in
theorem ggL_law_X5_put : GoodIn wsL_law wsX5_put := goodIn_r _ [852, 30, 121, 122, 2, 123, 124, 125, 126, 127, 34, 128, 723, 29, 724, 725, 95, 941, 942, 943, 944, 945, 946, 947, 948, 949, 997, 998, 999] (by decide +kernel) (by decide +kernel)
set_option maxRecDepth 20000 in
theorem gL_law_X5_put : GoodIn wsL_law (wsV RL 137 RX5 yX5_put wsX5_put) := goodIn_app (goodIn_of _ (by decide +kernel)) ggL_law_X5_put
set_option maxRecDepth 20000 in
theorem ggL_law_X6_put : GoodIn wsL_law wsX6_put := goodIn_r _ [856, 109, 110, 111, 738, 739, 5, 740, 133, 134, 135, 136, 137, 138, 139, 104, 140, 950, 951, 952, 953, 954, 955, 956, 957, 958, 959, 960, 961, 962, 963, 964, 965, 966, 967, 968, 969] (by decide +kernel) (by decide +kernel)
set_option maxRecDepth 20000 in
theorem gL_law_X6_put : GoodIn wsL_law (wsV RL 140 RX6 yX6_put wsX6_put) := goodIn_app (goodIn_of _ (by decide +kernel)) ggL_law_X6_put
set_option maxRecDepth 20000 in
theorem ggL_law_X5_move : GoodIn wsL_law wsX5_move := goodIn_r _ [860, 30, 861, 289, 290, 291, 121, 122, 2, 123, 124, 125, 126, 127, 34, 128, 723, 29, 724, 725, 95, 862, 863, 864, 96, 941, 942, 943, 944, 945, 946, 947, 948, 949, 997, 998, 999] (by decide +kernel) (by decide +kernel)
set_option maxRecDepth 20000 in
theorem gL_law_X5_move : GoodIn wsL_law (wsV RL 141 RX5 yX5_move wsX5_move) := goodIn_app (goodIn_of _ (by decide +kernel)) ggL_law_X5_move
set_option maxRecDepth 20000 in
theorem ggL_law_X6_move : GoodIn wsL_law wsX6_move := goodIn_r _ [868, 109, 110, 112, 111, 738, 739, 5, 740, 133, 134, 135, 136, 137, 138, 139, 104, 140, 950, 951, 952, 953, 954, 955, 956, 957, 958, 959, 960, 961, 962, 963, 964, 965, 966, 967, 968, 969] (by decide +kernel) (by decide +kernel)
set_option maxRecDepth 20000 in
theorem gL_law_X6_move : GoodIn wsL_law (wsV RL 145 RX6 yX6_move wsX6_move) := goodIn_app (goodIn_of _ (by decide +kernel)) ggL_law_X6_move
set_option maxRecDepth 20000 in
theorem ggL_law_X5_rises : GoodIn wsL_law wsX5_rises := goodIn_r _ [872, 30, 16, 499, 285, 286, 287, 121, 122, 2, 123, 124, 125, 126, 127, 34, 128, 723, 29, 724, 725, 95, 941, 942, 943, 944, 945, 946, 947, 948, 949, 997, 998, 999, 970, 971, 972, 973, 974, 975, 976, 977, 978, 979, 980, 981, 982, 983, 984, 985] (by decide +kernel) (by decide +kernel)
set_option maxRecDepth 20000 in
theorem gL_law_X5_rises : GoodIn wsL_law (wsV RL 146 RX5 yX5_rises wsX5_rises) := goodIn_app (goodIn_of _ (by decide +kernel)) ggL_law_X5_rises
set_option maxRecDepth 20000 in
theorem ggL_law_X6_rises : GoodIn wsL_law wsX6_rises := goodIn_r _ [876, 110, 111, 101, 734, 735, 736, 5, 737, 109, 738, 739, 740, 133, 134, 135, 136, 137, 138, 139, 104, 140, 152, 153, 154, 155, 950, 951, 952, 953, 954, 955, 956, 957, 958, 959, 960, 961, 962, 963, 964, 965, 966, 967, 968, 969] (by decide +kernel) (by decide +kernel)
set_option maxRecDepth 20000 in
theorem gL_law_X6_rises : GoodIn wsL_law (wsV RL 149 RX6 yX6_rises wsX6_rises) := goodIn_app (goodIn_of _ (by decide +kernel)) ggL_law_X6_rises
set_option maxRecDepth 20000 in
theorem ggL_law_X5_judge : GoodIn wsL_law wsX5_judge := goodIn_r _ [880, 30, 16, 499, 285, 286, 287, 121, 122, 2, 123, 124, 125, 126, 127, 34, 128, 723, 29, 724, 725, 95, 941, 942, 943, 944, 945, 946, 947, 948, 949, 997, 998, 999, 970, 971, 972, 973, 974, 975, 976, 977, 978, 979, 980, 981, 982, 983, 984, 985] (by decide +kernel) (by decide +kernel)
set_option maxRecDepth 20000 in
theorem gL_law_X5_judge : GoodIn wsL_law (wsV RL 150 RX5 yX5_judge wsX5_judge) := goodIn_app (goodIn_of _ (by decide +kernel)) ggL_law_X5_judge
set_option maxRecDepth 20000 in
theorem ggL_law_X6_judge : GoodIn wsL_law wsX6_judge := goodIn_r _ [884, 110, 111, 734, 735, 736, 5, 737, 109, 738, 739, 740, 133, 134, 135, 136, 137, 138, 139, 104, 140, 221, 222, 223, 224, 101, 175, 176, 177, 178, 950, 951, 952, 953, 954, 955, 956, 957, 958, 959, 960, 961, 962, 963, 964, 965, 966, 967, 968, 969] (by decide +kernel) (by decide +kernel)
set_option maxRecDepth 20000 in
theorem gL_law_X6_judge : GoodIn wsL_law (wsV RL 153 RX6 yX6_judge wsX6_judge) := goodIn_app (goodIn_of _ (by decide +kernel)) ggL_law_X6_judge
set_option maxRecDepth 20000 in
theorem ggL_law_X5_image : GoodIn wsL_law wsX5_image := goodIn_r _ [888, 17, 16, 35, 889, 15, 890, 891, 51, 52, 618, 289, 290, 291, 53, 54, 55, 892, 615, 616, 617, 66, 39, 67, 40, 41, 42, 43, 44, 45, 49, 50, 417, 48, 418, 419, 60, 59, 420, 941, 942, 943, 944, 945, 946, 947, 948, 949, 970, 971, 972, 973, 974, 975, 976, 977, 978, 979, 980, 981, 982, 983, 984, 985, 1000, 1001, 1002] (by decide +kernel) (by decide +kernel)
set_option maxRecDepth 20000 in
theorem gL_law_X5_image : GoodIn wsL_law (wsV RL 154 RX5 yX5_image wsX5_image) := goodIn_app (goodIn_of _ (by decide +kernel)) ggL_law_X5_image
set_option maxRecDepth 20000 in
theorem ggL_law_X6_image : GoodIn wsL_law wsX6_image := goodIn_r _ [896, 101, 102, 897, 898, 899, 5, 900, 950, 951, 952, 953, 954, 955, 956, 957, 958, 959, 960, 961, 962, 963, 964, 965, 966, 967, 968, 969] (by decide +kernel) (by decide +kernel)
set_option maxRecDepth 20000 in
theorem gL_law_X6_image : GoodIn wsL_law (wsV RL 157 RX6 yX6_image wsX6_image) := goodIn_app (goodIn_of _ (by decide +kernel)) ggL_law_X6_image
set_option maxRecDepth 20000 in
theorem ggL_law_X5_restore : GoodIn wsL_law wsX5_restore := goodIn_r _ [904, 35, 16, 17, 124, 125, 126, 2, 127, 34, 128, 889, 15, 890, 891, 51, 52, 618, 289, 290, 291, 53, 54, 55, 892, 615, 616, 617, 66, 39, 67, 40, 41, 42, 43, 44, 45, 49, 50, 417, 48, 418, 419, 60, 59, 420, 941, 942, 943, 944, 945, 946, 947, 948, 949, 970, 971, 972, 973, 974, 975, 976, 977, 978, 979, 980, 981, 982, 983, 984, 985, 1000, 1001, 1002] (by decide +kernel) (by decide +kernel)
set_option maxRecDepth 20000 in
theorem gL_law_X5_restore : GoodIn wsL_law (wsV RL 158 RX5 yX5_restore wsX5_restore) := goodIn_app (goodIn_of _ (by decide +kernel)) ggL_law_X5_restore
set_option maxRecDepth 20000 in
theorem ggL_law_X6_restore : GoodIn wsL_law wsX6_restore := goodIn_r _ [908, 897, 102, 101, 136, 137, 138, 5, 139, 104, 140, 898, 899, 900, 950, 951, 952, 953, 954, 955, 956, 957, 958, 959, 960, 961, 962, 963, 964, 965, 966, 967, 968, 969] (by decide +kernel) (by decide +kernel)
set_option maxRecDepth 20000 in
theorem gL_law_X6_restore : GoodIn wsL_law (wsV RL 161 RX6 yX6_restore wsX6_restore) := goodIn_app (goodIn_of _ (by decide +kernel)) ggL_law_X6_restore
set_option maxRecDepth 20000 in
theorem ggL_law_X5_tell : GoodIn wsL_law wsX5_tell := goodIn_r _ [912, 16, 124, 125, 126, 2, 127, 34, 128, 941, 942, 943, 944, 945, 946, 947, 948, 949, 970, 971, 972, 973, 974, 975, 976, 977, 978, 979, 980, 981, 982, 983, 984, 985] (by decide +kernel) (by decide +kernel)
set_option maxRecDepth 20000 in
theorem gL_law_X5_tell : GoodIn wsL_law (wsV RL 162 RX5 yX5_tell wsX5_tell) := goodIn_app (goodIn_of _ (by decide +kernel)) ggL_law_X5_tell
set_option maxRecDepth 20000 in
theorem ggL_law_X6_tell : GoodIn wsL_law wsX6_tell := goodIn_r _ [916, 101, 136, 137, 138, 5, 139, 104, 140, 950, 951, 952, 953, 954, 955, 956, 957, 958, 959, 960, 961, 962, 963, 964, 965, 966, 967, 968, 969] (by decide +kernel) (by decide +kernel)
set_option maxRecDepth 20000 in
theorem gL_law_X6_tell : GoodIn wsL_law (wsV RL 165 RX6 yX6_tell wsX6_tell) := goodIn_app (goodIn_of _ (by decide +kernel)) ggL_law_X6_tell
set_option maxRecDepth 20000 in
theorem ggL_law_X5_check : GoodIn wsL_law wsX5_check := goodIn_r _ [920, 16, 209, 15, 210, 211, 41, 941, 942, 943, 944, 945, 946, 947, 948, 949, 970, 971, 972, 973, 974, 975, 976, 977, 978, 979, 980, 981, 982, 983, 984, 985] (by decide +kernel) (by decide +kernel)
set_option maxRecDepth 20000 in
theorem gL_law_X5_check : GoodIn wsL_law (wsV RL 166 RX5 yX5_check wsX5_check) := goodIn_app (goodIn_of _ (by decide +kernel)) ggL_law_X5_check
set_option maxRecDepth 20000 in
theorem ggL_law_X6_check : GoodIn wsL_law wsX6_check := goodIn_r _ [924, 101, 221, 222, 223, 5, 224, 133, 134, 135, 175, 176, 177, 178, 950, 951, 952, 953, 954, 955, 956, 957, 958, 959, 960, 961, 962, 963, 964, 965, 966, 967, 968, 969] (by decide +kernel) (by decide +kernel)
set_option maxRecDepth 20000 in
theorem gL_law_X6_check : GoodIn wsL_law (wsV RL 169 RX6 yX6_check wsX6_check) := goodIn_app (goodIn_of _ (by decide +kernel)) ggL_law_X6_check
set_option maxRecDepth 20000 in
theorem ggL_law_X5_count : GoodIn wsL_law wsX5_count := goodIn_r _ [928, 16, 26, 555, 15, 556, 557, 41, 44, 124, 125, 126, 2, 127, 34, 128, 941, 942, 943, 944, 945, 946, 947, 948, 949, 970, 971, 972, 973, 974, 975, 976, 977, 978, 979, 980, 981, 982, 983, 984, 985, 991, 992, 993, 994, 995, 996] (by decide +kernel) (by decide +kernel)
set_option maxRecDepth 20000 in
theorem gL_law_X5_count : GoodIn wsL_law (wsV RL 170 RX5 yX5_count wsX5_count) := goodIn_app (goodIn_of _ (by decide +kernel)) ggL_law_X5_count
set_option maxRecDepth 20000 in
theorem ggL_law_X6_count : GoodIn wsL_law wsX6_count := goodIn_r _ [932, 101, 798, 578, 579, 580, 5, 581, 175, 176, 177, 178, 136, 137, 138, 139, 104, 140, 950, 951, 952, 953, 954, 955, 956, 957, 958, 959, 960, 961, 962, 963, 964, 965, 966, 967, 968, 969] (by decide +kernel) (by decide +kernel)
set_option maxRecDepth 20000 in
theorem gL_law_X6_count : GoodIn wsL_law (wsV RL 173 RX6 yX6_count wsX6_count) := goodIn_app (goodIn_of _ (by decide +kernel)) ggL_law_X6_count
set_option maxRecDepth 20000 in
theorem ggL_law_X5_told : GoodIn wsL_law wsX5_told := goodIn_r _ [936, 34, 121, 122, 2, 123, 124, 125, 126, 127, 128, 941, 942, 943, 944, 945, 946, 947, 948, 949] (by decide +kernel) (by decide +kernel)
set_option maxRecDepth 20000 in
theorem gL_law_X5_told : GoodIn wsL_law (wsV RL 174 RX5 yX5_told wsX5_told) := goodIn_app (goodIn_of _ (by decide +kernel)) ggL_law_X5_told
set_option maxRecDepth 20000 in
theorem ggL_law_X6_told : GoodIn wsL_law wsX6_told := goodIn_r _ [940, 104, 133, 134, 5, 135, 136, 137, 138, 139, 140, 950, 951, 952, 953, 954, 955, 956, 957, 958, 959, 960, 961, 962, 963, 964, 965, 966, 967, 968, 969] (by decide +kernel) (by decide +kernel)
set_option maxRecDepth 20000 in
theorem gL_law_X6_told : GoodIn wsL_law (wsV RL 177 RX6 yX6_told wsX6_told) := goodIn_app (goodIn_of _ (by decide +kernel)) ggL_law_X6_told
