set_option maxRecDepth 100000 in
theorem ggL_law_X5_init : GoodIn wsL_law wsX5_init := goodIn_r _ [8, 9, 10, 11, 12, 13, 14, 15, 16, 17, 18, 19, 20, 21, 22, 23, 24, 25, 26, 27, 28, 29, 30, 31, 32, 33, 34, 35, 36, 37, 38, 39, 40, 41, 42, 43, 44, 45, 46, 47, 48, 49, 50, 51, 52, 53, 54, 55, 56, 57, 58, 59, 60, 61, 62, 63, 64, 65, 66, 67, 68, 69, 70, 791, 792, 793, 794, 795, 796, 797, 798, 799, 800, 801, 802, 803, 804, 775, 776, 777, 778, 805, 806, 807, 808, 809, 810, 811, 812, 813, 814, 815, 816, 817, 818] rfl (by decide +kernel)
set_option maxRecDepth 100000 in
theorem gL_law_X5_init : GoodIn wsL_law (wsX5_init) := ggL_law_X5_init
set_option maxRecDepth 100000 in
theorem ggL_law_X6_init : GoodIn wsL_law wsX6_init := goodIn_r _ [73, 74, 10, 11, 32, 75, 76, 77, 78, 79, 80, 779, 780, 781, 782, 783, 784, 785, 786, 787, 788, 789, 790] rfl (by decide +kernel)
set_option maxRecDepth 100000 in
theorem gL_law_X6_init : GoodIn wsL_law (wsX6_init) := ggL_law_X6_init
set_option maxRecDepth 100000 in
theorem ggL_law_X5_volume : GoodIn wsL_law wsX5_volume := goodIn_r _ [84, 19, 15, 85, 86, 87, 18, 88, 89, 90, 91, 92, 93, 58, 94, 95, 96, 14, 97, 33, 98, 99, 100, 101, 34, 35, 36, 37, 38, 39, 40, 41, 42, 46, 102, 103, 104, 105, 106, 107, 45, 108, 50, 109, 51, 52, 110, 111, 112, 113, 114, 115, 116, 117, 118, 119, 120, 121, 122, 123, 2, 124, 125, 126, 127, 128, 129, 130, 131, 132, 133, 134, 135, 136, 137, 138, 139, 775, 776, 777, 778, 805, 806, 791, 792, 793, 794, 795, 796, 797, 798, 799, 800, 801, 802, 803, 804, 815, 816, 817, 818] rfl (by decide +kernel)
set_option maxRecDepth 100000 in
theorem gL_law_X5_volume : GoodIn wsL_law (wsV RL 13 RX5 yX5_volume wsX5_volume) := goodIn_app (goodIn_of _ (by decide +kernel)) ggL_law_X5_volume
set_option maxRecDepth 100000 in
theorem ggL_law_X6_volume : GoodIn wsL_law wsX6_volume := goodIn_r _ [143, 144, 145, 146, 147, 5, 148, 149, 150, 151, 152, 153, 154, 155, 156, 75, 157, 158, 159, 160, 161, 162, 76, 163, 164, 165, 166, 167, 168, 169, 170, 779, 780, 781, 782, 783, 784, 785, 786, 787, 788, 789, 790] rfl (by decide +kernel)
set_option maxRecDepth 100000 in
theorem gL_law_X6_volume : GoodIn wsL_law (wsV RL 17 RX6 yX6_volume wsX6_volume) := goodIn_app (goodIn_of _ (by decide +kernel)) ggL_law_X6_volume
set_option maxRecDepth 100000 in
theorem ggL_law_X5_share : GoodIn wsL_law wsX5_share := goodIn_r _ [174, 19, 15, 85, 86, 87, 18, 88, 89, 90, 91, 92, 93, 58, 94, 95, 96, 14, 97, 33, 98, 99, 100, 101, 34, 35, 36, 37, 38, 39, 40, 41, 42, 46, 102, 103, 104, 105, 106, 107, 45, 108, 50, 109, 51, 52, 110, 175, 176, 177, 178, 115, 117, 118, 119, 120, 179, 112, 113, 114, 116, 180, 181, 182, 183, 184, 185, 186, 187, 188, 189, 190, 191, 121, 122, 123, 2, 124, 125, 126, 127, 128, 129, 130, 131, 132, 133, 134, 135, 136, 137, 138, 139, 775, 776, 777, 778, 805, 806, 791, 792, 793, 794, 795, 796, 797, 798, 799, 800, 801, 802, 803, 804, 815, 816, 817, 818] rfl (by decide +kernel)
set_option maxRecDepth 100000 in
theorem gL_law_X5_share : GoodIn wsL_law (wsV RL 18 RX5 yX5_share wsX5_share) := goodIn_app (goodIn_of _ (by decide +kernel)) ggL_law_X5_share
set_option maxRecDepth 100000 in
theorem ggL_law_X6_share : GoodIn wsL_law wsX6_share := goodIn_r _ [195, 144, 145, 196, 197, 198, 5, 199, 146, 147, 148, 153, 154, 155, 156, 75, 149, 150, 151, 152, 157, 158, 159, 160, 161, 162, 76, 163, 164, 165, 166, 167, 168, 169, 170, 200, 201, 202, 203, 779, 780, 781, 782, 783, 784, 785, 786, 787, 788, 789, 790] rfl (by decide +kernel)
set_option maxRecDepth 100000 in
theorem gL_law_X6_share : GoodIn wsL_law (wsV RL 21 RX6 yX6_share wsX6_share) := goodIn_app (goodIn_of _ (by decide +kernel)) ggL_law_X6_share
set_option maxRecDepth 100000 in
theorem ggL_law_X5_drop : GoodIn wsL_law wsX5_drop := goodIn_r _ [207, 19, 15, 85, 86, 87, 18, 88, 89, 90, 91, 92, 93, 58, 94, 95, 96, 14, 97, 33, 98, 99, 100, 101, 34, 35, 36, 37, 38, 39, 40, 41, 42, 46, 102, 103, 104, 105, 106, 107, 45, 108, 50, 109, 51, 52, 110, 208, 209, 210, 211, 115, 117, 118, 119, 120, 212, 213, 214, 215, 180, 181, 182, 183, 184, 185, 186, 187, 188, 189, 190, 191, 121, 122, 123, 2, 124, 125, 126, 127, 128, 129, 130, 131, 132, 133, 134, 135, 136, 137, 138, 139, 775, 776, 777, 778, 805, 806, 791, 792, 793, 794, 795, 796, 797, 798, 799, 800, 801, 802, 803, 804, 815, 816, 817, 818] rfl (by decide +kernel)
set_option maxRecDepth 100000 in
theorem gL_law_X5_drop : GoodIn wsL_law (wsV RL 22 RX5 yX5_drop wsX5_drop) := goodIn_app (goodIn_of _ (by decide +kernel)) ggL_law_X5_drop
set_option maxRecDepth 100000 in
theorem ggL_law_X6_drop : GoodIn wsL_law wsX6_drop := goodIn_r _ [219, 144, 196, 197, 198, 5, 199, 146, 147, 148, 153, 154, 155, 156, 75, 157, 158, 159, 160, 161, 162, 76, 200, 201, 202, 203, 220, 221, 222, 223, 167, 168, 169, 170, 224, 225, 226, 227, 228, 229, 230, 231, 779, 780, 781, 782, 783, 784, 785, 786, 787, 788, 789, 790] rfl (by decide +kernel)
set_option maxRecDepth 100000 in
theorem gL_law_X6_drop : GoodIn wsL_law (wsV RL 25 RX6 yX6_drop wsX6_drop) := goodIn_app (goodIn_of _ (by decide +kernel)) ggL_law_X6_drop
set_option maxRecDepth 100000 in
theorem ggL_law_X5_promise : GoodIn wsL_law wsX5_promise := goodIn_r _ [235, 19, 15, 85, 86, 87, 18, 88, 89, 90, 91, 92, 93, 58, 94, 95, 96, 14, 97, 33, 98, 99, 100, 101, 34, 35, 36, 37, 38, 39, 40, 41, 42, 46, 102, 103, 104, 105, 106, 107, 45, 108, 50, 109, 51, 52, 110, 236, 237, 238, 239, 115, 240, 117, 118, 119, 120, 241, 242, 243, 244, 245, 246, 247, 248, 249, 250, 251, 252, 253, 254, 255, 256, 257, 258, 259, 260, 261, 262, 263, 264, 265, 266, 267, 268, 269, 270, 271, 272, 121, 122, 123, 2, 124, 125, 126, 127, 128, 129, 130, 131, 132, 133, 134, 135, 136, 137, 138, 139, 775, 776, 777, 778, 805, 806, 791, 792, 793, 794, 795, 796, 797, 798, 799, 800, 801, 802, 803, 804, 815, 816, 817, 818] rfl (by decide +kernel)
set_option maxRecDepth 100000 in
theorem gL_law_X5_promise : GoodIn wsL_law (wsV RL 26 RX5 yX5_promise wsX5_promise) := goodIn_app (goodIn_of _ (by decide +kernel)) ggL_law_X5_promise
set_option maxRecDepth 100000 in
theorem ggL_law_X6_promise : GoodIn wsL_law wsX6_promise := goodIn_r _ [276, 144, 277, 196, 197, 198, 5, 199, 146, 147, 148, 153, 154, 155, 156, 75, 278, 279, 280, 281, 282, 283, 284, 285, 224, 225, 226, 227, 228, 229, 230, 231, 200, 201, 202, 203, 157, 158, 159, 160, 161, 162, 76, 286, 287, 288, 289, 290, 291, 292, 293, 167, 168, 169, 170, 294, 295, 296, 297, 298, 299, 300, 301, 779, 780, 781, 782, 783, 784, 785, 786, 787, 788, 789, 790] rfl (by decide +kernel)
set_option maxRecDepth 100000 in
theorem gL_law_X6_promise : GoodIn wsL_law (wsV RL 30 RX6 yX6_promise wsX6_promise) := goodIn_app (goodIn_of _ (by decide +kernel)) ggL_law_X6_promise
set_option maxRecDepth 100000 in
theorem ggL_law_X5_set : GoodIn wsL_law wsX5_set := goodIn_r _ [305, 19, 15, 85, 86, 87, 18, 88, 89, 90, 91, 92, 93, 58, 94, 95, 96, 14, 97, 33, 98, 99, 100, 101, 34, 35, 36, 37, 38, 39, 40, 41, 42, 46, 102, 103, 104, 105, 106, 107, 45, 108, 50, 109, 51, 52, 110, 306, 307, 308, 309, 115, 310, 311, 312, 313, 249, 250, 251, 252, 253, 254, 255, 256, 245, 246, 247, 248, 241, 242, 243, 244, 257, 258, 259, 260, 261, 262, 263, 264, 265, 266, 267, 268, 269, 270, 271, 272, 121, 122, 123, 2, 124, 125, 126, 127, 128, 129, 130, 131, 132, 133, 134, 135, 136, 137, 138, 139, 775, 776, 777, 778, 805, 806, 791, 792, 793, 794, 795, 796, 797, 798, 799, 800, 801, 802, 803, 804, 815, 816, 817, 818] rfl (by decide +kernel)
set_option maxRecDepth 100000 in
theorem gL_law_X5_set : GoodIn wsL_law (wsV RL 31 RX5 yX5_set wsX5_set) := goodIn_app (goodIn_of _ (by decide +kernel)) ggL_law_X5_set
set_option maxRecDepth 100000 in
theorem ggL_law_X6_set : GoodIn wsL_law wsX6_set := goodIn_r _ [317, 144, 75, 146, 147, 5, 148, 157, 158, 159, 160, 161, 162, 76, 286, 287, 288, 289, 282, 283, 284, 285, 224, 225, 226, 227, 228, 229, 230, 231, 153, 154, 155, 156, 200, 201, 202, 203, 278, 279, 280, 281, 290, 291, 292, 293, 294, 295, 296, 297, 298, 299, 300, 301, 779, 780, 781, 782, 783, 784, 785, 786, 787, 788, 789, 790] rfl (by decide +kernel)
set_option maxRecDepth 100000 in
theorem gL_law_X6_set : GoodIn wsL_law (wsV RL 34 RX6 yX6_set wsX6_set) := goodIn_app (goodIn_of _ (by decide +kernel)) ggL_law_X6_set
set_option maxRecDepth 100000 in
theorem ggL_law_X5_write : GoodIn wsL_law wsX5_write := goodIn_r _ [321, 19, 15, 85, 86, 87, 18, 88, 89, 90, 91, 92, 93, 58, 94, 95, 96, 14, 97, 33, 98, 99, 100, 101, 34, 35, 36, 37, 38, 39, 40, 41, 42, 46, 102, 103, 104, 105, 106, 107, 45, 108, 50, 109, 51, 52, 110, 322, 323, 324, 325, 115, 326, 184, 185, 186, 187, 117, 118, 119, 120, 180, 181, 182, 183, 188, 189, 190, 191, 327, 328, 329, 330, 253, 254, 255, 256, 245, 246, 247, 248, 241, 242, 243, 244, 331, 332, 333, 334, 257, 258, 259, 260, 335, 336, 337, 338, 339, 340, 341, 342, 343, 344, 271, 345, 265, 266, 267, 268, 269, 270, 272, 249, 250, 251, 252, 212, 213, 214, 215, 346, 347, 348, 349, 350, 351, 352, 353, 261, 262, 263, 264, 121, 122, 123, 2, 124, 125, 126, 127, 128, 129, 130, 131, 132, 133, 134, 135, 136, 137, 138, 139, 775, 776, 777, 778, 805, 806, 791, 792, 793, 794, 795, 796, 797, 798, 799, 800, 801, 802, 803, 804, 815, 816, 817, 818] rfl (by decide +kernel)
set_option maxRecDepth 100000 in
theorem gL_law_X5_write : GoodIn wsL_law (wsV RL 35 RX5 yX5_write wsX5_write) := goodIn_app (goodIn_of _ (by decide +kernel)) ggL_law_X5_write
set_option maxRecDepth 100000 in
theorem ggL_law_X6_write : GoodIn wsL_law wsX6_write := goodIn_r _ [357, 144, 75, 358, 359, 360, 361, 5, 362, 196, 197, 198, 199, 146, 147, 148, 153, 154, 155, 156, 157, 158, 159, 160, 161, 162, 76, 200, 201, 202, 203, 224, 225, 226, 227, 228, 229, 230, 231, 286, 287, 288, 289, 282, 283, 284, 285, 278, 279, 280, 281, 290, 291, 292, 293, 363, 364, 365, 366, 167, 168, 169, 170, 367, 368, 369, 370, 371, 372, 373, 374, 375, 298, 299, 300, 301, 376, 377, 378, 379, 294, 295, 296, 297, 779, 780, 781, 782, 783, 784, 785, 786, 787, 788, 789, 790] rfl (by decide +kernel)
set_option maxRecDepth 100000 in
theorem gL_law_X6_write : GoodIn wsL_law (wsV RL 39 RX6 yX6_write wsX6_write) := goodIn_app (goodIn_of _ (by decide +kernel)) ggL_law_X6_write
set_option maxRecDepth 100000 in
theorem ggL_law_X5_trim : GoodIn wsL_law wsX5_trim := goodIn_r _ [383, 19, 15, 85, 86, 87, 18, 88, 89, 90, 91, 92, 93, 58, 94, 95, 96, 14, 97, 33, 98, 99, 100, 101, 34, 35, 36, 37, 38, 39, 40, 41, 42, 46, 102, 103, 104, 105, 106, 107, 45, 108, 50, 109, 51, 52, 110, 384, 385, 386, 387, 115, 240, 184, 185, 186, 187, 117, 118, 119, 120, 180, 181, 182, 183, 212, 213, 214, 215, 188, 189, 190, 191, 388, 389, 390, 391, 392, 270, 271, 272, 121, 122, 123, 2, 124, 125, 126, 127, 128, 129, 130, 131, 132, 133, 134, 135, 136, 137, 138, 139, 775, 776, 777, 778, 805, 806, 791, 792, 793, 794, 795, 796, 797, 798, 799, 800, 801, 802, 803, 804, 815, 816, 817, 818] rfl (by decide +kernel)
set_option maxRecDepth 100000 in
theorem gL_law_X5_trim : GoodIn wsL_law (wsV RL 40 RX5 yX5_trim wsX5_trim) := goodIn_app (goodIn_of _ (by decide +kernel)) ggL_law_X5_trim
set_option maxRecDepth 100000 in
theorem ggL_law_X6_trim : GoodIn wsL_law wsX6_trim := goodIn_r _ [396, 144, 277, 359, 360, 361, 5, 362, 196, 197, 198, 199, 146, 147, 148, 153, 154, 155, 156, 75, 200, 201, 202, 203, 157, 158, 159, 160, 161, 162, 76, 220, 221, 222, 223, 167, 168, 169, 170, 224, 225, 226, 227, 228, 229, 230, 231, 372, 373, 374, 375, 779, 780, 781, 782, 783, 784, 785, 786, 787, 788, 789, 790] rfl (by decide +kernel)
set_option maxRecDepth 100000 in
theorem gL_law_X6_trim : GoodIn wsL_law (wsV RL 43 RX6 yX6_trim wsX6_trim) := goodIn_app (goodIn_of _ (by decide +kernel)) ggL_law_X6_trim
set_option maxRecDepth 100000 in
theorem ggL_law_X5_sweep : GoodIn wsL_law wsX5_sweep := goodIn_r _ [400, 19, 15, 85, 86, 87, 18, 88, 89, 90, 91, 92, 93, 58, 94, 95, 96, 14, 97, 33, 98, 99, 100, 101, 34, 35, 36, 37, 38, 39, 40, 41, 42, 46, 102, 103, 104, 105, 106, 107, 45, 108, 50, 109, 51, 52, 110, 401, 402, 403, 404, 115, 117, 118, 119, 120, 180, 181, 182, 183, 184, 185, 186, 187, 188, 189, 190, 191, 212, 213, 214, 215, 388, 389, 390, 391, 392, 270, 271, 272, 121, 122, 123, 2, 124, 125, 126, 127, 128, 129, 130, 131, 132, 133, 134, 135, 136, 137, 138, 139, 775, 776, 777, 778, 805, 806, 791, 792, 793, 794, 795, 796, 797, 798, 799, 800, 801, 802, 803, 804, 815, 816, 817, 818] rfl (by decide +kernel)
set_option maxRecDepth 100000 in
theorem gL_law_X5_sweep : GoodIn wsL_law (wsV RL 44 RX5 yX5_sweep wsX5_sweep) := goodIn_app (goodIn_of _ (by decide +kernel)) ggL_law_X5_sweep
set_option maxRecDepth 100000 in
theorem ggL_law_X6_sweep : GoodIn wsL_law wsX6_sweep := goodIn_r _ [408, 144, 196, 197, 198, 5, 199, 146, 147, 148, 153, 154, 155, 156, 75, 157, 158, 159, 160, 161, 162, 76, 409, 410, 411, 412, 200, 201, 202, 203, 220, 221, 222, 223, 167, 168, 169, 170, 224, 225, 226, 227, 228, 229, 230, 231, 372, 373, 374, 375, 779, 780, 781, 782, 783, 784, 785, 786, 787, 788, 789, 790] rfl (by decide +kernel)
set_option maxRecDepth 100000 in
theorem gL_law_X6_sweep : GoodIn wsL_law (wsV RL 47 RX6 yX6_sweep wsX6_sweep) := goodIn_app (goodIn_of _ (by decide +kernel)) ggL_law_X6_sweep
set_option maxRecDepth 100000 in
theorem ggL_law_X5_merge : GoodIn wsL_law wsX5_merge := goodIn_r _ [416, 19, 15, 85, 86, 87, 18, 88, 89, 90, 91, 92, 93, 58, 94, 95, 96, 14, 97, 33, 98, 99, 100, 101, 34, 35, 36, 37, 38, 39, 40, 41, 42, 46, 102, 103, 104, 105, 106, 107, 45, 108, 50, 109, 51, 52, 110, 417, 418, 419, 420, 421, 422, 423, 424, 121, 122, 123, 2, 124, 125, 126, 127, 128, 129, 130, 131, 132, 133, 134, 135, 136, 137, 138, 139, 775, 776, 777, 778, 805, 806, 791, 792, 793, 794, 795, 796, 797, 798, 799, 800, 801, 802, 803, 804, 815, 816, 817, 818] rfl (by decide +kernel)
set_option maxRecDepth 100000 in
theorem gL_law_X5_merge : GoodIn wsL_law (wsV RL 48 RX5 yX5_merge wsX5_merge) := goodIn_app (goodIn_of _ (by decide +kernel)) ggL_law_X5_merge
set_option maxRecDepth 100000 in
theorem ggL_law_X6_merge : GoodIn wsL_law wsX6_merge := goodIn_r _ [428, 157, 158, 159, 5, 160, 161, 162, 76, 75, 429, 430, 431, 432, 224, 225, 226, 227, 228, 229, 230, 231, 153, 154, 155, 156, 200, 201, 202, 203, 433, 434, 435, 436, 167, 168, 169, 170, 779, 780, 781, 782, 783, 784, 785, 786, 787, 788, 789, 790] rfl (by decide +kernel)
set_option maxRecDepth 100000 in
theorem gL_law_X6_merge : GoodIn wsL_law (wsV RL 52 RX6 yX6_merge wsX6_merge) := goodIn_app (goodIn_of _ (by decide +kernel)) ggL_law_X6_merge
set_option maxRecDepth 100000 in
theorem ggL_law_X5_read : GoodIn wsL_law wsX5_read := goodIn_r _ [440, 15, 128, 131, 441, 185, 186, 14, 187, 33, 117, 118, 119, 120, 442, 181, 182, 183, 39, 184, 443, 444, 445, 446, 40, 188, 189, 190, 191, 775, 776, 777, 778, 791, 792, 793, 794, 795, 796, 797, 798, 799, 800, 801, 802, 803, 804] rfl (by decide +kernel)
set_option maxRecDepth 100000 in
theorem gL_law_X5_read : GoodIn wsL_law (wsV RL 53 RX5 yX5_read wsX5_read) := goodIn_app (goodIn_of _ (by decide +kernel)) ggL_law_X5_read
set_option maxRecDepth 100000 in
theorem ggL_law_X6_read : GoodIn wsL_law wsX6_read := goodIn_r _ [450, 144, 371, 75, 359, 360, 361, 5, 362, 196, 197, 198, 199, 146, 147, 148, 153, 154, 155, 156, 200, 201, 202, 203, 779, 780, 781, 782, 783, 784, 785, 786, 787, 788, 789, 790] rfl (by decide +kernel)
set_option maxRecDepth 100000 in
theorem gL_law_X6_read : GoodIn wsL_law (wsV RL 56 RX6 yX6_read wsX6_read) := goodIn_app (goodIn_of _ (by decide +kernel)) ggL_law_X6_read
set_option maxRecDepth 100000 in
theorem ggL_law_X5_volumeOf : GoodIn wsL_law wsX5_volumeOf := goodIn_r _ [454, 15, 128, 455, 456, 457, 458, 131, 459, 460, 461, 118, 119, 14, 120, 33, 462, 463, 464, 465, 180, 181, 182, 183, 39, 184, 185, 186, 187, 117, 466, 467, 468, 469, 41, 470, 471, 472, 473, 474, 475, 476, 477, 36, 478, 336, 337, 338, 34, 775, 776, 777, 778, 791, 792, 793, 794, 795, 796, 797, 798, 799, 800, 801, 802, 803, 804] rfl (by decide +kernel)
set_option maxRecDepth 100000 in
theorem gL_law_X5_volumeOf : GoodIn wsL_law (wsV RL 57 RX5 yX5_volumeOf wsX5_volumeOf) := goodIn_app (goodIn_of _ (by decide +kernel)) ggL_law_X5_volumeOf
set_option maxRecDepth 100000 in
theorem ggL_law_X6_volumeOf : GoodIn wsL_law wsX6_volumeOf := goodIn_r _ [482, 144, 371, 196, 197, 198, 5, 199, 146, 147, 148, 153, 154, 155, 156, 75, 483, 484, 485, 486, 200, 201, 202, 203, 487, 488, 489, 490, 491, 492, 493, 494, 228, 229, 230, 231, 495, 496, 497, 498, 499, 500, 501, 502, 779, 780, 781, 782, 783, 784, 785, 786, 787, 788, 789, 790] rfl (by decide +kernel)
set_option maxRecDepth 100000 in
theorem gL_law_X6_volumeOf : GoodIn wsL_law (wsV RL 60 RX6 yX6_volumeOf wsX6_volumeOf) := goodIn_app (goodIn_of _ (by decide +kernel)) ggL_law_X6_volumeOf
set_option maxRecDepth 100000 in
theorem ggL_law_X5_pieceOf : GoodIn wsL_law wsX5_pieceOf := goodIn_r _ [506, 15, 128, 507, 131, 508, 509, 189, 190, 14, 191, 510, 471, 472, 473, 180, 181, 182, 183, 39, 184, 185, 186, 187, 33, 117, 118, 119, 120, 775, 776, 777, 778, 791, 792, 793, 794, 795, 796, 797, 798, 799, 800, 801, 802, 803, 804] rfl (by decide +kernel)
set_option maxRecDepth 100000 in
theorem gL_law_X5_pieceOf : GoodIn wsL_law (wsV RL 61 RX5 yX5_pieceOf wsX5_pieceOf) := goodIn_app (goodIn_of _ (by decide +kernel)) ggL_law_X5_pieceOf
set_option maxRecDepth 100000 in
theorem ggL_law_X6_pieceOf : GoodIn wsL_law wsX6_pieceOf := goodIn_r _ [514, 144, 371, 75, 146, 147, 5, 148, 224, 225, 226, 227, 228, 229, 230, 231, 153, 154, 155, 156, 200, 201, 202, 203, 491, 492, 493, 494, 779, 780, 781, 782, 783, 784, 785, 786, 787, 788, 789, 790] rfl (by decide +kernel)
set_option maxRecDepth 100000 in
theorem gL_law_X6_pieceOf : GoodIn wsL_law (wsV RL 64 RX6 yX6_pieceOf wsX6_pieceOf) := goodIn_app (goodIn_of _ (by decide +kernel)) ggL_law_X6_pieceOf
set_option maxRecDepth 100000 in
theorem ggL_law_X5_warningOf : GoodIn wsL_law wsX5_warningOf := goodIn_r _ [518, 128, 15, 519, 520, 521, 522, 45, 523, 110, 524, 50, 51, 52, 775, 776, 777, 778, 791, 792, 793, 794, 795, 796, 797, 798, 799, 800, 801, 802, 803, 804, 815, 816, 817, 818] rfl (by decide +kernel)
set_option maxRecDepth 100000 in
theorem gL_law_X5_warningOf : GoodIn wsL_law (wsV RL 65 RX5 yX5_warningOf wsX5_warningOf) := goodIn_app (goodIn_of _ (by decide +kernel)) ggL_law_X5_warningOf
set_option maxRecDepth 100000 in
theorem ggL_law_X6_warningOf : GoodIn wsL_law wsX6_warningOf := goodIn_r _ [528, 144, 75, 371, 146, 147, 5, 148, 779, 780, 781, 782, 783, 784, 785, 786, 787, 788, 789, 790] rfl (by decide +kernel)
set_option maxRecDepth 100000 in
theorem gL_law_X6_warningOf : GoodIn wsL_law (wsV RL 68 RX6 yX6_warningOf wsX6_warningOf) := goodIn_app (goodIn_of _ (by decide +kernel)) ggL_law_X6_warningOf
set_option maxRecDepth 100000 in
theorem ggL_law_X5_couldGet : GoodIn wsL_law wsX5_couldGet := goodIn_r _ [532, 15, 128, 461, 118, 119, 14, 120, 33, 533, 534, 535, 536, 35, 34, 117, 253, 254, 255, 256, 245, 246, 247, 248, 41, 241, 242, 243, 244, 331, 332, 333, 334, 42, 257, 258, 259, 260, 335, 336, 337, 338, 350, 351, 352, 353, 343, 344, 271, 345, 775, 776, 777, 778, 791, 792, 793, 794, 795, 796, 797, 798, 799, 800, 801, 802, 803, 804] rfl (by decide +kernel)
set_option maxRecDepth 100000 in
theorem gL_law_X5_couldGet : GoodIn wsL_law (wsV RL 69 RX5 yX5_couldGet wsX5_couldGet) := goodIn_app (goodIn_of _ (by decide +kernel)) ggL_law_X5_couldGet
set_option maxRecDepth 100000 in
theorem ggL_law_X6_couldGet : GoodIn wsL_law wsX6_couldGet := goodIn_r _ [540, 144, 75, 78, 196, 197, 198, 5, 199, 146, 147, 148, 153, 154, 155, 156, 541, 542, 543, 282, 283, 284, 285, 224, 225, 226, 227, 228, 229, 230, 231, 200, 201, 202, 203, 278, 279, 280, 281, 363, 364, 365, 366, 167, 168, 169, 170, 290, 291, 292, 293, 367, 368, 369, 370, 371, 372, 373, 374, 375, 779, 780, 781, 782, 783, 784, 785, 786, 787, 788, 789, 790] rfl (by decide +kernel)
set_option maxRecDepth 100000 in
theorem gL_law_X6_couldGet : GoodIn wsL_law (wsV RL 72 RX6 yX6_couldGet wsX6_couldGet) := goodIn_app (goodIn_of _ (by decide +kernel)) ggL_law_X6_couldGet
set_option maxRecDepth 100000 in
theorem ggL_law_X5_couldFree : GoodIn wsL_law wsX5_couldFree := goodIn_r _ [547, 27, 548, 15, 549, 95, 96, 14, 97, 33, 98, 99, 100, 101, 34, 35, 36, 37, 38, 39, 40, 41, 42, 46, 102, 103, 104, 105, 106, 107, 45, 108, 50, 109, 51, 52, 110, 417, 418, 419, 420, 421, 422, 423, 424, 401, 402, 403, 404, 115, 117, 118, 119, 120, 180, 181, 182, 183, 184, 185, 186, 187, 188, 189, 190, 191, 212, 213, 214, 215, 388, 389, 390, 391, 392, 270, 271, 272, 461, 775, 776, 777, 778, 812, 813, 814, 791, 792, 793, 794, 795, 796, 797, 798, 799, 800, 801, 802, 803, 804, 815, 816, 817, 818] rfl (by decide +kernel)
set_option maxRecDepth 100000 in
theorem gL_law_X5_couldFree : GoodIn wsL_law (wsV RL 73 RX5 yX5_couldFree wsX5_couldFree) := goodIn_app (goodIn_of _ (by decide +kernel)) ggL_law_X5_couldFree
set_option maxRecDepth 100000 in
theorem ggL_law_X6_couldFree : GoodIn wsL_law wsX6_couldFree := goodIn_r _ [553, 144, 75, 78, 196, 197, 198, 5, 199, 146, 147, 148, 153, 154, 155, 156, 541, 542, 543, 409, 410, 411, 412, 200, 201, 202, 203, 220, 221, 222, 223, 167, 168, 169, 170, 224, 225, 226, 227, 228, 229, 230, 231, 372, 373, 374, 375, 429, 430, 431, 432, 433, 434, 435, 436, 779, 780, 781, 782, 783, 784, 785, 786, 787, 788, 789, 790] rfl (by decide +kernel)
set_option maxRecDepth 100000 in
theorem gL_law_X6_couldFree : GoodIn wsL_law (wsV RL 76 RX6 yX6_couldFree wsX6_couldFree) := goodIn_app (goodIn_of _ (by decide +kernel)) ggL_law_X6_couldFree
set_option maxRecDepth 100000 in
theorem ggL_law_X5_family : GoodIn wsL_law wsX5_family := goodIn_r _ [557, 15, 128, 461, 118, 119, 14, 120, 33, 558, 559, 560, 561, 562, 563, 564, 565, 36, 117, 466, 467, 468, 469, 41, 470, 471, 472, 473, 180, 181, 182, 183, 39, 184, 185, 186, 187, 566, 567, 568, 569, 343, 344, 271, 345, 775, 776, 777, 778, 791, 792, 793, 794, 795, 796, 797, 798, 799, 800, 801, 802, 803, 804] rfl (by decide +kernel)
set_option maxRecDepth 100000 in
theorem gL_law_X5_family : GoodIn wsL_law (wsV RL 77 RX5 yX5_family wsX5_family) := goodIn_app (goodIn_of _ (by decide +kernel)) ggL_law_X5_family
set_option maxRecDepth 100000 in
theorem ggL_law_X6_family : GoodIn wsL_law wsX6_family := goodIn_r _ [573, 144, 196, 197, 198, 5, 199, 146, 147, 148, 153, 154, 155, 156, 75, 495, 496, 497, 498, 487, 488, 489, 490, 491, 492, 493, 494, 228, 229, 230, 231, 200, 201, 202, 203, 779, 780, 781, 782, 783, 784, 785, 786, 787, 788, 789, 790] rfl (by decide +kernel)
set_option maxRecDepth 100000 in
theorem gL_law_X6_family : GoodIn wsL_law (wsV RL 80 RX6 yX6_family wsX6_family) := goodIn_app (goodIn_of _ (by decide +kernel)) ggL_law_X6_family
set_option maxRecDepth 100000 in
theorem ggL_law_X5_ranked : GoodIn wsL_law wsX5_ranked := goodIn_r _ [577, 128, 15, 578, 579, 580, 14, 581, 34, 582, 117, 118, 119, 120, 33, 335, 336, 337, 338, 775, 776, 777, 778, 791, 792, 793, 794, 795, 796, 797, 798, 799, 800, 801, 802, 803, 804] rfl (by decide +kernel)
set_option maxRecDepth 100000 in
theorem gL_law_X5_ranked : GoodIn wsL_law (wsV RL 81 RX5 yX5_ranked wsX5_ranked) := goodIn_app (goodIn_of _ (by decide +kernel)) ggL_law_X5_ranked
set_option maxRecDepth 100000 in
theorem ggL_law_X6_ranked : GoodIn wsL_law wsX6_ranked := goodIn_r _ [586, 144, 371, 153, 154, 155, 5, 156, 75, 499, 500, 501, 502, 779, 780, 781, 782, 783, 784, 785, 786, 787, 788, 789, 790] rfl (by decide +kernel)
set_option maxRecDepth 100000 in
theorem gL_law_X6_ranked : GoodIn wsL_law (wsV RL 84 RX6 yX6_ranked wsX6_ranked) := goodIn_app (goodIn_of _ (by decide +kernel)) ggL_law_X6_ranked
set_option maxRecDepth 100000 in
theorem ggL_law_X5_over : GoodIn wsL_law wsX5_over := goodIn_r _ [590, 128, 15, 591, 592, 593, 14, 594, 33, 775, 776, 777, 778, 791, 792, 793, 794, 795, 796, 797, 798, 799, 800, 801, 802, 803, 804] rfl (by decide +kernel)
set_option maxRecDepth 100000 in
theorem gL_law_X5_over : GoodIn wsL_law (wsV RL 85 RX5 yX5_over wsX5_over) := goodIn_app (goodIn_of _ (by decide +kernel)) ggL_law_X5_over
set_option maxRecDepth 100000 in
theorem ggL_law_X6_over : GoodIn wsL_law wsX6_over := goodIn_r _ [598, 144, 146, 147, 5, 148, 599, 600, 601, 602, 153, 154, 155, 156, 75, 483, 484, 485, 486, 200, 201, 202, 203, 779, 780, 781, 782, 783, 784, 785, 786, 787, 788, 789, 790] rfl (by decide +kernel)
set_option maxRecDepth 100000 in
theorem gL_law_X6_over : GoodIn wsL_law (wsV RL 88 RX6 yX6_over wsX6_over) := goodIn_app (goodIn_of _ (by decide +kernel)) ggL_law_X6_over
set_option maxRecDepth 100000 in
theorem ggL_law_X5_count : GoodIn wsL_law wsX5_count := goodIn_r _ [606, 15, 607, 608, 609, 519, 610, 19, 611, 23, 612, 613, 128, 614, 615, 616, 14, 617, 117, 118, 119, 120, 33, 618, 246, 247, 248, 41, 619, 254, 255, 256, 245, 241, 242, 243, 244, 35, 620, 250, 251, 252, 253, 257, 258, 259, 260, 42, 621, 622, 623, 624, 625, 626, 627, 628, 629, 775, 776, 777, 778, 791, 792, 793, 794, 795, 796, 797, 798, 799, 800, 801, 802, 803, 804, 815, 816, 817, 818, 805, 806, 807, 808, 809, 810, 811] rfl (by decide +kernel)
set_option maxRecDepth 100000 in
theorem gL_law_X5_count : GoodIn wsL_law (wsV RL 89 RX5 yX5_count wsX5_count) := goodIn_app (goodIn_of _ (by decide +kernel)) ggL_law_X5_count
set_option maxRecDepth 100000 in
theorem ggL_law_X6_count : GoodIn wsL_law wsX6_count := goodIn_r _ [633, 75, 162, 634, 144, 599, 600, 601, 5, 602, 153, 154, 155, 156, 483, 484, 485, 486, 200, 201, 202, 203, 282, 283, 284, 285, 224, 225, 226, 227, 228, 229, 230, 231, 286, 287, 288, 289, 278, 279, 280, 281, 290, 291, 292, 293, 635, 636, 637, 638, 779, 780, 781, 782, 783, 784, 785, 786, 787, 788, 789, 790] rfl (by decide +kernel)
set_option maxRecDepth 100000 in
theorem gL_law_X6_count : GoodIn wsL_law (wsV RL 92 RX6 yX6_count wsX6_count) := goodIn_app (goodIn_of _ (by decide +kernel)) ggL_law_X6_count
set_option maxRecDepth 100000 in
theorem ggL_law_X5_undo : GoodIn wsL_law wsX5_undo := goodIn_r _ [642, 19, 15, 611, 129, 643, 644, 645, 18, 646, 89, 58, 94, 95, 96, 14, 97, 33, 98, 99, 100, 101, 34, 35, 36, 37, 38, 39, 40, 41, 42, 46, 102, 103, 104, 105, 106, 107, 45, 108, 50, 109, 51, 52, 110, 775, 776, 777, 778, 805, 806, 791, 792, 793, 794, 795, 796, 797, 798, 799, 800, 801, 802, 803, 804, 815, 816, 817, 818] rfl (by decide +kernel)
set_option maxRecDepth 100000 in
theorem gL_law_X5_undo : GoodIn wsL_law (wsV RL 93 RX5 yX5_undo wsX5_undo) := goodIn_app (goodIn_of _ (by decide +kernel)) ggL_law_X5_undo
set_option maxRecDepth 100000 in
theorem ggL_law_X6_undo : GoodIn wsL_law wsX6_undo := goodIn_r _ [650, 162, 277, 75, 76, 779, 780, 781, 782, 783, 784, 785, 786, 787, 788, 789, 790] rfl (by decide +kernel)
set_option maxRecDepth 100000 in
theorem gL_law_X6_undo : GoodIn wsL_law (wsV RL 96 RX6 yX6_undo wsX6_undo) := goodIn_app (goodIn_of _ (by decide +kernel)) ggL_law_X6_undo
set_option maxRecDepth 100000 in
theorem ggL_law_X5_type : GoodIn wsL_law wsX5_type := goodIn_r _ [654, 128, 23, 612, 130, 655, 656, 657, 22, 658, 659, 63, 775, 776, 777, 778, 807, 808, 809, 810, 811] rfl (by decide +kernel)
set_option maxRecDepth 100000 in
theorem gL_law_X5_type : GoodIn wsL_law (wsV RL 97 RX5 yX5_type wsX5_type) := goodIn_app (goodIn_of _ (by decide +kernel)) ggL_law_X5_type
set_option maxRecDepth 100000 in
theorem ggL_law_X6_type : GoodIn wsL_law wsX6_type := goodIn_r _ [663, 144, 634, 145, 79, 146, 147, 5, 148, 779, 780, 781, 782, 783, 784, 785, 786, 787, 788, 789, 790] rfl (by decide +kernel)
set_option maxRecDepth 100000 in
theorem gL_law_X6_type : GoodIn wsL_law (wsV RL 100 RX6 yX6_type wsX6_type) := goodIn_app (goodIn_of _ (by decide +kernel)) ggL_law_X6_type
set_option maxRecDepth 100000 in
theorem ggL_law_X5_clearText : GoodIn wsL_law wsX5_clearText := goodIn_r _ [667, 23, 612, 775, 776, 777, 778, 807, 808, 809, 810, 811] rfl (by decide +kernel)
set_option maxRecDepth 100000 in
theorem gL_law_X5_clearText : GoodIn wsL_law (wsV RL 101 RX5 yX5_clearText wsX5_clearText) := goodIn_app (goodIn_of _ (by decide +kernel)) ggL_law_X5_clearText
set_option maxRecDepth 100000 in
theorem ggL_law_X6_clearText : GoodIn wsL_law wsX6_clearText := goodIn_r _ [671, 634, 779, 780, 781, 782, 783, 784, 785, 786, 787, 788, 789, 790] rfl (by decide +kernel)
set_option maxRecDepth 100000 in
theorem gL_law_X6_clearText : GoodIn wsL_law (wsV RL 104 RX6 yX6_clearText wsX6_clearText) := goodIn_app (goodIn_of _ (by decide +kernel)) ggL_law_X6_clearText
set_option maxRecDepth 100000 in
theorem ggL_law_X5_fault : GoodIn wsL_law wsX5_fault := goodIn_r _ [675, 128, 27, 23, 15, 676, 131, 677, 678, 679, 680, 26, 681, 69, 682, 683, 684, 685, 686, 95, 96, 14, 97, 33, 98, 99, 100, 101, 34, 35, 36, 37, 38, 39, 40, 41, 42, 46, 102, 103, 104, 105, 106, 107, 45, 108, 50, 109, 51, 52, 110, 687, 688, 689, 22, 690, 691, 692, 64, 693, 694, 695, 696, 659, 63, 697, 698, 699, 700, 701, 702, 703, 704, 705, 706, 707, 708, 709, 710, 711, 712, 713, 714, 715, 716, 717, 718, 719, 323, 324, 325, 115, 326, 184, 185, 186, 187, 117, 118, 119, 120, 180, 181, 182, 183, 188, 189, 190, 191, 327, 328, 329, 330, 253, 254, 255, 256, 245, 246, 247, 248, 241, 242, 243, 244, 331, 332, 333, 334, 257, 258, 259, 260, 335, 336, 337, 338, 339, 340, 341, 342, 343, 344, 271, 345, 265, 266, 267, 268, 269, 270, 272, 249, 250, 251, 252, 212, 213, 214, 215, 346, 347, 348, 349, 350, 351, 352, 353, 261, 262, 263, 264, 720, 385, 386, 387, 240, 388, 389, 390, 391, 392, 721, 402, 403, 404, 722, 176, 177, 178, 179, 112, 113, 114, 116, 723, 209, 210, 211, 724, 418, 419, 420, 421, 422, 423, 424, 725, 726, 727, 728, 729, 126, 2, 127, 129, 130, 775, 776, 777, 778, 812, 813, 814, 807, 808, 809, 810, 811, 791, 792, 793, 794, 795, 796, 797, 798, 799, 800, 801, 802, 803, 804, 815, 816, 817, 818] rfl (by decide +kernel)
set_option maxRecDepth 100000 in
theorem gL_law_X5_fault : GoodIn wsL_law (wsV RL 105 RX5 yX5_fault wsX5_fault) := goodIn_app (goodIn_of _ (by decide +kernel)) ggL_law_X5_fault
set_option maxRecDepth 100000 in
theorem ggL_law_X6_fault : GoodIn wsL_law wsX6_fault := goodIn_r _ [733, 144, 75, 77, 371, 734, 146, 147, 5, 148, 541, 542, 543, 735, 736, 737, 738, 161, 739, 740, 634, 741, 742, 743, 744, 79, 80, 745, 746, 747, 748, 749, 750, 751, 752, 753, 754, 755, 756, 196, 197, 198, 199, 153, 154, 155, 156, 359, 360, 361, 362, 757, 355, 356, 357, 358, 157, 158, 159, 160, 162, 76, 200, 201, 202, 203, 224, 225, 226, 227, 228, 229, 230, 231, 286, 287, 288, 289, 282, 283, 284, 285, 278, 279, 280, 281, 290, 291, 292, 293, 363, 364, 365, 366, 167, 168, 169, 170, 367, 368, 369, 370, 372, 373, 374, 375, 298, 299, 300, 301, 376, 377, 378, 379, 294, 295, 296, 297, 758, 759, 760, 761, 277, 145, 762, 394, 395, 396, 220, 221, 222, 223, 763, 406, 407, 408, 409, 410, 411, 412, 764, 193, 194, 195, 149, 150, 151, 152, 163, 164, 165, 166, 765, 217, 218, 219, 766, 426, 427, 428, 429, 430, 431, 432, 433, 434, 435, 436, 779, 780, 781, 782, 783, 784, 785, 786, 787, 788, 789, 790] rfl (by decide +kernel)
set_option maxRecDepth 100000 in
theorem gL_law_X6_fault : GoodIn wsL_law (wsV RL 108 RX6 yX6_fault wsX6_fault) := goodIn_app (goodIn_of _ (by decide +kernel)) ggL_law_X6_fault
set_option maxRecDepth 100000 in
theorem ggL_law_X5_play : GoodIn wsL_law wsX5_play := goodIn_r _ [770, 27, 23, 15, 676, 129, 548, 607, 19, 678, 679, 680, 26, 681, 69, 682, 683, 684, 685, 686, 95, 96, 14, 97, 33, 98, 99, 100, 101, 34, 35, 36, 37, 38, 39, 40, 41, 42, 46, 102, 103, 104, 105, 106, 107, 45, 108, 50, 109, 51, 52, 110, 687, 688, 689, 22, 690, 691, 692, 64, 693, 694, 695, 696, 659, 63, 697, 698, 699, 700, 701, 702, 703, 704, 705, 706, 707, 708, 709, 710, 711, 712, 713, 714, 715, 716, 717, 718, 719, 323, 324, 325, 115, 326, 184, 185, 186, 187, 117, 118, 119, 120, 180, 181, 182, 183, 188, 189, 190, 191, 327, 328, 329, 330, 253, 254, 255, 256, 245, 246, 247, 248, 241, 242, 243, 244, 331, 332, 333, 334, 257, 258, 259, 260, 335, 336, 337, 338, 339, 340, 341, 342, 343, 344, 271, 345, 265, 266, 267, 268, 269, 270, 272, 249, 250, 251, 252, 212, 213, 214, 215, 346, 347, 348, 349, 350, 351, 352, 353, 261, 262, 263, 264, 720, 385, 386, 387, 240, 388, 389, 390, 391, 392, 721, 402, 403, 404, 722, 176, 177, 178, 179, 112, 113, 114, 116, 723, 209, 210, 211, 724, 418, 419, 420, 421, 422, 423, 424, 725, 726, 727, 728, 729, 126, 2, 127, 128, 130, 131, 85, 86, 87, 18, 88, 89, 90, 91, 92, 93, 58, 94, 549, 121, 122, 123, 124, 125, 132, 133, 134, 135, 136, 137, 138, 139, 775, 776, 777, 778, 812, 813, 814, 791, 792, 793, 794, 795, 796, 797, 798, 799, 800, 801, 802, 803, 804, 807, 808, 809, 810, 811, 815, 816, 817, 818, 805, 806] rfl (by decide +kernel)
set_option maxRecDepth 100000 in
theorem gL_law_X5_play : GoodIn wsL_law (wsV RL 109 RX5 yX5_play wsX5_play) := goodIn_app (goodIn_of _ (by decide +kernel)) ggL_law_X5_play
set_option maxRecDepth 100000 in
theorem ggL_law_X6_play : GoodIn wsL_law wsX6_play := goodIn_r _ [774, 75, 77, 371, 277, 740, 541, 542, 5, 543, 735, 736, 737, 738, 161, 739, 734, 634, 741, 742, 743, 744, 79, 80, 745, 746, 747, 748, 749, 750, 751, 752, 146, 147, 148, 753, 754, 755, 756, 196, 197, 198, 199, 153, 154, 155, 156, 359, 360, 361, 362, 757, 355, 356, 357, 144, 358, 157, 158, 159, 160, 162, 76, 200, 201, 202, 203, 224, 225, 226, 227, 228, 229, 230, 231, 286, 287, 288, 289, 282, 283, 284, 285, 278, 279, 280, 281, 290, 291, 292, 293, 363, 364, 365, 366, 167, 168, 169, 170, 367, 368, 369, 370, 372, 373, 374, 375, 298, 299, 300, 301, 376, 377, 378, 379, 294, 295, 296, 297, 758, 759, 760, 761, 145, 762, 394, 395, 396, 220, 221, 222, 223, 763, 406, 407, 408, 409, 410, 411, 412, 764, 193, 194, 195, 149, 150, 151, 152, 163, 164, 165, 166, 765, 217, 218, 219, 766, 426, 427, 428, 429, 430, 431, 432, 433, 434, 435, 436, 779, 780, 781, 782, 783, 784, 785, 786, 787, 788, 789, 790] rfl (by decide +kernel)
set_option maxRecDepth 100000 in
theorem gL_law_X6_play : GoodIn wsL_law (wsV RL 112 RX6 yX6_play wsX6_play) := goodIn_app (goodIn_of _ (by decide +kernel)) ggL_law_X6_play
theorem dL_law_0 : decode cL_law 0 = .ok (.new 7, 3) := by decide +kernel
theorem dL_law_3 : decode cL_law 3 = .ok (.dup, 1) := by decide +kernel
theorem dL_law_4 : decode cL_law 4 = .ok (.invokespecial 9, 3) := by decide +kernel
theorem dL_law_7 : decode cL_law 7 = .ok (.astore_n 1, 1) := by decide +kernel
theorem dL_law_8 : decode cL_law 8 = .ok (.new 10, 3) := by decide +kernel
theorem dL_law_11 : decode cL_law 11 = .ok (.dup, 1) := by decide +kernel
theorem dL_law_12 : decode cL_law 12 = .ok (.invokespecial 12, 3) := by decide +kernel
theorem dL_law_15 : decode cL_law 15 = .ok (.astore_n 2, 1) := by decide +kernel
theorem dL_law_16 : decode cL_law 16 = .ok (.iconst 0, 1) := by decide +kernel
theorem dL_law_17 : decode cL_law 17 = .ok (.istore_n 3, 1) := by decide +kernel
theorem dL_law_18 : decode cL_law 18 = .ok (.iload_n 3, 1) := by decide +kernel
theorem dL_law_19 : decode cL_law 19 = .ok (.aload_n 0, 1) := by decide +kernel
theorem dL_law_20 : decode cL_law 20 = .ok (.arraylength, 1) := by decide +kernel
theorem dL_law_21 : decode cL_law 21 = .ok (.iconst 4, 1) := by decide +kernel
theorem dL_law_22 : decode cL_law 22 = .ok (.isub, 1) := by decide +kernel
theorem dL_law_23 : decode cL_law 23 = .ok (.if_icmp .gt 749, 3) := by decide +kernel
theorem dL_law_26 : decode cL_law 26 = .ok (.aload_n 0, 1) := by decide +kernel
theorem dL_law_27 : decode cL_law 27 = .ok (.iload_n 3, 1) := by decide +kernel
theorem dL_law_28 : decode cL_law 28 = .ok (.iaload, 1) := by decide +kernel
theorem dL_law_29 : decode cL_law 29 = .ok (.bipush 31, 2) := by decide +kernel
theorem dL_law_31 : decode cL_law 31 = .ok (.iand, 1) := by decide +kernel
theorem dL_law_32 : decode cL_law 32 = .ok (.tableswitch 734 0 23 #[112, 135, 158, 181, 214, 247, 290, 323, 346, 359, 402, 435, 468, 501, 524, 547, 580, 603, 626, 649, 662, 685, 698, 721], 112) := by decide +kernel
theorem dL_law_144 : decode cL_law 144 = .ok (.aload_n 1, 1) := by decide +kernel
theorem dL_law_145 : decode cL_law 145 = .ok (.aload_n 0, 1) := by decide +kernel
theorem dL_law_146 : decode cL_law 146 = .ok (.iload_n 3, 1) := by decide +kernel
theorem dL_law_147 : decode cL_law 147 = .ok (.iconst 1, 1) := by decide +kernel
theorem dL_law_148 : decode cL_law 148 = .ok (.iadd, 1) := by decide +kernel
theorem dL_law_149 : decode cL_law 149 = .ok (.iaload, 1) := by decide +kernel
theorem dL_law_150 : decode cL_law 150 = .ok (.invokevirtual 13, 3) := by decide +kernel
theorem dL_law_153 : decode cL_law 153 = .ok (.aload_n 2, 1) := by decide +kernel
theorem dL_law_154 : decode cL_law 154 = .ok (.aload_n 0, 1) := by decide +kernel
theorem dL_law_155 : decode cL_law 155 = .ok (.iload_n 3, 1) := by decide +kernel
theorem dL_law_156 : decode cL_law 156 = .ok (.iconst 1, 1) := by decide +kernel
theorem dL_law_157 : decode cL_law 157 = .ok (.iadd, 1) := by decide +kernel
theorem dL_law_158 : decode cL_law 158 = .ok (.iaload, 1) := by decide +kernel
theorem dL_law_159 : decode cL_law 159 = .ok (.invokevirtual 17, 3) := by decide +kernel
theorem dL_law_162 : decode cL_law 162 = .ok (.if_icmp .eq 604, 3) := by decide +kernel
theorem dL_law_165 : decode cL_law 165 = .ok (.iconst 0, 1) := by decide +kernel
theorem dL_law_166 : decode cL_law 166 = .ok (.ireturn, 1) := by decide +kernel
theorem dL_law_167 : decode cL_law 167 = .ok (.aload_n 1, 1) := by decide +kernel
theorem dL_law_168 : decode cL_law 168 = .ok (.aload_n 0, 1) := by decide +kernel
theorem dL_law_169 : decode cL_law 169 = .ok (.iload_n 3, 1) := by decide +kernel
theorem dL_law_170 : decode cL_law 170 = .ok (.iconst 1, 1) := by decide +kernel
theorem dL_law_171 : decode cL_law 171 = .ok (.iadd, 1) := by decide +kernel
theorem dL_law_172 : decode cL_law 172 = .ok (.iaload, 1) := by decide +kernel
theorem dL_law_173 : decode cL_law 173 = .ok (.invokevirtual 18, 3) := by decide +kernel
theorem dL_law_176 : decode cL_law 176 = .ok (.aload_n 2, 1) := by decide +kernel
theorem dL_law_177 : decode cL_law 177 = .ok (.aload_n 0, 1) := by decide +kernel
theorem dL_law_178 : decode cL_law 178 = .ok (.iload_n 3, 1) := by decide +kernel
theorem dL_law_179 : decode cL_law 179 = .ok (.iconst 1, 1) := by decide +kernel
theorem dL_law_180 : decode cL_law 180 = .ok (.iadd, 1) := by decide +kernel
theorem dL_law_181 : decode cL_law 181 = .ok (.iaload, 1) := by decide +kernel
theorem dL_law_182 : decode cL_law 182 = .ok (.invokevirtual 21, 3) := by decide +kernel
theorem dL_law_185 : decode cL_law 185 = .ok (.if_icmp .eq 581, 3) := by decide +kernel
theorem dL_law_188 : decode cL_law 188 = .ok (.iconst 0, 1) := by decide +kernel
theorem dL_law_189 : decode cL_law 189 = .ok (.ireturn, 1) := by decide +kernel
theorem dL_law_190 : decode cL_law 190 = .ok (.aload_n 1, 1) := by decide +kernel
theorem dL_law_191 : decode cL_law 191 = .ok (.aload_n 0, 1) := by decide +kernel
theorem dL_law_192 : decode cL_law 192 = .ok (.iload_n 3, 1) := by decide +kernel
theorem dL_law_193 : decode cL_law 193 = .ok (.iconst 1, 1) := by decide +kernel
theorem dL_law_194 : decode cL_law 194 = .ok (.iadd, 1) := by decide +kernel
theorem dL_law_195 : decode cL_law 195 = .ok (.iaload, 1) := by decide +kernel
theorem dL_law_196 : decode cL_law 196 = .ok (.invokevirtual 22, 3) := by decide +kernel
theorem dL_law_199 : decode cL_law 199 = .ok (.aload_n 2, 1) := by decide +kernel
theorem dL_law_200 : decode cL_law 200 = .ok (.aload_n 0, 1) := by decide +kernel
theorem dL_law_201 : decode cL_law 201 = .ok (.iload_n 3, 1) := by decide +kernel
theorem dL_law_202 : decode cL_law 202 = .ok (.iconst 1, 1) := by decide +kernel
theorem dL_law_203 : decode cL_law 203 = .ok (.iadd, 1) := by decide +kernel
theorem dL_law_204 : decode cL_law 204 = .ok (.iaload, 1) := by decide +kernel
theorem dL_law_205 : decode cL_law 205 = .ok (.invokevirtual 25, 3) := by decide +kernel
theorem dL_law_208 : decode cL_law 208 = .ok (.if_icmp .eq 558, 3) := by decide +kernel
theorem dL_law_211 : decode cL_law 211 = .ok (.iconst 0, 1) := by decide +kernel
theorem dL_law_212 : decode cL_law 212 = .ok (.ireturn, 1) := by decide +kernel
theorem dL_law_213 : decode cL_law 213 = .ok (.aload_n 1, 1) := by decide +kernel
theorem dL_law_214 : decode cL_law 214 = .ok (.aload_n 0, 1) := by decide +kernel
theorem dL_law_215 : decode cL_law 215 = .ok (.iload_n 3, 1) := by decide +kernel
theorem dL_law_216 : decode cL_law 216 = .ok (.iconst 1, 1) := by decide +kernel
theorem dL_law_217 : decode cL_law 217 = .ok (.iadd, 1) := by decide +kernel
theorem dL_law_218 : decode cL_law 218 = .ok (.iaload, 1) := by decide +kernel
theorem dL_law_219 : decode cL_law 219 = .ok (.aload_n 0, 1) := by decide +kernel
theorem dL_law_220 : decode cL_law 220 = .ok (.iload_n 3, 1) := by decide +kernel
theorem dL_law_221 : decode cL_law 221 = .ok (.iconst 2, 1) := by decide +kernel
theorem dL_law_222 : decode cL_law 222 = .ok (.iadd, 1) := by decide +kernel
theorem dL_law_223 : decode cL_law 223 = .ok (.iaload, 1) := by decide +kernel
theorem dL_law_224 : decode cL_law 224 = .ok (.invokevirtual 26, 3) := by decide +kernel
theorem dL_law_227 : decode cL_law 227 = .ok (.aload_n 2, 1) := by decide +kernel
theorem dL_law_228 : decode cL_law 228 = .ok (.aload_n 0, 1) := by decide +kernel
theorem dL_law_229 : decode cL_law 229 = .ok (.iload_n 3, 1) := by decide +kernel
theorem dL_law_230 : decode cL_law 230 = .ok (.iconst 1, 1) := by decide +kernel
theorem dL_law_231 : decode cL_law 231 = .ok (.iadd, 1) := by decide +kernel
theorem dL_law_232 : decode cL_law 232 = .ok (.iaload, 1) := by decide +kernel
theorem dL_law_233 : decode cL_law 233 = .ok (.aload_n 0, 1) := by decide +kernel
theorem dL_law_234 : decode cL_law 234 = .ok (.iload_n 3, 1) := by decide +kernel
theorem dL_law_235 : decode cL_law 235 = .ok (.iconst 2, 1) := by decide +kernel
theorem dL_law_236 : decode cL_law 236 = .ok (.iadd, 1) := by decide +kernel
theorem dL_law_237 : decode cL_law 237 = .ok (.iaload, 1) := by decide +kernel
theorem dL_law_238 : decode cL_law 238 = .ok (.invokevirtual 30, 3) := by decide +kernel
theorem dL_law_241 : decode cL_law 241 = .ok (.if_icmp .eq 525, 3) := by decide +kernel
theorem dL_law_244 : decode cL_law 244 = .ok (.iconst 0, 1) := by decide +kernel
theorem dL_law_245 : decode cL_law 245 = .ok (.ireturn, 1) := by decide +kernel
theorem dL_law_246 : decode cL_law 246 = .ok (.aload_n 1, 1) := by decide +kernel
theorem dL_law_247 : decode cL_law 247 = .ok (.aload_n 0, 1) := by decide +kernel
theorem dL_law_248 : decode cL_law 248 = .ok (.iload_n 3, 1) := by decide +kernel
theorem dL_law_249 : decode cL_law 249 = .ok (.iconst 1, 1) := by decide +kernel
theorem dL_law_250 : decode cL_law 250 = .ok (.iadd, 1) := by decide +kernel
theorem dL_law_251 : decode cL_law 251 = .ok (.iaload, 1) := by decide +kernel
theorem dL_law_252 : decode cL_law 252 = .ok (.aload_n 0, 1) := by decide +kernel
theorem dL_law_253 : decode cL_law 253 = .ok (.iload_n 3, 1) := by decide +kernel
theorem dL_law_254 : decode cL_law 254 = .ok (.iconst 2, 1) := by decide +kernel
theorem dL_law_255 : decode cL_law 255 = .ok (.iadd, 1) := by decide +kernel
theorem dL_law_256 : decode cL_law 256 = .ok (.iaload, 1) := by decide +kernel
theorem dL_law_257 : decode cL_law 257 = .ok (.invokevirtual 31, 3) := by decide +kernel
theorem dL_law_260 : decode cL_law 260 = .ok (.aload_n 2, 1) := by decide +kernel
theorem dL_law_261 : decode cL_law 261 = .ok (.aload_n 0, 1) := by decide +kernel
theorem dL_law_262 : decode cL_law 262 = .ok (.iload_n 3, 1) := by decide +kernel
theorem dL_law_263 : decode cL_law 263 = .ok (.iconst 1, 1) := by decide +kernel
theorem dL_law_264 : decode cL_law 264 = .ok (.iadd, 1) := by decide +kernel
theorem dL_law_265 : decode cL_law 265 = .ok (.iaload, 1) := by decide +kernel
theorem dL_law_266 : decode cL_law 266 = .ok (.aload_n 0, 1) := by decide +kernel
theorem dL_law_267 : decode cL_law 267 = .ok (.iload_n 3, 1) := by decide +kernel
theorem dL_law_268 : decode cL_law 268 = .ok (.iconst 2, 1) := by decide +kernel
theorem dL_law_269 : decode cL_law 269 = .ok (.iadd, 1) := by decide +kernel
theorem dL_law_270 : decode cL_law 270 = .ok (.iaload, 1) := by decide +kernel
theorem dL_law_271 : decode cL_law 271 = .ok (.invokevirtual 34, 3) := by decide +kernel
theorem dL_law_274 : decode cL_law 274 = .ok (.if_icmp .eq 492, 3) := by decide +kernel
theorem dL_law_277 : decode cL_law 277 = .ok (.iconst 0, 1) := by decide +kernel
theorem dL_law_278 : decode cL_law 278 = .ok (.ireturn, 1) := by decide +kernel
theorem dL_law_279 : decode cL_law 279 = .ok (.aload_n 1, 1) := by decide +kernel
theorem dL_law_280 : decode cL_law 280 = .ok (.aload_n 0, 1) := by decide +kernel
theorem dL_law_281 : decode cL_law 281 = .ok (.iload_n 3, 1) := by decide +kernel
theorem dL_law_282 : decode cL_law 282 = .ok (.iconst 1, 1) := by decide +kernel
theorem dL_law_283 : decode cL_law 283 = .ok (.iadd, 1) := by decide +kernel
theorem dL_law_284 : decode cL_law 284 = .ok (.iaload, 1) := by decide +kernel
theorem dL_law_285 : decode cL_law 285 = .ok (.aload_n 0, 1) := by decide +kernel
theorem dL_law_286 : decode cL_law 286 = .ok (.iload_n 3, 1) := by decide +kernel
theorem dL_law_287 : decode cL_law 287 = .ok (.iconst 2, 1) := by decide +kernel
theorem dL_law_288 : decode cL_law 288 = .ok (.iadd, 1) := by decide +kernel
theorem dL_law_289 : decode cL_law 289 = .ok (.iaload, 1) := by decide +kernel
theorem dL_law_290 : decode cL_law 290 = .ok (.aload_n 0, 1) := by decide +kernel
theorem dL_law_291 : decode cL_law 291 = .ok (.iload_n 3, 1) := by decide +kernel
theorem dL_law_292 : decode cL_law 292 = .ok (.iconst 3, 1) := by decide +kernel
theorem dL_law_293 : decode cL_law 293 = .ok (.iadd, 1) := by decide +kernel
theorem dL_law_294 : decode cL_law 294 = .ok (.iaload, 1) := by decide +kernel
theorem dL_law_295 : decode cL_law 295 = .ok (.invokevirtual 35, 3) := by decide +kernel
theorem dL_law_298 : decode cL_law 298 = .ok (.aload_n 2, 1) := by decide +kernel
theorem dL_law_299 : decode cL_law 299 = .ok (.aload_n 0, 1) := by decide +kernel
theorem dL_law_300 : decode cL_law 300 = .ok (.iload_n 3, 1) := by decide +kernel
theorem dL_law_301 : decode cL_law 301 = .ok (.iconst 1, 1) := by decide +kernel
theorem dL_law_302 : decode cL_law 302 = .ok (.iadd, 1) := by decide +kernel
theorem dL_law_303 : decode cL_law 303 = .ok (.iaload, 1) := by decide +kernel
theorem dL_law_304 : decode cL_law 304 = .ok (.aload_n 0, 1) := by decide +kernel
theorem dL_law_305 : decode cL_law 305 = .ok (.iload_n 3, 1) := by decide +kernel
theorem dL_law_306 : decode cL_law 306 = .ok (.iconst 2, 1) := by decide +kernel
theorem dL_law_307 : decode cL_law 307 = .ok (.iadd, 1) := by decide +kernel
theorem dL_law_308 : decode cL_law 308 = .ok (.iaload, 1) := by decide +kernel
theorem dL_law_309 : decode cL_law 309 = .ok (.aload_n 0, 1) := by decide +kernel
theorem dL_law_310 : decode cL_law 310 = .ok (.iload_n 3, 1) := by decide +kernel
theorem dL_law_311 : decode cL_law 311 = .ok (.iconst 3, 1) := by decide +kernel
theorem dL_law_312 : decode cL_law 312 = .ok (.iadd, 1) := by decide +kernel
theorem dL_law_313 : decode cL_law 313 = .ok (.iaload, 1) := by decide +kernel
theorem dL_law_314 : decode cL_law 314 = .ok (.invokevirtual 39, 3) := by decide +kernel
theorem dL_law_317 : decode cL_law 317 = .ok (.if_icmp .eq 449, 3) := by decide +kernel
theorem dL_law_320 : decode cL_law 320 = .ok (.iconst 0, 1) := by decide +kernel
theorem dL_law_321 : decode cL_law 321 = .ok (.ireturn, 1) := by decide +kernel
theorem dL_law_322 : decode cL_law 322 = .ok (.aload_n 1, 1) := by decide +kernel
theorem dL_law_323 : decode cL_law 323 = .ok (.aload_n 0, 1) := by decide +kernel
theorem dL_law_324 : decode cL_law 324 = .ok (.iload_n 3, 1) := by decide +kernel
theorem dL_law_325 : decode cL_law 325 = .ok (.iconst 1, 1) := by decide +kernel
theorem dL_law_326 : decode cL_law 326 = .ok (.iadd, 1) := by decide +kernel
theorem dL_law_327 : decode cL_law 327 = .ok (.iaload, 1) := by decide +kernel
theorem dL_law_328 : decode cL_law 328 = .ok (.aload_n 0, 1) := by decide +kernel
theorem dL_law_329 : decode cL_law 329 = .ok (.iload_n 3, 1) := by decide +kernel
theorem dL_law_330 : decode cL_law 330 = .ok (.iconst 2, 1) := by decide +kernel
theorem dL_law_331 : decode cL_law 331 = .ok (.iadd, 1) := by decide +kernel
theorem dL_law_332 : decode cL_law 332 = .ok (.iaload, 1) := by decide +kernel
theorem dL_law_333 : decode cL_law 333 = .ok (.invokevirtual 40, 3) := by decide +kernel
theorem dL_law_336 : decode cL_law 336 = .ok (.aload_n 2, 1) := by decide +kernel
theorem dL_law_337 : decode cL_law 337 = .ok (.aload_n 0, 1) := by decide +kernel
theorem dL_law_338 : decode cL_law 338 = .ok (.iload_n 3, 1) := by decide +kernel
theorem dL_law_339 : decode cL_law 339 = .ok (.iconst 1, 1) := by decide +kernel
theorem dL_law_340 : decode cL_law 340 = .ok (.iadd, 1) := by decide +kernel
theorem dL_law_341 : decode cL_law 341 = .ok (.iaload, 1) := by decide +kernel
theorem dL_law_342 : decode cL_law 342 = .ok (.aload_n 0, 1) := by decide +kernel
theorem dL_law_343 : decode cL_law 343 = .ok (.iload_n 3, 1) := by decide +kernel
theorem dL_law_344 : decode cL_law 344 = .ok (.iconst 2, 1) := by decide +kernel
theorem dL_law_345 : decode cL_law 345 = .ok (.iadd, 1) := by decide +kernel
theorem dL_law_346 : decode cL_law 346 = .ok (.iaload, 1) := by decide +kernel
theorem dL_law_347 : decode cL_law 347 = .ok (.invokevirtual 43, 3) := by decide +kernel
theorem dL_law_350 : decode cL_law 350 = .ok (.if_icmp .eq 416, 3) := by decide +kernel
theorem dL_law_353 : decode cL_law 353 = .ok (.iconst 0, 1) := by decide +kernel
theorem dL_law_354 : decode cL_law 354 = .ok (.ireturn, 1) := by decide +kernel
theorem dL_law_355 : decode cL_law 355 = .ok (.aload_n 1, 1) := by decide +kernel
theorem dL_law_356 : decode cL_law 356 = .ok (.aload_n 0, 1) := by decide +kernel
theorem dL_law_357 : decode cL_law 357 = .ok (.iload_n 3, 1) := by decide +kernel
theorem dL_law_358 : decode cL_law 358 = .ok (.iconst 1, 1) := by decide +kernel
theorem dL_law_359 : decode cL_law 359 = .ok (.iadd, 1) := by decide +kernel
theorem dL_law_360 : decode cL_law 360 = .ok (.iaload, 1) := by decide +kernel
theorem dL_law_361 : decode cL_law 361 = .ok (.invokevirtual 44, 3) := by decide +kernel
theorem dL_law_364 : decode cL_law 364 = .ok (.aload_n 2, 1) := by decide +kernel
theorem dL_law_365 : decode cL_law 365 = .ok (.aload_n 0, 1) := by decide +kernel
theorem dL_law_366 : decode cL_law 366 = .ok (.iload_n 3, 1) := by decide +kernel
theorem dL_law_367 : decode cL_law 367 = .ok (.iconst 1, 1) := by decide +kernel
theorem dL_law_368 : decode cL_law 368 = .ok (.iadd, 1) := by decide +kernel
theorem dL_law_369 : decode cL_law 369 = .ok (.iaload, 1) := by decide +kernel
theorem dL_law_370 : decode cL_law 370 = .ok (.invokevirtual 47, 3) := by decide +kernel
theorem dL_law_373 : decode cL_law 373 = .ok (.if_icmp .eq 393, 3) := by decide +kernel
theorem dL_law_376 : decode cL_law 376 = .ok (.iconst 0, 1) := by decide +kernel
theorem dL_law_377 : decode cL_law 377 = .ok (.ireturn, 1) := by decide +kernel
theorem dL_law_378 : decode cL_law 378 = .ok (.aload_n 1, 1) := by decide +kernel
theorem dL_law_379 : decode cL_law 379 = .ok (.invokevirtual 48, 3) := by decide +kernel
theorem dL_law_382 : decode cL_law 382 = .ok (.aload_n 2, 1) := by decide +kernel
theorem dL_law_383 : decode cL_law 383 = .ok (.invokevirtual 52, 3) := by decide +kernel
theorem dL_law_386 : decode cL_law 386 = .ok (.if_icmp .eq 380, 3) := by decide +kernel
theorem dL_law_389 : decode cL_law 389 = .ok (.iconst 0, 1) := by decide +kernel
theorem dL_law_390 : decode cL_law 390 = .ok (.ireturn, 1) := by decide +kernel
theorem dL_law_391 : decode cL_law 391 = .ok (.aload_n 1, 1) := by decide +kernel
theorem dL_law_392 : decode cL_law 392 = .ok (.aload_n 0, 1) := by decide +kernel
theorem dL_law_393 : decode cL_law 393 = .ok (.iload_n 3, 1) := by decide +kernel
theorem dL_law_394 : decode cL_law 394 = .ok (.iconst 1, 1) := by decide +kernel
theorem dL_law_395 : decode cL_law 395 = .ok (.iadd, 1) := by decide +kernel
theorem dL_law_396 : decode cL_law 396 = .ok (.iaload, 1) := by decide +kernel
theorem dL_law_397 : decode cL_law 397 = .ok (.aload_n 0, 1) := by decide +kernel
theorem dL_law_398 : decode cL_law 398 = .ok (.iload_n 3, 1) := by decide +kernel
theorem dL_law_399 : decode cL_law 399 = .ok (.iconst 2, 1) := by decide +kernel
theorem dL_law_400 : decode cL_law 400 = .ok (.iadd, 1) := by decide +kernel
theorem dL_law_401 : decode cL_law 401 = .ok (.iaload, 1) := by decide +kernel
theorem dL_law_402 : decode cL_law 402 = .ok (.aload_n 0, 1) := by decide +kernel
theorem dL_law_403 : decode cL_law 403 = .ok (.iload_n 3, 1) := by decide +kernel
theorem dL_law_404 : decode cL_law 404 = .ok (.iconst 3, 1) := by decide +kernel
theorem dL_law_405 : decode cL_law 405 = .ok (.iadd, 1) := by decide +kernel
theorem dL_law_406 : decode cL_law 406 = .ok (.iaload, 1) := by decide +kernel
theorem dL_law_407 : decode cL_law 407 = .ok (.invokevirtual 53, 3) := by decide +kernel
theorem dL_law_410 : decode cL_law 410 = .ok (.aload_n 2, 1) := by decide +kernel
theorem dL_law_411 : decode cL_law 411 = .ok (.aload_n 0, 1) := by decide +kernel
theorem dL_law_412 : decode cL_law 412 = .ok (.iload_n 3, 1) := by decide +kernel
theorem dL_law_413 : decode cL_law 413 = .ok (.iconst 1, 1) := by decide +kernel
theorem dL_law_414 : decode cL_law 414 = .ok (.iadd, 1) := by decide +kernel
theorem dL_law_415 : decode cL_law 415 = .ok (.iaload, 1) := by decide +kernel
theorem dL_law_416 : decode cL_law 416 = .ok (.aload_n 0, 1) := by decide +kernel
theorem dL_law_417 : decode cL_law 417 = .ok (.iload_n 3, 1) := by decide +kernel
theorem dL_law_418 : decode cL_law 418 = .ok (.iconst 2, 1) := by decide +kernel
theorem dL_law_419 : decode cL_law 419 = .ok (.iadd, 1) := by decide +kernel
theorem dL_law_420 : decode cL_law 420 = .ok (.iaload, 1) := by decide +kernel
theorem dL_law_421 : decode cL_law 421 = .ok (.aload_n 0, 1) := by decide +kernel
theorem dL_law_422 : decode cL_law 422 = .ok (.iload_n 3, 1) := by decide +kernel
theorem dL_law_423 : decode cL_law 423 = .ok (.iconst 3, 1) := by decide +kernel
theorem dL_law_424 : decode cL_law 424 = .ok (.iadd, 1) := by decide +kernel
theorem dL_law_425 : decode cL_law 425 = .ok (.iaload, 1) := by decide +kernel
theorem dL_law_426 : decode cL_law 426 = .ok (.invokevirtual 56, 3) := by decide +kernel
theorem dL_law_429 : decode cL_law 429 = .ok (.if_icmp .eq 337, 3) := by decide +kernel
theorem dL_law_432 : decode cL_law 432 = .ok (.iconst 0, 1) := by decide +kernel
theorem dL_law_433 : decode cL_law 433 = .ok (.ireturn, 1) := by decide +kernel
theorem dL_law_434 : decode cL_law 434 = .ok (.aload_n 1, 1) := by decide +kernel
theorem dL_law_435 : decode cL_law 435 = .ok (.aload_n 0, 1) := by decide +kernel
theorem dL_law_436 : decode cL_law 436 = .ok (.iload_n 3, 1) := by decide +kernel
theorem dL_law_437 : decode cL_law 437 = .ok (.iconst 1, 1) := by decide +kernel
theorem dL_law_438 : decode cL_law 438 = .ok (.iadd, 1) := by decide +kernel
theorem dL_law_439 : decode cL_law 439 = .ok (.iaload, 1) := by decide +kernel
theorem dL_law_440 : decode cL_law 440 = .ok (.aload_n 0, 1) := by decide +kernel
theorem dL_law_441 : decode cL_law 441 = .ok (.iload_n 3, 1) := by decide +kernel
theorem dL_law_442 : decode cL_law 442 = .ok (.iconst 2, 1) := by decide +kernel
theorem dL_law_443 : decode cL_law 443 = .ok (.iadd, 1) := by decide +kernel
theorem dL_law_444 : decode cL_law 444 = .ok (.iaload, 1) := by decide +kernel
theorem dL_law_445 : decode cL_law 445 = .ok (.invokevirtual 57, 3) := by decide +kernel
theorem dL_law_448 : decode cL_law 448 = .ok (.aload_n 2, 1) := by decide +kernel
theorem dL_law_449 : decode cL_law 449 = .ok (.aload_n 0, 1) := by decide +kernel
theorem dL_law_450 : decode cL_law 450 = .ok (.iload_n 3, 1) := by decide +kernel
theorem dL_law_451 : decode cL_law 451 = .ok (.iconst 1, 1) := by decide +kernel
theorem dL_law_452 : decode cL_law 452 = .ok (.iadd, 1) := by decide +kernel
theorem dL_law_453 : decode cL_law 453 = .ok (.iaload, 1) := by decide +kernel
theorem dL_law_454 : decode cL_law 454 = .ok (.aload_n 0, 1) := by decide +kernel
theorem dL_law_455 : decode cL_law 455 = .ok (.iload_n 3, 1) := by decide +kernel
theorem dL_law_456 : decode cL_law 456 = .ok (.iconst 2, 1) := by decide +kernel
theorem dL_law_457 : decode cL_law 457 = .ok (.iadd, 1) := by decide +kernel
theorem dL_law_458 : decode cL_law 458 = .ok (.iaload, 1) := by decide +kernel
theorem dL_law_459 : decode cL_law 459 = .ok (.invokevirtual 60, 3) := by decide +kernel
theorem dL_law_462 : decode cL_law 462 = .ok (.if_icmp .eq 304, 3) := by decide +kernel
theorem dL_law_465 : decode cL_law 465 = .ok (.iconst 0, 1) := by decide +kernel
theorem dL_law_466 : decode cL_law 466 = .ok (.ireturn, 1) := by decide +kernel
theorem dL_law_467 : decode cL_law 467 = .ok (.aload_n 1, 1) := by decide +kernel
theorem dL_law_468 : decode cL_law 468 = .ok (.aload_n 0, 1) := by decide +kernel
theorem dL_law_469 : decode cL_law 469 = .ok (.iload_n 3, 1) := by decide +kernel
theorem dL_law_470 : decode cL_law 470 = .ok (.iconst 1, 1) := by decide +kernel
theorem dL_law_471 : decode cL_law 471 = .ok (.iadd, 1) := by decide +kernel
theorem dL_law_472 : decode cL_law 472 = .ok (.iaload, 1) := by decide +kernel
theorem dL_law_473 : decode cL_law 473 = .ok (.aload_n 0, 1) := by decide +kernel
theorem dL_law_474 : decode cL_law 474 = .ok (.iload_n 3, 1) := by decide +kernel
theorem dL_law_475 : decode cL_law 475 = .ok (.iconst 2, 1) := by decide +kernel
theorem dL_law_476 : decode cL_law 476 = .ok (.iadd, 1) := by decide +kernel
theorem dL_law_477 : decode cL_law 477 = .ok (.iaload, 1) := by decide +kernel
theorem dL_law_478 : decode cL_law 478 = .ok (.invokevirtual 61, 3) := by decide +kernel
theorem dL_law_481 : decode cL_law 481 = .ok (.aload_n 2, 1) := by decide +kernel
theorem dL_law_482 : decode cL_law 482 = .ok (.aload_n 0, 1) := by decide +kernel
theorem dL_law_483 : decode cL_law 483 = .ok (.iload_n 3, 1) := by decide +kernel
theorem dL_law_484 : decode cL_law 484 = .ok (.iconst 1, 1) := by decide +kernel
theorem dL_law_485 : decode cL_law 485 = .ok (.iadd, 1) := by decide +kernel
theorem dL_law_486 : decode cL_law 486 = .ok (.iaload, 1) := by decide +kernel
theorem dL_law_487 : decode cL_law 487 = .ok (.aload_n 0, 1) := by decide +kernel
theorem dL_law_488 : decode cL_law 488 = .ok (.iload_n 3, 1) := by decide +kernel
theorem dL_law_489 : decode cL_law 489 = .ok (.iconst 2, 1) := by decide +kernel
theorem dL_law_490 : decode cL_law 490 = .ok (.iadd, 1) := by decide +kernel
theorem dL_law_491 : decode cL_law 491 = .ok (.iaload, 1) := by decide +kernel
theorem dL_law_492 : decode cL_law 492 = .ok (.invokevirtual 64, 3) := by decide +kernel
theorem dL_law_495 : decode cL_law 495 = .ok (.if_icmp .eq 271, 3) := by decide +kernel
theorem dL_law_498 : decode cL_law 498 = .ok (.iconst 0, 1) := by decide +kernel
theorem dL_law_499 : decode cL_law 499 = .ok (.ireturn, 1) := by decide +kernel
theorem dL_law_500 : decode cL_law 500 = .ok (.aload_n 1, 1) := by decide +kernel
theorem dL_law_501 : decode cL_law 501 = .ok (.aload_n 0, 1) := by decide +kernel
theorem dL_law_502 : decode cL_law 502 = .ok (.iload_n 3, 1) := by decide +kernel
theorem dL_law_503 : decode cL_law 503 = .ok (.iconst 1, 1) := by decide +kernel
theorem dL_law_504 : decode cL_law 504 = .ok (.iadd, 1) := by decide +kernel
theorem dL_law_505 : decode cL_law 505 = .ok (.iaload, 1) := by decide +kernel
theorem dL_law_506 : decode cL_law 506 = .ok (.aload_n 0, 1) := by decide +kernel
theorem dL_law_507 : decode cL_law 507 = .ok (.iload_n 3, 1) := by decide +kernel
theorem dL_law_508 : decode cL_law 508 = .ok (.iconst 2, 1) := by decide +kernel
theorem dL_law_509 : decode cL_law 509 = .ok (.iadd, 1) := by decide +kernel
theorem dL_law_510 : decode cL_law 510 = .ok (.iaload, 1) := by decide +kernel
theorem dL_law_511 : decode cL_law 511 = .ok (.invokevirtual 65, 3) := by decide +kernel
theorem dL_law_514 : decode cL_law 514 = .ok (.aload_n 2, 1) := by decide +kernel
theorem dL_law_515 : decode cL_law 515 = .ok (.aload_n 0, 1) := by decide +kernel
theorem dL_law_516 : decode cL_law 516 = .ok (.iload_n 3, 1) := by decide +kernel
theorem dL_law_517 : decode cL_law 517 = .ok (.iconst 1, 1) := by decide +kernel
theorem dL_law_518 : decode cL_law 518 = .ok (.iadd, 1) := by decide +kernel
theorem dL_law_519 : decode cL_law 519 = .ok (.iaload, 1) := by decide +kernel
theorem dL_law_520 : decode cL_law 520 = .ok (.aload_n 0, 1) := by decide +kernel
theorem dL_law_521 : decode cL_law 521 = .ok (.iload_n 3, 1) := by decide +kernel
theorem dL_law_522 : decode cL_law 522 = .ok (.iconst 2, 1) := by decide +kernel
theorem dL_law_523 : decode cL_law 523 = .ok (.iadd, 1) := by decide +kernel
theorem dL_law_524 : decode cL_law 524 = .ok (.iaload, 1) := by decide +kernel
theorem dL_law_525 : decode cL_law 525 = .ok (.invokevirtual 68, 3) := by decide +kernel
theorem dL_law_528 : decode cL_law 528 = .ok (.if_icmp .eq 238, 3) := by decide +kernel
theorem dL_law_531 : decode cL_law 531 = .ok (.iconst 0, 1) := by decide +kernel
theorem dL_law_532 : decode cL_law 532 = .ok (.ireturn, 1) := by decide +kernel
theorem dL_law_533 : decode cL_law 533 = .ok (.aload_n 1, 1) := by decide +kernel
theorem dL_law_534 : decode cL_law 534 = .ok (.aload_n 0, 1) := by decide +kernel
theorem dL_law_535 : decode cL_law 535 = .ok (.iload_n 3, 1) := by decide +kernel
theorem dL_law_536 : decode cL_law 536 = .ok (.iconst 1, 1) := by decide +kernel
theorem dL_law_537 : decode cL_law 537 = .ok (.iadd, 1) := by decide +kernel
theorem dL_law_538 : decode cL_law 538 = .ok (.iaload, 1) := by decide +kernel
theorem dL_law_539 : decode cL_law 539 = .ok (.invokevirtual 69, 3) := by decide +kernel
theorem dL_law_542 : decode cL_law 542 = .ok (.aload_n 2, 1) := by decide +kernel
theorem dL_law_543 : decode cL_law 543 = .ok (.aload_n 0, 1) := by decide +kernel
theorem dL_law_544 : decode cL_law 544 = .ok (.iload_n 3, 1) := by decide +kernel
theorem dL_law_545 : decode cL_law 545 = .ok (.iconst 1, 1) := by decide +kernel
theorem dL_law_546 : decode cL_law 546 = .ok (.iadd, 1) := by decide +kernel
theorem dL_law_547 : decode cL_law 547 = .ok (.iaload, 1) := by decide +kernel
theorem dL_law_548 : decode cL_law 548 = .ok (.invokevirtual 72, 3) := by decide +kernel
theorem dL_law_551 : decode cL_law 551 = .ok (.if_icmp .eq 215, 3) := by decide +kernel
theorem dL_law_554 : decode cL_law 554 = .ok (.iconst 0, 1) := by decide +kernel
theorem dL_law_555 : decode cL_law 555 = .ok (.ireturn, 1) := by decide +kernel
theorem dL_law_556 : decode cL_law 556 = .ok (.aload_n 1, 1) := by decide +kernel
theorem dL_law_557 : decode cL_law 557 = .ok (.aload_n 0, 1) := by decide +kernel
theorem dL_law_558 : decode cL_law 558 = .ok (.iload_n 3, 1) := by decide +kernel
theorem dL_law_559 : decode cL_law 559 = .ok (.iconst 1, 1) := by decide +kernel
theorem dL_law_560 : decode cL_law 560 = .ok (.iadd, 1) := by decide +kernel
theorem dL_law_561 : decode cL_law 561 = .ok (.iaload, 1) := by decide +kernel
theorem dL_law_562 : decode cL_law 562 = .ok (.invokevirtual 73, 3) := by decide +kernel
theorem dL_law_565 : decode cL_law 565 = .ok (.aload_n 2, 1) := by decide +kernel
theorem dL_law_566 : decode cL_law 566 = .ok (.aload_n 0, 1) := by decide +kernel
theorem dL_law_567 : decode cL_law 567 = .ok (.iload_n 3, 1) := by decide +kernel
theorem dL_law_568 : decode cL_law 568 = .ok (.iconst 1, 1) := by decide +kernel
theorem dL_law_569 : decode cL_law 569 = .ok (.iadd, 1) := by decide +kernel
theorem dL_law_570 : decode cL_law 570 = .ok (.iaload, 1) := by decide +kernel
theorem dL_law_571 : decode cL_law 571 = .ok (.invokevirtual 76, 3) := by decide +kernel
theorem dL_law_574 : decode cL_law 574 = .ok (.if_icmp .eq 192, 3) := by decide +kernel
theorem dL_law_577 : decode cL_law 577 = .ok (.iconst 0, 1) := by decide +kernel
theorem dL_law_578 : decode cL_law 578 = .ok (.ireturn, 1) := by decide +kernel
theorem dL_law_579 : decode cL_law 579 = .ok (.aload_n 1, 1) := by decide +kernel
theorem dL_law_580 : decode cL_law 580 = .ok (.aload_n 0, 1) := by decide +kernel
theorem dL_law_581 : decode cL_law 581 = .ok (.iload_n 3, 1) := by decide +kernel
theorem dL_law_582 : decode cL_law 582 = .ok (.iconst 1, 1) := by decide +kernel
theorem dL_law_583 : decode cL_law 583 = .ok (.iadd, 1) := by decide +kernel
theorem dL_law_584 : decode cL_law 584 = .ok (.iaload, 1) := by decide +kernel
theorem dL_law_585 : decode cL_law 585 = .ok (.aload_n 0, 1) := by decide +kernel
theorem dL_law_586 : decode cL_law 586 = .ok (.iload_n 3, 1) := by decide +kernel
theorem dL_law_587 : decode cL_law 587 = .ok (.iconst 2, 1) := by decide +kernel
theorem dL_law_588 : decode cL_law 588 = .ok (.iadd, 1) := by decide +kernel
theorem dL_law_589 : decode cL_law 589 = .ok (.iaload, 1) := by decide +kernel
theorem dL_law_590 : decode cL_law 590 = .ok (.invokevirtual 77, 3) := by decide +kernel
theorem dL_law_593 : decode cL_law 593 = .ok (.aload_n 2, 1) := by decide +kernel
theorem dL_law_594 : decode cL_law 594 = .ok (.aload_n 0, 1) := by decide +kernel
theorem dL_law_595 : decode cL_law 595 = .ok (.iload_n 3, 1) := by decide +kernel
theorem dL_law_596 : decode cL_law 596 = .ok (.iconst 1, 1) := by decide +kernel
theorem dL_law_597 : decode cL_law 597 = .ok (.iadd, 1) := by decide +kernel
theorem dL_law_598 : decode cL_law 598 = .ok (.iaload, 1) := by decide +kernel
theorem dL_law_599 : decode cL_law 599 = .ok (.aload_n 0, 1) := by decide +kernel
theorem dL_law_600 : decode cL_law 600 = .ok (.iload_n 3, 1) := by decide +kernel
theorem dL_law_601 : decode cL_law 601 = .ok (.iconst 2, 1) := by decide +kernel
theorem dL_law_602 : decode cL_law 602 = .ok (.iadd, 1) := by decide +kernel
theorem dL_law_603 : decode cL_law 603 = .ok (.iaload, 1) := by decide +kernel
theorem dL_law_604 : decode cL_law 604 = .ok (.invokevirtual 80, 3) := by decide +kernel
theorem dL_law_607 : decode cL_law 607 = .ok (.if_icmp .eq 159, 3) := by decide +kernel
theorem dL_law_610 : decode cL_law 610 = .ok (.iconst 0, 1) := by decide +kernel
theorem dL_law_611 : decode cL_law 611 = .ok (.ireturn, 1) := by decide +kernel
theorem dL_law_612 : decode cL_law 612 = .ok (.aload_n 1, 1) := by decide +kernel
theorem dL_law_613 : decode cL_law 613 = .ok (.aload_n 0, 1) := by decide +kernel
theorem dL_law_614 : decode cL_law 614 = .ok (.iload_n 3, 1) := by decide +kernel
theorem dL_law_615 : decode cL_law 615 = .ok (.iconst 1, 1) := by decide +kernel
theorem dL_law_616 : decode cL_law 616 = .ok (.iadd, 1) := by decide +kernel
theorem dL_law_617 : decode cL_law 617 = .ok (.iaload, 1) := by decide +kernel
theorem dL_law_618 : decode cL_law 618 = .ok (.invokevirtual 81, 3) := by decide +kernel
theorem dL_law_621 : decode cL_law 621 = .ok (.aload_n 2, 1) := by decide +kernel
theorem dL_law_622 : decode cL_law 622 = .ok (.aload_n 0, 1) := by decide +kernel
theorem dL_law_623 : decode cL_law 623 = .ok (.iload_n 3, 1) := by decide +kernel
theorem dL_law_624 : decode cL_law 624 = .ok (.iconst 1, 1) := by decide +kernel
theorem dL_law_625 : decode cL_law 625 = .ok (.iadd, 1) := by decide +kernel
theorem dL_law_626 : decode cL_law 626 = .ok (.iaload, 1) := by decide +kernel
theorem dL_law_627 : decode cL_law 627 = .ok (.invokevirtual 84, 3) := by decide +kernel
theorem dL_law_630 : decode cL_law 630 = .ok (.if_icmp .eq 136, 3) := by decide +kernel
theorem dL_law_633 : decode cL_law 633 = .ok (.iconst 0, 1) := by decide +kernel
theorem dL_law_634 : decode cL_law 634 = .ok (.ireturn, 1) := by decide +kernel
theorem dL_law_635 : decode cL_law 635 = .ok (.aload_n 1, 1) := by decide +kernel
theorem dL_law_636 : decode cL_law 636 = .ok (.aload_n 0, 1) := by decide +kernel
theorem dL_law_637 : decode cL_law 637 = .ok (.iload_n 3, 1) := by decide +kernel
theorem dL_law_638 : decode cL_law 638 = .ok (.iconst 1, 1) := by decide +kernel
theorem dL_law_639 : decode cL_law 639 = .ok (.iadd, 1) := by decide +kernel
theorem dL_law_640 : decode cL_law 640 = .ok (.iaload, 1) := by decide +kernel
theorem dL_law_641 : decode cL_law 641 = .ok (.invokevirtual 85, 3) := by decide +kernel
theorem dL_law_644 : decode cL_law 644 = .ok (.aload_n 2, 1) := by decide +kernel
theorem dL_law_645 : decode cL_law 645 = .ok (.aload_n 0, 1) := by decide +kernel
theorem dL_law_646 : decode cL_law 646 = .ok (.iload_n 3, 1) := by decide +kernel
theorem dL_law_647 : decode cL_law 647 = .ok (.iconst 1, 1) := by decide +kernel
theorem dL_law_648 : decode cL_law 648 = .ok (.iadd, 1) := by decide +kernel
theorem dL_law_649 : decode cL_law 649 = .ok (.iaload, 1) := by decide +kernel
theorem dL_law_650 : decode cL_law 650 = .ok (.invokevirtual 88, 3) := by decide +kernel
theorem dL_law_653 : decode cL_law 653 = .ok (.if_icmp .eq 113, 3) := by decide +kernel
theorem dL_law_656 : decode cL_law 656 = .ok (.iconst 0, 1) := by decide +kernel
theorem dL_law_657 : decode cL_law 657 = .ok (.ireturn, 1) := by decide +kernel
theorem dL_law_658 : decode cL_law 658 = .ok (.aload_n 1, 1) := by decide +kernel
theorem dL_law_659 : decode cL_law 659 = .ok (.aload_n 0, 1) := by decide +kernel
theorem dL_law_660 : decode cL_law 660 = .ok (.iload_n 3, 1) := by decide +kernel
theorem dL_law_661 : decode cL_law 661 = .ok (.iconst 1, 1) := by decide +kernel
theorem dL_law_662 : decode cL_law 662 = .ok (.iadd, 1) := by decide +kernel
theorem dL_law_663 : decode cL_law 663 = .ok (.iaload, 1) := by decide +kernel
theorem dL_law_664 : decode cL_law 664 = .ok (.invokevirtual 89, 3) := by decide +kernel
theorem dL_law_667 : decode cL_law 667 = .ok (.aload_n 2, 1) := by decide +kernel
theorem dL_law_668 : decode cL_law 668 = .ok (.aload_n 0, 1) := by decide +kernel
theorem dL_law_669 : decode cL_law 669 = .ok (.iload_n 3, 1) := by decide +kernel
theorem dL_law_670 : decode cL_law 670 = .ok (.iconst 1, 1) := by decide +kernel
theorem dL_law_671 : decode cL_law 671 = .ok (.iadd, 1) := by decide +kernel
theorem dL_law_672 : decode cL_law 672 = .ok (.iaload, 1) := by decide +kernel
theorem dL_law_673 : decode cL_law 673 = .ok (.invokevirtual 92, 3) := by decide +kernel
theorem dL_law_676 : decode cL_law 676 = .ok (.if_icmp .eq 90, 3) := by decide +kernel
theorem dL_law_679 : decode cL_law 679 = .ok (.iconst 0, 1) := by decide +kernel
theorem dL_law_680 : decode cL_law 680 = .ok (.ireturn, 1) := by decide +kernel
theorem dL_law_681 : decode cL_law 681 = .ok (.aload_n 1, 1) := by decide +kernel
theorem dL_law_682 : decode cL_law 682 = .ok (.invokevirtual 93, 3) := by decide +kernel
theorem dL_law_685 : decode cL_law 685 = .ok (.aload_n 2, 1) := by decide +kernel
theorem dL_law_686 : decode cL_law 686 = .ok (.invokevirtual 96, 3) := by decide +kernel
theorem dL_law_689 : decode cL_law 689 = .ok (.if_icmp .eq 77, 3) := by decide +kernel
theorem dL_law_692 : decode cL_law 692 = .ok (.iconst 0, 1) := by decide +kernel
theorem dL_law_693 : decode cL_law 693 = .ok (.ireturn, 1) := by decide +kernel
theorem dL_law_694 : decode cL_law 694 = .ok (.aload_n 1, 1) := by decide +kernel
theorem dL_law_695 : decode cL_law 695 = .ok (.aload_n 0, 1) := by decide +kernel
theorem dL_law_696 : decode cL_law 696 = .ok (.iload_n 3, 1) := by decide +kernel
theorem dL_law_697 : decode cL_law 697 = .ok (.iconst 1, 1) := by decide +kernel
theorem dL_law_698 : decode cL_law 698 = .ok (.iadd, 1) := by decide +kernel
theorem dL_law_699 : decode cL_law 699 = .ok (.iaload, 1) := by decide +kernel
theorem dL_law_700 : decode cL_law 700 = .ok (.invokevirtual 97, 3) := by decide +kernel
theorem dL_law_703 : decode cL_law 703 = .ok (.aload_n 2, 1) := by decide +kernel
theorem dL_law_704 : decode cL_law 704 = .ok (.aload_n 0, 1) := by decide +kernel
theorem dL_law_705 : decode cL_law 705 = .ok (.iload_n 3, 1) := by decide +kernel
theorem dL_law_706 : decode cL_law 706 = .ok (.iconst 1, 1) := by decide +kernel
theorem dL_law_707 : decode cL_law 707 = .ok (.iadd, 1) := by decide +kernel
theorem dL_law_708 : decode cL_law 708 = .ok (.iaload, 1) := by decide +kernel
theorem dL_law_709 : decode cL_law 709 = .ok (.invokevirtual 100, 3) := by decide +kernel
theorem dL_law_712 : decode cL_law 712 = .ok (.if_icmp .eq 54, 3) := by decide +kernel
theorem dL_law_715 : decode cL_law 715 = .ok (.iconst 0, 1) := by decide +kernel
theorem dL_law_716 : decode cL_law 716 = .ok (.ireturn, 1) := by decide +kernel
theorem dL_law_717 : decode cL_law 717 = .ok (.aload_n 1, 1) := by decide +kernel
theorem dL_law_718 : decode cL_law 718 = .ok (.invokevirtual 101, 3) := by decide +kernel
theorem dL_law_721 : decode cL_law 721 = .ok (.aload_n 2, 1) := by decide +kernel
theorem dL_law_722 : decode cL_law 722 = .ok (.invokevirtual 104, 3) := by decide +kernel
theorem dL_law_725 : decode cL_law 725 = .ok (.if_icmp .eq 41, 3) := by decide +kernel
theorem dL_law_728 : decode cL_law 728 = .ok (.iconst 0, 1) := by decide +kernel
theorem dL_law_729 : decode cL_law 729 = .ok (.ireturn, 1) := by decide +kernel
theorem dL_law_730 : decode cL_law 730 = .ok (.aload_n 1, 1) := by decide +kernel
theorem dL_law_731 : decode cL_law 731 = .ok (.aload_n 0, 1) := by decide +kernel
theorem dL_law_732 : decode cL_law 732 = .ok (.iload_n 3, 1) := by decide +kernel
theorem dL_law_733 : decode cL_law 733 = .ok (.iconst 1, 1) := by decide +kernel
theorem dL_law_734 : decode cL_law 734 = .ok (.iadd, 1) := by decide +kernel
theorem dL_law_735 : decode cL_law 735 = .ok (.iaload, 1) := by decide +kernel
theorem dL_law_736 : decode cL_law 736 = .ok (.invokevirtual 105, 3) := by decide +kernel
theorem dL_law_739 : decode cL_law 739 = .ok (.aload_n 2, 1) := by decide +kernel
theorem dL_law_740 : decode cL_law 740 = .ok (.aload_n 0, 1) := by decide +kernel
theorem dL_law_741 : decode cL_law 741 = .ok (.iload_n 3, 1) := by decide +kernel
theorem dL_law_742 : decode cL_law 742 = .ok (.iconst 1, 1) := by decide +kernel
theorem dL_law_743 : decode cL_law 743 = .ok (.iadd, 1) := by decide +kernel
theorem dL_law_744 : decode cL_law 744 = .ok (.iaload, 1) := by decide +kernel
theorem dL_law_745 : decode cL_law 745 = .ok (.invokevirtual 108, 3) := by decide +kernel
theorem dL_law_748 : decode cL_law 748 = .ok (.if_icmp .eq 18, 3) := by decide +kernel
theorem dL_law_751 : decode cL_law 751 = .ok (.iconst 0, 1) := by decide +kernel
theorem dL_law_752 : decode cL_law 752 = .ok (.ireturn, 1) := by decide +kernel
theorem dL_law_753 : decode cL_law 753 = .ok (.aload_n 1, 1) := by decide +kernel
theorem dL_law_754 : decode cL_law 754 = .ok (.invokevirtual 109, 3) := by decide +kernel
theorem dL_law_757 : decode cL_law 757 = .ok (.aload_n 2, 1) := by decide +kernel
theorem dL_law_758 : decode cL_law 758 = .ok (.invokevirtual 112, 3) := by decide +kernel
theorem dL_law_761 : decode cL_law 761 = .ok (.if_icmp .eq 5, 3) := by decide +kernel
theorem dL_law_764 : decode cL_law 764 = .ok (.iconst 0, 1) := by decide +kernel
theorem dL_law_765 : decode cL_law 765 = .ok (.ireturn, 1) := by decide +kernel
theorem dL_law_766 : decode cL_law 766 = .ok (.iinc 3 4, 3) := by decide +kernel
theorem dL_law_769 : decode cL_law 769 = .ok (.goto (-751), 3) := by decide +kernel
theorem dL_law_772 : decode cL_law 772 = .ok (.iconst 1, 1) := by decide +kernel
theorem dL_law_773 : decode cL_law 773 = .ok (.ireturn, 1) := by decide +kernel
