set_option maxRecDepth 20000 in
theorem ggL_law_X9_init : GoodIn wsL_law wsX9_init := goodIn_r _ [8, 9, 10, 11, 12, 13, 14, 15, 16, 17, 18, 19, 20, 21, 22, 23, 24, 25, 26, 27, 28, 29, 30, 31, 32, 33, 34, 35, 36, 37, 38, 39, 40, 41, 42, 43, 44, 45, 46, 47, 48, 49, 50, 51, 52, 53, 54, 55, 56, 57, 58, 59, 60, 61, 62, 63, 64, 65, 66, 67, 68, 69, 70, 71, 72, 73, 74, 75, 76, 77, 78, 79, 80, 81, 82, 83, 84, 85, 86, 87, 88, 89, 946, 947, 905, 906, 907, 908, 909, 910, 911, 948, 949, 950, 951, 952, 953, 954, 955, 956, 957, 958, 959, 960, 961, 962, 963, 964, 965, 966, 967, 968, 969, 970, 971, 972, 973, 974, 975, 976, 977, 978] (by decide +kernel) (by decide +kernel)
set_option maxRecDepth 20000 in
theorem gL_law_X9_init : GoodIn wsL_law (wsX9_init) := ggL_law_X9_init
set_option maxRecDepth 20000 in
theorem ggL_law_X10_init : GoodIn wsL_law wsX10_init := goodIn_r _ [92, 93, 10, 11, 43, 94, 95, 96, 97, 98, 99, 100, 101, 102, 103, 104, 105, 106, 107, 108, 109, 110, 111, 112, 113, 114, 115, 116, 912, 913, 914, 915, 916, 917, 918, 919, 920, 921, 922, 923, 924, 925, 926, 927, 928, 929, 930, 931, 932, 933, 934, 935, 936, 937, 938, 939, 940, 941, 942, 943, 944, 945] (by decide +kernel) (by decide +kernel)
set_option maxRecDepth 20000 in
theorem gL_law_X10_init : GoodIn wsL_law (wsX10_init) := ggL_law_X10_init
set_option maxRecDepth 20000 in
theorem ggL_law_X9_cups : GoodIn wsL_law wsX9_cups := goodIn_r _ [120, 19, 121, 122, 123, 124, 2, 125, 126, 127, 128, 129, 130, 131, 132, 133, 134, 135, 136, 137, 138, 905, 906, 907, 908, 909, 910, 911, 948, 949, 950, 951, 952, 953] (by decide +kernel) (by decide +kernel)
set_option maxRecDepth 20000 in
theorem gL_law_X9_cups : GoodIn wsL_law (wsV RL 13 RX9 yX9_cups wsX9_cups) := goodIn_app (goodIn_of _ (by decide +kernel)) ggL_law_X9_cups
set_option maxRecDepth 20000 in
theorem ggL_law_X10_cups : GoodIn wsL_law wsX10_cups := goodIn_r _ [142, 143, 144, 94, 101, 145, 146, 147, 5, 148, 149, 150, 151, 152, 153, 154, 155, 156, 912, 913, 914, 915, 916, 917, 918, 919, 920, 921, 922, 923, 924, 925, 926, 927, 928, 929, 930, 931, 932, 933, 934, 935, 936, 937, 938, 939, 940, 941, 942, 943, 944, 945] (by decide +kernel) (by decide +kernel)
set_option maxRecDepth 20000 in
theorem gL_law_X10_cups : GoodIn wsL_law (wsV RL 17 RX10 yX10_cups wsX10_cups) := goodIn_app (goodIn_of _ (by decide +kernel)) ggL_law_X10_cups
set_option maxRecDepth 20000 in
theorem ggL_law_X9_watcher : GoodIn wsL_law wsX9_watcher := goodIn_r _ [160, 19, 161, 162, 2, 163, 164, 131, 132, 165, 166, 167, 18, 168, 53, 169, 170, 171, 172, 52, 54, 905, 906, 907, 908, 909, 910, 911, 948, 949, 950, 951, 952, 953] (by decide +kernel) (by decide +kernel)
set_option maxRecDepth 20000 in
theorem gL_law_X9_watcher : GoodIn wsL_law (wsV RL 18 RX9 yX9_watcher wsX9_watcher) := goodIn_app (goodIn_of _ (by decide +kernel)) ggL_law_X9_watcher
set_option maxRecDepth 20000 in
theorem ggL_law_X10_watcher : GoodIn wsL_law wsX10_watcher := goodIn_r _ [176, 177, 178, 179, 96, 95, 97, 180, 181, 5, 182, 183, 146, 147, 148, 912, 913, 914, 915, 916, 917, 918, 919, 920, 921, 922, 923, 924, 925, 926, 927, 928, 929, 930, 931, 932, 933, 934, 935, 936, 937, 938, 939, 940, 941, 942, 943, 944, 945] (by decide +kernel) (by decide +kernel)
set_option maxRecDepth 20000 in
theorem gL_law_X10_watcher : GoodIn wsL_law (wsV RL 22 RX10 yX10_watcher wsX10_watcher) := goodIn_app (goodIn_of _ (by decide +kernel)) ggL_law_X10_watcher
set_option maxRecDepth 20000 in
theorem ggL_law_X9_say : GoodIn wsL_law wsX9_say := goodIn_r _ [187, 15, 188, 164, 131, 2, 132, 189, 190, 191, 14, 192, 193, 44, 905, 906, 907, 908, 909, 910, 911, 946, 947] (by decide +kernel) (by decide +kernel)
set_option maxRecDepth 20000 in
theorem gL_law_X9_say : GoodIn wsL_law (wsV RL 23 RX9 yX9_say wsX9_say) := goodIn_app (goodIn_of _ (by decide +kernel)) ggL_law_X9_say
set_option maxRecDepth 20000 in
theorem ggL_law_X10_say : GoodIn wsL_law wsX10_say := goodIn_r _ [197, 198, 199, 200, 102, 146, 147, 5, 148, 912, 913, 914, 915, 916, 917, 918, 919, 920, 921, 922, 923, 924, 925, 926, 927, 928, 929, 930, 931, 932, 933, 934, 935, 936, 937, 938, 939, 940, 941, 942, 943, 944, 945] (by decide +kernel) (by decide +kernel)
set_option maxRecDepth 20000 in
theorem gL_law_X10_say : GoodIn wsL_law (wsV RL 27 RX10 yX10_say wsX10_say) := goodIn_app (goodIn_of _ (by decide +kernel)) ggL_law_X10_say
set_option maxRecDepth 20000 in
theorem ggL_law_X9_wipe : GoodIn wsL_law wsX9_wipe := goodIn_r _ [204, 15, 188, 905, 906, 907, 908, 909, 910, 911, 946, 947] (by decide +kernel) (by decide +kernel)
set_option maxRecDepth 20000 in
theorem gL_law_X9_wipe : GoodIn wsL_law (wsV RL 28 RX9 yX9_wipe wsX9_wipe) := goodIn_app (goodIn_of _ (by decide +kernel)) ggL_law_X9_wipe
set_option maxRecDepth 20000 in
theorem ggL_law_X10_wipe : GoodIn wsL_law wsX10_wipe := goodIn_r _ [208, 200, 912, 913, 914, 915, 916, 917, 918, 919, 920, 921, 922, 923, 924, 925, 926, 927, 928, 929, 930, 931, 932, 933, 934, 935, 936, 937, 938, 939, 940, 941, 942, 943, 944, 945] (by decide +kernel) (by decide +kernel)
set_option maxRecDepth 20000 in
theorem gL_law_X10_wipe : GoodIn wsL_law (wsV RL 32 RX10 yX10_wipe wsX10_wipe) := goodIn_app (goodIn_of _ (by decide +kernel)) ggL_law_X10_wipe
set_option maxRecDepth 20000 in
theorem ggL_law_X9_fault : GoodIn wsL_law wsX9_fault := goodIn_r _ [212, 15, 213, 214, 215, 14, 216, 193, 44, 217, 218, 219, 220, 221, 222, 223, 224, 225, 131, 2, 132, 905, 906, 907, 908, 909, 910, 911, 946, 947] (by decide +kernel) (by decide +kernel)
set_option maxRecDepth 20000 in
theorem gL_law_X9_fault : GoodIn wsL_law (wsV RL 33 RX9 yX9_fault wsX9_fault) := goodIn_app (goodIn_of _ (by decide +kernel)) ggL_law_X9_fault
set_option maxRecDepth 20000 in
theorem ggL_law_X10_fault : GoodIn wsL_law wsX10_fault := goodIn_r _ [229, 230, 200, 102, 231, 232, 233, 5, 234, 235, 236, 237, 238, 104, 239, 240, 105, 106, 146, 147, 148, 241, 242, 243, 244, 103, 245, 246, 247, 248, 177, 249, 250, 251, 252, 253, 254, 255, 144, 912, 913, 914, 915, 916, 917, 918, 919, 920, 921, 922, 923, 924, 925, 926, 927, 928, 929, 930, 931, 932, 933, 934, 935, 936, 937, 938, 939, 940, 941, 942, 943, 944, 945] (by decide +kernel) (by decide +kernel)
set_option maxRecDepth 20000 in
theorem gL_law_X10_fault : GoodIn wsL_law (wsV RL 36 RX10 yX10_fault wsX10_fault) := goodIn_app (goodIn_of _ (by decide +kernel)) ggL_law_X10_fault
set_option maxRecDepth 20000 in
theorem ggL_law_X9_judge : GoodIn wsL_law wsX9_judge := goodIn_r _ [259, 23, 164, 131, 2, 132, 260, 261, 262, 263, 15, 19, 264, 213, 214, 215, 14, 216, 193, 44, 217, 218, 219, 220, 221, 222, 223, 224, 225, 265, 266, 267, 22, 268, 269, 270, 63, 271, 272, 273, 274, 59, 275, 276, 277, 278, 279, 280, 281, 282, 18, 283, 49, 50, 51, 52, 53, 54, 284, 285, 286, 287, 288, 289, 290, 291, 292, 293, 294, 295, 296, 297, 298, 62, 299, 300, 301, 302, 303, 304, 305, 306, 307, 308, 309, 310, 311, 312, 313, 314, 315, 316, 317, 318, 319, 320, 321, 322, 323, 324, 325, 326, 327, 328, 329, 330, 331, 128, 332, 333, 166, 167, 168, 162, 163, 334, 335, 336, 337, 338, 339, 340, 341, 342, 343, 344, 345, 346, 347, 348, 349, 350, 351, 352, 353, 354, 355, 356, 357, 358, 359, 360, 137, 138, 361, 362, 363, 364, 365, 366, 367, 368, 369, 370, 371, 372, 373, 374, 375, 376, 377, 905, 906, 907, 908, 909, 910, 911, 954, 955, 956, 957, 958, 959, 960, 961, 946, 947, 948, 949, 950, 951, 952, 953, 974, 975, 976, 977, 978] (by decide +kernel) (by decide +kernel)
set_option maxRecDepth 20000 in
theorem gL_law_X9_judge : GoodIn wsL_law (wsV RL 37 RX9 yX9_judge wsX9_judge) := goodIn_app (goodIn_of _ (by decide +kernel)) ggL_law_X9_judge
set_option maxRecDepth 20000 in
theorem ggL_law_X10_judge : GoodIn wsL_law wsX10_judge := goodIn_r _ [381, 382, 383, 384, 385, 146, 147, 5, 148, 386, 387, 388, 389, 390, 391, 392, 393, 107, 94, 96, 97, 145, 394, 395, 227, 228, 229, 230, 200, 102, 231, 232, 233, 234, 235, 236, 237, 238, 104, 239, 240, 105, 106, 241, 242, 243, 244, 103, 245, 246, 247, 248, 177, 249, 250, 251, 252, 253, 254, 255, 144, 396, 397, 398, 399, 400, 401, 402, 403, 404, 405, 406, 407, 408, 409, 410, 411, 412, 413, 414, 415, 416, 417, 418, 419, 420, 421, 422, 423, 424, 425, 426, 427, 428, 429, 430, 431, 432, 433, 434, 435, 436, 95, 437, 438, 439, 440, 441, 442, 443, 444, 445, 446, 447, 448, 449, 450, 451, 452, 453, 454, 455, 456, 457, 912, 913, 914, 915, 916, 917, 918, 919, 920, 921, 922, 923, 924, 925, 926, 927, 928, 929, 930, 931, 932, 933, 934, 935, 936, 937, 938, 939, 940, 941, 942, 943, 944, 945] (by decide +kernel) (by decide +kernel)
set_option maxRecDepth 20000 in
theorem gL_law_X10_judge : GoodIn wsL_law (wsV RL 40 RX10 yX10_judge wsX10_judge) := goodIn_app (goodIn_of _ (by decide +kernel)) ggL_law_X10_judge
set_option maxRecDepth 20000 in
theorem ggL_law_X9_behind : GoodIn wsL_law wsX9_behind := goodIn_r _ [461, 23, 161, 162, 2, 163, 164, 131, 132, 260, 261, 262, 263, 15, 19, 264, 213, 214, 215, 14, 216, 193, 44, 217, 218, 219, 220, 221, 222, 223, 224, 225, 265, 266, 267, 22, 268, 269, 270, 63, 271, 272, 273, 274, 59, 275, 276, 277, 278, 279, 280, 281, 282, 18, 283, 49, 50, 51, 52, 53, 54, 284, 285, 286, 287, 288, 289, 290, 291, 292, 293, 294, 295, 296, 297, 298, 62, 299, 300, 301, 302, 303, 304, 305, 306, 307, 308, 309, 310, 311, 312, 313, 314, 315, 316, 317, 318, 319, 320, 321, 322, 323, 324, 325, 326, 327, 328, 329, 330, 331, 128, 332, 333, 166, 167, 168, 334, 335, 336, 337, 338, 339, 340, 341, 342, 343, 344, 345, 346, 347, 348, 349, 350, 351, 352, 353, 354, 355, 356, 357, 358, 359, 360, 137, 138, 361, 362, 363, 364, 365, 366, 367, 368, 369, 370, 371, 372, 373, 462, 463, 464, 465, 466, 467, 468, 469, 470, 905, 906, 907, 908, 909, 910, 911, 954, 955, 956, 957, 958, 959, 960, 961, 946, 947, 948, 949, 950, 951, 952, 953, 974, 975, 976, 977, 978] (by decide +kernel) (by decide +kernel)
set_option maxRecDepth 20000 in
theorem gL_law_X9_behind : GoodIn wsL_law (wsV RL 41 RX9 yX9_behind wsX9_behind) := goodIn_app (goodIn_of _ (by decide +kernel)) ggL_law_X9_behind
set_option maxRecDepth 20000 in
theorem ggL_law_X10_behind : GoodIn wsL_law wsX10_behind := goodIn_r _ [474, 382, 97, 96, 180, 181, 5, 182, 183, 146, 147, 148, 386, 387, 388, 389, 383, 390, 391, 392, 393, 107, 94, 145, 394, 395, 227, 228, 229, 230, 200, 102, 231, 232, 233, 234, 235, 236, 237, 238, 104, 239, 240, 105, 106, 241, 242, 243, 244, 103, 245, 246, 247, 248, 177, 249, 250, 251, 252, 253, 254, 255, 144, 396, 397, 398, 399, 384, 400, 401, 385, 402, 403, 404, 405, 406, 407, 408, 409, 410, 411, 412, 413, 414, 415, 416, 417, 418, 419, 420, 421, 422, 423, 424, 425, 426, 427, 428, 429, 430, 431, 432, 433, 434, 435, 436, 95, 437, 438, 439, 440, 441, 442, 443, 444, 445, 446, 447, 448, 449, 450, 451, 452, 453, 454, 455, 456, 457, 912, 913, 914, 915, 916, 917, 918, 919, 920, 921, 922, 923, 924, 925, 926, 927, 928, 929, 930, 931, 932, 933, 934, 935, 936, 937, 938, 939, 940, 941, 942, 943, 944, 945] (by decide +kernel) (by decide +kernel)
set_option maxRecDepth 20000 in
theorem gL_law_X10_behind : GoodIn wsL_law (wsV RL 44 RX10 yX10_behind wsX10_behind) := goodIn_app (goodIn_of _ (by decide +kernel)) ggL_law_X10_behind
set_option maxRecDepth 20000 in
theorem ggL_law_X9_table : GoodIn wsL_law wsX9_table := goodIn_r _ [478, 23, 479, 121, 123, 124, 2, 125, 260, 261, 262, 263, 15, 19, 264, 213, 214, 215, 14, 216, 193, 44, 217, 218, 219, 220, 221, 222, 223, 224, 225, 131, 132, 265, 266, 267, 22, 268, 269, 270, 63, 271, 272, 273, 274, 59, 275, 276, 277, 278, 279, 280, 281, 282, 18, 283, 49, 50, 51, 52, 53, 54, 284, 285, 286, 287, 288, 289, 290, 291, 292, 293, 294, 295, 296, 297, 298, 62, 299, 300, 301, 302, 303, 304, 305, 306, 307, 308, 309, 310, 311, 312, 313, 314, 315, 316, 317, 318, 319, 320, 321, 322, 323, 324, 325, 326, 327, 328, 329, 330, 331, 128, 332, 333, 166, 167, 168, 162, 163, 334, 335, 336, 337, 338, 339, 340, 341, 342, 343, 344, 345, 346, 347, 348, 349, 350, 351, 352, 353, 354, 355, 356, 357, 358, 359, 360, 137, 138, 361, 362, 363, 364, 365, 366, 367, 368, 369, 370, 371, 372, 373, 480, 905, 906, 907, 908, 909, 910, 911, 954, 955, 956, 957, 958, 959, 960, 961, 948, 949, 950, 951, 952, 953, 946, 947, 974, 975, 976, 977, 978] (by decide +kernel) (by decide +kernel)
set_option maxRecDepth 20000 in
theorem gL_law_X9_table : GoodIn wsL_law (wsV RL 45 RX9 yX9_table wsX9_table) := goodIn_app (goodIn_of _ (by decide +kernel)) ggL_law_X9_table
set_option maxRecDepth 20000 in
theorem ggL_law_X10_table : GoodIn wsL_law wsX10_table := goodIn_r _ [484, 94, 253, 254, 5, 255, 144, 146, 147, 148, 386, 387, 388, 389, 383, 390, 391, 392, 393, 107, 96, 97, 145, 394, 395, 227, 228, 229, 230, 200, 102, 231, 232, 233, 234, 235, 236, 237, 238, 104, 239, 240, 105, 106, 241, 242, 243, 244, 103, 245, 246, 247, 248, 177, 249, 250, 251, 252, 396, 397, 398, 399, 384, 400, 401, 385, 402, 403, 404, 405, 406, 407, 408, 409, 410, 411, 412, 413, 414, 415, 416, 417, 418, 419, 420, 421, 422, 423, 424, 425, 426, 427, 428, 429, 430, 431, 432, 433, 434, 435, 436, 95, 437, 438, 439, 440, 441, 442, 443, 444, 445, 446, 447, 448, 449, 450, 451, 452, 453, 454, 455, 456, 457, 912, 913, 914, 915, 916, 917, 918, 919, 920, 921, 922, 923, 924, 925, 926, 927, 928, 929, 930, 931, 932, 933, 934, 935, 936, 937, 938, 939, 940, 941, 942, 943, 944, 945] (by decide +kernel) (by decide +kernel)
set_option maxRecDepth 20000 in
theorem gL_law_X10_table : GoodIn wsL_law (wsV RL 48 RX10 yX10_table wsX10_table) := goodIn_app (goodIn_of _ (by decide +kernel)) ggL_law_X10_table
set_option maxRecDepth 20000 in
theorem ggL_law_X9_pea : GoodIn wsL_law wsX9_pea := goodIn_r _ [488, 23, 164, 131, 2, 132, 260, 261, 262, 263, 15, 19, 264, 213, 214, 215, 14, 216, 193, 44, 217, 218, 219, 220, 221, 222, 223, 224, 225, 265, 266, 267, 22, 268, 269, 270, 63, 271, 272, 273, 274, 59, 275, 276, 277, 278, 279, 280, 281, 282, 18, 283, 49, 50, 51, 52, 53, 54, 284, 285, 286, 287, 288, 289, 290, 291, 292, 293, 294, 295, 296, 297, 298, 62, 299, 300, 301, 302, 303, 304, 305, 306, 307, 308, 309, 310, 311, 312, 313, 314, 315, 316, 317, 318, 319, 320, 321, 322, 323, 324, 325, 326, 327, 328, 329, 330, 331, 128, 332, 333, 166, 167, 168, 162, 163, 334, 335, 336, 337, 338, 339, 340, 341, 342, 343, 344, 345, 346, 347, 348, 349, 350, 351, 352, 353, 354, 355, 356, 357, 358, 359, 360, 137, 138, 361, 362, 363, 364, 365, 366, 367, 368, 369, 370, 371, 372, 373, 489, 490, 491, 492, 493, 494, 495, 496, 497, 905, 906, 907, 908, 909, 910, 911, 954, 955, 956, 957, 958, 959, 960, 961, 946, 947, 948, 949, 950, 951, 952, 953, 974, 975, 976, 977, 978] (by decide +kernel) (by decide +kernel)
set_option maxRecDepth 20000 in
theorem gL_law_X9_pea : GoodIn wsL_law (wsV RL 49 RX9 yX9_pea wsX9_pea) := goodIn_app (goodIn_of _ (by decide +kernel)) ggL_law_X9_pea
set_option maxRecDepth 20000 in
theorem ggL_law_X10_pea : GoodIn wsL_law wsX10_pea := goodIn_r _ [501, 145, 146, 147, 5, 148, 386, 387, 388, 389, 383, 390, 391, 392, 393, 107, 94, 96, 97, 394, 395, 227, 228, 229, 230, 200, 102, 231, 232, 233, 234, 235, 236, 237, 238, 104, 239, 240, 105, 106, 241, 242, 243, 244, 103, 245, 246, 247, 248, 177, 249, 250, 251, 252, 253, 254, 255, 144, 396, 397, 398, 399, 384, 400, 401, 385, 402, 403, 404, 405, 406, 407, 408, 409, 410, 411, 412, 413, 414, 415, 416, 417, 418, 419, 420, 421, 422, 423, 424, 425, 426, 427, 428, 429, 430, 431, 432, 433, 434, 435, 436, 95, 437, 438, 439, 440, 441, 442, 443, 444, 445, 446, 447, 448, 449, 450, 451, 452, 453, 454, 455, 456, 457, 912, 913, 914, 915, 916, 917, 918, 919, 920, 921, 922, 923, 924, 925, 926, 927, 928, 929, 930, 931, 932, 933, 934, 935, 936, 937, 938, 939, 940, 941, 942, 943, 944, 945] (by decide +kernel) (by decide +kernel)
set_option maxRecDepth 20000 in
theorem gL_law_X10_pea : GoodIn wsL_law (wsV RL 52 RX10 yX10_pea wsX10_pea) := goodIn_app (goodIn_of _ (by decide +kernel)) ggL_law_X10_pea
set_option maxRecDepth 20000 in
theorem ggL_law_X9_first : GoodIn wsL_law wsX9_first := goodIn_r _ [505, 23, 164, 131, 2, 132, 260, 261, 262, 263, 15, 19, 264, 213, 214, 215, 14, 216, 193, 44, 217, 218, 219, 220, 221, 222, 223, 224, 225, 265, 266, 267, 22, 268, 269, 270, 63, 271, 272, 273, 274, 59, 275, 276, 277, 278, 279, 280, 281, 282, 18, 283, 49, 50, 51, 52, 53, 54, 284, 285, 286, 287, 288, 289, 290, 291, 292, 293, 294, 295, 296, 297, 298, 62, 299, 300, 301, 302, 303, 304, 305, 306, 307, 308, 309, 310, 311, 312, 313, 314, 315, 316, 317, 318, 319, 320, 321, 322, 323, 324, 325, 326, 327, 328, 329, 330, 331, 128, 332, 333, 166, 167, 168, 162, 163, 334, 335, 336, 337, 338, 339, 340, 341, 342, 343, 344, 345, 346, 347, 348, 349, 350, 351, 352, 353, 354, 355, 356, 357, 358, 359, 360, 137, 138, 361, 362, 363, 364, 365, 366, 367, 368, 369, 370, 371, 372, 373, 506, 507, 508, 509, 510, 905, 906, 907, 908, 909, 910, 911, 954, 955, 956, 957, 958, 959, 960, 961, 946, 947, 948, 949, 950, 951, 952, 953, 974, 975, 976, 977, 978] (by decide +kernel) (by decide +kernel)
set_option maxRecDepth 20000 in
theorem gL_law_X9_first : GoodIn wsL_law (wsV RL 53 RX9 yX9_first wsX9_first) := goodIn_app (goodIn_of _ (by decide +kernel)) ggL_law_X9_first
set_option maxRecDepth 20000 in
theorem ggL_law_X10_first : GoodIn wsL_law wsX10_first := goodIn_r _ [514, 382, 400, 401, 394, 146, 147, 5, 148, 386, 387, 388, 389, 383, 390, 391, 392, 393, 107, 94, 96, 97, 145, 395, 227, 228, 229, 230, 200, 102, 231, 232, 233, 234, 235, 236, 237, 238, 104, 239, 240, 105, 106, 241, 242, 243, 244, 103, 245, 246, 247, 248, 177, 249, 250, 251, 252, 253, 254, 255, 144, 396, 397, 398, 399, 384, 385, 402, 403, 404, 405, 406, 407, 408, 409, 410, 411, 412, 413, 414, 415, 416, 417, 418, 419, 420, 421, 422, 423, 424, 425, 426, 427, 428, 429, 430, 431, 432, 433, 434, 435, 436, 95, 437, 438, 439, 440, 441, 442, 443, 444, 445, 446, 447, 448, 449, 450, 451, 452, 453, 454, 455, 456, 457, 912, 913, 914, 915, 916, 917, 918, 919, 920, 921, 922, 923, 924, 925, 926, 927, 928, 929, 930, 931, 932, 933, 934, 935, 936, 937, 938, 939, 940, 941, 942, 943, 944, 945] (by decide +kernel) (by decide +kernel)
set_option maxRecDepth 20000 in
theorem gL_law_X10_first : GoodIn wsL_law (wsV RL 56 RX10 yX10_first wsX10_first) := goodIn_app (goodIn_of _ (by decide +kernel)) ggL_law_X10_first
set_option maxRecDepth 20000 in
theorem ggL_law_X9_done : GoodIn wsL_law wsX9_done := goodIn_r _ [518, 19, 23, 479, 15, 188, 519, 260, 261, 262, 2, 263, 264, 213, 214, 215, 14, 216, 193, 44, 217, 218, 219, 220, 221, 222, 223, 224, 225, 131, 132, 265, 266, 267, 22, 268, 269, 270, 63, 271, 272, 273, 274, 59, 275, 276, 277, 278, 279, 280, 281, 282, 18, 283, 49, 50, 51, 52, 53, 54, 284, 285, 286, 287, 288, 289, 290, 291, 292, 293, 294, 295, 296, 297, 298, 62, 299, 300, 301, 302, 303, 304, 305, 306, 307, 308, 309, 310, 311, 312, 313, 314, 315, 316, 317, 318, 319, 320, 321, 322, 323, 324, 325, 326, 327, 328, 329, 330, 331, 128, 332, 333, 166, 167, 168, 162, 163, 334, 335, 336, 337, 338, 339, 340, 341, 342, 343, 344, 345, 346, 347, 348, 349, 350, 351, 352, 353, 354, 355, 356, 357, 358, 359, 360, 137, 138, 361, 362, 363, 364, 365, 366, 367, 368, 369, 370, 371, 372, 373, 520, 905, 906, 907, 908, 909, 910, 911, 954, 955, 956, 957, 958, 959, 960, 961, 946, 947, 948, 949, 950, 951, 952, 953, 974, 975, 976, 977, 978] (by decide +kernel) (by decide +kernel)
set_option maxRecDepth 20000 in
theorem gL_law_X9_done : GoodIn wsL_law (wsV RL 57 RX9 yX9_done wsX9_done) := goodIn_app (goodIn_of _ (by decide +kernel)) ggL_law_X9_done
set_option maxRecDepth 20000 in
theorem ggL_law_X10_done : GoodIn wsL_law wsX10_done := goodIn_r _ [524, 200, 230, 386, 387, 388, 5, 389, 383, 390, 391, 392, 393, 107, 94, 96, 97, 145, 394, 395, 227, 228, 229, 102, 231, 232, 233, 234, 235, 236, 237, 238, 104, 239, 240, 105, 106, 146, 147, 148, 241, 242, 243, 244, 103, 245, 246, 247, 248, 177, 249, 250, 251, 252, 253, 254, 255, 144, 396, 397, 398, 399, 384, 400, 401, 385, 402, 403, 404, 405, 406, 407, 408, 409, 410, 411, 412, 413, 414, 415, 416, 417, 418, 419, 420, 421, 422, 423, 424, 425, 426, 427, 428, 429, 430, 431, 432, 433, 434, 435, 436, 95, 437, 438, 439, 440, 441, 442, 443, 444, 445, 446, 447, 448, 449, 450, 451, 452, 453, 454, 455, 456, 457, 912, 913, 914, 915, 916, 917, 918, 919, 920, 921, 922, 923, 924, 925, 926, 927, 928, 929, 930, 931, 932, 933, 934, 935, 936, 937, 938, 939, 940, 941, 942, 943, 944, 945] (by decide +kernel) (by decide +kernel)
set_option maxRecDepth 20000 in
theorem gL_law_X10_done : GoodIn wsL_law (wsV RL 60 RX10 yX10_done wsX10_done) := goodIn_app (goodIn_of _ (by decide +kernel)) ggL_law_X10_done
set_option maxRecDepth 20000 in
theorem ggL_law_X9_changes : GoodIn wsL_law wsX9_changes := goodIn_r _ [528, 19, 121, 126, 127, 128, 129, 130, 131, 2, 132, 164, 529, 530, 531, 136, 137, 138, 532, 331, 332, 533, 534, 535, 536, 537, 538, 905, 906, 907, 908, 909, 910, 911, 948, 949, 950, 951, 952, 953] (by decide +kernel) (by decide +kernel)
set_option maxRecDepth 20000 in
theorem gL_law_X9_changes : GoodIn wsL_law (wsV RL 61 RX9 yX9_changes wsX9_changes) := goodIn_app (goodIn_of _ (by decide +kernel)) ggL_law_X9_changes
set_option maxRecDepth 20000 in
theorem ggL_law_X10_changes : GoodIn wsL_law wsX10_changes := goodIn_r _ [542, 149, 150, 151, 5, 152, 101, 146, 147, 148, 543, 544, 545, 546, 108, 94, 547, 548, 549, 550, 426, 427, 428, 551, 552, 553, 554, 912, 913, 914, 915, 916, 917, 918, 919, 920, 921, 922, 923, 924, 925, 926, 927, 928, 929, 930, 931, 932, 933, 934, 935, 936, 937, 938, 939, 940, 941, 942, 943, 944, 945] (by decide +kernel) (by decide +kernel)
set_option maxRecDepth 20000 in
theorem gL_law_X10_changes : GoodIn wsL_law (wsV RL 64 RX10 yX10_changes wsX10_changes) := goodIn_app (goodIn_of _ (by decide +kernel)) ggL_law_X10_changes
set_option maxRecDepth 20000 in
theorem ggL_law_X9_by : GoodIn wsL_law wsX9_by := goodIn_r _ [558, 31, 19, 121, 126, 127, 128, 129, 130, 131, 2, 132, 164, 559, 560, 561, 30, 562, 76, 563, 77, 564, 565, 566, 567, 568, 569, 570, 571, 572, 573, 574, 136, 137, 138, 575, 576, 577, 578, 579, 580, 581, 582, 583, 584, 585, 586, 587, 588, 589, 590, 591, 592, 351, 352, 593, 594, 595, 596, 597, 905, 906, 907, 908, 909, 910, 911, 948, 949, 950, 951, 952, 953, 966, 967, 968] (by decide +kernel) (by decide +kernel)
set_option maxRecDepth 20000 in
theorem gL_law_X9_by : GoodIn wsL_law (wsV RL 65 RX9 yX9_by wsX9_by) := goodIn_app (goodIn_of _ (by decide +kernel)) ggL_law_X9_by
set_option maxRecDepth 20000 in
theorem ggL_law_X10_by : GoodIn wsL_law wsX10_by := goodIn_r _ [601, 602, 109, 149, 150, 151, 5, 152, 101, 146, 147, 148, 603, 604, 605, 606, 607, 608, 609, 610, 611, 612, 613, 614, 615, 616, 617, 110, 111, 618, 619, 620, 621, 622, 623, 624, 625, 626, 627, 628, 426, 427, 428, 629, 630, 631, 632, 633, 634, 635, 636, 94, 912, 913, 914, 915, 916, 917, 918, 919, 920, 921, 922, 923, 924, 925, 926, 927, 928, 929, 930, 931, 932, 933, 934, 935, 936, 937, 938, 939, 940, 941, 942, 943, 944, 945] (by decide +kernel) (by decide +kernel)
set_option maxRecDepth 20000 in
theorem gL_law_X10_by : GoodIn wsL_law (wsV RL 69 RX10 yX10_by wsX10_by) := goodIn_app (goodIn_of _ (by decide +kernel)) ggL_law_X10_by
set_option maxRecDepth 20000 in
theorem ggL_law_X9_rank : GoodIn wsL_law wsX9_rank := goodIn_r _ [640, 126, 127, 128, 129, 130, 131, 2, 132, 641, 573, 574, 136, 137, 138, 575, 576, 577, 578, 579, 580, 581] (by decide +kernel) (by decide +kernel)
set_option maxRecDepth 20000 in
theorem gL_law_X9_rank : GoodIn wsL_law (wsV RL 70 RX9 yX9_rank wsX9_rank) := goodIn_app (goodIn_of _ (by decide +kernel)) ggL_law_X9_rank
set_option maxRecDepth 20000 in
theorem ggL_law_X10_rank : GoodIn wsL_law wsX10_rank := goodIn_r _ [645, 149, 150, 151, 5, 152, 101, 603, 604, 605, 606, 607, 608, 609, 912, 913, 914, 915, 916, 917, 918, 919, 920, 921, 922, 923, 924, 925, 926, 927, 928, 929, 930, 931, 932, 933, 934, 935, 936, 937, 938, 939, 940, 941, 942, 943, 944, 945] (by decide +kernel) (by decide +kernel)
set_option maxRecDepth 20000 in
theorem gL_law_X10_rank : GoodIn wsL_law (wsV RL 73 RX10 yX10_rank wsX10_rank) := goodIn_app (goodIn_of _ (by decide +kernel)) ggL_law_X10_rank
set_option maxRecDepth 20000 in
theorem ggL_law_X9_row : GoodIn wsL_law wsX9_row := goodIn_r _ [649, 164, 131, 2, 132, 650, 651, 128, 652, 653, 654, 655, 136, 137, 138, 656, 657, 658, 133, 134, 135] (by decide +kernel) (by decide +kernel)
set_option maxRecDepth 20000 in
theorem gL_law_X9_row : GoodIn wsL_law (wsV RL 74 RX9 yX9_row wsX9_row) := goodIn_app (goodIn_of _ (by decide +kernel)) ggL_law_X9_row
set_option maxRecDepth 20000 in
theorem ggL_law_X10_row : GoodIn wsL_law wsX10_row := goodIn_r _ [662, 663, 101, 146, 147, 5, 148, 622, 623, 624, 625, 607, 608, 609, 626, 627, 628, 426, 427, 428, 912, 913, 914, 915, 916, 917, 918, 919, 920, 921, 922, 923, 924, 925, 926, 927, 928, 929, 930, 931, 932, 933, 934, 935, 936, 937, 938, 939, 940, 941, 942, 943, 944, 945] (by decide +kernel) (by decide +kernel)
set_option maxRecDepth 20000 in
theorem gL_law_X10_row : GoodIn wsL_law (wsV RL 77 RX10 yX10_row wsX10_row) := goodIn_app (goodIn_of _ (by decide +kernel)) ggL_law_X10_row
set_option maxRecDepth 20000 in
theorem ggL_law_X9_weigh : GoodIn wsL_law wsX9_weigh := goodIn_r _ [667, 27, 668, 669, 670, 26, 671, 131, 2, 132, 672, 576, 577, 578, 579, 580, 581, 164, 673, 674, 675, 676, 677, 70, 71, 72, 905, 906, 907, 908, 909, 910, 911, 962, 963, 964, 965] (by decide +kernel) (by decide +kernel)
set_option maxRecDepth 20000 in
theorem gL_law_X9_weigh : GoodIn wsL_law (wsV RL 78 RX9 yX9_weigh wsX9_weigh) := goodIn_app (goodIn_of _ (by decide +kernel)) ggL_law_X9_weigh
set_option maxRecDepth 20000 in
theorem ggL_law_X10_weigh : GoodIn wsL_law wsX10_weigh := goodIn_r _ [681, 382, 682, 98, 99, 100, 683, 684, 5, 685, 686, 146, 147, 148, 687, 688, 689, 912, 913, 914, 915, 916, 917, 918, 919, 920, 921, 922, 923, 924, 925, 926, 927, 928, 929, 930, 931, 932, 933, 934, 935, 936, 937, 938, 939, 940, 941, 942, 943, 944, 945] (by decide +kernel) (by decide +kernel)
set_option maxRecDepth 20000 in
theorem gL_law_X10_weigh : GoodIn wsL_law (wsV RL 81 RX10 yX10_weigh wsX10_weigh) := goodIn_app (goodIn_of _ (by decide +kernel)) ggL_law_X10_weigh
set_option maxRecDepth 20000 in
theorem ggL_law_X9_forget : GoodIn wsL_law wsX9_forget := goodIn_r _ [693, 27, 668, 905, 906, 907, 908, 909, 910, 911, 962, 963, 964, 965] (by decide +kernel) (by decide +kernel)
set_option maxRecDepth 20000 in
theorem gL_law_X9_forget : GoodIn wsL_law (wsV RL 82 RX9 yX9_forget wsX9_forget) := goodIn_app (goodIn_of _ (by decide +kernel)) ggL_law_X9_forget
set_option maxRecDepth 20000 in
theorem ggL_law_X10_forget : GoodIn wsL_law wsX10_forget := goodIn_r _ [697, 682, 912, 913, 914, 915, 916, 917, 918, 919, 920, 921, 922, 923, 924, 925, 926, 927, 928, 929, 930, 931, 932, 933, 934, 935, 936, 937, 938, 939, 940, 941, 942, 943, 944, 945] (by decide +kernel) (by decide +kernel)
set_option maxRecDepth 20000 in
theorem gL_law_X10_forget : GoodIn wsL_law (wsV RL 85 RX10 yX10_forget wsX10_forget) := goodIn_app (goodIn_of _ (by decide +kernel)) ggL_law_X10_forget
set_option maxRecDepth 20000 in
theorem ggL_law_X9_cases : GoodIn wsL_law wsX9_cases := goodIn_r _ [701, 27, 702, 703, 704, 26, 705, 706, 707, 708, 709, 677, 70, 71, 72, 710, 711, 712, 713, 714, 715, 716, 905, 906, 907, 908, 909, 910, 911, 962, 963, 964, 965] (by decide +kernel) (by decide +kernel)
set_option maxRecDepth 20000 in
theorem gL_law_X9_cases : GoodIn wsL_law (wsV RL 86 RX9 yX9_cases wsX9_cases) := goodIn_app (goodIn_of _ (by decide +kernel)) ggL_law_X9_cases
set_option maxRecDepth 20000 in
theorem ggL_law_X10_cases : GoodIn wsL_law wsX10_cases := goodIn_r _ [720, 721, 722, 723, 5, 724, 682, 98, 99, 100, 725, 726, 727, 426, 427, 428, 912, 913, 914, 915, 916, 917, 918, 919, 920, 921, 922, 923, 924, 925, 926, 927, 928, 929, 930, 931, 932, 933, 934, 935, 936, 937, 938, 939, 940, 941, 942, 943, 944, 945] (by decide +kernel) (by decide +kernel)
set_option maxRecDepth 20000 in
theorem gL_law_X10_cases : GoodIn wsL_law (wsV RL 89 RX10 yX10_cases wsX10_cases) := goodIn_app (goodIn_of _ (by decide +kernel)) ggL_law_X10_cases
set_option maxRecDepth 20000 in
theorem ggL_law_X9_leaves : GoodIn wsL_law wsX9_leaves := goodIn_r _ [731, 27, 669, 670, 26, 671, 131, 2, 132, 672, 576, 577, 578, 579, 580, 581, 732, 733, 734, 735, 736, 737, 368, 738, 706, 707, 708, 709, 677, 70, 71, 72, 710, 711, 712, 905, 906, 907, 908, 909, 910, 911, 962, 963, 964, 965] (by decide +kernel) (by decide +kernel)
set_option maxRecDepth 20000 in
theorem gL_law_X9_leaves : GoodIn wsL_law (wsV RL 90 RX9 yX9_leaves wsX9_leaves) := goodIn_app (goodIn_of _ (by decide +kernel)) ggL_law_X9_leaves
set_option maxRecDepth 20000 in
theorem ggL_law_X10_leaves : GoodIn wsL_law wsX10_leaves := goodIn_r _ [742, 112, 683, 684, 5, 685, 686, 146, 147, 148, 687, 688, 689, 725, 726, 727, 426, 427, 428, 721, 722, 723, 724, 682, 98, 99, 100, 912, 913, 914, 915, 916, 917, 918, 919, 920, 921, 922, 923, 924, 925, 926, 927, 928, 929, 930, 931, 932, 933, 934, 935, 936, 937, 938, 939, 940, 941, 942, 943, 944, 945] (by decide +kernel) (by decide +kernel)
set_option maxRecDepth 20000 in
theorem gL_law_X10_leaves : GoodIn wsL_law (wsV RL 93 RX10 yX10_leaves wsX10_leaves) := goodIn_app (goodIn_of _ (by decide +kernel)) ggL_law_X10_leaves
set_option maxRecDepth 20000 in
theorem ggL_law_X9_squares : GoodIn wsL_law wsX9_squares := goodIn_r _ [746, 35, 164, 131, 2, 132, 747, 748, 749, 34, 750, 751, 752, 753, 754, 755, 756, 757, 758, 759, 82, 760, 761, 762, 763, 905, 906, 907, 908, 909, 910, 911, 969, 970] (by decide +kernel) (by decide +kernel)
set_option maxRecDepth 20000 in
theorem gL_law_X9_squares : GoodIn wsL_law (wsV RL 94 RX9 yX9_squares wsX9_squares) := goodIn_app (goodIn_of _ (by decide +kernel)) ggL_law_X9_squares
set_option maxRecDepth 20000 in
theorem ggL_law_X10_squares : GoodIn wsL_law wsX10_squares := goodIn_r _ [767, 178, 114, 146, 147, 5, 148, 768, 769, 770, 771, 912, 913, 914, 915, 916, 917, 918, 919, 920, 921, 922, 923, 924, 925, 926, 927, 928, 929, 930, 931, 932, 933, 934, 935, 936, 937, 938, 939, 940, 941, 942, 943, 944, 945] (by decide +kernel) (by decide +kernel)
set_option maxRecDepth 20000 in
theorem gL_law_X10_squares : GoodIn wsL_law (wsV RL 97 RX10 yX10_squares wsX10_squares) := goodIn_app (goodIn_of _ (by decide +kernel)) ggL_law_X10_squares
set_option maxRecDepth 20000 in
theorem ggL_law_X9_lot : GoodIn wsL_law wsX9_lot := goodIn_r _ [775, 776, 777, 778, 164, 131, 2, 132, 123, 124, 125, 779, 780, 781, 782, 783, 784, 785, 786, 787, 788, 789] (by decide +kernel) (by decide +kernel)
set_option maxRecDepth 20000 in
theorem gL_law_X9_lot : GoodIn wsL_law (wsV RL 98 RX9 yX9_lot wsX9_lot) := goodIn_app (goodIn_of _ (by decide +kernel)) ggL_law_X9_lot
set_option maxRecDepth 20000 in
theorem ggL_law_X10_lot : GoodIn wsL_law wsX10_lot := goodIn_r _ [793, 794, 795, 796, 144, 797, 798, 146, 147, 5, 148, 253, 254, 255, 799, 800, 801] (by decide +kernel) (by decide +kernel)
set_option maxRecDepth 20000 in
theorem gL_law_X10_lot : GoodIn wsL_law (wsV RL 102 RX10 yX10_lot wsX10_lot) := goodIn_app (goodIn_of _ (by decide +kernel)) ggL_law_X10_lot
set_option maxRecDepth 20000 in
theorem ggL_law_X9_year : GoodIn wsL_law wsX9_year := goodIn_r _ [805, 23, 19, 164, 131, 2, 132, 806, 807, 808, 22, 809, 810, 63, 59, 271, 272, 273, 274, 275, 270, 276, 277, 278, 279, 280, 281, 282, 18, 283, 49, 50, 51, 52, 53, 54, 811, 812, 813, 62, 814, 815, 305, 306, 307, 300, 301, 816, 309, 310, 311, 312, 303, 817, 297, 298, 299, 302, 317, 318, 319, 320, 321, 322, 323, 324, 325, 326, 327, 328, 329, 330, 331, 128, 332, 333, 166, 167, 168, 162, 163, 342, 343, 344, 345, 346, 347, 348, 349, 350, 351, 352, 353, 354, 355, 356, 357, 358, 359, 360, 137, 138, 361, 335, 336, 337, 362, 363, 364, 365, 366, 367, 368, 369, 818, 819, 820, 821, 493, 338, 339, 340, 341, 822, 576, 577, 578, 579, 580, 581, 470, 905, 906, 907, 908, 909, 910, 911, 954, 955, 956, 957, 958, 959, 960, 961, 948, 949, 950, 951, 952, 953, 974, 975, 976, 977, 978] (by decide +kernel) (by decide +kernel)
set_option maxRecDepth 20000 in
theorem gL_law_X9_year : GoodIn wsL_law (wsV RL 103 RX9 yX9_year wsX9_year) := goodIn_app (goodIn_of _ (by decide +kernel)) ggL_law_X9_year
set_option maxRecDepth 20000 in
theorem ggL_law_X10_year : GoodIn wsL_law wsX10_year := goodIn_r _ [826, 827, 828, 382, 829, 830, 831, 96, 146, 147, 5, 148, 390, 391, 392, 393, 107, 94, 97, 145, 394, 832, 833, 834, 835, 402, 403, 404, 405, 429, 430, 431, 432, 433, 434, 435, 436, 95, 437, 438, 439, 426, 427, 428, 440, 441, 442, 443, 418, 419, 420, 421, 422, 423, 424, 425, 444, 445, 446, 447, 385, 448, 449, 450, 410, 411, 412, 413, 414, 415, 416, 417, 687, 688, 689, 454, 455, 456, 457, 912, 913, 914, 915, 916, 917, 918, 919, 920, 921, 922, 923, 924, 925, 926, 927, 928, 929, 930, 931, 932, 933, 934, 935, 936, 937, 938, 939, 940, 941, 942, 943, 944, 945] (by decide +kernel) (by decide +kernel)
set_option maxRecDepth 20000 in
theorem gL_law_X10_year : GoodIn wsL_law (wsV RL 106 RX10 yX10_year wsX10_year) := goodIn_app (goodIn_of _ (by decide +kernel)) ggL_law_X10_year
set_option maxRecDepth 20000 in
theorem ggL_law_X9_image : GoodIn wsL_law wsX9_image := goodIn_r _ [839, 37, 19, 27, 164, 131, 2, 132, 840, 841, 842, 39, 843, 87, 89, 844, 845, 281, 282, 18, 283, 49, 50, 51, 52, 53, 54, 846, 847, 848, 26, 849, 677, 70, 71, 72, 905, 906, 907, 908, 909, 910, 911, 971, 972, 973, 948, 949, 950, 951, 952, 953, 962, 963, 964, 965] (by decide +kernel) (by decide +kernel)
set_option maxRecDepth 20000 in
theorem gL_law_X9_image : GoodIn wsL_law (wsV RL 107 RX9 yX9_image wsX9_image) := goodIn_app (goodIn_of _ (by decide +kernel)) ggL_law_X9_image
set_option maxRecDepth 20000 in
theorem ggL_law_X10_image : GoodIn wsL_law wsX10_image := goodIn_r _ [853, 854, 855, 116, 146, 147, 5, 148, 856, 857, 858, 859, 145, 394, 682, 94, 95, 96, 97, 98, 99, 100, 860, 861, 862, 863, 115, 864, 865, 866, 867, 912, 913, 914, 915, 916, 917, 918, 919, 920, 921, 922, 923, 924, 925, 926, 927, 928, 929, 930, 931, 932, 933, 934, 935, 936, 937, 938, 939, 940, 941, 942, 943, 944, 945] (by decide +kernel) (by decide +kernel)
set_option maxRecDepth 20000 in
theorem gL_law_X10_image : GoodIn wsL_law (wsV RL 110 RX10 yX10_image wsX10_image) := goodIn_app (goodIn_of _ (by decide +kernel)) ggL_law_X10_image
set_option maxRecDepth 20000 in
theorem ggL_law_X9_restore : GoodIn wsL_law wsX9_restore := goodIn_r _ [871, 37, 872, 19, 27, 164, 131, 2, 132, 873, 874, 875, 39, 876, 87, 89, 845, 281, 282, 18, 283, 49, 50, 51, 52, 53, 54, 846, 847, 848, 26, 849, 677, 70, 71, 72, 905, 906, 907, 908, 909, 910, 911, 971, 972, 973, 948, 949, 950, 951, 952, 953, 962, 963, 964, 965] (by decide +kernel) (by decide +kernel)
set_option maxRecDepth 20000 in
theorem gL_law_X9_restore : GoodIn wsL_law (wsV RL 111 RX9 yX9_restore wsX9_restore) := goodIn_app (goodIn_of _ (by decide +kernel)) ggL_law_X9_restore
set_option maxRecDepth 20000 in
theorem ggL_law_X10_restore : GoodIn wsL_law wsX10_restore := goodIn_r _ [880, 116, 854, 855, 146, 147, 5, 148, 856, 857, 858, 859, 145, 394, 682, 94, 95, 96, 97, 98, 99, 100, 860, 861, 862, 863, 115, 864, 865, 866, 867, 912, 913, 914, 915, 916, 917, 918, 919, 920, 921, 922, 923, 924, 925, 926, 927, 928, 929, 930, 931, 932, 933, 934, 935, 936, 937, 938, 939, 940, 941, 942, 943, 944, 945] (by decide +kernel) (by decide +kernel)
set_option maxRecDepth 20000 in
theorem gL_law_X10_restore : GoodIn wsL_law (wsV RL 114 RX10 yX10_restore wsX10_restore) := goodIn_app (goodIn_of _ (by decide +kernel)) ggL_law_X10_restore
set_option maxRecDepth 20000 in
theorem ggL_law_X9_told : GoodIn wsL_law wsX9_told := goodIn_r _ [884, 15, 188, 19, 121, 885, 27, 668, 133, 134, 128, 135, 136, 137, 138, 886, 495, 496, 18, 497, 50, 887, 888, 889, 2, 890, 161, 162, 163, 891, 892, 893, 894, 52, 165, 166, 167, 168, 53, 895, 467, 468, 469, 54, 905, 906, 907, 908, 909, 910, 911, 946, 947, 948, 949, 950, 951, 952, 953, 962, 963, 964, 965] (by decide +kernel) (by decide +kernel)
set_option maxRecDepth 20000 in
theorem gL_law_X9_told : GoodIn wsL_law (wsV RL 115 RX9 yX9_told wsX9_told) := goodIn_app (goodIn_of _ (by decide +kernel)) ggL_law_X9_told
set_option maxRecDepth 20000 in
theorem ggL_law_X10_told : GoodIn wsL_law wsX10_told := goodIn_r _ [899, 796, 900, 200, 145, 394, 682, 146, 147, 5, 148, 901, 902, 903, 904, 95, 96, 97, 180, 181, 182, 183, 153, 154, 155, 156, 94, 912, 913, 914, 915, 916, 917, 918, 919, 920, 921, 922, 923, 924, 925, 926, 927, 928, 929, 930, 931, 932, 933, 934, 935, 936, 937, 938, 939, 940, 941, 942, 943, 944, 945] (by decide +kernel) (by decide +kernel)
set_option maxRecDepth 20000 in
theorem gL_law_X10_told : GoodIn wsL_law (wsV RL 118 RX10 yX10_told wsX10_told) := goodIn_app (goodIn_of _ (by decide +kernel)) ggL_law_X10_told
