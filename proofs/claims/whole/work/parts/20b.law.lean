theorem ggL_law_X9_init : GoodIn wsL_law wsX9_init := goodIn_r _ [8, 9, 10, 11, 12, 13, 14, 15, 16, 17, 18, 19, 20, 21, 22, 23, 24, 25, 26, 27, 28, 29, 30, 31, 32, 33, 34, 35, 36, 37, 38, 39, 40, 41, 42, 43, 44, 45, 46, 47, 48, 49, 50, 51, 52, 53, 54, 55, 56, 57, 58, 59, 60, 61, 62, 63, 64, 65, 66, 67, 68, 69, 70, 71, 72, 73, 74, 75, 76, 77, 78, 79, 80, 81, 82, 83, 84, 885, 886, 887, 888, 889, 890, 891, 892, 838, 839, 840, 841, 842, 843, 844, 845, 846, 847, 848, 893, 894, 895, 896, 897, 898, 899, 900, 901, 902, 903, 904, 905, 906, 907, 908, 909, 910] (by decide +kernel) (by decide +kernel)
set_option maxRecDepth 20000 in
theorem gL_law_X9_init : GoodIn wsL_law (wsX9_init) := ggL_law_X9_init
set_option maxRecDepth 20000 in
theorem ggL_law_X10_init : GoodIn wsL_law wsX10_init := goodIn_r _ [87, 88, 10, 11, 45, 89, 90, 91, 92, 93, 94, 95, 96, 97, 98, 99, 100, 101, 102, 103, 104, 105, 106, 107, 108, 109, 110, 111, 112, 113, 114, 849, 850, 851, 852, 853, 854, 855, 856, 857, 858, 859, 860, 861, 862, 863, 864, 865, 866, 867, 868, 869, 870, 871, 872, 873, 874, 875, 876, 877, 878, 879, 880, 881, 882, 883, 884] (by decide +kernel) (by decide +kernel)
set_option maxRecDepth 20000 in
theorem gL_law_X10_init : GoodIn wsL_law (wsX10_init) := ggL_law_X10_init
set_option maxRecDepth 20000 in
theorem ggL_law_X9_coast : GoodIn wsL_law wsX9_coast := goodIn_r _ [118, 35, 33, 119, 120, 121, 16, 122, 15, 20, 123, 22, 124, 125, 126, 2, 127, 128, 129, 130, 131, 132, 133, 134, 135, 136, 37, 137, 84, 138, 139, 140, 141, 142, 143, 144, 145, 146, 147, 148, 149, 83, 150, 151, 152, 153, 10, 11, 154, 155, 156, 157, 158, 159, 160, 161, 162, 163, 164, 14, 165, 42, 43, 44, 50, 166, 167, 168, 169, 170, 171, 172, 173, 174, 175, 176, 177, 178, 179, 180, 181, 182, 183, 184, 185, 186, 187, 188, 189, 190, 191, 192, 193, 194, 195, 196, 197, 198, 199, 200, 46, 201, 202, 203, 204, 47, 48, 49, 838, 839, 840, 841, 842, 843, 844, 845, 846, 847, 848, 911, 912, 913, 914, 893, 894, 895, 896, 885, 886, 887, 888, 889, 890, 891, 892, 908, 909, 910] (by decide +kernel) (by decide +kernel)
set_option maxRecDepth 20000 in
theorem gL_law_X9_coast : GoodIn wsL_law (wsV RL 13 RX9 yX9_coast wsX9_coast) := goodIn_app (goodIn_of _ (by decide +kernel)) ggL_law_X9_coast
set_option maxRecDepth 20000 in
theorem ggL_law_X10_coast : GoodIn wsL_law wsX10_coast := goodIn_r _ [208, 209, 210, 211, 212, 213, 214, 89, 94, 90, 95, 91, 96, 92, 97, 93, 215, 216, 217, 218, 219, 5, 220, 221, 222, 223, 224, 225, 226, 227, 228, 229, 230, 231, 232, 233, 110, 111, 234, 235, 236, 237, 238, 239, 240, 241, 242, 243, 244, 245, 246, 247, 248, 112, 249, 250, 251, 252, 253, 254, 255, 256, 257, 258, 259, 260, 849, 850, 851, 852, 853, 854, 855, 856, 857, 858, 859, 860, 861, 862, 863, 864, 865, 866, 867, 868, 869, 870, 871, 872, 873, 874, 875, 876, 877, 878, 879, 880, 881, 882, 883, 884] (by decide +kernel) (by decide +kernel)
set_option maxRecDepth 20000 in
theorem gL_law_X10_coast : GoodIn wsL_law (wsV RL 17 RX10 yX10_coast wsX10_coast) := goodIn_app (goodIn_of _ (by decide +kernel)) ggL_law_X10_coast
set_option maxRecDepth 20000 in
theorem ggL_law_X9_sky : GoodIn wsL_law wsX9_sky := goodIn_r _ [264, 15, 265, 128, 129, 2, 130, 266, 267, 268, 14, 269, 43, 838, 839, 840, 841, 842, 843, 844, 845, 846, 847, 848, 885, 886, 887, 888, 889, 890, 891, 892] (by decide +kernel) (by decide +kernel)
set_option maxRecDepth 20000 in
theorem gL_law_X9_sky : GoodIn wsL_law (wsV RL 18 RX9 yX9_sky wsX9_sky) := goodIn_app (goodIn_of _ (by decide +kernel)) ggL_law_X9_sky
set_option maxRecDepth 20000 in
theorem ggL_law_X10_sky : GoodIn wsL_law wsX10_sky := goodIn_r _ [273, 274, 214, 89, 222, 223, 5, 224, 849, 850, 851, 852, 853, 854, 855, 856, 857, 858, 859, 860, 861, 862, 863, 864, 865, 866, 867, 868, 869, 870, 871, 872, 873, 874, 875, 876, 877, 878, 879, 880, 881, 882, 883, 884] (by decide +kernel) (by decide +kernel)
set_option maxRecDepth 20000 in
theorem gL_law_X10_sky : GoodIn wsL_law (wsV RL 22 RX10 yX10_sky wsX10_sky) := goodIn_app (goodIn_of _ (by decide +kernel)) ggL_law_X10_sky
set_option maxRecDepth 20000 in
theorem ggL_law_X9_shade : GoodIn wsL_law wsX9_shade := goodIn_r _ [278, 15, 279, 280, 281, 282, 14, 283, 42, 838, 839, 840, 841, 842, 843, 844, 845, 846, 847, 848, 885, 886, 887, 888, 889, 890, 891, 892] (by decide +kernel) (by decide +kernel)
set_option maxRecDepth 20000 in
theorem gL_law_X9_shade : GoodIn wsL_law (wsV RL 23 RX9 yX9_shade wsX9_shade) := goodIn_app (goodIn_of _ (by decide +kernel)) ggL_law_X9_shade
set_option maxRecDepth 20000 in
theorem ggL_law_X10_shade : GoodIn wsL_law wsX10_shade := goodIn_r _ [287, 90, 288, 289, 290, 5, 291, 212, 222, 223, 224, 849, 850, 851, 852, 853, 854, 855, 856, 857, 858, 859, 860, 861, 862, 863, 864, 865, 866, 867, 868, 869, 870, 871, 872, 873, 874, 875, 876, 877, 878, 879, 880, 881, 882, 883, 884] (by decide +kernel) (by decide +kernel)
set_option maxRecDepth 20000 in
theorem gL_law_X10_shade : GoodIn wsL_law (wsV RL 26 RX10 yX10_shade wsX10_shade) := goodIn_app (goodIn_of _ (by decide +kernel)) ggL_law_X10_shade
set_option maxRecDepth 20000 in
theorem ggL_law_X9_ofLamp : GoodIn wsL_law wsX9_ofLamp := goodIn_r _ [295, 15, 296, 297, 298, 299, 300, 14, 301, 43, 128, 129, 2, 130, 838, 839, 840, 841, 842, 843, 844, 845, 846, 847, 848, 885, 886, 887, 888, 889, 890, 891, 892] (by decide +kernel) (by decide +kernel)
set_option maxRecDepth 20000 in
theorem gL_law_X9_ofLamp : GoodIn wsL_law (wsV RL 27 RX9 yX9_ofLamp wsX9_ofLamp) := goodIn_app (goodIn_of _ (by decide +kernel)) ggL_law_X9_ofLamp
set_option maxRecDepth 20000 in
theorem ggL_law_X10_ofLamp : GoodIn wsL_law wsX10_ofLamp := goodIn_r _ [305, 91, 92, 306, 307, 308, 5, 309, 214, 222, 223, 224, 849, 850, 851, 852, 853, 854, 855, 856, 857, 858, 859, 860, 861, 862, 863, 864, 865, 866, 867, 868, 869, 870, 871, 872, 873, 874, 875, 876, 877, 878, 879, 880, 881, 882, 883, 884] (by decide +kernel) (by decide +kernel)
set_option maxRecDepth 20000 in
theorem gL_law_X10_ofLamp : GoodIn wsL_law (wsV RL 31 RX10 yX10_ofLamp wsX10_ofLamp) := goodIn_app (goodIn_of _ (by decide +kernel)) ggL_law_X10_ofLamp
set_option maxRecDepth 20000 in
theorem ggL_law_X9_cloud : GoodIn wsL_law wsX9_cloud := goodIn_r _ [313, 15, 314, 266, 267, 268, 14, 269, 43, 315, 316, 2, 317, 128, 129, 130, 838, 839, 840, 841, 842, 843, 844, 845, 846, 847, 848, 885, 886, 887, 888, 889, 890, 891, 892] (by decide +kernel) (by decide +kernel)
set_option maxRecDepth 20000 in
theorem gL_law_X9_cloud : GoodIn wsL_law (wsV RL 32 RX9 yX9_cloud wsX9_cloud) := goodIn_app (goodIn_of _ (by decide +kernel)) ggL_law_X9_cloud
set_option maxRecDepth 20000 in
theorem ggL_law_X10_cloud : GoodIn wsL_law wsX10_cloud := goodIn_r _ [321, 214, 221, 322, 93, 222, 223, 5, 224, 849, 850, 851, 852, 853, 854, 855, 856, 857, 858, 859, 860, 861, 862, 863, 864, 865, 866, 867, 868, 869, 870, 871, 872, 873, 874, 875, 876, 877, 878, 879, 880, 881, 882, 883, 884] (by decide +kernel) (by decide +kernel)
set_option maxRecDepth 20000 in
theorem gL_law_X10_cloud : GoodIn wsL_law (wsV RL 35 RX10 yX10_cloud wsX10_cloud) := goodIn_app (goodIn_of _ (by decide +kernel)) ggL_law_X10_cloud
set_option maxRecDepth 20000 in
theorem ggL_law_X9_age : GoodIn wsL_law wsX9_age := goodIn_r _ [326, 15, 327, 128, 129, 2, 130, 266, 267, 268, 14, 269, 43, 838, 839, 840, 841, 842, 843, 844, 845, 846, 847, 848, 885, 886, 887, 888, 889, 890, 891, 892] (by decide +kernel) (by decide +kernel)
set_option maxRecDepth 20000 in
theorem gL_law_X9_age : GoodIn wsL_law (wsV RL 36 RX9 yX9_age wsX9_age) := goodIn_app (goodIn_of _ (by decide +kernel)) ggL_law_X9_age
set_option maxRecDepth 20000 in
theorem ggL_law_X10_age : GoodIn wsL_law wsX10_age := goodIn_r _ [331, 332, 214, 215, 222, 223, 5, 224, 849, 850, 851, 852, 853, 854, 855, 856, 857, 858, 859, 860, 861, 862, 863, 864, 865, 866, 867, 868, 869, 870, 871, 872, 873, 874, 875, 876, 877, 878, 879, 880, 881, 882, 883, 884] (by decide +kernel) (by decide +kernel)
set_option maxRecDepth 20000 in
theorem gL_law_X10_age : GoodIn wsL_law (wsV RL 39 RX10 yX10_age wsX10_age) := goodIn_app (goodIn_of _ (by decide +kernel)) ggL_law_X10_age
set_option maxRecDepth 20000 in
theorem ggL_law_X9_move : GoodIn wsL_law wsX9_move := goodIn_r _ [336, 15, 20, 298, 299, 300, 14, 301, 43, 280, 281, 282, 283, 42, 337, 338, 2, 339, 128, 129, 130, 340, 341, 342, 19, 343, 55, 56, 57, 58, 838, 839, 840, 841, 842, 843, 844, 845, 846, 847, 848, 885, 886, 887, 888, 889, 890, 891, 892, 893, 894, 895, 896] (by decide +kernel) (by decide +kernel)
set_option maxRecDepth 20000 in
theorem gL_law_X9_move : GoodIn wsL_law (wsV RL 40 RX9 yX9_move wsX9_move) := goodIn_app (goodIn_of _ (by decide +kernel)) ggL_law_X9_move
set_option maxRecDepth 20000 in
theorem ggL_law_X10_move : GoodIn wsL_law wsX10_move := goodIn_r _ [347, 216, 306, 307, 308, 5, 309, 214, 222, 223, 224, 288, 289, 290, 291, 212, 348, 349, 350, 351, 352, 353, 354, 355, 98, 99, 100, 849, 850, 851, 852, 853, 854, 855, 856, 857, 858, 859, 860, 861, 862, 863, 864, 865, 866, 867, 868, 869, 870, 871, 872, 873, 874, 875, 876, 877, 878, 879, 880, 881, 882, 883, 884] (by decide +kernel) (by decide +kernel)
set_option maxRecDepth 20000 in
theorem gL_law_X10_move : GoodIn wsL_law (wsV RL 44 RX10 yX10_move wsX10_move) := goodIn_app (goodIn_of _ (by decide +kernel)) ggL_law_X10_move
set_option maxRecDepth 20000 in
theorem ggL_law_X9_undo : GoodIn wsL_law wsX9_undo := goodIn_r _ [359, 20, 360, 361, 362, 19, 363, 55, 838, 839, 840, 841, 842, 843, 844, 845, 846, 847, 848, 893, 894, 895, 896] (by decide +kernel) (by decide +kernel)
set_option maxRecDepth 20000 in
theorem gL_law_X9_undo : GoodIn wsL_law (wsV RL 45 RX9 yX9_undo wsX9_undo) := goodIn_app (goodIn_of _ (by decide +kernel)) ggL_law_X9_undo
set_option maxRecDepth 20000 in
theorem ggL_law_X10_undo : GoodIn wsL_law wsX10_undo := goodIn_r _ [367, 216, 222, 223, 5, 224, 849, 850, 851, 852, 853, 854, 855, 856, 857, 858, 859, 860, 861, 862, 863, 864, 865, 866, 867, 868, 869, 870, 871, 872, 873, 874, 875, 876, 877, 878, 879, 880, 881, 882, 883, 884] (by decide +kernel) (by decide +kernel)
set_option maxRecDepth 20000 in
theorem gL_law_X10_undo : GoodIn wsL_law (wsV RL 48 RX10 yX10_undo wsX10_undo) := goodIn_app (goodIn_of _ (by decide +kernel)) ggL_law_X10_undo
set_option maxRecDepth 20000 in
theorem ggL_law_X9_where : GoodIn wsL_law wsX9_where := goodIn_r _ [371, 15, 26, 20, 372, 298, 299, 300, 14, 301, 43, 337, 338, 2, 339, 128, 129, 130, 373, 374, 375, 25, 376, 377, 66, 378, 379, 380, 381, 382, 63, 383, 384, 385, 386, 387, 388, 389, 390, 391, 392, 393, 394, 46, 47, 50, 395, 396, 397, 398, 399, 400, 401, 402, 403, 67, 404, 202, 203, 204, 405, 65, 64, 406, 407, 408, 409, 410, 411, 412, 838, 839, 840, 841, 842, 843, 844, 845, 846, 847, 848, 897, 898, 899, 900, 901, 885, 886, 887, 888, 889, 890, 891, 892, 893, 894, 895, 896] (by decide +kernel) (by decide +kernel)
set_option maxRecDepth 20000 in
theorem gL_law_X9_where : GoodIn wsL_law (wsV RL 49 RX9 yX9_where wsX9_where) := goodIn_app (goodIn_of _ (by decide +kernel)) ggL_law_X9_where
set_option maxRecDepth 20000 in
theorem ggL_law_X10_where : GoodIn wsL_law wsX10_where := goodIn_r _ [416, 306, 307, 308, 5, 309, 214, 222, 223, 224, 348, 349, 350, 351, 417, 418, 419, 420, 92, 216, 98, 99, 100, 849, 850, 851, 852, 853, 854, 855, 856, 857, 858, 859, 860, 861, 862, 863, 864, 865, 866, 867, 868, 869, 870, 871, 872, 873, 874, 875, 876, 877, 878, 879, 880, 881, 882, 883, 884] (by decide +kernel) (by decide +kernel)
set_option maxRecDepth 20000 in
theorem gL_law_X10_where : GoodIn wsL_law (wsV RL 52 RX10 yX10_where wsX10_where) := goodIn_app (goodIn_of _ (by decide +kernel)) ggL_law_X10_where
set_option maxRecDepth 20000 in
theorem ggL_law_X9_gives : GoodIn wsL_law wsX9_gives := goodIn_r _ [424, 15, 26, 20, 425, 298, 299, 300, 14, 301, 43, 337, 338, 2, 339, 128, 129, 130, 373, 374, 375, 25, 376, 377, 66, 378, 379, 380, 381, 382, 63, 383, 384, 385, 386, 387, 388, 389, 390, 391, 392, 393, 394, 46, 47, 50, 395, 396, 397, 398, 399, 400, 401, 402, 403, 67, 404, 202, 203, 204, 405, 65, 64, 406, 407, 408, 409, 410, 411, 412, 838, 839, 840, 841, 842, 843, 844, 845, 846, 847, 848, 897, 898, 899, 900, 901, 885, 886, 887, 888, 889, 890, 891, 892, 893, 894, 895, 896] (by decide +kernel) (by decide +kernel)
set_option maxRecDepth 20000 in
theorem gL_law_X9_gives : GoodIn wsL_law (wsV RL 53 RX9 yX9_gives wsX9_gives) := goodIn_app (goodIn_of _ (by decide +kernel)) ggL_law_X9_gives
set_option maxRecDepth 20000 in
theorem ggL_law_X10_gives : GoodIn wsL_law wsX10_gives := goodIn_r _ [429, 102, 306, 307, 308, 5, 309, 214, 222, 223, 224, 348, 349, 350, 351, 430, 431, 432, 433, 215, 101, 434, 435, 436, 437, 91, 417, 418, 419, 420, 92, 216, 98, 99, 100, 438, 439, 440, 441, 89, 90, 93, 442, 443, 444, 445, 114, 849, 850, 851, 852, 853, 854, 855, 856, 857, 858, 859, 860, 861, 862, 863, 864, 865, 866, 867, 868, 869, 870, 871, 872, 873, 874, 875, 876, 877, 878, 879, 880, 881, 882, 883, 884] (by decide +kernel) (by decide +kernel)
set_option maxRecDepth 20000 in
theorem gL_law_X10_gives : GoodIn wsL_law (wsV RL 56 RX10 yX10_gives wsX10_gives) := goodIn_app (goodIn_of _ (by decide +kernel)) ggL_law_X10_gives
set_option maxRecDepth 20000 in
theorem ggL_law_X9_falls : GoodIn wsL_law wsX9_falls := goodIn_r _ [449, 15, 26, 20, 450, 298, 299, 300, 14, 301, 43, 337, 338, 2, 339, 128, 129, 130, 373, 374, 375, 25, 376, 377, 66, 378, 379, 380, 381, 382, 63, 383, 384, 385, 386, 387, 388, 389, 390, 391, 392, 393, 394, 46, 47, 50, 395, 396, 397, 398, 399, 400, 401, 402, 403, 67, 404, 202, 203, 204, 405, 65, 64, 406, 407, 408, 409, 410, 411, 412, 838, 839, 840, 841, 842, 843, 844, 845, 846, 847, 848, 897, 898, 899, 900, 901, 885, 886, 887, 888, 889, 890, 891, 892, 893, 894, 895, 896] (by decide +kernel) (by decide +kernel)
set_option maxRecDepth 20000 in
theorem gL_law_X9_falls : GoodIn wsL_law (wsV RL 57 RX9 yX9_falls wsX9_falls) := goodIn_app (goodIn_of _ (by decide +kernel)) ggL_law_X9_falls
set_option maxRecDepth 20000 in
theorem ggL_law_X10_falls : GoodIn wsL_law wsX10_falls := goodIn_r _ [454, 101, 306, 307, 308, 5, 309, 214, 222, 223, 224, 348, 349, 350, 351, 430, 431, 432, 433, 102, 215, 434, 435, 436, 437, 91, 417, 418, 419, 420, 92, 216, 98, 99, 100, 438, 439, 440, 441, 89, 90, 93, 442, 443, 444, 445, 114, 849, 850, 851, 852, 853, 854, 855, 856, 857, 858, 859, 860, 861, 862, 863, 864, 865, 866, 867, 868, 869, 870, 871, 872, 873, 874, 875, 876, 877, 878, 879, 880, 881, 882, 883, 884] (by decide +kernel) (by decide +kernel)
set_option maxRecDepth 20000 in
theorem gL_law_X10_falls : GoodIn wsL_law (wsV RL 60 RX10 yX10_falls wsX10_falls) := goodIn_app (goodIn_of _ (by decide +kernel)) ggL_law_X10_falls
set_option maxRecDepth 20000 in
theorem ggL_law_X9_light : GoodIn wsL_law wsX9_light := goodIn_r _ [458, 15, 26, 20, 280, 281, 282, 14, 283, 42, 337, 338, 2, 339, 128, 129, 130, 373, 374, 375, 25, 376, 377, 66, 378, 379, 380, 381, 382, 63, 383, 384, 385, 386, 387, 388, 389, 390, 391, 392, 393, 394, 46, 47, 50, 395, 396, 397, 398, 399, 400, 401, 402, 403, 67, 404, 202, 203, 204, 405, 65, 64, 406, 407, 408, 409, 410, 411, 459, 460, 461, 462, 838, 839, 840, 841, 842, 843, 844, 845, 846, 847, 848, 885, 886, 887, 888, 889, 890, 891, 892, 897, 898, 899, 900, 901, 893, 894, 895, 896] (by decide +kernel) (by decide +kernel)
set_option maxRecDepth 20000 in
theorem gL_law_X9_light : GoodIn wsL_law (wsV RL 61 RX9 yX9_light wsX9_light) := goodIn_app (goodIn_of _ (by decide +kernel)) ggL_law_X9_light
set_option maxRecDepth 20000 in
theorem ggL_law_X10_light : GoodIn wsL_law wsX10_light := goodIn_r _ [466, 288, 289, 290, 5, 291, 212, 222, 223, 224, 348, 349, 350, 351, 467, 468, 469, 470, 430, 431, 432, 433, 214, 102, 215, 101, 434, 435, 436, 437, 91, 417, 418, 419, 420, 92, 216, 98, 99, 100, 438, 439, 440, 441, 89, 90, 93, 442, 443, 444, 445, 114, 471, 472, 473, 474, 849, 850, 851, 852, 853, 854, 855, 856, 857, 858, 859, 860, 861, 862, 863, 864, 865, 866, 867, 868, 869, 870, 871, 872, 873, 874, 875, 876, 877, 878, 879, 880, 881, 882, 883, 884] (by decide +kernel) (by decide +kernel)
set_option maxRecDepth 20000 in
theorem gL_law_X10_light : GoodIn wsL_law (wsV RL 64 RX10 yX10_light wsX10_light) := goodIn_app (goodIn_of _ (by decide +kernel)) ggL_law_X10_light
set_option maxRecDepth 20000 in
theorem ggL_law_X9_dark : GoodIn wsL_law wsX9_dark := goodIn_r _ [478, 15, 26, 20, 280, 281, 282, 14, 283, 42, 337, 338, 2, 339, 128, 129, 130, 373, 374, 375, 25, 376, 377, 66, 378, 379, 380, 381, 382, 63, 383, 384, 385, 386, 387, 388, 389, 390, 391, 392, 393, 394, 46, 47, 50, 395, 396, 397, 398, 399, 400, 401, 402, 403, 67, 404, 202, 203, 204, 405, 65, 64, 406, 407, 408, 409, 410, 411, 459, 460, 461, 462, 838, 839, 840, 841, 842, 843, 844, 845, 846, 847, 848, 885, 886, 887, 888, 889, 890, 891, 892, 897, 898, 899, 900, 901, 893, 894, 895, 896] (by decide +kernel) (by decide +kernel)
set_option maxRecDepth 20000 in
theorem gL_law_X9_dark : GoodIn wsL_law (wsV RL 65 RX9 yX9_dark wsX9_dark) := goodIn_app (goodIn_of _ (by decide +kernel)) ggL_law_X9_dark
set_option maxRecDepth 20000 in
theorem ggL_law_X10_dark : GoodIn wsL_law wsX10_dark := goodIn_r _ [482, 483, 288, 289, 290, 5, 291, 212, 222, 223, 224, 348, 349, 350, 351, 430, 431, 432, 433, 214, 102, 215, 101, 434, 435, 436, 437, 91, 417, 418, 419, 420, 92, 216, 98, 99, 100, 438, 439, 440, 441, 89, 90, 93, 442, 443, 444, 445, 114, 471, 472, 473, 474, 849, 850, 851, 852, 853, 854, 855, 856, 857, 858, 859, 860, 861, 862, 863, 864, 865, 866, 867, 868, 869, 870, 871, 872, 873, 874, 875, 876, 877, 878, 879, 880, 881, 882, 883, 884] (by decide +kernel) (by decide +kernel)
set_option maxRecDepth 20000 in
theorem gL_law_X10_dark : GoodIn wsL_law (wsV RL 68 RX10 yX10_dark wsX10_dark) := goodIn_app (goodIn_of _ (by decide +kernel)) ggL_law_X10_dark
set_option maxRecDepth 20000 in
theorem ggL_law_X9_set : GoodIn wsL_law wsX9_set := goodIn_r _ [487, 15, 31, 488, 489, 490, 491, 492, 280, 281, 282, 14, 283, 42, 337, 338, 2, 339, 128, 129, 130, 493, 494, 495, 496, 497, 498, 499, 500, 501, 502, 10, 11, 503, 504, 505, 30, 506, 76, 74, 75, 72, 73, 507, 508, 374, 375, 25, 376, 377, 66, 378, 379, 380, 381, 382, 63, 383, 384, 385, 386, 387, 388, 389, 390, 391, 392, 393, 394, 46, 47, 50, 395, 396, 397, 398, 399, 400, 401, 402, 403, 67, 404, 202, 203, 204, 405, 65, 64, 406, 407, 408, 409, 410, 411, 509, 510, 511, 512, 513, 514, 515, 516, 517, 518, 519, 520, 521, 522, 523, 524, 460, 461, 462, 525, 526, 527, 528, 529, 530, 531, 532, 533, 534, 535, 536, 537, 538, 77, 539, 540, 541, 19, 542, 55, 56, 57, 543, 544, 545, 546, 547, 548, 549, 550, 551, 552, 553, 838, 839, 840, 841, 842, 843, 844, 845, 846, 847, 848, 915, 916, 902, 903, 904, 905, 906, 907, 885, 886, 887, 888, 889, 890, 891, 892, 897, 898, 899, 900, 901, 893, 894, 895, 896, 917, 918] (by decide +kernel) (by decide +kernel)
set_option maxRecDepth 20000 in
theorem gL_law_X9_set : GoodIn wsL_law (wsV RL 69 RX9 yX9_set wsX9_set) := goodIn_app (goodIn_of _ (by decide +kernel)) ggL_law_X9_set
set_option maxRecDepth 20000 in
theorem ggL_law_X10_set : GoodIn wsL_law wsX10_set := goodIn_r _ [557, 216, 214, 212, 288, 289, 290, 5, 291, 222, 223, 224, 348, 349, 350, 351, 467, 468, 469, 470, 430, 431, 432, 433, 102, 215, 101, 434, 435, 436, 437, 91, 417, 418, 419, 420, 92, 98, 99, 100, 438, 439, 440, 441, 89, 90, 93, 442, 443, 444, 445, 114, 471, 472, 473, 474, 352, 353, 354, 355, 558, 559, 560, 561, 849, 850, 851, 852, 853, 854, 855, 856, 857, 858, 859, 860, 861, 862, 863, 864, 865, 866, 867, 868, 869, 870, 871, 872, 873, 874, 875, 876, 877, 878, 879, 880, 881, 882, 883, 884] (by decide +kernel) (by decide +kernel)
set_option maxRecDepth 20000 in
theorem gL_law_X10_set : GoodIn wsL_law (wsV RL 72 RX10 yX10_set wsX10_set) := goodIn_app (goodIn_of _ (by decide +kernel)) ggL_law_X10_set
set_option maxRecDepth 20000 in
theorem ggL_law_X9_show : GoodIn wsL_law wsX9_show := goodIn_r _ [565, 15, 31, 566, 567, 513, 491, 492, 280, 281, 282, 14, 283, 42, 128, 129, 2, 130, 568, 569, 570, 515, 516, 571, 499, 500, 501, 502, 10, 11, 503, 504, 505, 30, 506, 76, 74, 75, 72, 73, 507, 508, 374, 375, 25, 376, 377, 66, 378, 379, 380, 381, 382, 63, 383, 384, 385, 386, 387, 388, 389, 390, 391, 392, 393, 394, 46, 47, 50, 395, 396, 397, 398, 399, 400, 401, 402, 403, 67, 404, 202, 203, 204, 405, 65, 64, 406, 407, 408, 409, 410, 411, 509, 510, 511, 512, 514, 517, 518, 519, 520, 521, 522, 490, 523, 496, 497, 524, 460, 461, 462, 525, 526, 527, 528, 529, 530, 531, 532, 533, 534, 535, 536, 537, 538, 77, 539, 540, 541, 19, 542, 55, 56, 57, 543, 544, 545, 546, 547, 548, 549, 550, 551, 552, 553, 838, 839, 840, 841, 842, 843, 844, 845, 846, 847, 848, 917, 918, 902, 903, 904, 905, 906, 907, 885, 886, 887, 888, 889, 890, 891, 892, 897, 898, 899, 900, 901, 893, 894, 895, 896, 915, 916] (by decide +kernel) (by decide +kernel)
set_option maxRecDepth 20000 in
theorem gL_law_X9_show : GoodIn wsL_law (wsV RL 73 RX9 yX9_show wsX9_show) := goodIn_app (goodIn_of _ (by decide +kernel)) ggL_law_X9_show
set_option maxRecDepth 20000 in
theorem ggL_law_X10_show : GoodIn wsL_law wsX10_show := goodIn_r _ [575, 483, 216, 214, 212, 288, 289, 290, 5, 291, 222, 223, 224, 576, 577, 578, 579, 430, 431, 432, 433, 102, 215, 101, 434, 435, 436, 437, 91, 417, 418, 419, 420, 92, 98, 99, 100, 438, 439, 440, 441, 89, 90, 93, 442, 443, 444, 445, 114, 471, 472, 473, 474, 352, 353, 354, 355, 558, 559, 560, 561, 849, 850, 851, 852, 853, 854, 855, 856, 857, 858, 859, 860, 861, 862, 863, 864, 865, 866, 867, 868, 869, 870, 871, 872, 873, 874, 875, 876, 877, 878, 879, 880, 881, 882, 883, 884] (by decide +kernel) (by decide +kernel)
set_option maxRecDepth 20000 in
theorem gL_law_X10_show : GoodIn wsL_law (wsV RL 76 RX10 yX10_show wsX10_show) := goodIn_app (goodIn_of _ (by decide +kernel)) ggL_law_X10_show
set_option maxRecDepth 20000 in
theorem ggL_law_X9_moves : GoodIn wsL_law wsX9_moves := goodIn_r _ [583, 35, 15, 33, 26, 21, 280, 281, 282, 14, 283, 42, 337, 338, 2, 339, 128, 129, 130, 125, 126, 127, 131, 132, 133, 134, 135, 136, 37, 137, 84, 138, 139, 140, 141, 142, 143, 144, 145, 146, 147, 148, 149, 83, 584, 585, 586, 587, 123, 588, 298, 299, 300, 301, 43, 340, 341, 342, 19, 343, 55, 56, 57, 58, 373, 374, 375, 25, 376, 377, 66, 378, 379, 380, 381, 382, 63, 383, 384, 385, 386, 387, 388, 389, 390, 391, 392, 393, 394, 46, 47, 50, 395, 396, 397, 398, 399, 400, 401, 402, 403, 67, 404, 202, 203, 204, 405, 65, 64, 406, 407, 408, 409, 410, 411, 459, 460, 461, 462, 838, 839, 840, 841, 842, 843, 844, 845, 846, 847, 848, 885, 886, 887, 888, 889, 890, 891, 892, 908, 909, 910, 893, 894, 895, 896, 897, 898, 899, 900, 901] (by decide +kernel) (by decide +kernel)
set_option maxRecDepth 20000 in
theorem gL_law_X9_moves : GoodIn wsL_law (wsV RL 77 RX9 yX9_moves wsX9_moves) := goodIn_app (goodIn_of _ (by decide +kernel)) ggL_law_X9_moves
set_option maxRecDepth 20000 in
theorem ggL_law_X10_moves : GoodIn wsL_law wsX10_moves := goodIn_r _ [592, 209, 593, 221, 112, 288, 289, 290, 5, 291, 212, 222, 223, 224, 225, 226, 227, 228, 229, 348, 349, 350, 351, 218, 219, 220, 230, 231, 232, 233, 110, 111, 234, 235, 236, 237, 238, 239, 240, 306, 307, 308, 309, 214, 594, 595, 596, 597, 216, 103, 98, 104, 99, 105, 100, 352, 353, 354, 355, 467, 468, 469, 470, 430, 431, 432, 433, 102, 215, 101, 434, 435, 436, 437, 91, 417, 418, 419, 420, 92, 438, 439, 440, 441, 89, 90, 93, 442, 443, 444, 445, 114, 471, 472, 473, 474, 849, 850, 851, 852, 853, 854, 855, 856, 857, 858, 859, 860, 861, 862, 863, 864, 865, 866, 867, 868, 869, 870, 871, 872, 873, 874, 875, 876, 877, 878, 879, 880, 881, 882, 883, 884] (by decide +kernel) (by decide +kernel)
set_option maxRecDepth 20000 in
theorem gL_law_X10_moves : GoodIn wsL_law (wsV RL 81 RX10 yX10_moves wsX10_moves) := goodIn_app (goodIn_of _ (by decide +kernel)) ggL_law_X10_moves
set_option maxRecDepth 20000 in
theorem ggL_law_X9_worth : GoodIn wsL_law wsX9_worth := goodIn_r _ [601, 15, 16, 296, 26, 20, 27, 602, 298, 299, 300, 14, 301, 43, 197, 198, 199, 200, 42, 44, 46, 201, 202, 203, 204, 47, 48, 49, 50, 373, 374, 375, 25, 376, 377, 66, 378, 379, 380, 381, 382, 63, 383, 384, 385, 386, 387, 388, 389, 390, 391, 392, 393, 394, 395, 396, 397, 398, 399, 400, 401, 402, 403, 67, 404, 405, 65, 64, 406, 407, 408, 409, 410, 411, 603, 604, 605, 606, 838, 839, 840, 841, 842, 843, 844, 845, 846, 847, 848, 885, 886, 887, 888, 889, 890, 891, 892, 897, 898, 899, 900, 901, 893, 894, 895, 896] (by decide +kernel) (by decide +kernel)
set_option maxRecDepth 20000 in
theorem gL_law_X9_worth : GoodIn wsL_law (wsV RL 82 RX9 yX9_worth wsX9_worth) := goodIn_app (goodIn_of _ (by decide +kernel)) ggL_law_X9_worth
set_option maxRecDepth 20000 in
theorem ggL_law_X10_worth : GoodIn wsL_law wsX10_worth := goodIn_r _ [610, 114, 306, 307, 308, 5, 309, 214, 222, 223, 224, 611, 612, 613, 614, 212, 430, 431, 432, 433, 102, 215, 101, 434, 435, 436, 437, 91, 417, 418, 419, 420, 92, 216, 98, 99, 100, 438, 439, 440, 441, 89, 90, 93, 442, 443, 444, 445, 471, 472, 473, 474, 849, 850, 851, 852, 853, 854, 855, 856, 857, 858, 859, 860, 861, 862, 863, 864, 865, 866, 867, 868, 869, 870, 871, 872, 873, 874, 875, 876, 877, 878, 879, 880, 881, 882, 883, 884] (by decide +kernel) (by decide +kernel)
set_option maxRecDepth 20000 in
theorem gL_law_X10_worth : GoodIn wsL_law (wsV RL 85 RX10 yX10_worth wsX10_worth) := goodIn_app (goodIn_of _ (by decide +kernel)) ggL_law_X10_worth
set_option maxRecDepth 20000 in
theorem ggL_law_X9_reading : GoodIn wsL_law wsX9_reading := goodIn_r _ [618, 15, 22, 280, 281, 282, 14, 283, 42, 337, 338, 2, 339, 128, 129, 130, 340, 341, 342, 19, 343, 55, 56, 57, 58, 838, 839, 840, 841, 842, 843, 844, 845, 846, 847, 848, 885, 886, 887, 888, 889, 890, 891, 892, 893, 894, 895, 896] (by decide +kernel) (by decide +kernel)
set_option maxRecDepth 20000 in
theorem gL_law_X9_reading : GoodIn wsL_law (wsV RL 86 RX9 yX9_reading wsX9_reading) := goodIn_app (goodIn_of _ (by decide +kernel)) ggL_law_X9_reading
set_option maxRecDepth 20000 in
theorem ggL_law_X10_reading : GoodIn wsL_law wsX10_reading := goodIn_r _ [622, 483, 217, 106, 107, 108, 288, 289, 290, 5, 291, 212, 222, 223, 224, 348, 349, 350, 351, 849, 850, 851, 852, 853, 854, 855, 856, 857, 858, 859, 860, 861, 862, 863, 864, 865, 866, 867, 868, 869, 870, 871, 872, 873, 874, 875, 876, 877, 878, 879, 880, 881, 882, 883, 884] (by decide +kernel) (by decide +kernel)
set_option maxRecDepth 20000 in
theorem gL_law_X10_reading : GoodIn wsL_law (wsV RL 89 RX10 yX10_reading wsX10_reading) := goodIn_app (goodIn_of _ (by decide +kernel)) ggL_law_X10_reading
set_option maxRecDepth 20000 in
theorem ggL_law_X9_back : GoodIn wsL_law wsX9_back := goodIn_r _ [626, 22, 360, 361, 362, 19, 363, 55, 838, 839, 840, 841, 842, 843, 844, 845, 846, 847, 848, 893, 894, 895, 896] (by decide +kernel) (by decide +kernel)
set_option maxRecDepth 20000 in
theorem gL_law_X9_back : GoodIn wsL_law (wsV RL 90 RX9 yX9_back wsX9_back) := goodIn_app (goodIn_of _ (by decide +kernel)) ggL_law_X9_back
set_option maxRecDepth 20000 in
theorem ggL_law_X10_back : GoodIn wsL_law wsX10_back := goodIn_r _ [630, 217, 222, 223, 5, 224, 849, 850, 851, 852, 853, 854, 855, 856, 857, 858, 859, 860, 861, 862, 863, 864, 865, 866, 867, 868, 869, 870, 871, 872, 873, 874, 875, 876, 877, 878, 879, 880, 881, 882, 883, 884] (by decide +kernel) (by decide +kernel)
set_option maxRecDepth 20000 in
theorem gL_law_X10_back : GoodIn wsL_law (wsV RL 93 RX10 yX10_back wsX10_back) := goodIn_app (goodIn_of _ (by decide +kernel)) ggL_law_X10_back
set_option maxRecDepth 20000 in
theorem ggL_law_X9_stood : GoodIn wsL_law wsX9_stood := goodIn_r _ [634, 15, 16, 602, 297, 298, 299, 300, 14, 301, 43, 197, 198, 199, 200, 42, 44, 46, 201, 202, 203, 204, 47, 48, 49, 50, 635, 636, 637, 2, 638, 27, 20, 22, 123, 639, 640, 641, 373, 374, 375, 25, 376, 377, 66, 378, 379, 380, 381, 382, 63, 383, 384, 385, 386, 387, 388, 389, 390, 391, 392, 393, 394, 395, 396, 397, 398, 399, 400, 401, 402, 403, 67, 404, 405, 65, 64, 406, 407, 408, 409, 410, 411, 459, 460, 461, 462, 838, 839, 840, 841, 842, 843, 844, 845, 846, 847, 848, 885, 886, 887, 888, 889, 890, 891, 892, 893, 894, 895, 896, 897, 898, 899, 900, 901] (by decide +kernel) (by decide +kernel)
set_option maxRecDepth 20000 in
theorem gL_law_X9_stood : GoodIn wsL_law (wsV RL 94 RX9 yX9_stood wsX9_stood) := goodIn_app (goodIn_of _ (by decide +kernel)) ggL_law_X9_stood
set_option maxRecDepth 20000 in
theorem ggL_law_X10_stood : GoodIn wsL_law wsX10_stood := goodIn_r _ [645, 92, 212, 306, 307, 308, 5, 309, 214, 222, 223, 224, 646, 647, 648, 649, 217, 106, 107, 108, 430, 431, 432, 433, 102, 215, 101, 434, 435, 436, 437, 91, 417, 418, 419, 420, 216, 98, 99, 100, 438, 439, 440, 441, 89, 90, 93, 442, 443, 444, 445, 114, 471, 472, 473, 474, 849, 850, 851, 852, 853, 854, 855, 856, 857, 858, 859, 860, 861, 862, 863, 864, 865, 866, 867, 868, 869, 870, 871, 872, 873, 874, 875, 876, 877, 878, 879, 880, 881, 882, 883, 884] (by decide +kernel) (by decide +kernel)
set_option maxRecDepth 20000 in
theorem gL_law_X10_stood : GoodIn wsL_law (wsV RL 97 RX10 yX10_stood wsX10_stood) := goodIn_app (goodIn_of _ (by decide +kernel)) ggL_law_X10_stood
set_option maxRecDepth 20000 in
theorem ggL_law_X9_kinds : GoodIn wsL_law wsX9_kinds := goodIn_r _ [653, 15, 16, 296, 298, 299, 300, 14, 301, 43, 197, 198, 199, 200, 42, 44, 46, 201, 202, 203, 204, 47, 48, 49, 50, 635, 636, 637, 2, 638, 27, 20, 22, 123, 639, 640, 641, 373, 374, 375, 25, 376, 377, 66, 378, 379, 380, 381, 382, 63, 383, 384, 385, 386, 387, 388, 389, 390, 391, 392, 393, 394, 395, 396, 397, 398, 399, 400, 401, 402, 403, 67, 404, 405, 65, 64, 406, 407, 408, 409, 410, 411, 459, 460, 461, 462, 838, 839, 840, 841, 842, 843, 844, 845, 846, 847, 848, 885, 886, 887, 888, 889, 890, 891, 892, 893, 894, 895, 896, 897, 898, 899, 900, 901] (by decide +kernel) (by decide +kernel)
set_option maxRecDepth 20000 in
theorem gL_law_X9_kinds : GoodIn wsL_law (wsV RL 98 RX9 yX9_kinds wsX9_kinds) := goodIn_app (goodIn_of _ (by decide +kernel)) ggL_law_X9_kinds
set_option maxRecDepth 20000 in
theorem ggL_law_X10_kinds : GoodIn wsL_law wsX10_kinds := goodIn_r _ [657, 91, 306, 307, 308, 5, 309, 214, 222, 223, 224, 646, 647, 648, 649, 217, 106, 107, 108, 430, 431, 432, 433, 102, 215, 101, 434, 435, 436, 437, 417, 418, 419, 420, 92, 216, 98, 99, 100, 438, 439, 440, 441, 89, 90, 93, 442, 443, 444, 445, 114, 471, 472, 473, 474, 849, 850, 851, 852, 853, 854, 855, 856, 857, 858, 859, 860, 861, 862, 863, 864, 865, 866, 867, 868, 869, 870, 871, 872, 873, 874, 875, 876, 877, 878, 879, 880, 881, 882, 883, 884] (by decide +kernel) (by decide +kernel)
set_option maxRecDepth 20000 in
theorem gL_law_X10_kinds : GoodIn wsL_law (wsV RL 101 RX10 yX10_kinds wsX10_kinds) := goodIn_app (goodIn_of _ (by decide +kernel)) ggL_law_X10_kinds
set_option maxRecDepth 20000 in
theorem ggL_law_X9_ages : GoodIn wsL_law wsX9_ages := goodIn_r _ [661, 15, 16, 327, 266, 267, 268, 14, 269, 43, 197, 198, 199, 200, 42, 44, 46, 201, 202, 203, 204, 47, 48, 49, 50, 635, 636, 637, 2, 638, 27, 20, 22, 123, 639, 640, 641, 373, 374, 375, 25, 376, 377, 66, 378, 379, 380, 381, 382, 63, 383, 384, 385, 386, 387, 388, 389, 390, 391, 392, 393, 394, 395, 396, 397, 398, 399, 400, 401, 402, 403, 67, 404, 405, 65, 64, 406, 407, 408, 409, 410, 411, 459, 460, 461, 462, 838, 839, 840, 841, 842, 843, 844, 845, 846, 847, 848, 885, 886, 887, 888, 889, 890, 891, 892, 893, 894, 895, 896, 897, 898, 899, 900, 901] (by decide +kernel) (by decide +kernel)
set_option maxRecDepth 20000 in
theorem gL_law_X9_ages : GoodIn wsL_law (wsV RL 102 RX9 yX9_ages wsX9_ages) := goodIn_app (goodIn_of _ (by decide +kernel)) ggL_law_X9_ages
set_option maxRecDepth 20000 in
theorem ggL_law_X10_ages : GoodIn wsL_law wsX10_ages := goodIn_r _ [665, 214, 215, 646, 647, 648, 5, 649, 217, 106, 107, 108, 430, 431, 432, 433, 102, 101, 434, 435, 436, 437, 91, 417, 418, 419, 420, 92, 216, 98, 99, 100, 438, 439, 440, 441, 89, 90, 93, 442, 443, 444, 445, 114, 471, 472, 473, 474, 849, 850, 851, 852, 853, 854, 855, 856, 857, 858, 859, 860, 861, 862, 863, 864, 865, 866, 867, 868, 869, 870, 871, 872, 873, 874, 875, 876, 877, 878, 879, 880, 881, 882, 883, 884] (by decide +kernel) (by decide +kernel)
set_option maxRecDepth 20000 in
theorem gL_law_X10_ages : GoodIn wsL_law (wsV RL 106 RX10 yX10_ages wsX10_ages) := goodIn_app (goodIn_of _ (by decide +kernel)) ggL_law_X10_ages
set_option maxRecDepth 20000 in
theorem ggL_law_X9_clouds : GoodIn wsL_law wsX9_clouds := goodIn_r _ [669, 15, 16, 314, 315, 316, 2, 317, 128, 129, 130, 266, 267, 268, 14, 269, 43, 197, 198, 199, 200, 42, 44, 46, 201, 202, 203, 204, 47, 48, 49, 50, 635, 636, 637, 638, 27, 20, 22, 123, 639, 640, 641, 373, 374, 375, 25, 376, 377, 66, 378, 379, 380, 381, 382, 63, 383, 384, 385, 386, 387, 388, 389, 390, 391, 392, 393, 394, 395, 396, 397, 398, 399, 400, 401, 402, 403, 67, 404, 405, 65, 64, 406, 407, 408, 409, 410, 411, 459, 460, 461, 462, 838, 839, 840, 841, 842, 843, 844, 845, 846, 847, 848, 885, 886, 887, 888, 889, 890, 891, 892, 893, 894, 895, 896, 897, 898, 899, 900, 901] (by decide +kernel) (by decide +kernel)
set_option maxRecDepth 20000 in
theorem gL_law_X9_clouds : GoodIn wsL_law (wsV RL 107 RX9 yX9_clouds wsX9_clouds) := goodIn_app (goodIn_of _ (by decide +kernel)) ggL_law_X9_clouds
set_option maxRecDepth 20000 in
theorem ggL_law_X10_clouds : GoodIn wsL_law wsX10_clouds := goodIn_r _ [673, 221, 214, 93, 222, 223, 5, 224, 646, 647, 648, 649, 217, 106, 107, 108, 430, 431, 432, 433, 102, 215, 101, 434, 435, 436, 437, 91, 417, 418, 419, 420, 92, 216, 98, 99, 100, 438, 439, 440, 441, 89, 90, 442, 443, 444, 445, 114, 471, 472, 473, 474, 849, 850, 851, 852, 853, 854, 855, 856, 857, 858, 859, 860, 861, 862, 863, 864, 865, 866, 867, 868, 869, 870, 871, 872, 873, 874, 875, 876, 877, 878, 879, 880, 881, 882, 883, 884] (by decide +kernel) (by decide +kernel)
set_option maxRecDepth 20000 in
theorem gL_law_X10_clouds : GoodIn wsL_law (wsV RL 110 RX10 yX10_clouds wsX10_clouds) := goodIn_app (goodIn_of _ (by decide +kernel)) ggL_law_X10_clouds
set_option maxRecDepth 20000 in
theorem ggL_law_X9_odds : GoodIn wsL_law wsX9_odds := goodIn_r _ [677, 15, 678, 280, 281, 282, 14, 283, 42, 337, 338, 2, 339, 128, 129, 130, 679, 680, 681, 682, 16, 314, 27, 20, 197, 198, 199, 200, 43, 44, 46, 201, 202, 203, 204, 47, 48, 49, 50, 373, 374, 375, 25, 376, 377, 66, 378, 379, 380, 381, 382, 63, 383, 384, 385, 386, 387, 388, 389, 390, 391, 392, 393, 394, 395, 396, 397, 398, 399, 400, 401, 402, 403, 67, 404, 405, 65, 64, 406, 407, 408, 409, 410, 411, 459, 460, 461, 462, 838, 839, 840, 841, 842, 843, 844, 845, 846, 847, 848, 885, 886, 887, 888, 889, 890, 891, 892, 897, 898, 899, 900, 901, 893, 894, 895, 896] (by decide +kernel) (by decide +kernel)
set_option maxRecDepth 20000 in
theorem gL_law_X9_odds : GoodIn wsL_law (wsV RL 111 RX9 yX9_odds wsX9_odds) := goodIn_app (goodIn_of _ (by decide +kernel)) ggL_law_X9_odds
set_option maxRecDepth 20000 in
theorem ggL_law_X10_odds : GoodIn wsL_law wsX10_odds := goodIn_r _ [686, 483, 109, 93, 687, 288, 289, 290, 5, 291, 212, 222, 223, 224, 348, 349, 350, 351, 688, 689, 690, 691, 467, 468, 469, 470, 430, 431, 432, 433, 214, 102, 215, 101, 434, 435, 436, 437, 91, 417, 418, 419, 420, 92, 216, 98, 99, 100, 438, 439, 440, 441, 89, 90, 442, 443, 444, 445, 114, 471, 472, 473, 474, 692, 693, 694, 849, 850, 851, 852, 853, 854, 855, 856, 857, 858, 859, 860, 861, 862, 863, 864, 865, 866, 867, 868, 869, 870, 871, 872, 873, 874, 875, 876, 877, 878, 879, 880, 881, 882, 883, 884] (by decide +kernel) (by decide +kernel)
set_option maxRecDepth 20000 in
theorem gL_law_X10_odds : GoodIn wsL_law (wsV RL 115 RX10 yX10_odds wsX10_odds) := goodIn_app (goodIn_of _ (by decide +kernel)) ggL_law_X10_odds
set_option maxRecDepth 20000 in
theorem ggL_law_X9_sheet : GoodIn wsL_law wsX9_sheet := goodIn_r _ [698, 35, 33, 125, 126, 2, 127, 128, 129, 130, 131, 132, 133, 138, 139, 140, 141, 699, 700, 701, 37, 702, 84, 83, 82, 838, 839, 840, 841, 842, 843, 844, 845, 846, 847, 848, 908, 909, 910] (by decide +kernel) (by decide +kernel)
set_option maxRecDepth 20000 in
theorem gL_law_X9_sheet : GoodIn wsL_law (wsV RL 116 RX9 yX9_sheet wsX9_sheet) := goodIn_app (goodIn_of _ (by decide +kernel)) ggL_law_X9_sheet
set_option maxRecDepth 20000 in
theorem ggL_law_X10_sheet : GoodIn wsL_law wsX10_sheet := goodIn_r _ [706, 209, 110, 111, 112, 218, 219, 5, 220, 221, 222, 223, 224, 225, 226, 227, 228, 229, 234, 235, 236, 237, 849, 850, 851, 852, 853, 854, 855, 856, 857, 858, 859, 860, 861, 862, 863, 864, 865, 866, 867, 868, 869, 870, 871, 872, 873, 874, 875, 876, 877, 878, 879, 880, 881, 882, 883, 884] (by decide +kernel) (by decide +kernel)
set_option maxRecDepth 20000 in
theorem gL_law_X10_sheet : GoodIn wsL_law (wsV RL 119 RX10 yX10_sheet wsX10_sheet) := goodIn_app (goodIn_of _ (by decide +kernel)) ggL_law_X10_sheet
set_option maxRecDepth 20000 in
theorem ggL_law_X9_lose : GoodIn wsL_law wsX9_lose := goodIn_r _ [710, 33, 125, 126, 2, 127, 128, 129, 130, 142, 143, 144, 37, 145, 84, 711, 712, 713, 714, 83, 838, 839, 840, 841, 842, 843, 844, 845, 846, 847, 848, 908, 909, 910] (by decide +kernel) (by decide +kernel)
set_option maxRecDepth 20000 in
theorem gL_law_X9_lose : GoodIn wsL_law (wsV RL 120 RX9 yX9_lose wsX9_lose) := goodIn_app (goodIn_of _ (by decide +kernel)) ggL_law_X9_lose
set_option maxRecDepth 20000 in
theorem ggL_law_X10_lose : GoodIn wsL_law wsX10_lose := goodIn_r _ [718, 110, 218, 219, 5, 220, 221, 222, 223, 224, 849, 850, 851, 852, 853, 854, 855, 856, 857, 858, 859, 860, 861, 862, 863, 864, 865, 866, 867, 868, 869, 870, 871, 872, 873, 874, 875, 876, 877, 878, 879, 880, 881, 882, 883, 884] (by decide +kernel) (by decide +kernel)
set_option maxRecDepth 20000 in
theorem gL_law_X10_lose : GoodIn wsL_law (wsV RL 123 RX10 yX10_lose wsX10_lose) := goodIn_app (goodIn_of _ (by decide +kernel)) ggL_law_X10_lose
set_option maxRecDepth 20000 in
theorem ggL_law_X9_put : GoodIn wsL_law wsX9_put := goodIn_r _ [722, 35, 33, 588, 125, 126, 2, 127, 128, 129, 130, 142, 143, 144, 37, 145, 84, 138, 139, 140, 141, 146, 147, 148, 149, 83, 723, 724, 725, 726, 838, 839, 840, 841, 842, 843, 844, 845, 846, 847, 848, 908, 909, 910] (by decide +kernel) (by decide +kernel)
set_option maxRecDepth 20000 in
theorem gL_law_X9_put : GoodIn wsL_law (wsV RL 124 RX9 yX9_put wsX9_put) := goodIn_app (goodIn_of _ (by decide +kernel)) ggL_law_X9_put
set_option maxRecDepth 20000 in
theorem ggL_law_X10_put : GoodIn wsL_law wsX10_put := goodIn_r _ [730, 112, 111, 218, 219, 5, 220, 221, 222, 223, 224, 225, 226, 227, 228, 229, 731, 732, 733, 734, 110, 234, 235, 236, 237, 849, 850, 851, 852, 853, 854, 855, 856, 857, 858, 859, 860, 861, 862, 863, 864, 865, 866, 867, 868, 869, 870, 871, 872, 873, 874, 875, 876, 877, 878, 879, 880, 881, 882, 883, 884] (by decide +kernel) (by decide +kernel)
set_option maxRecDepth 20000 in
theorem gL_law_X10_put : GoodIn wsL_law (wsV RL 127 RX10 yX10_put wsX10_put) := goodIn_app (goodIn_of _ (by decide +kernel)) ggL_law_X10_put
set_option maxRecDepth 20000 in
theorem ggL_law_X9_cell : GoodIn wsL_law wsX9_cell := goodIn_r _ [738, 35, 678, 33, 588, 125, 126, 2, 127, 128, 129, 130, 131, 132, 133, 134, 135, 136, 37, 137, 84, 739, 740, 741, 742, 142, 143, 144, 145, 146, 147, 148, 149, 83, 838, 839, 840, 841, 842, 843, 844, 845, 846, 847, 848, 908, 909, 910] (by decide +kernel) (by decide +kernel)
set_option maxRecDepth 20000 in
theorem gL_law_X9_cell : GoodIn wsL_law (wsV RL 128 RX9 yX9_cell wsX9_cell) := goodIn_app (goodIn_of _ (by decide +kernel)) ggL_law_X9_cell
set_option maxRecDepth 20000 in
theorem ggL_law_X10_cell : GoodIn wsL_law wsX10_cell := goodIn_r _ [746, 229, 209, 110, 111, 112, 218, 219, 5, 220, 221, 222, 223, 224, 688, 689, 690, 691, 747, 748, 749, 750, 731, 732, 733, 734, 849, 850, 851, 852, 853, 854, 855, 856, 857, 858, 859, 860, 861, 862, 863, 864, 865, 866, 867, 868, 869, 870, 871, 872, 873, 874, 875, 876, 877, 878, 879, 880, 881, 882, 883, 884] (by decide +kernel) (by decide +kernel)
set_option maxRecDepth 20000 in
theorem gL_law_X10_cell : GoodIn wsL_law (wsV RL 132 RX10 yX10_cell wsX10_cell) := goodIn_app (goodIn_of _ (by decide +kernel)) ggL_law_X10_cell
set_option maxRecDepth 20000 in
theorem ggL_law_X9_copy : GoodIn wsL_law wsX9_copy := goodIn_r _ [754, 35, 33, 755, 588, 756, 202, 203, 204, 125, 126, 2, 127, 128, 129, 130, 142, 143, 144, 37, 145, 84, 138, 139, 140, 141, 134, 135, 136, 137, 146, 147, 148, 149, 83, 838, 839, 840, 841, 842, 843, 844, 845, 846, 847, 848, 908, 909, 910] (by decide +kernel) (by decide +kernel)
set_option maxRecDepth 20000 in
theorem gL_law_X9_copy : GoodIn wsL_law (wsV RL 133 RX9 yX9_copy wsX9_copy) := goodIn_app (goodIn_of _ (by decide +kernel)) ggL_law_X9_copy
set_option maxRecDepth 20000 in
theorem ggL_law_X10_copy : GoodIn wsL_law wsX10_copy := goodIn_r _ [760, 110, 111, 113, 112, 218, 219, 5, 220, 221, 222, 223, 224, 225, 226, 227, 228, 229, 234, 235, 236, 237, 238, 239, 240, 849, 850, 851, 852, 853, 854, 855, 856, 857, 858, 859, 860, 861, 862, 863, 864, 865, 866, 867, 868, 869, 870, 871, 872, 873, 874, 875, 876, 877, 878, 879, 880, 881, 882, 883, 884] (by decide +kernel) (by decide +kernel)
set_option maxRecDepth 20000 in
theorem gL_law_X10_copy : GoodIn wsL_law (wsV RL 137 RX10 yX10_copy wsX10_copy) := goodIn_app (goodIn_of _ (by decide +kernel)) ggL_law_X10_copy
set_option maxRecDepth 20000 in
theorem ggL_law_X9_tell : GoodIn wsL_law wsX9_tell := goodIn_r _ [764, 15, 296, 298, 299, 300, 14, 301, 43, 765, 766, 767, 2, 768, 769, 770, 771, 772, 34, 773, 774, 775, 776, 777, 778, 779, 780, 297, 838, 839, 840, 841, 842, 843, 844, 845, 846, 847, 848, 885, 886, 887, 888, 889, 890, 891, 892] (by decide +kernel) (by decide +kernel)
set_option maxRecDepth 20000 in
theorem gL_law_X9_tell : GoodIn wsL_law (wsV RL 138 RX9 yX9_tell wsX9_tell) := goodIn_app (goodIn_of _ (by decide +kernel)) ggL_law_X9_tell
set_option maxRecDepth 20000 in
theorem ggL_law_X10_tell : GoodIn wsL_law wsX10_tell := goodIn_r _ [784, 91, 92, 306, 307, 308, 5, 309, 214, 222, 223, 224, 785, 786, 787, 788, 789, 849, 850, 851, 852, 853, 854, 855, 856, 857, 858, 859, 860, 861, 862, 863, 864, 865, 866, 867, 868, 869, 870, 871, 872, 873, 874, 875, 876, 877, 878, 879, 880, 881, 882, 883, 884] (by decide +kernel) (by decide +kernel)
set_option maxRecDepth 20000 in
theorem gL_law_X10_tell : GoodIn wsL_law (wsV RL 141 RX10 yX10_tell wsX10_tell) := goodIn_app (goodIn_of _ (by decide +kernel)) ggL_law_X10_tell
set_option maxRecDepth 20000 in
theorem ggL_law_X9_see : GoodIn wsL_law wsX9_see := goodIn_r _ [793, 15, 296, 298, 299, 300, 14, 301, 43, 794, 795, 796, 2, 797, 769, 770, 771, 772, 34, 798, 799, 800, 801, 838, 839, 840, 841, 842, 843, 844, 845, 846, 847, 848, 885, 886, 887, 888, 889, 890, 891, 892] (by decide +kernel) (by decide +kernel)
set_option maxRecDepth 20000 in
theorem gL_law_X9_see : GoodIn wsL_law (wsV RL 142 RX9 yX9_see wsX9_see) := goodIn_app (goodIn_of _ (by decide +kernel)) ggL_law_X9_see
set_option maxRecDepth 20000 in
theorem ggL_law_X10_see : GoodIn wsL_law wsX10_see := goodIn_r _ [805, 91, 306, 307, 308, 5, 309, 214, 222, 223, 224, 785, 786, 787, 788, 789, 849, 850, 851, 852, 853, 854, 855, 856, 857, 858, 859, 860, 861, 862, 863, 864, 865, 866, 867, 868, 869, 870, 871, 872, 873, 874, 875, 876, 877, 878, 879, 880, 881, 882, 883, 884] (by decide +kernel) (by decide +kernel)
set_option maxRecDepth 20000 in
theorem gL_law_X10_see : GoodIn wsL_law (wsV RL 145 RX10 yX10_see wsX10_see) := goodIn_app (goodIn_of _ (by decide +kernel)) ggL_law_X10_see
set_option maxRecDepth 20000 in
theorem ggL_law_X9_as : GoodIn wsL_law wsX9_as := goodIn_r _ [809, 35, 15, 296, 298, 299, 300, 14, 301, 43, 128, 129, 2, 130, 138, 139, 140, 141, 838, 839, 840, 841, 842, 843, 844, 845, 846, 847, 848, 885, 886, 887, 888, 889, 890, 891, 892] (by decide +kernel) (by decide +kernel)
set_option maxRecDepth 20000 in
theorem gL_law_X9_as : GoodIn wsL_law (wsV RL 146 RX9 yX9_as wsX9_as) := goodIn_app (goodIn_of _ (by decide +kernel)) ggL_law_X9_as
set_option maxRecDepth 20000 in
theorem ggL_law_X10_as : GoodIn wsL_law wsX10_as := goodIn_r _ [813, 209, 91, 306, 307, 308, 5, 309, 214, 222, 223, 224, 225, 226, 227, 228, 229, 234, 235, 236, 237, 849, 850, 851, 852, 853, 854, 855, 856, 857, 858, 859, 860, 861, 862, 863, 864, 865, 866, 867, 868, 869, 870, 871, 872, 873, 874, 875, 876, 877, 878, 879, 880, 881, 882, 883, 884] (by decide +kernel) (by decide +kernel)
set_option maxRecDepth 20000 in
theorem gL_law_X10_as : GoodIn wsL_law (wsV RL 149 RX10 yX10_as wsX10_as) := goodIn_app (goodIn_of _ (by decide +kernel)) ggL_law_X10_as
set_option maxRecDepth 20000 in
theorem ggL_law_X9_trace : GoodIn wsL_law wsX9_trace := goodIn_r _ [817, 34, 838, 839, 840, 841, 842, 843, 844, 845, 846, 847, 848] (by decide +kernel) (by decide +kernel)
set_option maxRecDepth 20000 in
theorem gL_law_X9_trace : GoodIn wsL_law (wsV RL 150 RX9 yX9_trace wsX9_trace) := goodIn_app (goodIn_of _ (by decide +kernel)) ggL_law_X9_trace
set_option maxRecDepth 20000 in
theorem ggL_law_X10_trace : GoodIn wsL_law wsX10_trace := goodIn_r _ [821, 789, 849, 850, 851, 852, 853, 854, 855, 856, 857, 858, 859, 860, 861, 862, 863, 864, 865, 866, 867, 868, 869, 870, 871, 872, 873, 874, 875, 876, 877, 878, 879, 880, 881, 882, 883, 884] (by decide +kernel) (by decide +kernel)
set_option maxRecDepth 20000 in
theorem gL_law_X10_trace : GoodIn wsL_law (wsV RL 153 RX10 yX10_trace wsX10_trace) := goodIn_app (goodIn_of _ (by decide +kernel)) ggL_law_X10_trace
set_option maxRecDepth 20000 in
theorem ggL_law_X9_fault : GoodIn wsL_law wsX9_fault := goodIn_r _ [825, 35, 838, 839, 840, 841, 842, 843, 844, 845, 846, 847, 848] (by decide +kernel) (by decide +kernel)
set_option maxRecDepth 20000 in
theorem gL_law_X9_fault : GoodIn wsL_law (wsV RL 154 RX9 yX9_fault wsX9_fault) := goodIn_app (goodIn_of _ (by decide +kernel)) ggL_law_X9_fault
set_option maxRecDepth 20000 in
theorem ggL_law_X10_fault : GoodIn wsL_law wsX10_fault := goodIn_r _ [829, 229, 849, 850, 851, 852, 853, 854, 855, 856, 857, 858, 859, 860, 861, 862, 863, 864, 865, 866, 867, 868, 869, 870, 871, 872, 873, 874, 875, 876, 877, 878, 879, 880, 881, 882, 883, 884] (by decide +kernel) (by decide +kernel)
set_option maxRecDepth 20000 in
theorem gL_law_X10_fault : GoodIn wsL_law (wsV RL 157 RX10 yX10_fault wsX10_fault) := goodIn_app (goodIn_of _ (by decide +kernel)) ggL_law_X10_fault
set_option maxRecDepth 20000 in
theorem ggL_law_X9_many : GoodIn wsL_law wsX9_many := goodIn_r _ [833, 15, 124, 602, 20, 123, 22, 327, 838, 839, 840, 841, 842, 843, 844, 845, 846, 847, 848, 885, 886, 887, 888, 889, 890, 891, 892, 893, 894, 895, 896] (by decide +kernel) (by decide +kernel)
set_option maxRecDepth 20000 in
theorem gL_law_X9_many : GoodIn wsL_law (wsV RL 158 RX9 yX9_many wsX9_many) := goodIn_app (goodIn_of _ (by decide +kernel)) ggL_law_X9_many
set_option maxRecDepth 20000 in
theorem ggL_law_X10_many : GoodIn wsL_law wsX10_many := goodIn_r _ [837, 214, 212, 216, 217, 215, 849, 850, 851, 852, 853, 854, 855, 856, 857, 858, 859, 860, 861, 862, 863, 864, 865, 866, 867, 868, 869, 870, 871, 872, 873, 874, 875, 876, 877, 878, 879, 880, 881, 882, 883, 884] (by decide +kernel) (by decide +kernel)
set_option maxRecDepth 20000 in
theorem gL_law_X10_many : GoodIn wsL_law (wsV RL 161 RX10 yX10_many wsX10_many) := goodIn_app (goodIn_of _ (by decide +kernel)) ggL_law_X10_many
