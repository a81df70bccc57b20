set_option maxRecDepth 20000 in
theorem hhL_X8_init : GoodIn lw_tbl wsX8_init := goodIn_r _ [68, 69, 70, 71, 72, 73, 48, 333, 86, 87, 49, 334, 99, 100, 50, 335, 336, 131, 132, 51, 337, 338, 144, 145, 52, 339, 340, 159, 160, 53, 341, 172, 173, 54, 342, 194, 195, 55, 343, 75, 76, 77, 85, 78, 79, 89, 90, 91, 92, 93, 102, 103, 104, 130, 105, 106, 107, 108, 109, 110, 111, 112, 133, 134, 135, 136, 138, 137, 146, 147, 148, 149, 153, 150, 152, 162, 163, 164, 165, 166, 175, 176, 177, 178, 179, 180, 181, 182, 197, 198, 199, 200, 201, 202, 203, 214, 215, 216, 56, 217, 1083, 218, 219, 220, 221, 222, 1084, 224, 225, 226, 227, 228, 229, 230, 231, 232, 233, 57, 234, 235, 236, 237, 238, 240, 241, 58, 242, 243, 244, 59, 245, 246, 247, 248, 249, 250, 251, 252, 253, 254, 255, 256, 258, 260, 262, 263, 264, 265, 266, 267, 268, 269, 270, 271, 272, 273, 274, 275, 276, 277, 278, 280, 0, 281, 282, 283, 284, 285, 286, 288, 1, 289, 290, 291, 292, 293, 294, 295, 296, 297, 298, 299, 300, 301, 302, 303, 304, 305, 306, 307, 308, 309, 310, 311, 312, 313, 314, 315, 316, 317, 318, 319, 320, 321, 322, 323, 324, 325, 326, 327, 328, 329, 330, 331, 332, 80, 82, 344, 346, 348, 350, 352, 354, 356, 358, 360, 362, 364, 94, 96, 113, 115, 117, 119, 121, 123, 125, 127, 139, 141, 154, 156, 167, 169, 183, 185, 187, 189, 191, 204, 206, 208, 210] (by decide +kernel) (by decide +kernel)
set_option maxRecDepth 20000 in
theorem hhL_X9_init : GoodIn lw_tbl wsX9_init := goodIn_r _ [778, 779, 70, 71, 130, 800, 802, 803, 804, 805, 807, 809, 811, 816, 817, 818, 819, 780, 782, 17, 60, 783, 784, 786, 18, 787, 788, 790, 19, 791, 792, 794, 20, 795, 796, 798, 21, 799, 806, 808, 810, 812, 820, 822, 824, 826, 828, 830, 832, 834, 836, 838, 840, 842, 844, 846, 848, 850, 852, 854, 856, 858] (by decide +kernel) (by decide +kernel)
set_option maxRecDepth 20000 in
theorem hhL_X8_write : GoodIn lw_tbl wsX8_write := goodIn_r _ [371, 333, 262, 263, 264, 48, 265, 79, 78, 372, 275, 276, 277, 344, 346, 348, 350, 352, 354, 356, 358, 360, 362, 364, 80, 82] (by decide +kernel) (by decide +kernel)
set_option maxRecDepth 20000 in
theorem hL_X8_write : GoodIn lw_tbl (wsV RL 13 RX8 yX8_write wsX8_write) := goodIn_app (goodIn_r _ [368, 369, 370, 47] (by decide +kernel) (by decide +kernel)) hhL_X8_write
set_option maxRecDepth 20000 in
theorem hhL_X9_write : GoodIn lw_tbl wsX9_write := goodIn_r _ [864, 801, 800, 865, 866, 60, 867, 820, 822, 824, 826, 828, 830, 832, 834, 836, 838, 840, 842, 844, 846, 848, 850, 852, 854, 856, 858] (by decide +kernel) (by decide +kernel)
set_option maxRecDepth 20000 in
theorem hL_X9_write : GoodIn lw_tbl (wsV RL 17 RX9 yX9_write wsX9_write) := goodIn_app (goodIn_r _ [861, 862, 863, 60] (by decide +kernel) (by decide +kernel)) hhL_X9_write
set_option maxRecDepth 20000 in
theorem hhL_X8_wipe : GoodIn lw_tbl wsX8_wipe := goodIn_r _ [376, 333, 372, 275, 276, 48, 277, 79, 329, 330, 331, 332, 344, 346, 348, 350, 352, 354, 356, 358, 360, 362, 364, 80, 82] (by decide +kernel) (by decide +kernel)
set_option maxRecDepth 20000 in
theorem hL_X8_wipe : GoodIn lw_tbl (wsV RL 18 RX8 yX8_wipe wsX8_wipe) := goodIn_app (goodIn_r _ [373, 374, 375, 47] (by decide +kernel) (by decide +kernel)) hhL_X8_wipe
set_option maxRecDepth 20000 in
theorem hhL_X9_wipe : GoodIn lw_tbl wsX9_wipe := goodIn_r _ [871, 801, 820, 822, 824, 826, 828, 830, 832, 834, 836, 838, 840, 842, 844, 846, 848, 850, 852, 854, 856, 858] (by decide +kernel) (by decide +kernel)
set_option maxRecDepth 20000 in
theorem hL_X9_wipe : GoodIn lw_tbl (wsV RL 22 RX9 yX9_wipe wsX9_wipe) := goodIn_app (goodIn_r _ [868, 869, 870, 60] (by decide +kernel) (by decide +kernel)) hhL_X9_wipe
set_option maxRecDepth 20000 in
theorem hhL_X8_fault : GoodIn lw_tbl wsX8_fault := goodIn_r _ [380, 334, 333, 336, 266, 267, 268, 49, 269, 92, 270, 271, 272, 50, 273, 110, 111, 112, 274, 275, 276, 48, 277, 79, 278, 280, 0, 281, 93, 282, 283, 284, 285, 78, 286, 288, 1, 289, 290, 291, 292, 293, 294, 295, 296, 297, 298, 299, 300, 105, 106, 107, 301, 302, 303, 304, 305, 306, 307, 308, 309, 310, 311, 312, 108, 109, 344, 346, 348, 350, 352, 354, 356, 358, 360, 362, 364, 94, 96, 113, 115, 117, 119, 121, 123, 125, 127, 80, 82] (by decide +kernel) (by decide +kernel)
set_option maxRecDepth 20000 in
theorem hL_X8_fault : GoodIn lw_tbl (wsV RL 23 RX8 yX8_fault wsX8_fault) := goodIn_app (goodIn_r _ [377, 378, 379, 47] (by decide +kernel) (by decide +kernel)) hhL_X8_fault
set_option maxRecDepth 20000 in
theorem hhL_X9_fault : GoodIn lw_tbl wsX9_fault := goodIn_r _ [875, 876, 878, 22, 60, 879, 813, 801, 800, 780, 782, 17, 783, 803, 880, 882, 23, 883, 814, 815, 884, 886, 24, 887, 888, 890, 25, 891, 892, 894, 26, 895, 896, 897, 898, 865, 866, 867, 899, 901, 27, 902, 784, 786, 18, 787, 788, 790, 19, 791, 792, 794, 20, 795, 820, 822, 824, 826, 828, 830, 832, 834, 836, 838, 840, 842, 844, 846, 848, 850, 852, 854, 856, 858] (by decide +kernel) (by decide +kernel)
set_option maxRecDepth 20000 in
theorem hL_X9_fault : GoodIn lw_tbl (wsV RL 26 RX9 yX9_fault wsX9_fault) := goodIn_app (goodIn_r _ [872, 873, 874, 60] (by decide +kernel) (by decide +kernel)) hhL_X9_fault
set_option maxRecDepth 20000 in
theorem hhL_X8_lay : GoodIn lw_tbl wsX8_lay := goodIn_r _ [384, 334, 333, 336, 335, 337, 339, 340, 342, 343, 266, 267, 268, 49, 269, 92, 270, 271, 272, 50, 273, 110, 111, 112, 274, 275, 276, 48, 277, 79, 278, 280, 0, 281, 93, 282, 283, 284, 285, 78, 286, 288, 1, 289, 290, 291, 292, 293, 294, 295, 296, 297, 298, 299, 300, 105, 106, 107, 301, 302, 303, 304, 305, 306, 307, 308, 309, 310, 311, 312, 108, 109, 385, 386, 387, 388, 313, 314, 315, 51, 316, 138, 137, 317, 318, 319, 320, 321, 322, 323, 324, 325, 326, 327, 328, 389, 390, 391, 52, 392, 153, 393, 394, 395, 54, 396, 182, 397, 398, 399, 55, 400, 203, 401, 402, 403, 404, 344, 346, 348, 350, 352, 354, 356, 358, 360, 362, 364, 94, 96, 113, 115, 117, 119, 121, 123, 125, 127, 80, 82, 139, 141, 154, 156, 183, 185, 187, 189, 191, 204, 206, 208, 210] (by decide +kernel) (by decide +kernel)
set_option maxRecDepth 20000 in
theorem hL_X8_lay : GoodIn lw_tbl (wsV RL 27 RX8 yX8_lay wsX8_lay) := goodIn_app (goodIn_r _ [381, 382, 383, 47] (by decide +kernel) (by decide +kernel)) hhL_X8_lay
set_option maxRecDepth 20000 in
theorem hhL_X9_lay : GoodIn lw_tbl wsX9_lay := goodIn_r _ [906, 803, 802, 876, 878, 22, 60, 879, 813, 801, 800, 780, 782, 17, 783, 880, 882, 23, 883, 814, 815, 884, 886, 24, 887, 888, 890, 25, 891, 892, 894, 26, 895, 896, 897, 898, 865, 866, 867, 899, 901, 27, 902, 784, 786, 18, 787, 788, 790, 19, 791, 792, 794, 20, 795, 796, 798, 21, 799, 804, 806, 808, 810, 812, 820, 822, 824, 826, 828, 830, 832, 834, 836, 838, 840, 842, 844, 846, 848, 850, 852, 854, 856, 858] (by decide +kernel) (by decide +kernel)
set_option maxRecDepth 20000 in
theorem hL_X9_lay : GoodIn lw_tbl (wsV RL 30 RX9 yX9_lay wsX9_lay) := goodIn_app (goodIn_r _ [903, 904, 905, 60] (by decide +kernel) (by decide +kernel)) hhL_X9_lay
set_option maxRecDepth 20000 in
theorem hhL_X8_person : GoodIn lw_tbl wsX8_person := goodIn_r _ [408, 335, 337, 409, 306, 307, 50, 308, 110, 410, 411, 412, 51, 413, 137, 138, 414, 415, 416, 417, 418, 106, 305, 419, 420, 421, 422, 423, 424, 425, 426, 427, 428, 429, 430, 112, 431, 432, 433, 434, 107, 435, 436, 437, 438, 439, 440, 441, 442, 443, 444, 445, 446, 447, 448, 449, 450, 451, 326, 327, 328, 111, 453, 47, 454, 455, 456, 457, 458, 108, 459, 344, 346, 348, 350, 352, 354, 356, 358, 360, 362, 364, 113, 115, 117, 119, 121, 123, 125, 127, 139, 141] (by decide +kernel) (by decide +kernel)
set_option maxRecDepth 20000 in
theorem hL_X8_person : GoodIn lw_tbl (wsV RL 31 RX8 yX8_person wsX8_person) := goodIn_app (goodIn_r _ [405, 406, 407, 47] (by decide +kernel) (by decide +kernel)) hhL_X8_person
set_option maxRecDepth 20000 in
theorem hhL_X9_person : GoodIn lw_tbl wsX9_person := goodIn_r _ [910, 804, 802, 911, 913, 28, 60, 914, 865, 866, 867, 915, 917, 29, 918, 919, 921, 30, 922, 923, 925, 31, 926, 927, 929, 32, 930, 931, 933, 33, 934, 935, 937, 34, 938, 820, 822, 824, 826, 828, 830, 832, 834, 836, 838, 840, 842, 844, 846, 848, 850, 852, 854, 856, 858] (by decide +kernel) (by decide +kernel)
set_option maxRecDepth 20000 in
theorem hL_X9_person : GoodIn lw_tbl (wsV RL 35 RX9 yX9_person wsX9_person) := goodIn_app (goodIn_r _ [907, 908, 909, 60] (by decide +kernel) (by decide +kernel)) hhL_X9_person
set_option maxRecDepth 20000 in
theorem hhL_X8_secret : GoodIn lw_tbl wsX8_secret := goodIn_r _ [463, 335, 337, 464, 326, 327, 50, 328, 111, 465, 466, 467, 468, 108, 325, 469, 448, 449, 51, 450, 137, 138, 451, 344, 346, 348, 350, 352, 354, 356, 358, 360, 362, 364, 113, 115, 117, 119, 121, 123, 125, 127, 139, 141] (by decide +kernel) (by decide +kernel)
set_option maxRecDepth 20000 in
theorem hL_X8_secret : GoodIn lw_tbl (wsV RL 36 RX8 yX8_secret wsX8_secret) := goodIn_app (goodIn_r _ [460, 461, 462, 47] (by decide +kernel) (by decide +kernel)) hhL_X8_secret
set_option maxRecDepth 20000 in
theorem hhL_X9_secret : GoodIn lw_tbl wsX9_secret := goodIn_r _ [942, 802, 804, 943, 945, 35, 60, 946, 865, 866, 867, 820, 822, 824, 826, 828, 830, 832, 834, 836, 838, 840, 842, 844, 846, 848, 850, 852, 854, 856, 858] (by decide +kernel) (by decide +kernel)
set_option maxRecDepth 20000 in
theorem hL_X9_secret : GoodIn lw_tbl (wsV RL 39 RX9 yX9_secret wsX9_secret) := goodIn_app (goodIn_r _ [939, 940, 941, 60] (by decide +kernel) (by decide +kernel)) hhL_X9_secret
set_option maxRecDepth 20000 in
theorem hhL_X8_tell : GoodIn lw_tbl wsX8_tell := goodIn_r _ [473, 335, 337, 339, 409, 306, 307, 50, 308, 110, 464, 326, 327, 328, 111, 419, 420, 421, 51, 422, 137, 423, 424, 425, 426, 138, 414, 427, 428, 429, 430, 112, 431, 432, 433, 434, 107, 305, 435, 436, 437, 438, 474, 444, 445, 446, 447, 448, 449, 450, 451, 453, 47, 454, 475, 476, 477, 52, 478, 153, 152, 479, 481, 480, 61, 482, 483, 484, 485, 486, 487, 488, 489, 490, 491, 492, 493, 494, 466, 467, 468, 108, 325, 495, 496, 62, 497, 498, 499, 500, 501, 416, 417, 418, 106, 502, 503, 504, 505, 507, 508, 509, 510, 511, 512, 514, 2, 515, 344, 346, 348, 350, 352, 354, 356, 358, 360, 362, 364, 113, 115, 117, 119, 121, 123, 125, 127, 139, 141, 154, 156] (by decide +kernel) (by decide +kernel)
set_option maxRecDepth 20000 in
theorem hL_X8_tell : GoodIn lw_tbl (wsV RL 40 RX8 yX8_tell wsX8_tell) := goodIn_app (goodIn_r _ [470, 471, 472, 47] (by decide +kernel) (by decide +kernel)) hhL_X8_tell
set_option maxRecDepth 20000 in
theorem hhL_X9_tell : GoodIn lw_tbl wsX9_tell := goodIn_r _ [950, 911, 913, 28, 60, 914, 802, 865, 866, 867, 943, 945, 35, 946, 915, 917, 29, 918, 919, 921, 30, 922, 804, 923, 925, 31, 926, 931, 933, 33, 934, 951, 953, 36, 954, 806, 805, 955, 957, 37, 958, 959, 961, 38, 962, 963, 965, 39, 966, 967, 968, 969, 970, 971, 972, 820, 822, 824, 826, 828, 830, 832, 834, 836, 838, 840, 842, 844, 846, 848, 850, 852, 854, 856, 858] (by decide +kernel) (by decide +kernel)
set_option maxRecDepth 20000 in
theorem hL_X9_tell : GoodIn lw_tbl (wsV RL 44 RX9 yX9_tell wsX9_tell) := goodIn_app (goodIn_r _ [947, 948, 949, 60] (by decide +kernel) (by decide +kernel)) hhL_X9_tell
set_option maxRecDepth 20000 in
theorem hhL_X8_day : GoodIn lw_tbl wsX8_day := goodIn_r _ [519, 339, 337, 475, 476, 477, 52, 478, 153, 152, 479, 481, 480, 61, 482, 483, 484, 485, 486, 487, 488, 51, 489, 138, 520, 521, 522, 523, 423, 424, 425, 426, 137, 414, 306, 307, 50, 308, 110, 427, 428, 429, 430, 112, 524, 526, 3, 527, 443, 444, 445, 446, 447, 448, 449, 450, 451, 326, 327, 328, 111, 453, 47, 454, 494, 466, 467, 468, 108, 325, 528, 420, 421, 422, 431, 432, 433, 434, 107, 305, 435, 436, 437, 438, 530, 531, 532, 533, 491, 492, 493, 495, 496, 62, 497, 498, 499, 500, 501, 416, 417, 418, 106, 502, 503, 504, 505, 507, 508, 509, 510, 511, 512, 514, 2, 515, 344, 346, 348, 350, 352, 354, 356, 358, 360, 362, 364, 154, 156, 139, 141, 113, 115, 117, 119, 121, 123, 125, 127] (by decide +kernel) (by decide +kernel)
set_option maxRecDepth 20000 in
theorem hL_X8_day : GoodIn lw_tbl (wsV RL 45 RX8 yX8_day wsX8_day) := goodIn_app (goodIn_r _ [516, 517, 518, 47] (by decide +kernel) (by decide +kernel)) hhL_X8_day
set_option maxRecDepth 20000 in
theorem hhL_X9_day : GoodIn lw_tbl wsX9_day := goodIn_r _ [976, 951, 953, 36, 60, 954, 806, 805, 804, 977, 979, 40, 980, 802, 931, 933, 33, 934, 915, 917, 29, 918, 919, 921, 30, 922, 923, 925, 31, 926, 955, 957, 37, 958, 959, 961, 38, 962, 963, 965, 39, 966, 967, 968, 969, 970, 971, 972, 820, 822, 824, 826, 828, 830, 832, 834, 836, 838, 840, 842, 844, 846, 848, 850, 852, 854, 856, 858] (by decide +kernel) (by decide +kernel)
set_option maxRecDepth 20000 in
theorem hL_X9_day : GoodIn lw_tbl (wsV RL 48 RX9 yX9_day wsX9_day) := goodIn_app (goodIn_r _ [973, 974, 975, 60] (by decide +kernel) (by decide +kernel)) hhL_X9_day
set_option maxRecDepth 20000 in
theorem hhL_X8_undo : GoodIn lw_tbl wsX8_undo := goodIn_r _ [537, 339, 337, 538, 539, 540, 52, 541, 153, 152, 542, 543, 544, 51, 545, 138, 546, 547, 548, 549, 344, 346, 348, 350, 352, 354, 356, 358, 360, 362, 364, 154, 156, 139, 141] (by decide +kernel) (by decide +kernel)
set_option maxRecDepth 20000 in
theorem hL_X8_undo : GoodIn lw_tbl (wsV RL 49 RX8 yX8_undo wsX8_undo) := goodIn_app (goodIn_r _ [534, 535, 536, 47] (by decide +kernel) (by decide +kernel)) hhL_X8_undo
set_option maxRecDepth 20000 in
theorem hhL_X9_undo : GoodIn lw_tbl wsX9_undo := goodIn_r _ [984, 806, 804, 805, 820, 822, 824, 826, 828, 830, 832, 834, 836, 838, 840, 842, 844, 846, 848, 850, 852, 854, 856, 858] (by decide +kernel) (by decide +kernel)
set_option maxRecDepth 20000 in
theorem hL_X9_undo : GoodIn lw_tbl (wsV RL 52 RX9 yX9_undo wsX9_undo) := goodIn_app (goodIn_r _ [981, 982, 983, 60] (by decide +kernel) (by decide +kernel)) hhL_X9_undo
set_option maxRecDepth 20000 in
theorem hhL_X8_gossip : GoodIn lw_tbl wsX8_gossip := goodIn_r _ [553, 335, 338, 337, 409, 306, 307, 50, 308, 110, 554, 555, 556, 51, 557, 138, 558, 487, 488, 489, 520, 521, 522, 523, 423, 424, 425, 426, 137, 414, 427, 428, 429, 430, 112, 524, 526, 3, 527, 443, 444, 445, 446, 447, 448, 449, 450, 451, 326, 327, 328, 111, 453, 47, 454, 494, 466, 467, 468, 108, 325, 528, 420, 421, 422, 431, 432, 433, 434, 107, 305, 435, 436, 437, 438, 530, 531, 532, 533, 491, 492, 493, 495, 496, 62, 497, 498, 499, 500, 501, 416, 417, 418, 106, 502, 503, 504, 505, 507, 508, 509, 510, 511, 512, 514, 2, 515, 410, 411, 412, 413, 439, 440, 441, 442, 344, 346, 348, 350, 352, 354, 356, 358, 360, 362, 364, 113, 115, 117, 119, 121, 123, 125, 127, 139, 141] (by decide +kernel) (by decide +kernel)
set_option maxRecDepth 20000 in
theorem hL_X8_gossip : GoodIn lw_tbl (wsV RL 53 RX8 yX8_gossip wsX8_gossip) := goodIn_app (goodIn_r _ [550, 551, 552, 47] (by decide +kernel) (by decide +kernel)) hhL_X8_gossip
set_option maxRecDepth 20000 in
theorem hhL_X9_gossip : GoodIn lw_tbl wsX9_gossip := goodIn_r _ [988, 804, 865, 866, 60, 867, 911, 913, 28, 914, 802, 989, 991, 41, 992, 816, 977, 979, 40, 980, 931, 933, 33, 934, 915, 917, 29, 918, 919, 921, 30, 922, 923, 925, 31, 926, 955, 957, 37, 958, 959, 961, 38, 962, 963, 965, 39, 966, 967, 968, 969, 970, 971, 972, 927, 929, 32, 930, 993, 995, 42, 996, 820, 822, 824, 826, 828, 830, 832, 834, 836, 838, 840, 842, 844, 846, 848, 850, 852, 854, 856, 858] (by decide +kernel) (by decide +kernel)
set_option maxRecDepth 20000 in
theorem hL_X9_gossip : GoodIn lw_tbl (wsV RL 56 RX9 yX9_gossip wsX9_gossip) := goodIn_app (goodIn_r _ [985, 986, 987, 60] (by decide +kernel) (by decide +kernel)) hhL_X9_gossip
set_option maxRecDepth 20000 in
theorem hhL_X8_first : GoodIn lw_tbl wsX8_first := goodIn_r _ [562, 338, 337, 554, 555, 556, 51, 557, 138, 558, 487, 488, 489, 563, 436, 437, 438, 423, 424, 425, 426, 137, 414, 306, 307, 50, 308, 110, 427, 428, 429, 430, 112, 520, 521, 522, 523, 524, 526, 3, 527, 443, 444, 445, 446, 447, 448, 449, 450, 451, 326, 327, 328, 111, 453, 47, 454, 494, 466, 467, 468, 108, 325, 528, 420, 421, 422, 431, 432, 433, 434, 107, 305, 435, 530, 531, 532, 533, 491, 492, 493, 495, 496, 62, 497, 498, 499, 500, 501, 416, 417, 418, 106, 502, 503, 504, 505, 507, 508, 509, 510, 511, 512, 514, 2, 515, 564, 344, 346, 348, 350, 352, 354, 356, 358, 360, 362, 364, 139, 141, 113, 115, 117, 119, 121, 123, 125, 127] (by decide +kernel) (by decide +kernel)
set_option maxRecDepth 20000 in
theorem hL_X8_first : GoodIn lw_tbl (wsV RL 57 RX8 yX8_first wsX8_first) := goodIn_app (goodIn_r _ [559, 560, 561, 47] (by decide +kernel) (by decide +kernel)) hhL_X8_first
set_option maxRecDepth 20000 in
theorem hhL_X9_first : GoodIn lw_tbl wsX9_first := goodIn_r _ [1000, 802, 865, 866, 60, 867, 989, 991, 41, 992, 816, 804, 923, 925, 31, 926, 919, 921, 30, 922, 977, 979, 40, 980, 931, 933, 33, 934, 915, 917, 29, 918, 955, 957, 37, 958, 959, 961, 38, 962, 963, 965, 39, 966, 967, 968, 969, 970, 971, 972, 993, 995, 42, 996, 820, 822, 824, 826, 828, 830, 832, 834, 836, 838, 840, 842, 844, 846, 848, 850, 852, 854, 856, 858] (by decide +kernel) (by decide +kernel)
set_option maxRecDepth 20000 in
theorem hL_X9_first : GoodIn lw_tbl (wsV RL 60 RX9 yX9_first wsX9_first) := goodIn_app (goodIn_r _ [997, 998, 999, 60] (by decide +kernel) (by decide +kernel)) hhL_X9_first
set_option maxRecDepth 20000 in
theorem hhL_X8_reach : GoodIn lw_tbl wsX8_reach := goodIn_r _ [568, 335, 337, 341, 464, 326, 327, 50, 328, 111, 409, 306, 307, 308, 110, 459, 424, 425, 51, 426, 137, 138, 414, 427, 428, 429, 430, 112, 569, 570, 571, 53, 572, 165, 575, 597, 598, 63, 599, 573, 444, 445, 446, 447, 448, 449, 450, 451, 453, 47, 454, 574, 576, 577, 578, 579, 580, 581, 582, 583, 466, 467, 468, 108, 325, 584, 416, 417, 418, 106, 305, 585, 503, 504, 505, 494, 495, 496, 62, 497, 498, 499, 500, 510, 511, 587, 589, 4, 590, 166, 591, 420, 421, 422, 423, 431, 432, 433, 434, 107, 435, 436, 437, 438, 592, 594, 5, 595, 344, 346, 348, 350, 352, 354, 356, 358, 360, 362, 364, 113, 115, 117, 119, 121, 123, 125, 127, 139, 141, 167, 169] (by decide +kernel) (by decide +kernel)
set_option maxRecDepth 20000 in
theorem hL_X8_reach : GoodIn lw_tbl (wsV RL 61 RX8 yX8_reach wsX8_reach) := goodIn_app (goodIn_r _ [565, 566, 567, 47] (by decide +kernel) (by decide +kernel)) hhL_X8_reach
set_option maxRecDepth 20000 in
theorem hhL_X9_reach : GoodIn lw_tbl wsX9_reach := goodIn_r _ [1004, 943, 945, 35, 60, 946, 802, 865, 866, 867, 911, 913, 28, 914, 919, 921, 30, 922, 804, 1005, 1007, 43, 1008, 817, 931, 933, 33, 934, 923, 925, 31, 926, 959, 961, 38, 962, 963, 965, 39, 966, 967, 968, 969, 970, 971, 972, 915, 917, 29, 918, 820, 822, 824, 826, 828, 830, 832, 834, 836, 838, 840, 842, 844, 846, 848, 850, 852, 854, 856, 858] (by decide +kernel) (by decide +kernel)
set_option maxRecDepth 20000 in
theorem hL_X9_reach : GoodIn lw_tbl (wsV RL 64 RX9 yX9_reach wsX9_reach) := goodIn_app (goodIn_r _ [1001, 1002, 1003, 60] (by decide +kernel) (by decide +kernel)) hhL_X9_reach
set_option maxRecDepth 20000 in
theorem hhL_X8_all : GoodIn lw_tbl wsX8_all := goodIn_r _ [603, 335, 337, 341, 604, 605, 606, 50, 607, 111, 409, 306, 307, 308, 110, 459, 424, 425, 51, 426, 137, 138, 414, 427, 428, 429, 430, 112, 532, 453, 47, 454, 569, 570, 571, 53, 572, 165, 575, 597, 598, 63, 599, 573, 444, 445, 446, 447, 448, 449, 450, 451, 326, 327, 328, 574, 576, 577, 578, 579, 580, 581, 582, 583, 466, 467, 468, 108, 325, 584, 416, 417, 418, 106, 305, 585, 503, 504, 505, 494, 495, 496, 62, 497, 498, 499, 500, 510, 511, 587, 589, 4, 590, 166, 591, 420, 421, 422, 423, 431, 432, 433, 434, 107, 435, 436, 437, 438, 592, 594, 5, 595, 344, 346, 348, 350, 352, 354, 356, 358, 360, 362, 364, 113, 115, 117, 119, 121, 123, 125, 127, 139, 141, 167, 169] (by decide +kernel) (by decide +kernel)
set_option maxRecDepth 20000 in
theorem hL_X8_all : GoodIn lw_tbl (wsV RL 65 RX8 yX8_all wsX8_all) := goodIn_app (goodIn_r _ [600, 601, 602, 47] (by decide +kernel) (by decide +kernel)) hhL_X8_all
set_option maxRecDepth 20000 in
theorem hhL_X9_all : GoodIn lw_tbl wsX9_all := goodIn_r _ [1012, 802, 865, 866, 60, 867, 911, 913, 28, 914, 919, 921, 30, 922, 804, 1005, 1007, 43, 1008, 817, 931, 933, 33, 934, 923, 925, 31, 926, 959, 961, 38, 962, 963, 965, 39, 966, 967, 968, 969, 970, 971, 972, 915, 917, 29, 918, 820, 822, 824, 826, 828, 830, 832, 834, 836, 838, 840, 842, 844, 846, 848, 850, 852, 854, 856, 858] (by decide +kernel) (by decide +kernel)
set_option maxRecDepth 20000 in
theorem hL_X9_all : GoodIn lw_tbl (wsV RL 68 RX9 yX9_all wsX9_all) := goodIn_app (goodIn_r _ [1009, 1010, 1011, 60] (by decide +kernel) (by decide +kernel)) hhL_X9_all
set_option maxRecDepth 20000 in
theorem hhL_X8_apart : GoodIn lw_tbl wsX8_apart := goodIn_r _ [611, 335, 337, 464, 326, 327, 50, 328, 111, 409, 306, 307, 308, 110, 459, 424, 425, 51, 426, 137, 138, 414, 427, 428, 429, 430, 112, 474, 444, 445, 446, 447, 448, 449, 450, 451, 453, 47, 454, 563, 436, 437, 438, 423, 469, 612, 614, 6, 615, 616, 622, 598, 63, 599, 617, 619, 7, 620, 532, 419, 420, 421, 422, 431, 432, 433, 434, 107, 305, 435, 621, 496, 62, 497, 498, 499, 500, 344, 346, 348, 350, 352, 354, 356, 358, 360, 362, 364, 113, 115, 117, 119, 121, 123, 125, 127, 139, 141] (by decide +kernel) (by decide +kernel)
set_option maxRecDepth 20000 in
theorem hL_X8_apart : GoodIn lw_tbl (wsV RL 69 RX8 yX8_apart wsX8_apart) := goodIn_app (goodIn_r _ [608, 609, 610, 47] (by decide +kernel) (by decide +kernel)) hhL_X8_apart
set_option maxRecDepth 20000 in
theorem hhL_X9_apart : GoodIn lw_tbl wsX9_apart := goodIn_r _ [1016, 804, 802, 943, 945, 35, 60, 946, 865, 866, 867, 911, 913, 28, 914, 919, 921, 30, 922, 931, 933, 33, 934, 923, 925, 31, 926, 915, 917, 29, 918, 967, 968, 969, 820, 822, 824, 826, 828, 830, 832, 834, 836, 838, 840, 842, 844, 846, 848, 850, 852, 854, 856, 858] (by decide +kernel) (by decide +kernel)
set_option maxRecDepth 20000 in
theorem hL_X9_apart : GoodIn lw_tbl (wsV RL 72 RX9 yX9_apart wsX9_apart) := goodIn_app (goodIn_r _ [1013, 1014, 1015, 60] (by decide +kernel) (by decide +kernel)) hhL_X9_apart
set_option maxRecDepth 20000 in
theorem hhL_X8_worth : GoodIn lw_tbl wsX8_worth := goodIn_r _ [626, 335, 337, 338, 409, 306, 307, 50, 308, 110, 464, 326, 327, 328, 111, 459, 424, 425, 51, 426, 137, 138, 414, 427, 428, 429, 430, 112, 474, 444, 445, 446, 447, 448, 449, 450, 451, 453, 47, 454, 465, 466, 467, 468, 108, 325, 554, 555, 556, 557, 558, 487, 488, 489, 419, 420, 421, 422, 423, 431, 432, 433, 434, 107, 305, 435, 436, 437, 438, 490, 491, 492, 493, 494, 495, 496, 62, 497, 498, 499, 500, 501, 416, 417, 418, 106, 502, 503, 504, 505, 507, 508, 509, 510, 511, 512, 514, 2, 515, 410, 411, 412, 413, 344, 346, 348, 350, 352, 354, 356, 358, 360, 362, 364, 113, 115, 117, 119, 121, 123, 125, 127, 139, 141] (by decide +kernel) (by decide +kernel)
set_option maxRecDepth 20000 in
theorem hL_X8_worth : GoodIn lw_tbl (wsV RL 73 RX8 yX8_worth wsX8_worth) := goodIn_app (goodIn_r _ [623, 624, 625, 47] (by decide +kernel) (by decide +kernel)) hhL_X8_worth
set_option maxRecDepth 20000 in
theorem hhL_X9_worth : GoodIn lw_tbl wsX9_worth := goodIn_r _ [1020, 802, 911, 913, 28, 60, 914, 865, 866, 867, 943, 945, 35, 946, 919, 921, 30, 922, 804, 931, 933, 33, 934, 915, 917, 29, 918, 923, 925, 31, 926, 959, 961, 38, 962, 963, 965, 39, 966, 967, 968, 969, 970, 971, 972, 820, 822, 824, 826, 828, 830, 832, 834, 836, 838, 840, 842, 844, 846, 848, 850, 852, 854, 856, 858] (by decide +kernel) (by decide +kernel)
set_option maxRecDepth 20000 in
theorem hL_X9_worth : GoodIn lw_tbl (wsV RL 76 RX9 yX9_worth wsX9_worth) := goodIn_app (goodIn_r _ [1017, 1018, 1019, 60] (by decide +kernel) (by decide +kernel)) hhL_X9_worth
set_option maxRecDepth 20000 in
theorem hhL_X8_witness : GoodIn lw_tbl wsX8_witness := goodIn_r _ [630, 335, 342, 409, 306, 307, 50, 308, 110, 464, 326, 327, 328, 111, 631, 632, 633, 54, 634, 182, 178, 179, 635, 636, 637, 638, 344, 346, 348, 350, 352, 354, 356, 358, 360, 362, 364, 113, 115, 117, 119, 121, 123, 125, 127, 183, 185, 187, 189, 191] (by decide +kernel) (by decide +kernel)
set_option maxRecDepth 20000 in
theorem hL_X8_witness : GoodIn lw_tbl (wsV RL 77 RX8 yX8_witness wsX8_witness) := goodIn_app (goodIn_r _ [627, 628, 629, 47] (by decide +kernel) (by decide +kernel)) hhL_X8_witness
set_option maxRecDepth 20000 in
theorem hhL_X9_witness : GoodIn lw_tbl wsX9_witness := goodIn_r _ [1024, 810, 809, 911, 913, 28, 60, 914, 802, 865, 866, 867, 943, 945, 35, 946, 820, 822, 824, 826, 828, 830, 832, 834, 836, 838, 840, 842, 844, 846, 848, 850, 852, 854, 856, 858] (by decide +kernel) (by decide +kernel)
set_option maxRecDepth 20000 in
theorem hL_X9_witness : GoodIn lw_tbl (wsV RL 80 RX9 yX9_witness wsX9_witness) := goodIn_app (goodIn_r _ [1021, 1022, 1023, 60] (by decide +kernel) (by decide +kernel)) hhL_X9_witness
set_option maxRecDepth 20000 in
theorem hhL_X8_dismiss : GoodIn lw_tbl wsX8_dismiss := goodIn_r _ [642, 342, 635, 636, 637, 54, 638, 182, 393, 394, 395, 396, 344, 346, 348, 350, 352, 354, 356, 358, 360, 362, 364, 183, 185, 187, 189, 191] (by decide +kernel) (by decide +kernel)
set_option maxRecDepth 20000 in
theorem hL_X8_dismiss : GoodIn lw_tbl (wsV RL 81 RX8 yX8_dismiss wsX8_dismiss) := goodIn_app (goodIn_r _ [639, 640, 641, 47] (by decide +kernel) (by decide +kernel)) hhL_X8_dismiss
set_option maxRecDepth 20000 in
theorem hhL_X9_dismiss : GoodIn lw_tbl wsX9_dismiss := goodIn_r _ [1028, 810, 820, 822, 824, 826, 828, 830, 832, 834, 836, 838, 840, 842, 844, 846, 848, 850, 852, 854, 856, 858] (by decide +kernel) (by decide +kernel)
set_option maxRecDepth 20000 in
theorem hL_X9_dismiss : GoodIn lw_tbl (wsV RL 84 RX9 yX9_dismiss wsX9_dismiss) := goodIn_app (goodIn_r _ [1025, 1026, 1027, 60] (by decide +kernel) (by decide +kernel)) hhL_X9_dismiss
set_option maxRecDepth 20000 in
theorem hhL_X8_order : GoodIn lw_tbl wsX8_order := goodIn_r _ [646, 342, 337, 338, 635, 636, 637, 54, 638, 182, 647, 648, 649, 650, 180, 651, 181, 677, 481, 480, 61, 652, 555, 556, 51, 557, 138, 558, 487, 488, 489, 653, 655, 8, 656, 657, 659, 9, 660, 178, 661, 663, 10, 664, 179, 665, 424, 425, 426, 137, 414, 306, 307, 50, 308, 110, 427, 428, 429, 430, 112, 666, 444, 445, 446, 447, 448, 449, 450, 451, 326, 327, 328, 111, 453, 47, 454, 667, 669, 11, 670, 671, 491, 492, 493, 494, 466, 467, 468, 108, 325, 435, 436, 437, 438, 423, 495, 496, 62, 497, 498, 499, 500, 501, 416, 417, 418, 106, 305, 502, 503, 504, 505, 507, 508, 509, 510, 511, 512, 514, 2, 515, 672, 673, 674, 675, 676, 411, 412, 413, 678, 680, 12, 681, 682, 684, 13, 685, 686, 687, 688, 689, 344, 346, 348, 350, 352, 354, 356, 358, 360, 362, 364, 183, 185, 187, 189, 191, 139, 141, 113, 115, 117, 119, 121, 123, 125, 127] (by decide +kernel) (by decide +kernel)
set_option maxRecDepth 20000 in
theorem hL_X8_order : GoodIn lw_tbl (wsV RL 85 RX8 yX8_order wsX8_order) := goodIn_app (goodIn_r _ [643, 644, 645, 47] (by decide +kernel) (by decide +kernel)) hhL_X8_order
set_option maxRecDepth 20000 in
theorem hhL_X9_order : GoodIn lw_tbl wsX9_order := goodIn_r _ [1032, 810, 819, 818, 865, 866, 60, 867, 1033, 1035, 44, 1036, 1037, 1039, 45, 1040, 809, 802, 804, 816, 989, 991, 41, 992, 923, 925, 31, 926, 919, 921, 30, 922, 931, 933, 33, 934, 955, 957, 37, 958, 959, 961, 38, 962, 963, 965, 39, 966, 967, 968, 969, 970, 971, 972, 993, 995, 42, 996, 820, 822, 824, 826, 828, 830, 832, 834, 836, 838, 840, 842, 844, 846, 848, 850, 852, 854, 856, 858] (by decide +kernel) (by decide +kernel)
set_option maxRecDepth 20000 in
theorem hL_X9_order : GoodIn lw_tbl (wsV RL 88 RX9 yX9_order wsX9_order) := goodIn_app (goodIn_r _ [1029, 1030, 1031, 60] (by decide +kernel) (by decide +kernel)) hhL_X9_order
set_option maxRecDepth 20000 in
theorem hhL_X8_confession : GoodIn lw_tbl wsX8_confession := goodIn_r _ [693, 694, 695, 696, 697, 698, 699, 63, 700, 701, 702, 47, 703] (by decide +kernel) (by decide +kernel)
set_option maxRecDepth 20000 in
theorem hL_X8_confession : GoodIn lw_tbl (wsV RL 89 RX8 yX8_confession wsX8_confession) := goodIn_app (goodIn_r _ [690, 691, 692, 47] (by decide +kernel) (by decide +kernel)) hhL_X8_confession
set_option maxRecDepth 20000 in
theorem hhL_X9_confession : GoodIn lw_tbl wsX9_confession := goodIn_r _ [1044, 1045, 1046, 1047, 865, 866, 60, 867] (by decide +kernel) (by decide +kernel)
set_option maxRecDepth 20000 in
theorem hL_X9_confession : GoodIn lw_tbl (wsV RL 93 RX9 yX9_confession wsX9_confession) := goodIn_app (goodIn_r _ [1041, 1042, 1043, 60] (by decide +kernel) (by decide +kernel)) hhL_X9_confession
set_option maxRecDepth 20000 in
theorem hhL_X8_seen : GoodIn lw_tbl wsX8_seen := goodIn_r _ [707, 335, 343, 409, 306, 307, 50, 308, 110, 708, 709, 710, 55, 711, 203, 200, 201, 202, 712, 713, 714, 715, 344, 346, 348, 350, 352, 354, 356, 358, 360, 362, 364, 113, 115, 117, 119, 121, 123, 125, 127, 204, 206, 208, 210] (by decide +kernel) (by decide +kernel)
set_option maxRecDepth 20000 in
theorem hL_X8_seen : GoodIn lw_tbl (wsV RL 94 RX8 yX8_seen wsX8_seen) := goodIn_app (goodIn_r _ [704, 705, 706, 47] (by decide +kernel) (by decide +kernel)) hhL_X8_seen
set_option maxRecDepth 20000 in
theorem hhL_X9_seen : GoodIn lw_tbl wsX9_seen := goodIn_r _ [1051, 812, 811, 911, 913, 28, 60, 914, 802, 865, 866, 867, 820, 822, 824, 826, 828, 830, 832, 834, 836, 838, 840, 842, 844, 846, 848, 850, 852, 854, 856, 858] (by decide +kernel) (by decide +kernel)
set_option maxRecDepth 20000 in
theorem hL_X9_seen : GoodIn lw_tbl (wsV RL 97 RX9 yX9_seen wsX9_seen) := goodIn_app (goodIn_r _ [1048, 1049, 1050, 60] (by decide +kernel) (by decide +kernel)) hhL_X9_seen
set_option maxRecDepth 20000 in
theorem hhL_X8_forget : GoodIn lw_tbl wsX8_forget := goodIn_r _ [719, 343, 712, 713, 714, 55, 715, 203, 397, 398, 399, 400, 344, 346, 348, 350, 352, 354, 356, 358, 360, 362, 364, 204, 206, 208, 210] (by decide +kernel) (by decide +kernel)
set_option maxRecDepth 20000 in
theorem hL_X8_forget : GoodIn lw_tbl (wsV RL 98 RX8 yX8_forget wsX8_forget) := goodIn_app (goodIn_r _ [716, 717, 718, 47] (by decide +kernel) (by decide +kernel)) hhL_X8_forget
set_option maxRecDepth 20000 in
theorem hhL_X9_forget : GoodIn lw_tbl wsX9_forget := goodIn_r _ [1055, 812, 820, 822, 824, 826, 828, 830, 832, 834, 836, 838, 840, 842, 844, 846, 848, 850, 852, 854, 856, 858] (by decide +kernel) (by decide +kernel)
set_option maxRecDepth 20000 in
theorem hL_X9_forget : GoodIn lw_tbl (wsV RL 101 RX9 yX9_forget wsX9_forget) := goodIn_app (goodIn_r _ [1052, 1053, 1054, 60] (by decide +kernel) (by decide +kernel)) hhL_X9_forget
set_option maxRecDepth 20000 in
theorem hhL_X8_kinds : GoodIn lw_tbl wsX8_kinds := goodIn_r _ [723, 335, 343, 409, 306, 307, 50, 308, 110, 724, 725, 726, 55, 727, 728, 730, 14, 731, 203, 200, 201, 202, 507, 47, 508, 509, 510, 511, 344, 346, 348, 350, 352, 354, 356, 358, 360, 362, 364, 113, 115, 117, 119, 121, 123, 125, 127, 204, 206, 208, 210] (by decide +kernel) (by decide +kernel)
set_option maxRecDepth 20000 in
theorem hL_X8_kinds : GoodIn lw_tbl (wsV RL 102 RX8 yX8_kinds wsX8_kinds) := goodIn_app (goodIn_r _ [720, 721, 722, 47] (by decide +kernel) (by decide +kernel)) hhL_X8_kinds
set_option maxRecDepth 20000 in
theorem hhL_X9_kinds : GoodIn lw_tbl wsX9_kinds := goodIn_r _ [1059, 812, 811, 911, 913, 28, 60, 914, 802, 865, 866, 867, 970, 971, 972, 820, 822, 824, 826, 828, 830, 832, 834, 836, 838, 840, 842, 844, 846, 848, 850, 852, 854, 856, 858] (by decide +kernel) (by decide +kernel)
set_option maxRecDepth 20000 in
theorem hL_X9_kinds : GoodIn lw_tbl (wsV RL 105 RX9 yX9_kinds wsX9_kinds) := goodIn_app (goodIn_r _ [1056, 1057, 1058, 60] (by decide +kernel) (by decide +kernel)) hhL_X9_kinds
set_option maxRecDepth 20000 in
theorem hhL_X8_out : GoodIn lw_tbl wsX8_out := goodIn_r _ [736, 335, 337, 409, 306, 307, 50, 308, 110, 459, 424, 425, 51, 426, 137, 138, 414, 427, 428, 429, 430, 112, 455, 456, 457, 458, 111, 108, 737, 739, 15, 47, 740, 532, 453, 454, 465, 466, 467, 468, 325, 326, 327, 328, 415, 416, 417, 418, 106, 305, 563, 436, 437, 438, 423, 469, 448, 449, 450, 451, 621, 496, 62, 497, 498, 499, 500, 741, 503, 504, 505, 447, 494, 495, 742, 507, 508, 509, 510, 511, 344, 346, 348, 350, 352, 354, 356, 358, 360, 362, 364, 113, 115, 117, 119, 121, 123, 125, 127, 139, 141] (by decide +kernel) (by decide +kernel)
set_option maxRecDepth 20000 in
theorem hL_X8_out : GoodIn lw_tbl (wsV RL 106 RX8 yX8_out wsX8_out) := goodIn_app (goodIn_r _ [733, 734, 735, 47] (by decide +kernel) (by decide +kernel)) hhL_X8_out
set_option maxRecDepth 20000 in
theorem hhL_X9_out : GoodIn lw_tbl wsX9_out := goodIn_r _ [1063, 802, 911, 913, 28, 60, 914, 865, 866, 867, 919, 921, 30, 922, 804, 935, 937, 34, 938, 923, 925, 31, 926, 959, 961, 38, 962, 963, 965, 39, 966, 967, 968, 969, 931, 933, 33, 934, 970, 971, 972, 820, 822, 824, 826, 828, 830, 832, 834, 836, 838, 840, 842, 844, 846, 848, 850, 852, 854, 856, 858] (by decide +kernel) (by decide +kernel)
set_option maxRecDepth 20000 in
theorem hL_X9_out : GoodIn lw_tbl (wsV RL 109 RX9 yX9_out wsX9_out) := goodIn_app (goodIn_r _ [1060, 1061, 1062, 60] (by decide +kernel) (by decide +kernel)) hhL_X9_out
set_option maxRecDepth 20000 in
theorem hhL_X8_year : GoodIn lw_tbl wsX8_year := goodIn_r _ [746, 338, 337, 335, 554, 555, 556, 51, 557, 138, 558, 487, 488, 489, 747, 749, 16, 47, 750, 751, 752, 753, 754, 401, 402, 403, 50, 404, 110, 604, 605, 606, 607, 111, 459, 424, 425, 426, 137, 414, 306, 307, 308, 427, 428, 429, 430, 112, 474, 444, 445, 446, 447, 448, 449, 450, 451, 326, 327, 328, 453, 454, 419, 420, 421, 422, 423, 431, 432, 433, 434, 107, 305, 435, 436, 437, 438, 490, 491, 492, 493, 494, 466, 467, 468, 108, 325, 495, 496, 62, 497, 498, 499, 500, 501, 416, 417, 418, 106, 502, 503, 504, 505, 507, 508, 509, 510, 511, 512, 514, 2, 515, 563, 621, 755, 673, 674, 675, 676, 411, 412, 413, 344, 346, 348, 350, 352, 354, 356, 358, 360, 362, 364, 139, 141, 113, 115, 117, 119, 121, 123, 125, 127] (by decide +kernel) (by decide +kernel)
set_option maxRecDepth 20000 in
theorem hL_X8_year : GoodIn lw_tbl (wsV RL 110 RX8 yX8_year wsX8_year) := goodIn_app (goodIn_r _ [743, 744, 745, 47] (by decide +kernel) (by decide +kernel)) hhL_X8_year
set_option maxRecDepth 20000 in
theorem hhL_X9_year : GoodIn lw_tbl wsX9_year := goodIn_r _ [1067, 802, 1068, 1069, 1070, 804, 865, 866, 60, 867, 989, 991, 41, 992, 816, 919, 921, 30, 922, 931, 933, 33, 934, 915, 917, 29, 918, 923, 925, 31, 926, 955, 957, 37, 958, 959, 961, 38, 962, 963, 965, 39, 966, 967, 968, 969, 970, 971, 972, 993, 995, 42, 996, 820, 822, 824, 826, 828, 830, 832, 834, 836, 838, 840, 842, 844, 846, 848, 850, 852, 854, 856, 858] (by decide +kernel) (by decide +kernel)
set_option maxRecDepth 20000 in
theorem hL_X9_year : GoodIn lw_tbl (wsV RL 113 RX9 yX9_year wsX9_year) := goodIn_app (goodIn_r _ [1064, 1065, 1066, 60] (by decide +kernel) (by decide +kernel)) hhL_X9_year
set_option maxRecDepth 20000 in
theorem hhL_X8_keep : GoodIn lw_tbl wsX8_keep := goodIn_r _ [759, 340, 337, 760, 483, 484, 52, 485, 153, 152, 486, 487, 488, 51, 489, 138, 546, 547, 548, 549, 344, 346, 348, 350, 352, 354, 356, 358, 360, 362, 364, 154, 156, 139, 141] (by decide +kernel) (by decide +kernel)
set_option maxRecDepth 20000 in
theorem hL_X8_keep : GoodIn lw_tbl (wsV RL 114 RX8 yX8_keep wsX8_keep) := goodIn_app (goodIn_r _ [756, 757, 758, 47] (by decide +kernel) (by decide +kernel)) hhL_X8_keep
set_option maxRecDepth 20000 in
theorem hhL_X9_keep : GoodIn lw_tbl wsX9_keep := goodIn_r _ [1074, 808, 807, 804, 820, 822, 824, 826, 828, 830, 832, 834, 836, 838, 840, 842, 844, 846, 848, 850, 852, 854, 856, 858] (by decide +kernel) (by decide +kernel)
set_option maxRecDepth 20000 in
theorem hL_X9_keep : GoodIn lw_tbl (wsV RL 117 RX9 yX9_keep wsX9_keep) := goodIn_app (goodIn_r _ [1071, 1072, 1073, 60] (by decide +kernel) (by decide +kernel)) hhL_X9_keep
set_option maxRecDepth 20000 in
theorem hhL_X8_back : GoodIn lw_tbl wsX8_back := goodIn_r _ [764, 340, 337, 339, 538, 539, 540, 52, 541, 153, 152, 542, 543, 544, 51, 545, 138, 389, 390, 391, 392, 546, 547, 548, 549, 344, 346, 348, 350, 352, 354, 356, 358, 360, 362, 364, 154, 156, 139, 141] (by decide +kernel) (by decide +kernel)
set_option maxRecDepth 20000 in
theorem hL_X8_back : GoodIn lw_tbl (wsV RL 118 RX8 yX8_back wsX8_back) := goodIn_app (goodIn_r _ [761, 762, 763, 47] (by decide +kernel) (by decide +kernel)) hhL_X8_back
set_option maxRecDepth 20000 in
theorem hhL_X9_back : GoodIn lw_tbl wsX9_back := goodIn_r _ [1078, 808, 804, 807, 806, 820, 822, 824, 826, 828, 830, 832, 834, 836, 838, 840, 842, 844, 846, 848, 850, 852, 854, 856, 858] (by decide +kernel) (by decide +kernel)
set_option maxRecDepth 20000 in
theorem hL_X9_back : GoodIn lw_tbl (wsV RL 121 RX9 yX9_back wsX9_back) := goodIn_app (goodIn_r _ [1075, 1076, 1077, 60] (by decide +kernel) (by decide +kernel)) hhL_X9_back
set_option maxRecDepth 20000 in
theorem hhL_X8_count : GoodIn lw_tbl wsX8_count := goodIn_r _ [768, 335, 337, 342, 343, 339, 340, 333, 401, 402, 403, 50, 404, 110, 563, 436, 437, 51, 438, 423, 424, 425, 426, 137, 138, 414, 306, 307, 308, 427, 428, 429, 430, 112, 621, 496, 62, 497, 498, 499, 500, 604, 605, 606, 607, 111, 769, 770, 771, 772, 773, 635, 636, 637, 54, 638, 182, 712, 713, 714, 55, 715, 203, 546, 547, 548, 52, 549, 153, 372, 275, 276, 48, 277, 79, 344, 346, 348, 350, 352, 354, 356, 358, 360, 362, 364, 113, 115, 117, 119, 121, 123, 125, 127, 139, 141, 183, 185, 187, 189, 191, 204, 206, 208, 210, 154, 156, 80, 82] (by decide +kernel) (by decide +kernel)
set_option maxRecDepth 20000 in
theorem hL_X8_count : GoodIn lw_tbl (wsV RL 122 RX8 yX8_count wsX8_count) := goodIn_app (goodIn_r _ [765, 766, 767, 47] (by decide +kernel) (by decide +kernel)) hhL_X8_count
set_option maxRecDepth 20000 in
theorem hhL_X9_count : GoodIn lw_tbl wsX9_count := goodIn_r _ [1082, 802, 804, 810, 812, 806, 808, 801, 923, 925, 31, 60, 926, 919, 921, 30, 922, 967, 968, 969, 820, 822, 824, 826, 828, 830, 832, 834, 836, 838, 840, 842, 844, 846, 848, 850, 852, 854, 856, 858] (by decide +kernel) (by decide +kernel)
set_option maxRecDepth 20000 in
theorem hL_X9_count : GoodIn lw_tbl (wsV RL 125 RX9 yX9_count wsX9_count) := goodIn_app (goodIn_r _ [1079, 1080, 1081, 60] (by decide +kernel) (by decide +kernel)) hhL_X9_count
theorem iwX0 : ∀ w ∈ u_ws RX0 TX0 2, w ∈ lw_tbl := fun w hw => (goodIn_r _ [167, 169] (by decide +kernel) (by decide +kernel) w hw).1
theorem iwX1 : ∀ w ∈ u_ws RX1 TX1 5, w ∈ lw_tbl := fun w hw => (goodIn_r _ [183, 185, 187, 189, 191] (by decide +kernel) (by decide +kernel) w hw).1
theorem iwX2 : ∀ w ∈ u_ws RX2 TX2 2, w ∈ lw_tbl := fun w hw => (goodIn_r _ [94, 96] (by decide +kernel) (by decide +kernel) w hw).1
theorem iwX3 : ∀ w ∈ u_ws RX3 TX3 2, w ∈ lw_tbl := fun w hw => (goodIn_r _ [80, 82] (by decide +kernel) (by decide +kernel) w hw).1
theorem iwX4 : ∀ w ∈ u_ws RX4 TX4 2, w ∈ lw_tbl := fun w hw => (goodIn_r _ [154, 156] (by decide +kernel) (by decide +kernel) w hw).1
theorem iwX5 : ∀ w ∈ u_ws RX5 TX5 4, w ∈ lw_tbl := fun w hw => (goodIn_r _ [204, 206, 208, 210] (by decide +kernel) (by decide +kernel) w hw).1
theorem iwX6 : ∀ w ∈ u_ws RX6 TX6 2, w ∈ lw_tbl := fun w hw => (goodIn_r _ [139, 141] (by decide +kernel) (by decide +kernel) w hw).1
theorem iwX7 : ∀ w ∈ u_ws RX7 TX7 8, w ∈ lw_tbl := fun w hw => (goodIn_r _ [113, 115, 117, 119, 121, 123, 125, 127] (by decide +kernel) (by decide +kernel) w hw).1
theorem iwX8 : ∀ w ∈ u_ws RX8 TX8 11, w ∈ lw_tbl := fun w hw => (goodIn_r _ [344, 346, 348, 350, 352, 354, 356, 358, 360, 362, 364] (by decide +kernel) (by decide +kernel) w hw).1
theorem iwX9 : ∀ w ∈ u_ws RX9 TX9 20, w ∈ lw_tbl := fun w hw => (goodIn_r _ [820, 822, 824, 826, 828, 830, 832, 834, 836, 838, 840, 842, 844, 846, 848, 850, 852, 854, 856, 858] (by decide +kernel) (by decide +kernel) w hw).1
