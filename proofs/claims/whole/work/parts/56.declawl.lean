set_option maxRecDepth 20000 in
theorem ggL_law_X9_init : GoodIn wsL_law wsX9_init := goodIn_r _ [9, 10, 11, 12, 13, 14, 15, 16, 17, 18, 19, 20, 21, 22, 23, 24, 25, 26, 27, 28, 29, 30, 31, 32, 33, 34, 35, 36, 37, 38, 39, 40, 41, 42, 43, 44, 45, 46, 47, 48, 49, 50, 51, 52, 53, 54, 55, 56, 57, 58, 59, 60, 61, 62, 63, 64, 65, 66, 67, 68, 69, 70, 71, 72, 73, 74, 75, 76, 77, 78, 79, 80, 81, 82, 83, 84, 85, 86, 87, 88, 89, 90, 91, 92, 93, 94, 95, 96, 97, 98, 99, 100, 101, 102, 103, 104, 105, 106, 107, 108, 109, 110, 111, 112, 113, 114, 115, 116, 117, 118, 119, 120, 121, 122, 123, 124, 125, 126, 127, 128, 129, 130, 131, 132, 133, 134, 135, 136, 137, 138, 139, 140, 141, 142, 143, 144, 145, 146, 147, 148, 149, 150, 151, 152, 153, 154, 155, 156, 157, 158, 159, 160, 161, 162, 163, 164, 165, 166, 167, 168, 169, 170, 171, 172, 173, 174, 175, 176, 177, 178, 179, 180, 181, 182, 183, 184, 185, 186, 187, 188, 189, 190, 191, 192, 193, 194, 195, 196, 197, 198, 199, 200, 201, 202, 203, 204, 205, 206, 207, 208, 209, 210, 211, 212, 213, 214, 215, 216, 217, 218, 219, 220, 221, 222, 223, 224, 225, 226, 227, 228, 229, 230, 231, 232, 233, 234, 235, 236, 237, 238, 239, 240, 241, 242, 243, 244, 245, 246, 247, 248, 249, 250, 251, 252, 253, 254, 255, 256, 257, 258, 259, 260, 261, 262, 263, 264, 265, 266, 267, 268, 269, 270, 271, 272, 273, 274, 275, 276, 277, 278, 279, 280, 281, 282, 283, 284, 285, 286, 287, 288, 289, 290, 291, 292, 293, 294, 295, 296, 297, 298, 299, 300, 301, 302, 303, 304, 305, 306, 307, 1494, 1495, 1496, 1497, 1469, 1470, 1471, 1472, 1473, 1474, 1498, 1499, 1500, 1501, 1502, 1503, 1504, 1505, 1506, 1507, 1508, 1509, 1510, 1511, 1512, 1513, 1514, 1515, 1516, 1517, 1518, 1519, 1520, 1521, 1522, 1523, 1524, 1525, 1526, 1527, 1528, 1529, 1530] (by decide +kernel) (by decide +kernel)
set_option maxRecDepth 20000 in
theorem gL_law_X9_init : GoodIn wsL_law (wsX9_init) := ggL_law_X9_init
set_option maxRecDepth 20000 in
theorem ggL_law_X10_init : GoodIn wsL_law wsX10_init := goodIn_r _ [310, 311, 11, 12, 48, 312, 313, 314, 315, 316, 94, 317, 318, 319, 320, 321, 322, 5, 323, 324, 325, 326, 327, 328, 329, 330, 331, 332, 333, 334, 335, 1475, 1476, 1477, 1478, 1479, 1480, 1481, 1482, 1483, 1484, 1485, 1486, 1487, 1488, 1489, 1490, 1491, 1492, 1493] (by decide +kernel) (by decide +kernel)
set_option maxRecDepth 20000 in
theorem gL_law_X10_init : GoodIn wsL_law (wsX10_init) := ggL_law_X10_init
set_option maxRecDepth 20000 in
theorem ggL_law_L_append : GoodIn wsL_law wsL_append := goodIn_ca (goodIn_r _ [339, 340, 341, 342, 343, 2, 344, 345, 346, 16, 34, 347, 348, 349, 350, 41, 351, 352, 152, 153, 154, 155, 49, 1469, 1470, 1471, 1472, 1473, 1474, 1494, 1495, 1496, 1497, 1509, 1510, 1511, 1512, 1513] (by decide +kernel) (by decide +kernel)) (goodIn_sub (fun _ h => List.mem_append_left _ (List.mem_append_left _ (List.mem_append_left _ (List.mem_append_right _ h)))) (by decide +kernel))
set_option maxRecDepth 20000 in
theorem gL_law_L_append : GoodIn wsL_law (va_wsS RL 163 yL_append wsL_append) := goodIn_app (goodIn_of _ (by decide +kernel)) ggL_law_L_append
set_option maxRecDepth 20000 in
theorem ggL_law_X10_append : GoodIn wsL_law wsX10_append := goodIn_r _ [356, 357, 358, 318, 359, 360, 361, 5, 362, 1475, 1476, 1477, 1478, 1479, 1480, 1481, 1482, 1483, 1484, 1485, 1486, 1487, 1488, 1489, 1490, 1491, 1492, 1493] (by decide +kernel) (by decide +kernel)
set_option maxRecDepth 20000 in
theorem gL_law_X10_append : GoodIn wsL_law (wsV RL 168 RX10 yX10_append wsX10_append) := goodIn_app (goodIn_of _ (by decide +kernel)) ggL_law_X10_append
set_option maxRecDepth 20000 in
theorem ggL_law_X10_thrown : GoodIn wsL_law wsX10_thrown := goodIn_r _ [366, 357, 1475, 1476, 1477, 1478, 1479, 1480, 1481, 1482, 1483, 1484, 1485, 1486, 1487, 1488, 1489, 1490, 1491, 1492, 1493] (by decide +kernel) (by decide +kernel)
set_option maxRecDepth 20000 in
theorem gL_law_X10_thrown : GoodIn wsL_law (wsV RL 169 RX10 yX10_thrown wsX10_thrown) := goodIn_app (goodIn_of _ (by decide +kernel)) ggL_law_X10_thrown
set_option maxRecDepth 20000 in
theorem ggL_law_L_shorten : GoodIn wsL_law wsL_shorten := goodIn_ca (goodIn_r _ [369, 370, 371, 372, 373, 2, 374, 375, 376, 16, 34, 347, 1469, 1470, 1471, 1472, 1473, 1474, 1494, 1495, 1496, 1497, 1509, 1510, 1511, 1512, 1513] (by decide +kernel) (by decide +kernel)) (goodIn_sub (fun _ h => List.mem_append_left _ (List.mem_append_left _ (List.mem_append_right _ h))) (by decide +kernel))
set_option maxRecDepth 20000 in
theorem gL_law_L_shorten : GoodIn wsL_law (va_wsS RL 172 yL_shorten wsL_shorten) := goodIn_app (goodIn_of _ (by decide +kernel)) ggL_law_L_shorten
set_option maxRecDepth 20000 in
theorem ggL_law_X10_shorten : GoodIn wsL_law wsX10_shorten := goodIn_r _ [380, 357, 358, 381, 382, 5, 383, 359, 360, 361, 362, 1475, 1476, 1477, 1478, 1479, 1480, 1481, 1482, 1483, 1484, 1485, 1486, 1487, 1488, 1489, 1490, 1491, 1492, 1493] (by decide +kernel) (by decide +kernel)
set_option maxRecDepth 20000 in
theorem gL_law_X10_shorten : GoodIn wsL_law (wsV RL 175 RX10 yX10_shorten wsX10_shorten) := goodIn_app (goodIn_of _ (by decide +kernel)) ggL_law_X10_shorten
set_option maxRecDepth 20000 in
theorem ggL_law_L_load : GoodIn wsL_law wsL_load := goodIn_ca (goodIn_r _ [386, 370, 387, 388, 389, 2, 390, 375, 376, 16, 391, 20, 35, 25, 29, 392, 393, 156, 157, 158, 15, 159, 160, 161, 42, 44, 162, 163, 164, 165, 166, 167, 168, 169, 41, 170, 171, 172, 173, 174, 175, 176, 155, 177, 178, 179, 180, 181, 49, 182, 183, 184, 185, 186, 187, 188, 189, 190, 191, 192, 193, 194, 195, 196, 197, 198, 199, 200, 201, 19, 202, 203, 56, 204, 60, 205, 206, 64, 207, 208, 209, 210, 211, 212, 213, 214, 215, 216, 217, 218, 219, 220, 221, 222, 223, 103, 104, 105, 106, 107, 108, 109, 110, 111, 112, 113, 224, 115, 116, 117, 118, 119, 120, 121, 122, 123, 124, 125, 126, 127, 128, 129, 130, 131, 132, 133, 134, 135, 136, 137, 138, 139, 140, 141, 142, 143, 144, 145, 146, 147, 148, 149, 150, 225, 226, 227, 228, 229, 230, 231, 232, 233, 234, 235, 236, 237, 238, 239, 240, 241, 242, 243, 244, 245, 246, 247, 248, 249, 55, 250, 251, 68, 252, 253, 254, 255, 256, 257, 258, 59, 259, 260, 72, 73, 261, 262, 263, 264, 265, 266, 267, 268, 269, 270, 271, 272, 273, 274, 275, 63, 276, 277, 81, 77, 78, 278, 279, 280, 281, 79, 80, 82, 83, 282, 283, 284, 285, 286, 287, 288, 289, 290, 291, 292, 293, 294, 295, 296, 297, 298, 299, 300, 301, 302, 303, 304, 305, 306, 307, 394, 395, 396, 24, 397, 398, 399, 400, 401, 28, 402, 95, 1469, 1470, 1471, 1472, 1473, 1474, 1494, 1495, 1496, 1497, 1498, 1499, 1500, 1501, 1523, 1524, 1525, 1526, 1527, 1528, 1529, 1530, 1509, 1510, 1511, 1512, 1513, 1514, 1515, 1516, 1517, 1518, 1519, 1520, 1521, 1522, 1502, 1503, 1504, 1505, 1506] (by decide +kernel) (by decide +kernel)) (goodIn_sub (fun _ h => List.mem_append_left _ (List.mem_append_left _ (List.mem_append_right _ h))) (by decide +kernel))
set_option maxRecDepth 20000 in
theorem gL_law_L_load : GoodIn wsL_law (va_wsS RL 176 yL_load wsL_load) := goodIn_app (goodIn_of _ (by decide +kernel)) ggL_law_L_load
set_option maxRecDepth 20000 in
theorem ggL_law_X10_load : GoodIn wsL_law wsX10_load := goodIn_r _ [406, 357, 313, 407, 408, 319, 358, 312, 409, 317, 410, 411, 412, 5, 413, 318, 414, 415, 416, 417, 418, 419, 420, 421, 422, 423, 424, 425, 426, 427, 428, 429, 430, 431, 432, 433, 434, 435, 436, 437, 438, 439, 440, 441, 442, 443, 444, 445, 446, 447, 448, 449, 450, 451, 452, 453, 454, 455, 381, 382, 383, 456, 457, 458, 459, 321, 322, 323, 460, 461, 462, 463, 324, 325, 326, 327, 328, 329, 464, 465, 466, 467, 468, 469, 470, 471, 472, 473, 474, 475, 476, 477, 478, 479, 480, 481, 482, 483, 484, 333, 334, 335, 485, 486, 487, 488, 489, 490, 330, 331, 332, 359, 360, 361, 362, 491, 492, 493, 1475, 1476, 1477, 1478, 1479, 1480, 1481, 1482, 1483, 1484, 1485, 1486, 1487, 1488, 1489, 1490, 1491, 1492, 1493] (by decide +kernel) (by decide +kernel)
set_option maxRecDepth 20000 in
theorem gL_law_X10_load : GoodIn wsL_law (wsV RL 179 RX10 yX10_load wsX10_load) := goodIn_app (goodIn_of _ (by decide +kernel)) ggL_law_X10_load
set_option maxRecDepth 20000 in
theorem ggL_law_X9_hasError : GoodIn wsL_law wsX9_hasError := goodIn_r _ [497, 16, 391, 1469, 1470, 1471, 1472, 1473, 1474, 1494, 1495, 1496, 1497] (by decide +kernel) (by decide +kernel)
set_option maxRecDepth 20000 in
theorem gL_law_X9_hasError : GoodIn wsL_law (wsV RL 180 RX9 yX9_hasError wsX9_hasError) := goodIn_app (goodIn_of _ (by decide +kernel)) ggL_law_X9_hasError
set_option maxRecDepth 20000 in
theorem ggL_law_X10_hasError : GoodIn wsL_law wsX10_hasError := goodIn_r _ [501, 357, 319, 1475, 1476, 1477, 1478, 1479, 1480, 1481, 1482, 1483, 1484, 1485, 1486, 1487, 1488, 1489, 1490, 1491, 1492, 1493] (by decide +kernel) (by decide +kernel)
set_option maxRecDepth 20000 in
theorem gL_law_X10_hasError : GoodIn wsL_law (wsV RL 184 RX10 yX10_hasError wsX10_hasError) := goodIn_app (goodIn_of _ (by decide +kernel)) ggL_law_X10_hasError
set_option maxRecDepth 20000 in
theorem ggL_law_L_errorOffset : GoodIn wsL_law wsL_errorOffset := goodIn_ca (goodIn_r _ [504, 505, 506, 507, 508, 2, 509, 510, 511, 16, 391, 512, 1469, 1470, 1471, 1472, 1473, 1474, 1494, 1495, 1496, 1497] (by decide +kernel) (by decide +kernel)) (goodIn_sub (fun _ h => List.mem_append_left _ (List.mem_append_right _ h)) (by decide +kernel))
set_option maxRecDepth 20000 in
theorem gL_law_L_errorOffset : GoodIn wsL_law (va_wsS RL 185 yL_errorOffset wsL_errorOffset) := goodIn_app (goodIn_of _ (by decide +kernel)) ggL_law_L_errorOffset
set_option maxRecDepth 20000 in
theorem ggL_law_X10_errorOffset : GoodIn wsL_law wsX10_errorOffset := goodIn_r _ [516, 357, 319, 359, 360, 361, 5, 362, 1475, 1476, 1477, 1478, 1479, 1480, 1481, 1482, 1483, 1484, 1485, 1486, 1487, 1488, 1489, 1490, 1491, 1492, 1493] (by decide +kernel) (by decide +kernel)
set_option maxRecDepth 20000 in
theorem gL_law_X10_errorOffset : GoodIn wsL_law (wsV RL 187 RX10 yX10_errorOffset wsX10_errorOffset) := goodIn_app (goodIn_of _ (by decide +kernel)) ggL_law_X10_errorOffset
set_option maxRecDepth 20000 in
theorem ggL_law_X9_night : GoodIn wsL_law wsX9_night := goodIn_r _ [520, 20, 521, 1469, 1470, 1471, 1472, 1473, 1474, 1498, 1499, 1500, 1501] (by decide +kernel) (by decide +kernel)
set_option maxRecDepth 20000 in
theorem gL_law_X9_night : GoodIn wsL_law (wsV RL 188 RX9 yX9_night wsX9_night) := goodIn_app (goodIn_of _ (by decide +kernel)) ggL_law_X9_night
set_option maxRecDepth 20000 in
theorem ggL_law_X10_night : GoodIn wsL_law wsX10_night := goodIn_r _ [525, 357, 312, 1475, 1476, 1477, 1478, 1479, 1480, 1481, 1482, 1483, 1484, 1485, 1486, 1487, 1488, 1489, 1490, 1491, 1492, 1493] (by decide +kernel) (by decide +kernel)
set_option maxRecDepth 20000 in
theorem gL_law_X10_night : GoodIn wsL_law (wsV RL 191 RX10 yX10_night wsX10_night) := goodIn_app (goodIn_of _ (by decide +kernel)) ggL_law_X10_night
set_option maxRecDepth 20000 in
theorem ggL_law_L_lightOf : GoodIn wsL_law wsL_lightOf := goodIn_ca (goodIn_r _ [528, 370, 529, 530, 531, 2, 532, 533, 534, 535, 536, 537, 538, 375, 376, 539, 540, 55, 541, 542, 543, 544, 545] (by decide +kernel) (by decide +kernel)) (goodIn_sub (fun _ h => List.mem_append_left _ (List.mem_append_left _ (List.mem_append_right _ h))) (by decide +kernel))
set_option maxRecDepth 20000 in
theorem gL_law_L_lightOf : GoodIn wsL_law (va_wsS RL 192 yL_lightOf wsL_lightOf) := goodIn_app (goodIn_of _ (by decide +kernel)) ggL_law_L_lightOf
set_option maxRecDepth 20000 in
theorem ggL_law_X10_lightOf : GoodIn wsL_law wsX10_lightOf := goodIn_r _ [549, 357, 550, 551, 5, 552, 381, 382, 383, 553, 554, 555, 556, 557, 558, 359, 360, 361, 362, 1475, 1476, 1477, 1478, 1479, 1480, 1481, 1482, 1483, 1484, 1485, 1486, 1487, 1488, 1489, 1490, 1491, 1492, 1493] (by decide +kernel) (by decide +kernel)
set_option maxRecDepth 20000 in
theorem gL_law_X10_lightOf : GoodIn wsL_law (wsV RL 194 RX10 yX10_lightOf wsX10_lightOf) := goodIn_app (goodIn_of _ (by decide +kernel)) ggL_law_X10_lightOf
set_option maxRecDepth 20000 in
theorem ggL_law_L_tideOf : GoodIn wsL_law wsL_tideOf := goodIn_ca (goodIn_r _ [561, 370, 562, 563, 564, 2, 565, 533, 534, 535, 536, 537, 538, 375, 376, 566, 567, 55, 568, 542, 543, 544, 545] (by decide +kernel) (by decide +kernel)) (goodIn_sub (fun _ h => List.mem_append_left _ (List.mem_append_left _ (List.mem_append_right _ h))) (by decide +kernel))
set_option maxRecDepth 20000 in
theorem gL_law_L_tideOf : GoodIn wsL_law (va_wsS RL 195 yL_tideOf wsL_tideOf) := goodIn_app (goodIn_of _ (by decide +kernel)) ggL_law_L_tideOf
set_option maxRecDepth 20000 in
theorem ggL_law_X10_tideOf : GoodIn wsL_law wsX10_tideOf := goodIn_r _ [572, 357, 550, 551, 5, 552, 381, 382, 383, 573, 574, 575, 556, 557, 558, 359, 360, 361, 362, 1475, 1476, 1477, 1478, 1479, 1480, 1481, 1482, 1483, 1484, 1485, 1486, 1487, 1488, 1489, 1490, 1491, 1492, 1493] (by decide +kernel) (by decide +kernel)
set_option maxRecDepth 20000 in
theorem gL_law_X10_tideOf : GoodIn wsL_law (wsV RL 197 RX10 yX10_tideOf wsX10_tideOf) := goodIn_app (goodIn_of _ (by decide +kernel)) ggL_law_X10_tideOf
set_option maxRecDepth 20000 in
theorem ggL_law_L_cloudOf : GoodIn wsL_law wsL_cloudOf := goodIn_ca (goodIn_r _ [578, 370, 579, 580, 581, 2, 582, 20, 583, 533, 534, 535, 536, 537, 538, 375, 376, 584, 585, 586, 55, 587, 251, 68, 1469, 1470, 1471, 1472, 1473, 1474, 1498, 1499, 1500, 1501, 1514, 1515, 1516, 1517, 1518] (by decide +kernel) (by decide +kernel)) (goodIn_sub (fun _ h => List.mem_append_left _ (List.mem_append_left _ (List.mem_append_right _ h))) (by decide +kernel))
set_option maxRecDepth 20000 in
theorem gL_law_L_cloudOf : GoodIn wsL_law (va_wsS RL 198 yL_cloudOf wsL_cloudOf) := goodIn_app (goodIn_of _ (by decide +kernel)) ggL_law_L_cloudOf
set_option maxRecDepth 20000 in
theorem ggL_law_X10_cloudOf : GoodIn wsL_law wsX10_cloudOf := goodIn_r _ [591, 357, 312, 550, 551, 5, 552, 381, 382, 383, 592, 593, 594, 359, 360, 361, 362, 1475, 1476, 1477, 1478, 1479, 1480, 1481, 1482, 1483, 1484, 1485, 1486, 1487, 1488, 1489, 1490, 1491, 1492, 1493] (by decide +kernel) (by decide +kernel)
set_option maxRecDepth 20000 in
theorem gL_law_X10_cloudOf : GoodIn wsL_law (wsV RL 200 RX10 yX10_cloudOf wsX10_cloudOf) := goodIn_app (goodIn_of _ (by decide +kernel)) ggL_law_X10_cloudOf
set_option maxRecDepth 20000 in
theorem ggL_law_L_visibleLight : GoodIn wsL_law wsL_visibleLight := goodIn_ca (goodIn_r _ [597, 370, 598, 599, 600, 2, 601, 20, 583, 533, 534, 535, 536, 537, 538, 375, 376, 602, 603, 604, 55, 605, 606, 540, 541, 542, 543, 544, 545, 607, 585, 586, 587, 251, 68, 1469, 1470, 1471, 1472, 1473, 1474, 1498, 1499, 1500, 1501, 1514, 1515, 1516, 1517, 1518] (by decide +kernel) (by decide +kernel)) (goodIn_sub (fun _ h => List.mem_append_left _ (List.mem_append_left _ (List.mem_append_right _ h))) (by decide +kernel))
set_option maxRecDepth 20000 in
theorem gL_law_L_visibleLight : GoodIn wsL_law (va_wsS RL 201 yL_visibleLight wsL_visibleLight) := goodIn_app (goodIn_of _ (by decide +kernel)) ggL_law_L_visibleLight
set_option maxRecDepth 20000 in
theorem ggL_law_X10_visibleLight : GoodIn wsL_law wsX10_visibleLight := goodIn_r _ [611, 357, 312, 550, 551, 5, 552, 381, 382, 383, 612, 613, 614, 553, 554, 555, 556, 557, 558, 592, 593, 594, 359, 360, 361, 362, 1475, 1476, 1477, 1478, 1479, 1480, 1481, 1482, 1483, 1484, 1485, 1486, 1487, 1488, 1489, 1490, 1491, 1492, 1493] (by decide +kernel) (by decide +kernel)
set_option maxRecDepth 20000 in
theorem gL_law_X10_visibleLight : GoodIn wsL_law (wsV RL 203 RX10 yX10_visibleLight wsX10_visibleLight) := goodIn_app (goodIn_of _ (by decide +kernel)) ggL_law_X10_visibleLight
set_option maxRecDepth 20000 in
theorem ggL_law_X9_glareLimit : GoodIn wsL_law wsX9_glareLimit := goodIn_r _ [618, 20, 583, 619, 1469, 1470, 1471, 1472, 1473, 1474, 1498, 1499, 1500, 1501, 1514, 1515, 1516, 1517, 1518] (by decide +kernel) (by decide +kernel)
set_option maxRecDepth 20000 in
theorem gL_law_X9_glareLimit : GoodIn wsL_law (wsV RL 204 RX9 yX9_glareLimit wsX9_glareLimit) := goodIn_app (goodIn_of _ (by decide +kernel)) ggL_law_X9_glareLimit
set_option maxRecDepth 20000 in
theorem ggL_law_X10_glareLimit : GoodIn wsL_law wsX10_glareLimit := goodIn_r _ [623, 357, 312, 624, 625, 5, 626, 1475, 1476, 1477, 1478, 1479, 1480, 1481, 1482, 1483, 1484, 1485, 1486, 1487, 1488, 1489, 1490, 1491, 1492, 1493] (by decide +kernel) (by decide +kernel)
set_option maxRecDepth 20000 in
theorem gL_law_X10_glareLimit : GoodIn wsL_law (wsV RL 207 RX10 yX10_glareLimit wsX10_glareLimit) := goodIn_app (goodIn_of _ (by decide +kernel)) ggL_law_X10_glareLimit
set_option maxRecDepth 20000 in
theorem ggL_law_X9_gloomLimit : GoodIn wsL_law wsX9_gloomLimit := goodIn_r _ [630, 20, 583, 631, 1469, 1470, 1471, 1472, 1473, 1474, 1498, 1499, 1500, 1501, 1514, 1515, 1516, 1517, 1518] (by decide +kernel) (by decide +kernel)
set_option maxRecDepth 20000 in
theorem gL_law_X9_gloomLimit : GoodIn wsL_law (wsV RL 208 RX9 yX9_gloomLimit wsX9_gloomLimit) := goodIn_app (goodIn_of _ (by decide +kernel)) ggL_law_X9_gloomLimit
set_option maxRecDepth 20000 in
theorem ggL_law_X10_gloomLimit : GoodIn wsL_law wsX10_gloomLimit := goodIn_r _ [635, 357, 312, 624, 625, 5, 626, 1475, 1476, 1477, 1478, 1479, 1480, 1481, 1482, 1483, 1484, 1485, 1486, 1487, 1488, 1489, 1490, 1491, 1492, 1493] (by decide +kernel) (by decide +kernel)
set_option maxRecDepth 20000 in
theorem gL_law_X10_gloomLimit : GoodIn wsL_law (wsV RL 211 RX10 yX10_gloomLimit wsX10_gloomLimit) := goodIn_app (goodIn_of _ (by decide +kernel)) ggL_law_X10_gloomLimit
set_option maxRecDepth 20000 in
theorem ggL_law_X9_tideLimit : GoodIn wsL_law wsX9_tideLimit := goodIn_r _ [639, 20, 583, 640, 1469, 1470, 1471, 1472, 1473, 1474, 1498, 1499, 1500, 1501, 1514, 1515, 1516, 1517, 1518] (by decide +kernel) (by decide +kernel)
set_option maxRecDepth 20000 in
theorem gL_law_X9_tideLimit : GoodIn wsL_law (wsV RL 212 RX9 yX9_tideLimit wsX9_tideLimit) := goodIn_app (goodIn_of _ (by decide +kernel)) ggL_law_X9_tideLimit
set_option maxRecDepth 20000 in
theorem ggL_law_X10_tideLimit : GoodIn wsL_law wsX10_tideLimit := goodIn_r _ [644, 357, 312, 624, 625, 5, 626, 1475, 1476, 1477, 1478, 1479, 1480, 1481, 1482, 1483, 1484, 1485, 1486, 1487, 1488, 1489, 1490, 1491, 1492, 1493] (by decide +kernel) (by decide +kernel)
set_option maxRecDepth 20000 in
theorem gL_law_X10_tideLimit : GoodIn wsL_law (wsV RL 215 RX10 yX10_tideLimit wsX10_tideLimit) := goodIn_app (goodIn_of _ (by decide +kernel)) ggL_law_X10_tideLimit
set_option maxRecDepth 20000 in
theorem ggL_law_X9_cloudCount : GoodIn wsL_law wsX9_cloudCount := goodIn_r _ [648, 20, 583, 649, 1469, 1470, 1471, 1472, 1473, 1474, 1498, 1499, 1500, 1501, 1514, 1515, 1516, 1517, 1518] (by decide +kernel) (by decide +kernel)
set_option maxRecDepth 20000 in
theorem gL_law_X9_cloudCount : GoodIn wsL_law (wsV RL 216 RX9 yX9_cloudCount wsX9_cloudCount) := goodIn_app (goodIn_of _ (by decide +kernel)) ggL_law_X9_cloudCount
set_option maxRecDepth 20000 in
theorem ggL_law_X10_cloudCount : GoodIn wsL_law wsX10_cloudCount := goodIn_r _ [653, 357, 312, 1475, 1476, 1477, 1478, 1479, 1480, 1481, 1482, 1483, 1484, 1485, 1486, 1487, 1488, 1489, 1490, 1491, 1492, 1493] (by decide +kernel) (by decide +kernel)
set_option maxRecDepth 20000 in
theorem gL_law_X10_cloudCount : GoodIn wsL_law (wsV RL 219 RX10 yX10_cloudCount wsX10_cloudCount) := goodIn_app (goodIn_of _ (by decide +kernel)) ggL_law_X10_cloudCount
set_option maxRecDepth 20000 in
theorem ggL_law_L_isJustified : GoodIn wsL_law wsL_isJustified := goodIn_ca (goodIn_r _ [656, 370, 657, 658, 659, 2, 660, 20, 583, 661, 662, 663, 536, 537, 538, 375, 376, 533, 534, 535, 664, 665, 666, 55, 667, 290, 291, 292, 668, 603, 604, 605, 606, 540, 541, 542, 543, 544, 545, 607, 585, 586, 587, 251, 68, 669, 567, 568, 1469, 1470, 1471, 1472, 1473, 1474, 1498, 1499, 1500, 1501, 1514, 1515, 1516, 1517, 1518] (by decide +kernel) (by decide +kernel)) (goodIn_sub (fun _ h => List.mem_append_left _ (List.mem_append_left _ (List.mem_append_right _ h))) (by decide +kernel))
set_option maxRecDepth 20000 in
theorem gL_law_L_isJustified : GoodIn wsL_law (va_wsS RL 220 yL_isJustified wsL_isJustified) := goodIn_app (goodIn_of _ (by decide +kernel)) ggL_law_L_isJustified
set_option maxRecDepth 20000 in
theorem ggL_law_X10_isJustified : GoodIn wsL_law wsX10_isJustified := goodIn_r _ [673, 357, 312, 674, 675, 5, 676, 381, 382, 383, 550, 551, 552, 677, 678, 679, 612, 613, 614, 553, 554, 555, 556, 557, 558, 592, 593, 594, 624, 625, 626, 573, 574, 575, 680, 681, 682, 683, 1475, 1476, 1477, 1478, 1479, 1480, 1481, 1482, 1483, 1484, 1485, 1486, 1487, 1488, 1489, 1490, 1491, 1492, 1493] (by decide +kernel) (by decide +kernel)
set_option maxRecDepth 20000 in
theorem gL_law_X10_isJustified : GoodIn wsL_law (wsV RL 223 RX10 yX10_isJustified wsX10_isJustified) := goodIn_app (goodIn_of _ (by decide +kernel)) ggL_law_X10_isJustified
set_option maxRecDepth 20000 in
theorem ggL_law_L_nextJustified : GoodIn wsL_law wsL_nextJustified := goodIn_ca (goodIn_ca (goodIn_r _ [686, 370, 505, 687, 688, 689, 2, 690, 510, 511, 20, 521, 583, 661, 662, 663, 536, 537, 538, 375, 376, 664, 665, 666, 55, 667, 290, 291, 292, 668, 603, 604, 605, 606, 540, 541, 542, 543, 544, 545, 607, 585, 586, 587, 251, 68, 669, 567, 568, 1469, 1470, 1471, 1472, 1473, 1474, 1498, 1499, 1500, 1501, 1514, 1515, 1516, 1517, 1518] (by decide +kernel) (by decide +kernel)) (goodIn_sub (fun _ h => List.mem_append_left _ (List.mem_append_right _ h)) (by decide +kernel))) (goodIn_sub (fun _ h => List.mem_append_left _ (List.mem_append_left _ (List.mem_append_right _ h))) (by decide +kernel))
set_option maxRecDepth 20000 in
theorem gL_law_L_nextJustified : GoodIn wsL_law (va_wsS RL 224 yL_nextJustified wsL_nextJustified) := goodIn_app (goodIn_of _ (by decide +kernel)) ggL_law_L_nextJustified
set_option maxRecDepth 20000 in
theorem ggL_law_X10_nextJustified : GoodIn wsL_law wsX10_nextJustified := goodIn_r _ [694, 357, 312, 674, 675, 5, 676, 381, 382, 383, 359, 360, 361, 362, 677, 678, 679, 612, 613, 614, 553, 554, 555, 556, 557, 558, 592, 593, 594, 624, 625, 626, 573, 574, 575, 1475, 1476, 1477, 1478, 1479, 1480, 1481, 1482, 1483, 1484, 1485, 1486, 1487, 1488, 1489, 1490, 1491, 1492, 1493] (by decide +kernel) (by decide +kernel)
set_option maxRecDepth 20000 in
theorem gL_law_X10_nextJustified : GoodIn wsL_law (wsV RL 226 RX10 yX10_nextJustified wsX10_nextJustified) := goodIn_app (goodIn_of _ (by decide +kernel)) ggL_law_X10_nextJustified
set_option maxRecDepth 20000 in
theorem ggL_law_L_justifiedNights : GoodIn wsL_law wsL_justifiedNights := goodIn_ca (goodIn_r _ [697, 370, 698, 699, 700, 2, 701, 20, 583, 521, 661, 662, 663, 536, 537, 538, 375, 376, 702, 703, 704, 55, 705, 706, 665, 666, 667, 290, 291, 292, 668, 603, 604, 605, 606, 540, 541, 542, 543, 544, 545, 607, 585, 586, 587, 251, 68, 669, 567, 568, 1469, 1470, 1471, 1472, 1473, 1474, 1498, 1499, 1500, 1501, 1514, 1515, 1516, 1517, 1518] (by decide +kernel) (by decide +kernel)) (goodIn_sub (fun _ h => List.mem_append_left _ (List.mem_append_left _ (List.mem_append_right _ h))) (by decide +kernel))
set_option maxRecDepth 20000 in
theorem gL_law_L_justifiedNights : GoodIn wsL_law (va_wsS RL 227 yL_justifiedNights wsL_justifiedNights) := goodIn_app (goodIn_of _ (by decide +kernel)) ggL_law_L_justifiedNights
set_option maxRecDepth 20000 in
theorem ggL_law_X10_justifiedNights : GoodIn wsL_law wsX10_justifiedNights := goodIn_r _ [710, 357, 312, 674, 675, 5, 676, 381, 382, 383, 711, 712, 713, 677, 678, 679, 612, 613, 614, 553, 554, 555, 556, 557, 558, 592, 593, 594, 624, 625, 626, 573, 574, 575, 359, 360, 361, 362, 1475, 1476, 1477, 1478, 1479, 1480, 1481, 1482, 1483, 1484, 1485, 1486, 1487, 1488, 1489, 1490, 1491, 1492, 1493] (by decide +kernel) (by decide +kernel)
set_option maxRecDepth 20000 in
theorem gL_law_X10_justifiedNights : GoodIn wsL_law (wsV RL 229 RX10 yX10_justifiedNights wsX10_justifiedNights) := goodIn_app (goodIn_of _ (by decide +kernel)) ggL_law_X10_justifiedNights
set_option maxRecDepth 20000 in
theorem ggL_law_X9_likeliestSort : GoodIn wsL_law wsX9_likeliestSort := goodIn_r _ [717, 20, 583, 521, 702, 703, 704, 55, 705, 706, 665, 666, 667, 290, 291, 292, 668, 603, 604, 605, 606, 540, 541, 542, 543, 544, 545, 607, 585, 586, 587, 251, 68, 669, 567, 568, 1469, 1470, 1471, 1472, 1473, 1474, 1498, 1499, 1500, 1501, 1514, 1515, 1516, 1517, 1518] (by decide +kernel) (by decide +kernel)
set_option maxRecDepth 20000 in
theorem gL_law_X9_likeliestSort : GoodIn wsL_law (wsV RL 230 RX9 yX9_likeliestSort wsX9_likeliestSort) := goodIn_app (goodIn_of _ (by decide +kernel)) ggL_law_X9_likeliestSort
set_option maxRecDepth 20000 in
theorem ggL_law_X10_likeliestSort : GoodIn wsL_law wsX10_likeliestSort := goodIn_r _ [721, 357, 312, 711, 712, 5, 713, 677, 678, 679, 612, 613, 614, 553, 554, 555, 556, 557, 558, 592, 593, 594, 624, 625, 626, 573, 574, 575, 1475, 1476, 1477, 1478, 1479, 1480, 1481, 1482, 1483, 1484, 1485, 1486, 1487, 1488, 1489, 1490, 1491, 1492, 1493] (by decide +kernel) (by decide +kernel)
set_option maxRecDepth 20000 in
theorem gL_law_X10_likeliestSort : GoodIn wsL_law (wsV RL 233 RX10 yX10_likeliestSort wsX10_likeliestSort) := goodIn_app (goodIn_of _ (by decide +kernel)) ggL_law_X10_likeliestSort
set_option maxRecDepth 20000 in
theorem ggL_law_X9_complaintCount : GoodIn wsL_law wsX9_complaintCount := goodIn_r _ [725, 20, 392, 393, 1469, 1470, 1471, 1472, 1473, 1474, 1498, 1499, 1500, 1501, 1523, 1524, 1525, 1526, 1527, 1528, 1529, 1530] (by decide +kernel) (by decide +kernel)
set_option maxRecDepth 20000 in
theorem gL_law_X9_complaintCount : GoodIn wsL_law (wsV RL 234 RX9 yX9_complaintCount wsX9_complaintCount) := goodIn_app (goodIn_of _ (by decide +kernel)) ggL_law_X9_complaintCount
set_option maxRecDepth 20000 in
theorem ggL_law_X10_complaintCount : GoodIn wsL_law wsX10_complaintCount := goodIn_r _ [729, 357, 312, 1475, 1476, 1477, 1478, 1479, 1480, 1481, 1482, 1483, 1484, 1485, 1486, 1487, 1488, 1489, 1490, 1491, 1492, 1493] (by decide +kernel) (by decide +kernel)
set_option maxRecDepth 20000 in
theorem gL_law_X10_complaintCount : GoodIn wsL_law (wsV RL 237 RX10 yX10_complaintCount wsX10_complaintCount) := goodIn_app (goodIn_of _ (by decide +kernel)) ggL_law_X10_complaintCount
set_option maxRecDepth 20000 in
theorem ggL_law_L_personOf : GoodIn wsL_law wsL_personOf := goodIn_ca (goodIn_r _ [732, 733, 734, 735, 736, 2, 737, 20, 392, 738, 739, 740, 741, 742, 743, 744, 745, 746, 747, 63, 748, 277, 1469, 1470, 1471, 1472, 1473, 1474, 1498, 1499, 1500, 1501, 1523, 1524, 1525, 1526, 1527, 1528, 1529, 1530] (by decide +kernel) (by decide +kernel)) (goodIn_sub (fun _ h => List.mem_append_right _ h) (by decide +kernel))
set_option maxRecDepth 20000 in
theorem gL_law_L_personOf : GoodIn wsL_law (va_wsS RL 238 yL_personOf wsL_personOf) := goodIn_app (goodIn_of _ (by decide +kernel)) ggL_law_L_personOf
set_option maxRecDepth 20000 in
theorem ggL_law_X10_personOf : GoodIn wsL_law wsX10_personOf := goodIn_r _ [752, 357, 753, 754, 755, 5, 756, 312, 757, 758, 759, 760, 381, 382, 383, 333, 334, 335, 359, 360, 361, 362, 1475, 1476, 1477, 1478, 1479, 1480, 1481, 1482, 1483, 1484, 1485, 1486, 1487, 1488, 1489, 1490, 1491, 1492, 1493] (by decide +kernel) (by decide +kernel)
set_option maxRecDepth 20000 in
theorem gL_law_X10_personOf : GoodIn wsL_law (wsV RL 240 RX10 yX10_personOf wsX10_personOf) := goodIn_app (goodIn_of _ (by decide +kernel)) ggL_law_X10_personOf
set_option maxRecDepth 20000 in
theorem ggL_law_L_sortOf : GoodIn wsL_law wsL_sortOf := goodIn_ca (goodIn_r _ [763, 733, 764, 765, 766, 2, 767, 20, 392, 768, 739, 740, 741, 742, 743, 744, 745, 746, 747, 63, 748, 277, 1469, 1470, 1471, 1472, 1473, 1474, 1498, 1499, 1500, 1501, 1523, 1524, 1525, 1526, 1527, 1528, 1529, 1530] (by decide +kernel) (by decide +kernel)) (goodIn_sub (fun _ h => List.mem_append_right _ h) (by decide +kernel))
set_option maxRecDepth 20000 in
theorem gL_law_L_sortOf : GoodIn wsL_law (va_wsS RL 241 yL_sortOf wsL_sortOf) := goodIn_app (goodIn_of _ (by decide +kernel)) ggL_law_L_sortOf
set_option maxRecDepth 20000 in
theorem ggL_law_X10_sortOf : GoodIn wsL_law wsX10_sortOf := goodIn_r _ [772, 357, 753, 754, 755, 5, 756, 312, 757, 758, 759, 760, 381, 382, 383, 333, 334, 335, 359, 360, 361, 362, 1475, 1476, 1477, 1478, 1479, 1480, 1481, 1482, 1483, 1484, 1485, 1486, 1487, 1488, 1489, 1490, 1491, 1492, 1493] (by decide +kernel) (by decide +kernel)
set_option maxRecDepth 20000 in
theorem gL_law_X10_sortOf : GoodIn wsL_law (wsV RL 243 RX10 yX10_sortOf wsX10_sortOf) := goodIn_app (goodIn_of _ (by decide +kernel)) ggL_law_X10_sortOf
set_option maxRecDepth 20000 in
theorem ggL_law_L_angerOf : GoodIn wsL_law wsL_angerOf := goodIn_ca (goodIn_r _ [775, 733, 776, 777, 778, 2, 779, 20, 392, 780, 739, 740, 741, 742, 743, 744, 745, 746, 747, 63, 748, 277, 1469, 1470, 1471, 1472, 1473, 1474, 1498, 1499, 1500, 1501, 1523, 1524, 1525, 1526, 1527, 1528, 1529, 1530] (by decide +kernel) (by decide +kernel)) (goodIn_sub (fun _ h => List.mem_append_right _ h) (by decide +kernel))
set_option maxRecDepth 20000 in
theorem gL_law_L_angerOf : GoodIn wsL_law (va_wsS RL 244 yL_angerOf wsL_angerOf) := goodIn_app (goodIn_of _ (by decide +kernel)) ggL_law_L_angerOf
set_option maxRecDepth 20000 in
theorem ggL_law_X10_angerOf : GoodIn wsL_law wsX10_angerOf := goodIn_r _ [784, 357, 753, 754, 755, 5, 756, 312, 757, 758, 759, 760, 381, 382, 383, 333, 334, 335, 359, 360, 361, 362, 1475, 1476, 1477, 1478, 1479, 1480, 1481, 1482, 1483, 1484, 1485, 1486, 1487, 1488, 1489, 1490, 1491, 1492, 1493] (by decide +kernel) (by decide +kernel)
set_option maxRecDepth 20000 in
theorem gL_law_X10_angerOf : GoodIn wsL_law (wsV RL 246 RX10 yX10_angerOf wsX10_angerOf) := goodIn_app (goodIn_of _ (by decide +kernel)) ggL_law_X10_angerOf
set_option maxRecDepth 20000 in
theorem ggL_law_L_filedIn : GoodIn wsL_law wsL_filedIn := goodIn_ca (goodIn_r _ [787, 733, 788, 789, 790, 2, 791, 20, 392, 792, 739, 740, 741, 742, 743, 744, 745, 746, 747, 63, 748, 277, 1469, 1470, 1471, 1472, 1473, 1474, 1498, 1499, 1500, 1501, 1523, 1524, 1525, 1526, 1527, 1528, 1529, 1530] (by decide +kernel) (by decide +kernel)) (goodIn_sub (fun _ h => List.mem_append_right _ h) (by decide +kernel))
set_option maxRecDepth 20000 in
theorem gL_law_L_filedIn : GoodIn wsL_law (va_wsS RL 247 yL_filedIn wsL_filedIn) := goodIn_app (goodIn_of _ (by decide +kernel)) ggL_law_L_filedIn
set_option maxRecDepth 20000 in
theorem ggL_law_X10_filedIn : GoodIn wsL_law wsX10_filedIn := goodIn_r _ [796, 357, 753, 754, 755, 5, 756, 312, 757, 758, 759, 760, 381, 382, 383, 333, 334, 335, 359, 360, 361, 362, 1475, 1476, 1477, 1478, 1479, 1480, 1481, 1482, 1483, 1484, 1485, 1486, 1487, 1488, 1489, 1490, 1491, 1492, 1493] (by decide +kernel) (by decide +kernel)
set_option maxRecDepth 20000 in
theorem gL_law_X10_filedIn : GoodIn wsL_law (wsV RL 249 RX10 yX10_filedIn wsX10_filedIn) := goodIn_app (goodIn_of _ (by decide +kernel)) ggL_law_X10_filedIn
set_option maxRecDepth 20000 in
theorem ggL_law_L_isWaiting : GoodIn wsL_law wsL_isWaiting := goodIn_ca (goodIn_r _ [799, 733, 800, 801, 802, 2, 803, 20, 392, 804, 739, 740, 741, 742, 743, 744, 745, 746, 747, 63, 748, 277, 1469, 1470, 1471, 1472, 1473, 1474, 1498, 1499, 1500, 1501, 1523, 1524, 1525, 1526, 1527, 1528, 1529, 1530] (by decide +kernel) (by decide +kernel)) (goodIn_sub (fun _ h => List.mem_append_right _ h) (by decide +kernel))
set_option maxRecDepth 20000 in
theorem gL_law_L_isWaiting : GoodIn wsL_law (va_wsS RL 250 yL_isWaiting wsL_isWaiting) := goodIn_app (goodIn_of _ (by decide +kernel)) ggL_law_L_isWaiting
set_option maxRecDepth 20000 in
theorem ggL_law_X10_isWaiting : GoodIn wsL_law wsX10_isWaiting := goodIn_r _ [808, 357, 809, 810, 811, 5, 812, 312, 757, 758, 759, 760, 381, 382, 383, 333, 334, 335, 680, 681, 682, 683, 1475, 1476, 1477, 1478, 1479, 1480, 1481, 1482, 1483, 1484, 1485, 1486, 1487, 1488, 1489, 1490, 1491, 1492, 1493] (by decide +kernel) (by decide +kernel)
set_option maxRecDepth 20000 in
theorem gL_law_X10_isWaiting : GoodIn wsL_law (wsV RL 252 RX10 yX10_isWaiting wsX10_isWaiting) := goodIn_app (goodIn_of _ (by decide +kernel)) ggL_law_X10_isWaiting
set_option maxRecDepth 20000 in
theorem ggL_law_L_isAnswered : GoodIn wsL_law wsL_isAnswered := goodIn_ca (goodIn_r _ [815, 733, 816, 817, 818, 2, 819, 20, 392, 804, 739, 740, 741, 742, 743, 744, 745, 746, 747, 63, 748, 277, 1469, 1470, 1471, 1472, 1473, 1474, 1498, 1499, 1500, 1501, 1523, 1524, 1525, 1526, 1527, 1528, 1529, 1530] (by decide +kernel) (by decide +kernel)) (goodIn_sub (fun _ h => List.mem_append_right _ h) (by decide +kernel))
set_option maxRecDepth 20000 in
theorem gL_law_L_isAnswered : GoodIn wsL_law (va_wsS RL 253 yL_isAnswered wsL_isAnswered) := goodIn_app (goodIn_of _ (by decide +kernel)) ggL_law_L_isAnswered
set_option maxRecDepth 20000 in
theorem ggL_law_X10_isAnswered : GoodIn wsL_law wsX10_isAnswered := goodIn_r _ [823, 357, 809, 810, 811, 5, 812, 312, 757, 758, 759, 760, 381, 382, 383, 333, 334, 335, 680, 681, 682, 683, 1475, 1476, 1477, 1478, 1479, 1480, 1481, 1482, 1483, 1484, 1485, 1486, 1487, 1488, 1489, 1490, 1491, 1492, 1493] (by decide +kernel) (by decide +kernel)
set_option maxRecDepth 20000 in
theorem gL_law_X10_isAnswered : GoodIn wsL_law (wsV RL 255 RX10 yX10_isAnswered wsX10_isAnswered) := goodIn_app (goodIn_of _ (by decide +kernel)) ggL_law_X10_isAnswered
set_option maxRecDepth 20000 in
theorem ggL_law_L_isDismissed : GoodIn wsL_law wsL_isDismissed := goodIn_ca (goodIn_r _ [826, 733, 827, 828, 829, 2, 830, 20, 392, 804, 739, 740, 741, 742, 743, 744, 745, 746, 747, 63, 748, 277, 1469, 1470, 1471, 1472, 1473, 1474, 1498, 1499, 1500, 1501, 1523, 1524, 1525, 1526, 1527, 1528, 1529, 1530] (by decide +kernel) (by decide +kernel)) (goodIn_sub (fun _ h => List.mem_append_right _ h) (by decide +kernel))
set_option maxRecDepth 20000 in
theorem gL_law_L_isDismissed : GoodIn wsL_law (va_wsS RL 256 yL_isDismissed wsL_isDismissed) := goodIn_app (goodIn_of _ (by decide +kernel)) ggL_law_L_isDismissed
set_option maxRecDepth 20000 in
theorem ggL_law_X10_isDismissed : GoodIn wsL_law wsX10_isDismissed := goodIn_r _ [834, 357, 809, 810, 811, 5, 812, 312, 757, 758, 759, 760, 381, 382, 383, 333, 334, 335, 680, 681, 682, 683, 1475, 1476, 1477, 1478, 1479, 1480, 1481, 1482, 1483, 1484, 1485, 1486, 1487, 1488, 1489, 1490, 1491, 1492, 1493] (by decide +kernel) (by decide +kernel)
set_option maxRecDepth 20000 in
theorem gL_law_X10_isDismissed : GoodIn wsL_law (wsV RL 258 RX10 yX10_isDismissed wsX10_isDismissed) := goodIn_app (goodIn_of _ (by decide +kernel)) ggL_law_X10_isDismissed
set_option maxRecDepth 20000 in
theorem ggL_law_L_isGivenUp : GoodIn wsL_law wsL_isGivenUp := goodIn_ca (goodIn_r _ [837, 733, 838, 839, 840, 2, 841, 20, 392, 804, 739, 740, 741, 742, 743, 744, 745, 746, 747, 63, 748, 277, 1469, 1470, 1471, 1472, 1473, 1474, 1498, 1499, 1500, 1501, 1523, 1524, 1525, 1526, 1527, 1528, 1529, 1530] (by decide +kernel) (by decide +kernel)) (goodIn_sub (fun _ h => List.mem_append_right _ h) (by decide +kernel))
set_option maxRecDepth 20000 in
theorem gL_law_L_isGivenUp : GoodIn wsL_law (va_wsS RL 259 yL_isGivenUp wsL_isGivenUp) := goodIn_app (goodIn_of _ (by decide +kernel)) ggL_law_L_isGivenUp
set_option maxRecDepth 20000 in
theorem ggL_law_X10_isGivenUp : GoodIn wsL_law wsX10_isGivenUp := goodIn_r _ [845, 357, 809, 810, 811, 5, 812, 312, 757, 758, 759, 760, 381, 382, 383, 333, 334, 335, 680, 681, 682, 683, 1475, 1476, 1477, 1478, 1479, 1480, 1481, 1482, 1483, 1484, 1485, 1486, 1487, 1488, 1489, 1490, 1491, 1492, 1493] (by decide +kernel) (by decide +kernel)
set_option maxRecDepth 20000 in
theorem gL_law_X10_isGivenUp : GoodIn wsL_law (wsV RL 261 RX10 yX10_isGivenUp wsX10_isGivenUp) := goodIn_app (goodIn_of _ (by decide +kernel)) ggL_law_X10_isGivenUp
set_option maxRecDepth 20000 in
theorem ggL_law_L_closedIn : GoodIn wsL_law wsL_closedIn := goodIn_ca (goodIn_ca (goodIn_r _ [848, 733, 505, 849, 850, 851, 2, 852, 510, 511, 20, 392, 804, 853, 739, 740, 741, 742, 743, 744, 745, 746, 747, 63, 748, 277, 1469, 1470, 1471, 1472, 1473, 1474, 1498, 1499, 1500, 1501, 1523, 1524, 1525, 1526, 1527, 1528, 1529, 1530] (by decide +kernel) (by decide +kernel)) (goodIn_sub (fun _ h => List.mem_append_left _ (List.mem_append_right _ h)) (by decide +kernel))) (goodIn_sub (fun _ h => List.mem_append_right _ h) (by decide +kernel))
set_option maxRecDepth 20000 in
theorem gL_law_L_closedIn : GoodIn wsL_law (va_wsS RL 262 yL_closedIn wsL_closedIn) := goodIn_app (goodIn_of _ (by decide +kernel)) ggL_law_L_closedIn
set_option maxRecDepth 20000 in
theorem ggL_law_X10_closedIn : GoodIn wsL_law wsX10_closedIn := goodIn_r _ [857, 357, 312, 757, 758, 759, 5, 760, 381, 382, 383, 359, 360, 361, 362, 479, 480, 481, 482, 483, 484, 333, 334, 335, 1475, 1476, 1477, 1478, 1479, 1480, 1481, 1482, 1483, 1484, 1485, 1486, 1487, 1488, 1489, 1490, 1491, 1492, 1493] (by decide +kernel) (by decide +kernel)
set_option maxRecDepth 20000 in
theorem gL_law_X10_closedIn : GoodIn wsL_law (wsV RL 264 RX10 yX10_closedIn wsX10_closedIn) := goodIn_app (goodIn_of _ (by decide +kernel)) ggL_law_X10_closedIn
set_option maxRecDepth 20000 in
theorem ggL_law_L_clerkOf : GoodIn wsL_law wsL_clerkOf := goodIn_ca (goodIn_ca (goodIn_r _ [860, 733, 505, 861, 862, 863, 2, 864, 510, 511, 20, 392, 865, 739, 740, 741, 742, 743, 744, 745, 746, 747, 63, 748, 277, 1469, 1470, 1471, 1472, 1473, 1474, 1498, 1499, 1500, 1501, 1523, 1524, 1525, 1526, 1527, 1528, 1529, 1530] (by decide +kernel) (by decide +kernel)) (goodIn_sub (fun _ h => List.mem_append_left _ (List.mem_append_right _ h)) (by decide +kernel))) (goodIn_sub (fun _ h => List.mem_append_right _ h) (by decide +kernel))
set_option maxRecDepth 20000 in
theorem gL_law_L_clerkOf : GoodIn wsL_law (va_wsS RL 265 yL_clerkOf wsL_clerkOf) := goodIn_app (goodIn_of _ (by decide +kernel)) ggL_law_L_clerkOf
set_option maxRecDepth 20000 in
theorem ggL_law_X10_clerkOf : GoodIn wsL_law wsX10_clerkOf := goodIn_r _ [869, 357, 312, 757, 758, 759, 5, 760, 381, 382, 383, 359, 360, 361, 362, 333, 334, 335, 1475, 1476, 1477, 1478, 1479, 1480, 1481, 1482, 1483, 1484, 1485, 1486, 1487, 1488, 1489, 1490, 1491, 1492, 1493] (by decide +kernel) (by decide +kernel)
set_option maxRecDepth 20000 in
theorem gL_law_X10_clerkOf : GoodIn wsL_law (wsV RL 267 RX10 yX10_clerkOf wsX10_clerkOf) := goodIn_app (goodIn_of _ (by decide +kernel)) ggL_law_X10_clerkOf
set_option maxRecDepth 20000 in
theorem ggL_law_L_waitingOf : GoodIn wsL_law wsL_waitingOf := goodIn_ca (goodIn_ca (goodIn_r _ [872, 370, 505, 873, 874, 875, 2, 876, 510, 511, 20, 392, 536, 537, 538, 375, 376, 661, 662, 663, 877, 274, 275, 63, 276, 277, 81, 77, 78, 1469, 1470, 1471, 1472, 1473, 1474, 1498, 1499, 1500, 1501, 1523, 1524, 1525, 1526, 1527, 1528, 1529, 1530] (by decide +kernel) (by decide +kernel)) (goodIn_sub (fun _ h => List.mem_append_left _ (List.mem_append_right _ h)) (by decide +kernel))) (goodIn_sub (fun _ h => List.mem_append_left _ (List.mem_append_left _ (List.mem_append_right _ h))) (by decide +kernel))
set_option maxRecDepth 20000 in
theorem gL_law_L_waitingOf : GoodIn wsL_law (va_wsS RL 268 yL_waitingOf wsL_waitingOf) := goodIn_app (goodIn_of _ (by decide +kernel)) ggL_law_L_waitingOf
set_option maxRecDepth 20000 in
theorem ggL_law_X10_waitingOf : GoodIn wsL_law wsX10_waitingOf := goodIn_r _ [881, 357, 312, 882, 883, 5, 884, 381, 382, 383, 359, 360, 361, 362, 674, 675, 676, 476, 477, 478, 479, 480, 481, 482, 483, 484, 333, 334, 335, 485, 486, 487, 488, 489, 490, 1475, 1476, 1477, 1478, 1479, 1480, 1481, 1482, 1483, 1484, 1485, 1486, 1487, 1488, 1489, 1490, 1491, 1492, 1493] (by decide +kernel) (by decide +kernel)
set_option maxRecDepth 20000 in
theorem gL_law_X10_waitingOf : GoodIn wsL_law (wsV RL 270 RX10 yX10_waitingOf wsX10_waitingOf) := goodIn_app (goodIn_of _ (by decide +kernel)) ggL_law_X10_waitingOf
set_option maxRecDepth 20000 in
theorem ggL_law_X9_waitingCount : GoodIn wsL_law wsX9_waitingCount := goodIn_r _ [888, 20, 392, 889, 890, 891, 63, 892, 277, 81, 1469, 1470, 1471, 1472, 1473, 1474, 1498, 1499, 1500, 1501, 1523, 1524, 1525, 1526, 1527, 1528, 1529, 1530] (by decide +kernel) (by decide +kernel)
set_option maxRecDepth 20000 in
theorem gL_law_X9_waitingCount : GoodIn wsL_law (wsV RL 271 RX9 yX9_waitingCount wsX9_waitingCount) := goodIn_app (goodIn_of _ (by decide +kernel)) ggL_law_X9_waitingCount
set_option maxRecDepth 20000 in
theorem ggL_law_X10_waitingCount : GoodIn wsL_law wsX10_waitingCount := goodIn_r _ [896, 357, 312, 897, 898, 5, 899, 482, 483, 484, 333, 334, 335, 1475, 1476, 1477, 1478, 1479, 1480, 1481, 1482, 1483, 1484, 1485, 1486, 1487, 1488, 1489, 1490, 1491, 1492, 1493] (by decide +kernel) (by decide +kernel)
set_option maxRecDepth 20000 in
theorem gL_law_X10_waitingCount : GoodIn wsL_law (wsV RL 274 RX10 yX10_waitingCount wsX10_waitingCount) := goodIn_app (goodIn_of _ (by decide +kernel)) ggL_law_X10_waitingCount
set_option maxRecDepth 20000 in
theorem ggL_law_X9_answeredCount : GoodIn wsL_law wsX9_answeredCount := goodIn_r _ [903, 20, 392, 889, 890, 891, 63, 892, 277, 81, 1469, 1470, 1471, 1472, 1473, 1474, 1498, 1499, 1500, 1501, 1523, 1524, 1525, 1526, 1527, 1528, 1529, 1530] (by decide +kernel) (by decide +kernel)
set_option maxRecDepth 20000 in
theorem gL_law_X9_answeredCount : GoodIn wsL_law (wsV RL 275 RX9 yX9_answeredCount wsX9_answeredCount) := goodIn_app (goodIn_of _ (by decide +kernel)) ggL_law_X9_answeredCount
set_option maxRecDepth 20000 in
theorem ggL_law_X10_answeredCount : GoodIn wsL_law wsX10_answeredCount := goodIn_r _ [907, 357, 312, 897, 898, 5, 899, 482, 483, 484, 333, 334, 335, 1475, 1476, 1477, 1478, 1479, 1480, 1481, 1482, 1483, 1484, 1485, 1486, 1487, 1488, 1489, 1490, 1491, 1492, 1493] (by decide +kernel) (by decide +kernel)
set_option maxRecDepth 20000 in
theorem gL_law_X10_answeredCount : GoodIn wsL_law (wsV RL 278 RX10 yX10_answeredCount wsX10_answeredCount) := goodIn_app (goodIn_of _ (by decide +kernel)) ggL_law_X10_answeredCount
set_option maxRecDepth 20000 in
theorem ggL_law_X9_dismissedCount : GoodIn wsL_law wsX9_dismissedCount := goodIn_r _ [911, 20, 392, 889, 890, 891, 63, 892, 277, 81, 1469, 1470, 1471, 1472, 1473, 1474, 1498, 1499, 1500, 1501, 1523, 1524, 1525, 1526, 1527, 1528, 1529, 1530] (by decide +kernel) (by decide +kernel)
set_option maxRecDepth 20000 in
theorem gL_law_X9_dismissedCount : GoodIn wsL_law (wsV RL 279 RX9 yX9_dismissedCount wsX9_dismissedCount) := goodIn_app (goodIn_of _ (by decide +kernel)) ggL_law_X9_dismissedCount
set_option maxRecDepth 20000 in
theorem ggL_law_X10_dismissedCount : GoodIn wsL_law wsX10_dismissedCount := goodIn_r _ [915, 357, 312, 897, 898, 5, 899, 482, 483, 484, 333, 334, 335, 1475, 1476, 1477, 1478, 1479, 1480, 1481, 1482, 1483, 1484, 1485, 1486, 1487, 1488, 1489, 1490, 1491, 1492, 1493] (by decide +kernel) (by decide +kernel)
set_option maxRecDepth 20000 in
theorem gL_law_X10_dismissedCount : GoodIn wsL_law (wsV RL 282 RX10 yX10_dismissedCount wsX10_dismissedCount) := goodIn_app (goodIn_of _ (by decide +kernel)) ggL_law_X10_dismissedCount
set_option maxRecDepth 20000 in
theorem ggL_law_X9_givenUpCount : GoodIn wsL_law wsX9_givenUpCount := goodIn_r _ [919, 20, 392, 889, 890, 891, 63, 892, 277, 81, 1469, 1470, 1471, 1472, 1473, 1474, 1498, 1499, 1500, 1501, 1523, 1524, 1525, 1526, 1527, 1528, 1529, 1530] (by decide +kernel) (by decide +kernel)
set_option maxRecDepth 20000 in
theorem gL_law_X9_givenUpCount : GoodIn wsL_law (wsV RL 283 RX9 yX9_givenUpCount wsX9_givenUpCount) := goodIn_app (goodIn_of _ (by decide +kernel)) ggL_law_X9_givenUpCount
set_option maxRecDepth 20000 in
theorem ggL_law_X10_givenUpCount : GoodIn wsL_law wsX10_givenUpCount := goodIn_r _ [923, 357, 312, 897, 898, 5, 899, 482, 483, 484, 333, 334, 335, 1475, 1476, 1477, 1478, 1479, 1480, 1481, 1482, 1483, 1484, 1485, 1486, 1487, 1488, 1489, 1490, 1491, 1492, 1493] (by decide +kernel) (by decide +kernel)
set_option maxRecDepth 20000 in
theorem gL_law_X10_givenUpCount : GoodIn wsL_law (wsV RL 286 RX10 yX10_givenUpCount wsX10_givenUpCount) := goodIn_app (goodIn_of _ (by decide +kernel)) ggL_law_X10_givenUpCount
set_option maxRecDepth 20000 in
theorem ggL_law_L_oldest : GoodIn wsL_law wsL_oldest := goodIn_ca (goodIn_r _ [926, 505, 927, 928, 929, 2, 930, 510, 511, 20, 392, 521, 931, 932, 933, 63, 934, 277, 81, 80, 1469, 1470, 1471, 1472, 1473, 1474, 1498, 1499, 1500, 1501, 1523, 1524, 1525, 1526, 1527, 1528, 1529, 1530] (by decide +kernel) (by decide +kernel)) (goodIn_sub (fun _ h => List.mem_append_left _ (List.mem_append_right _ h)) (by decide +kernel))
set_option maxRecDepth 20000 in
theorem gL_law_L_oldest : GoodIn wsL_law (va_wsS RL 287 yL_oldest wsL_oldest) := goodIn_app (goodIn_of _ (by decide +kernel)) ggL_law_L_oldest
set_option maxRecDepth 20000 in
theorem ggL_law_X10_oldest : GoodIn wsL_law wsX10_oldest := goodIn_r _ [938, 357, 312, 939, 940, 5, 941, 479, 480, 481, 482, 483, 484, 333, 334, 335, 942, 943, 944, 945, 946, 947, 359, 360, 361, 362, 1475, 1476, 1477, 1478, 1479, 1480, 1481, 1482, 1483, 1484, 1485, 1486, 1487, 1488, 1489, 1490, 1491, 1492, 1493] (by decide +kernel) (by decide +kernel)
set_option maxRecDepth 20000 in
theorem gL_law_X10_oldest : GoodIn wsL_law (wsV RL 289 RX10 yX10_oldest wsX10_oldest) := goodIn_app (goodIn_of _ (by decide +kernel)) ggL_law_X10_oldest
set_option maxRecDepth 20000 in
theorem ggL_law_L_angriest : GoodIn wsL_law wsL_angriest := goodIn_ca (goodIn_r _ [950, 505, 951, 952, 953, 2, 954, 510, 511, 20, 392, 955, 956, 957, 63, 958, 277, 81, 78, 79, 1469, 1470, 1471, 1472, 1473, 1474, 1498, 1499, 1500, 1501, 1523, 1524, 1525, 1526, 1527, 1528, 1529, 1530] (by decide +kernel) (by decide +kernel)) (goodIn_sub (fun _ h => List.mem_append_left _ (List.mem_append_right _ h)) (by decide +kernel))
set_option maxRecDepth 20000 in
theorem gL_law_L_angriest : GoodIn wsL_law (va_wsS RL 290 yL_angriest wsL_angriest) := goodIn_app (goodIn_of _ (by decide +kernel)) ggL_law_L_angriest
set_option maxRecDepth 20000 in
theorem ggL_law_X10_angriest : GoodIn wsL_law wsX10_angriest := goodIn_r _ [962, 357, 312, 479, 480, 5, 481, 482, 483, 484, 333, 334, 335, 963, 964, 965, 966, 967, 968, 359, 360, 361, 362, 1475, 1476, 1477, 1478, 1479, 1480, 1481, 1482, 1483, 1484, 1485, 1486, 1487, 1488, 1489, 1490, 1491, 1492, 1493] (by decide +kernel) (by decide +kernel)
set_option maxRecDepth 20000 in
theorem gL_law_X10_angriest : GoodIn wsL_law (wsV RL 292 RX10 yX10_angriest wsX10_angriest) := goodIn_app (goodIn_of _ (by decide +kernel)) ggL_law_X10_angriest
set_option maxRecDepth 20000 in
theorem ggL_law_L_complaintsOf : GoodIn wsL_law wsL_complaintsOf := goodIn_ca (goodIn_r _ [971, 370, 972, 973, 974, 2, 975, 20, 392, 536, 537, 538, 375, 376, 976, 977, 978, 63, 979, 277, 77, 1469, 1470, 1471, 1472, 1473, 1474, 1498, 1499, 1500, 1501, 1523, 1524, 1525, 1526, 1527, 1528, 1529, 1530] (by decide +kernel) (by decide +kernel)) (goodIn_sub (fun _ h => List.mem_append_left _ (List.mem_append_left _ (List.mem_append_right _ h))) (by decide +kernel))
set_option maxRecDepth 20000 in
theorem gL_law_L_complaintsOf : GoodIn wsL_law (va_wsS RL 293 yL_complaintsOf wsL_complaintsOf) := goodIn_app (goodIn_of _ (by decide +kernel)) ggL_law_L_complaintsOf
set_option maxRecDepth 20000 in
theorem ggL_law_X10_complaintsOf : GoodIn wsL_law wsX10_complaintsOf := goodIn_r _ [983, 357, 312, 882, 883, 5, 884, 381, 382, 383, 359, 360, 361, 362, 485, 486, 487, 333, 334, 335, 1475, 1476, 1477, 1478, 1479, 1480, 1481, 1482, 1483, 1484, 1485, 1486, 1487, 1488, 1489, 1490, 1491, 1492, 1493] (by decide +kernel) (by decide +kernel)
set_option maxRecDepth 20000 in
theorem gL_law_X10_complaintsOf : GoodIn wsL_law (wsV RL 295 RX10 yX10_complaintsOf wsX10_complaintsOf) := goodIn_app (goodIn_of _ (by decide +kernel)) ggL_law_X10_complaintsOf
set_option maxRecDepth 20000 in
theorem ggL_law_X9_clerkCount : GoodIn wsL_law wsX9_clerkCount := goodIn_r _ [987, 20, 988, 989, 1469, 1470, 1471, 1472, 1473, 1474, 1498, 1499, 1500, 1501, 1519, 1520, 1521, 1522] (by decide +kernel) (by decide +kernel)
set_option maxRecDepth 20000 in
theorem gL_law_X9_clerkCount : GoodIn wsL_law (wsV RL 296 RX9 yX9_clerkCount wsX9_clerkCount) := goodIn_app (goodIn_of _ (by decide +kernel)) ggL_law_X9_clerkCount
set_option maxRecDepth 20000 in
theorem ggL_law_X10_clerkCount : GoodIn wsL_law wsX10_clerkCount := goodIn_r _ [993, 357, 312, 1475, 1476, 1477, 1478, 1479, 1480, 1481, 1482, 1483, 1484, 1485, 1486, 1487, 1488, 1489, 1490, 1491, 1492, 1493] (by decide +kernel) (by decide +kernel)
set_option maxRecDepth 20000 in
theorem gL_law_X10_clerkCount : GoodIn wsL_law (wsV RL 299 RX10 yX10_clerkCount wsX10_clerkCount) := goodIn_app (goodIn_of _ (by decide +kernel)) ggL_law_X10_clerkCount
set_option maxRecDepth 20000 in
theorem ggL_law_L_darkestClerk : GoodIn wsL_law wsL_darkestClerk := goodIn_ca (goodIn_r _ [996, 505, 997, 998, 999, 2, 1000, 510, 511, 20, 988, 1001, 1002, 1003, 59, 1004, 260, 73, 1469, 1470, 1471, 1472, 1473, 1474, 1498, 1499, 1500, 1501, 1519, 1520, 1521, 1522] (by decide +kernel) (by decide +kernel)) (goodIn_sub (fun _ h => List.mem_append_left _ (List.mem_append_right _ h)) (by decide +kernel))
set_option maxRecDepth 20000 in
theorem gL_law_L_darkestClerk : GoodIn wsL_law (va_wsS RL 300 yL_darkestClerk wsL_darkestClerk) := goodIn_app (goodIn_of _ (by decide +kernel)) ggL_law_L_darkestClerk
set_option maxRecDepth 20000 in
theorem ggL_law_X10_darkestClerk : GoodIn wsL_law wsX10_darkestClerk := goodIn_r _ [1008, 357, 312, 359, 360, 361, 5, 362, 1009, 1010, 1011, 1012, 1013, 1014, 327, 328, 329, 1475, 1476, 1477, 1478, 1479, 1480, 1481, 1482, 1483, 1484, 1485, 1486, 1487, 1488, 1489, 1490, 1491, 1492, 1493] (by decide +kernel) (by decide +kernel)
set_option maxRecDepth 20000 in
theorem gL_law_X10_darkestClerk : GoodIn wsL_law (wsV RL 302 RX10 yX10_darkestClerk wsX10_darkestClerk) := goodIn_app (goodIn_of _ (by decide +kernel)) ggL_law_X10_darkestClerk
set_option maxRecDepth 20000 in
theorem ggL_law_L_skillOf : GoodIn wsL_law wsL_skillOf := goodIn_ca (goodIn_r _ [1017, 733, 1018, 1019, 1020, 2, 1021, 20, 988, 1022, 1023, 1024, 1025, 1026, 743, 744, 1027, 1028, 1029, 59, 1030, 260, 1469, 1470, 1471, 1472, 1473, 1474, 1498, 1499, 1500, 1501, 1519, 1520, 1521, 1522] (by decide +kernel) (by decide +kernel)) (goodIn_sub (fun _ h => List.mem_append_right _ h) (by decide +kernel))
set_option maxRecDepth 20000 in
theorem gL_law_L_skillOf : GoodIn wsL_law (va_wsS RL 303 yL_skillOf wsL_skillOf) := goodIn_app (goodIn_of _ (by decide +kernel)) ggL_law_L_skillOf
set_option maxRecDepth 20000 in
theorem ggL_law_X10_skillOf : GoodIn wsL_law wsX10_skillOf := goodIn_r _ [1034, 357, 1035, 1036, 1037, 5, 1038, 312, 1039, 1040, 1041, 1042, 381, 382, 383, 327, 328, 329, 359, 360, 361, 362, 1475, 1476, 1477, 1478, 1479, 1480, 1481, 1482, 1483, 1484, 1485, 1486, 1487, 1488, 1489, 1490, 1491, 1492, 1493] (by decide +kernel) (by decide +kernel)
set_option maxRecDepth 20000 in
theorem gL_law_X10_skillOf : GoodIn wsL_law (wsV RL 305 RX10 yX10_skillOf wsX10_skillOf) := goodIn_app (goodIn_of _ (by decide +kernel)) ggL_law_X10_skillOf
set_option maxRecDepth 20000 in
theorem ggL_law_L_oilOf : GoodIn wsL_law wsL_oilOf := goodIn_ca (goodIn_r _ [1045, 733, 1046, 1047, 1048, 2, 1049, 20, 988, 1050, 1023, 1024, 1025, 1026, 743, 744, 1027, 1028, 1029, 59, 1030, 260, 1469, 1470, 1471, 1472, 1473, 1474, 1498, 1499, 1500, 1501, 1519, 1520, 1521, 1522] (by decide +kernel) (by decide +kernel)) (goodIn_sub (fun _ h => List.mem_append_right _ h) (by decide +kernel))
set_option maxRecDepth 20000 in
theorem gL_law_L_oilOf : GoodIn wsL_law (va_wsS RL 306 yL_oilOf wsL_oilOf) := goodIn_app (goodIn_of _ (by decide +kernel)) ggL_law_L_oilOf
set_option maxRecDepth 20000 in
theorem ggL_law_X10_oilOf : GoodIn wsL_law wsX10_oilOf := goodIn_r _ [1054, 357, 1035, 1036, 1037, 5, 1038, 312, 1039, 1040, 1041, 1042, 381, 382, 383, 327, 328, 329, 359, 360, 361, 362, 1475, 1476, 1477, 1478, 1479, 1480, 1481, 1482, 1483, 1484, 1485, 1486, 1487, 1488, 1489, 1490, 1491, 1492, 1493] (by decide +kernel) (by decide +kernel)
set_option maxRecDepth 20000 in
theorem gL_law_X10_oilOf : GoodIn wsL_law (wsV RL 308 RX10 yX10_oilOf wsX10_oilOf) := goodIn_app (goodIn_of _ (by decide +kernel)) ggL_law_X10_oilOf
set_option maxRecDepth 20000 in
theorem ggL_law_L_answeredBy : GoodIn wsL_law wsL_answeredBy := goodIn_ca (goodIn_r _ [1057, 733, 1058, 1059, 1060, 2, 1061, 20, 392, 1023, 1024, 1025, 1026, 743, 744, 988, 1027, 1028, 1029, 59, 1030, 260, 1062, 1063, 1064, 63, 1065, 277, 81, 83, 1469, 1470, 1471, 1472, 1473, 1474, 1498, 1499, 1500, 1501, 1519, 1520, 1521, 1522, 1523, 1524, 1525, 1526, 1527, 1528, 1529, 1530] (by decide +kernel) (by decide +kernel)) (goodIn_sub (fun _ h => List.mem_append_right _ h) (by decide +kernel))
set_option maxRecDepth 20000 in
theorem gL_law_L_answeredBy : GoodIn wsL_law (va_wsS RL 309 yL_answeredBy wsL_answeredBy) := goodIn_app (goodIn_of _ (by decide +kernel)) ggL_law_L_answeredBy
set_option maxRecDepth 20000 in
theorem ggL_law_X10_answeredBy : GoodIn wsL_law wsX10_answeredBy := goodIn_r _ [1069, 357, 1035, 1036, 1037, 5, 1038, 312, 1039, 1040, 1041, 1042, 381, 382, 383, 327, 328, 329, 359, 360, 361, 362, 1475, 1476, 1477, 1478, 1479, 1480, 1481, 1482, 1483, 1484, 1485, 1486, 1487, 1488, 1489, 1490, 1491, 1492, 1493] (by decide +kernel) (by decide +kernel)
set_option maxRecDepth 20000 in
theorem gL_law_X10_answeredBy : GoodIn wsL_law (wsV RL 311 RX10 yX10_answeredBy wsX10_answeredBy) := goodIn_app (goodIn_of _ (by decide +kernel)) ggL_law_X10_answeredBy
set_option maxRecDepth 20000 in
theorem ggL_law_X9_oilCost : GoodIn wsL_law wsX9_oilCost := goodIn_r _ [1073, 20, 583, 521, 1074, 1075, 1076, 55, 1077, 668, 603, 604, 605, 606, 540, 541, 542, 543, 544, 545, 607, 585, 586, 587, 251, 68, 1469, 1470, 1471, 1472, 1473, 1474, 1498, 1499, 1500, 1501, 1514, 1515, 1516, 1517, 1518] (by decide +kernel) (by decide +kernel)
set_option maxRecDepth 20000 in
theorem gL_law_X9_oilCost : GoodIn wsL_law (wsV RL 312 RX9 yX9_oilCost wsX9_oilCost) := goodIn_app (goodIn_of _ (by decide +kernel)) ggL_law_X9_oilCost
set_option maxRecDepth 20000 in
theorem ggL_law_X10_oilCost : GoodIn wsL_law wsX10_oilCost := goodIn_r _ [1081, 357, 312, 1082, 1083, 5, 1084, 612, 613, 614, 553, 554, 555, 556, 557, 558, 592, 593, 594, 1475, 1476, 1477, 1478, 1479, 1480, 1481, 1482, 1483, 1484, 1485, 1486, 1487, 1488, 1489, 1490, 1491, 1492, 1493] (by decide +kernel) (by decide +kernel)
set_option maxRecDepth 20000 in
theorem gL_law_X10_oilCost : GoodIn wsL_law (wsV RL 315 RX10 yX10_oilCost wsX10_oilCost) := goodIn_app (goodIn_of _ (by decide +kernel)) ggL_law_X10_oilCost
set_option maxRecDepth 20000 in
theorem ggL_law_X9_oilUsed : GoodIn wsL_law wsX9_oilUsed := goodIn_r _ [1088, 20, 988, 1089, 1469, 1470, 1471, 1472, 1473, 1474, 1498, 1499, 1500, 1501, 1519, 1520, 1521, 1522] (by decide +kernel) (by decide +kernel)
set_option maxRecDepth 20000 in
theorem gL_law_X9_oilUsed : GoodIn wsL_law (wsV RL 316 RX9 yX9_oilUsed wsX9_oilUsed) := goodIn_app (goodIn_of _ (by decide +kernel)) ggL_law_X9_oilUsed
set_option maxRecDepth 20000 in
theorem ggL_law_X10_oilUsed : GoodIn wsL_law wsX10_oilUsed := goodIn_r _ [1093, 357, 312, 1475, 1476, 1477, 1478, 1479, 1480, 1481, 1482, 1483, 1484, 1485, 1486, 1487, 1488, 1489, 1490, 1491, 1492, 1493] (by decide +kernel) (by decide +kernel)
set_option maxRecDepth 20000 in
theorem gL_law_X10_oilUsed : GoodIn wsL_law (wsV RL 319 RX10 yX10_oilUsed wsX10_oilUsed) := goodIn_app (goodIn_of _ (by decide +kernel)) ggL_law_X10_oilUsed
set_option maxRecDepth 20000 in
theorem ggL_law_X9_comfort : GoodIn wsL_law wsX9_comfort := goodIn_r _ [1097, 20, 392, 1098, 1099, 1100, 63, 1101, 277, 81, 79, 1469, 1470, 1471, 1472, 1473, 1474, 1498, 1499, 1500, 1501, 1523, 1524, 1525, 1526, 1527, 1528, 1529, 1530] (by decide +kernel) (by decide +kernel)
set_option maxRecDepth 20000 in
theorem gL_law_X9_comfort : GoodIn wsL_law (wsV RL 320 RX9 yX9_comfort wsX9_comfort) := goodIn_app (goodIn_of _ (by decide +kernel)) ggL_law_X9_comfort
set_option maxRecDepth 20000 in
theorem ggL_law_X10_comfort : GoodIn wsL_law wsX10_comfort := goodIn_r _ [1105, 357, 312, 1475, 1476, 1477, 1478, 1479, 1480, 1481, 1482, 1483, 1484, 1485, 1486, 1487, 1488, 1489, 1490, 1491, 1492, 1493] (by decide +kernel) (by decide +kernel)
set_option maxRecDepth 20000 in
theorem gL_law_X10_comfort : GoodIn wsL_law (wsV RL 323 RX10 yX10_comfort wsX10_comfort) := goodIn_app (goodIn_of _ (by decide +kernel)) ggL_law_X10_comfort
set_option maxRecDepth 20000 in
theorem ggL_law_X9_meanWait : GoodIn wsL_law wsX9_meanWait := goodIn_r _ [1109, 20, 392, 889, 890, 891, 63, 892, 277, 81, 1110, 1111, 1112, 1113, 82, 80, 1469, 1470, 1471, 1472, 1473, 1474, 1498, 1499, 1500, 1501, 1523, 1524, 1525, 1526, 1527, 1528, 1529, 1530] (by decide +kernel) (by decide +kernel)
set_option maxRecDepth 20000 in
theorem gL_law_X9_meanWait : GoodIn wsL_law (wsV RL 324 RX9 yX9_meanWait wsX9_meanWait) := goodIn_app (goodIn_of _ (by decide +kernel)) ggL_law_X9_meanWait
set_option maxRecDepth 20000 in
theorem ggL_law_X10_meanWait : GoodIn wsL_law wsX10_meanWait := goodIn_r _ [1117, 357, 312, 897, 898, 5, 899, 482, 483, 484, 333, 334, 335, 1118, 1119, 1120, 945, 946, 947, 1475, 1476, 1477, 1478, 1479, 1480, 1481, 1482, 1483, 1484, 1485, 1486, 1487, 1488, 1489, 1490, 1491, 1492, 1493] (by decide +kernel) (by decide +kernel)
set_option maxRecDepth 20000 in
theorem gL_law_X10_meanWait : GoodIn wsL_law (wsV RL 328 RX10 yX10_meanWait wsX10_meanWait) := goodIn_app (goodIn_of _ (by decide +kernel)) ggL_law_X10_meanWait
set_option maxRecDepth 20000 in
theorem ggL_law_X9_answeredShare : GoodIn wsL_law wsX9_answeredShare := goodIn_r _ [1124, 20, 392, 393, 889, 890, 891, 63, 892, 277, 81, 1469, 1470, 1471, 1472, 1473, 1474, 1498, 1499, 1500, 1501, 1523, 1524, 1525, 1526, 1527, 1528, 1529, 1530] (by decide +kernel) (by decide +kernel)
set_option maxRecDepth 20000 in
theorem gL_law_X9_answeredShare : GoodIn wsL_law (wsV RL 329 RX9 yX9_answeredShare wsX9_answeredShare) := goodIn_app (goodIn_of _ (by decide +kernel)) ggL_law_X9_answeredShare
set_option maxRecDepth 20000 in
theorem ggL_law_X10_answeredShare : GoodIn wsL_law wsX10_answeredShare := goodIn_r _ [1128, 357, 312, 897, 898, 5, 899, 482, 483, 484, 333, 334, 335, 1475, 1476, 1477, 1478, 1479, 1480, 1481, 1482, 1483, 1484, 1485, 1486, 1487, 1488, 1489, 1490, 1491, 1492, 1493] (by decide +kernel) (by decide +kernel)
set_option maxRecDepth 20000 in
theorem gL_law_X10_answeredShare : GoodIn wsL_law (wsV RL 333 RX10 yX10_answeredShare wsX10_answeredShare) := goodIn_app (goodIn_of _ (by decide +kernel)) ggL_law_X10_answeredShare
set_option maxRecDepth 20000 in
theorem ggL_law_X9_answersTonight : GoodIn wsL_law wsX9_answersTonight := goodIn_r _ [1132, 21, 20, 282, 283, 284, 19, 285, 203, 56, 60, 64, 286, 287, 288, 55, 289, 290, 291, 292, 251, 68, 293, 294, 295, 296, 297, 298, 299, 59, 300, 260, 301, 72, 302, 73, 303, 304, 305, 63, 306, 277, 77, 307, 78, 79, 80, 81, 82, 83, 1133, 1134, 1135, 1136, 205, 1137, 1138, 1139, 1140, 706, 665, 666, 667, 668, 603, 604, 605, 606, 540, 541, 542, 543, 544, 545, 607, 585, 586, 587, 669, 567, 568, 1141, 1075, 1076, 1077, 1142, 1143, 1144, 1145, 1146, 1147, 1148, 956, 957, 958, 1149, 1150, 1151, 1152, 1153, 746, 747, 748, 1154, 1155, 1156, 1157, 1158, 932, 933, 934, 1159, 1160, 1161, 1162, 1163, 1028, 1029, 1030, 1164, 1165, 1166, 1167, 1168, 1169, 1170, 1171, 1469, 1470, 1471, 1472, 1473, 1474, 1498, 1499, 1500, 1501, 1514, 1515, 1516, 1517, 1518, 1519, 1520, 1521, 1522, 1523, 1524, 1525, 1526, 1527, 1528, 1529, 1530] (by decide +kernel) (by decide +kernel)
set_option maxRecDepth 20000 in
theorem gL_law_X9_answersTonight : GoodIn wsL_law (wsV RL 334 RX9 yX9_answersTonight wsX9_answersTonight) := goodIn_app (goodIn_of _ (by decide +kernel)) ggL_law_X9_answersTonight
set_option maxRecDepth 20000 in
theorem ggL_law_X10_answersTonight : GoodIn wsL_law wsX10_answersTonight := goodIn_r _ [1175, 357, 314, 1176, 1177, 1178, 5, 1179, 312, 491, 492, 493, 1180, 1181, 1182, 897, 898, 899, 482, 483, 484, 333, 334, 335, 1183, 1184, 1185, 1082, 1083, 1084, 612, 613, 614, 553, 554, 555, 556, 557, 558, 592, 593, 594, 1186, 1187, 1188, 327, 328, 329, 1189, 1190, 1191, 1012, 1013, 1014, 1192, 1193, 1194, 1195, 1196, 1197, 479, 480, 481, 488, 489, 490, 677, 678, 679, 624, 625, 626, 573, 574, 575, 963, 964, 965, 966, 967, 968, 1198, 1199, 1200, 939, 940, 941, 942, 943, 944, 945, 946, 947, 1201, 1202, 1203, 1204, 1205, 1206, 1207, 1208, 1209, 1210, 1211, 1212, 1213, 1214, 1215, 1475, 1476, 1477, 1478, 1479, 1480, 1481, 1482, 1483, 1484, 1485, 1486, 1487, 1488, 1489, 1490, 1491, 1492, 1493] (by decide +kernel) (by decide +kernel)
set_option maxRecDepth 20000 in
theorem gL_law_X10_answersTonight : GoodIn wsL_law (wsV RL 337 RX10 yX10_answersTonight wsX10_answersTonight) := goodIn_app (goodIn_of _ (by decide +kernel)) ggL_law_X10_answersTonight
set_option maxRecDepth 20000 in
theorem ggL_law_L_nightsToClose : GoodIn wsL_law wsL_nightsToClose := goodIn_ca (goodIn_ca (goodIn_r _ [1218, 733, 340, 1219, 1220, 1221, 2, 1222, 739, 740, 741, 742, 743, 744, 20, 392, 745, 746, 747, 63, 748, 277, 1223, 1224, 1225, 1226, 345, 346, 804, 1227, 1228, 1229, 1230, 21, 282, 283, 284, 19, 285, 203, 56, 60, 64, 286, 287, 288, 55, 289, 290, 291, 292, 251, 68, 293, 294, 295, 296, 297, 298, 299, 59, 300, 260, 301, 72, 302, 73, 303, 304, 305, 306, 77, 307, 78, 79, 80, 81, 82, 83, 1133, 1134, 1135, 1136, 205, 1137, 1138, 1139, 1140, 706, 665, 666, 667, 668, 603, 604, 605, 606, 540, 541, 542, 543, 544, 545, 607, 585, 586, 587, 669, 567, 568, 1141, 1075, 1076, 1077, 1142, 1143, 1144, 1145, 1146, 1147, 1148, 956, 957, 958, 1149, 1150, 1151, 1152, 1153, 1154, 1155, 1156, 1157, 1158, 932, 933, 934, 1159, 1160, 1161, 1162, 1163, 1028, 1029, 1030, 1164, 1165, 1166, 1167, 1168, 1169, 1170, 1171, 1469, 1470, 1471, 1472, 1473, 1474, 1498, 1499, 1500, 1501, 1523, 1524, 1525, 1526, 1527, 1528, 1529, 1530, 1514, 1515, 1516, 1517, 1518, 1519, 1520, 1521, 1522] (by decide +kernel) (by decide +kernel)) (goodIn_sub (fun _ h => List.mem_append_right _ h) (by decide +kernel))) (goodIn_sub (fun _ h => List.mem_append_left _ (List.mem_append_left _ (List.mem_append_left _ (List.mem_append_right _ h)))) (by decide +kernel))
set_option maxRecDepth 20000 in
theorem gL_law_L_nightsToClose : GoodIn wsL_law (va_wsS RL 338 yL_nightsToClose wsL_nightsToClose) := goodIn_app (goodIn_of _ (by decide +kernel)) ggL_law_L_nightsToClose
set_option maxRecDepth 20000 in
theorem ggL_law_X10_nightsToClose : GoodIn wsL_law wsX10_nightsToClose := goodIn_r _ [1234, 357, 312, 757, 758, 759, 5, 760, 381, 382, 383, 359, 360, 361, 362, 479, 480, 481, 482, 483, 484, 333, 334, 335, 1235, 1236, 1237, 1238, 314, 1176, 1177, 1178, 1179, 491, 492, 493, 1180, 1181, 1182, 897, 898, 899, 1183, 1184, 1185, 1082, 1083, 1084, 612, 613, 614, 553, 554, 555, 556, 557, 558, 592, 593, 594, 1186, 1187, 1188, 327, 328, 329, 1189, 1190, 1191, 1012, 1013, 1014, 1192, 1193, 1194, 1195, 1196, 1197, 488, 489, 490, 677, 678, 679, 624, 625, 626, 573, 574, 575, 963, 964, 965, 966, 967, 968, 1198, 1199, 1200, 939, 940, 941, 942, 943, 944, 945, 946, 947, 1201, 1202, 1203, 1204, 1205, 1206, 1207, 1208, 1209, 1210, 1211, 1212, 1213, 1214, 1215, 1475, 1476, 1477, 1478, 1479, 1480, 1481, 1482, 1483, 1484, 1485, 1486, 1487, 1488, 1489, 1490, 1491, 1492, 1493] (by decide +kernel) (by decide +kernel)
set_option maxRecDepth 20000 in
theorem gL_law_X10_nightsToClose : GoodIn wsL_law (wsV RL 340 RX10 yX10_nightsToClose wsX10_nightsToClose) := goodIn_app (goodIn_of _ (by decide +kernel)) ggL_law_X10_nightsToClose
set_option maxRecDepth 20000 in
theorem ggL_law_L_willBeAnswered : GoodIn wsL_law wsL_willBeAnswered := goodIn_ca (goodIn_ca (goodIn_r _ [1241, 733, 340, 1242, 1243, 1244, 2, 1245, 21, 392, 804, 739, 740, 741, 742, 743, 744, 20, 745, 746, 747, 63, 748, 277, 1223, 1224, 1225, 1226, 345, 346, 1227, 1228, 1229, 1230, 282, 283, 284, 19, 285, 203, 56, 60, 64, 286, 287, 288, 55, 289, 290, 291, 292, 251, 68, 293, 294, 295, 296, 297, 298, 299, 59, 300, 260, 301, 72, 302, 73, 303, 304, 305, 306, 77, 307, 78, 79, 80, 81, 82, 83, 1133, 1134, 1135, 1136, 205, 1137, 1138, 1139, 1140, 706, 665, 666, 667, 668, 603, 604, 605, 606, 540, 541, 542, 543, 544, 545, 607, 585, 586, 587, 669, 567, 568, 1141, 1075, 1076, 1077, 1142, 1143, 1144, 1145, 1146, 1147, 1148, 956, 957, 958, 1149, 1150, 1151, 1152, 1153, 1154, 1155, 1156, 1157, 1158, 932, 933, 934, 1159, 1160, 1161, 1162, 1163, 1028, 1029, 1030, 1164, 1165, 1166, 1167, 1168, 1169, 1170, 1171, 1469, 1470, 1471, 1472, 1473, 1474, 1498, 1499, 1500, 1501, 1523, 1524, 1525, 1526, 1527, 1528, 1529, 1530, 1514, 1515, 1516, 1517, 1518, 1519, 1520, 1521, 1522] (by decide +kernel) (by decide +kernel)) (goodIn_sub (fun _ h => List.mem_append_right _ h) (by decide +kernel))) (goodIn_sub (fun _ h => List.mem_append_left _ (List.mem_append_left _ (List.mem_append_left _ (List.mem_append_right _ h)))) (by decide +kernel))
set_option maxRecDepth 20000 in
theorem gL_law_L_willBeAnswered : GoodIn wsL_law (va_wsS RL 341 yL_willBeAnswered wsL_willBeAnswered) := goodIn_app (goodIn_of _ (by decide +kernel)) ggL_law_L_willBeAnswered
set_option maxRecDepth 20000 in
theorem ggL_law_X10_willBeAnswered : GoodIn wsL_law wsX10_willBeAnswered := goodIn_r _ [1249, 357, 312, 314, 757, 758, 759, 5, 760, 381, 382, 383, 680, 681, 682, 683, 479, 480, 481, 482, 483, 484, 333, 334, 335, 1235, 1236, 1237, 1238, 1176, 1177, 1178, 1179, 491, 492, 493, 1180, 1181, 1182, 897, 898, 899, 1183, 1184, 1185, 1082, 1083, 1084, 612, 613, 614, 553, 554, 555, 556, 557, 558, 592, 593, 594, 1186, 1187, 1188, 327, 328, 329, 1189, 1190, 1191, 1012, 1013, 1014, 1192, 1193, 1194, 1195, 1196, 1197, 488, 489, 490, 677, 678, 679, 624, 625, 626, 573, 574, 575, 963, 964, 965, 966, 967, 968, 1198, 1199, 1200, 939, 940, 941, 942, 943, 944, 945, 946, 947, 1201, 1202, 1203, 1204, 1205, 1206, 1207, 1208, 1209, 1210, 1211, 1212, 1213, 1214, 1215, 1475, 1476, 1477, 1478, 1479, 1480, 1481, 1482, 1483, 1484, 1485, 1486, 1487, 1488, 1489, 1490, 1491, 1492, 1493] (by decide +kernel) (by decide +kernel)
set_option maxRecDepth 20000 in
theorem gL_law_X10_willBeAnswered : GoodIn wsL_law (wsV RL 343 RX10 yX10_willBeAnswered wsX10_willBeAnswered) := goodIn_app (goodIn_of _ (by decide +kernel)) ggL_law_X10_willBeAnswered
set_option maxRecDepth 20000 in
theorem ggL_law_L_fileComplaint : GoodIn wsL_law wsL_fileComplaint := goodIn_ca (goodIn_ca (goodIn_r _ [1252, 370, 340, 1253, 1254, 1255, 2, 1256, 345, 346, 20, 392, 393, 25, 521, 536, 537, 538, 375, 376, 661, 662, 663, 877, 274, 275, 63, 276, 277, 81, 77, 78, 1257, 1258, 1259, 24, 1260, 89, 1261, 398, 1262, 1169, 544, 1170, 1263, 283, 284, 19, 285, 203, 56, 60, 64, 286, 287, 288, 55, 289, 290, 291, 292, 251, 68, 293, 294, 295, 296, 297, 298, 299, 59, 300, 260, 301, 72, 302, 73, 303, 304, 305, 306, 307, 79, 80, 82, 83, 1264, 279, 280, 281, 1469, 1470, 1471, 1472, 1473, 1474, 1498, 1499, 1500, 1501, 1523, 1524, 1525, 1526, 1527, 1528, 1529, 1530, 1502, 1503, 1504, 1514, 1515, 1516, 1517, 1518, 1519, 1520, 1521, 1522] (by decide +kernel) (by decide +kernel)) (goodIn_sub (fun _ h => List.mem_append_left _ (List.mem_append_left _ (List.mem_append_left _ (List.mem_append_right _ h)))) (by decide +kernel))) (goodIn_sub (fun _ h => List.mem_append_left _ (List.mem_append_left _ (List.mem_append_right _ h))) (by decide +kernel))
set_option maxRecDepth 20000 in
theorem gL_law_L_fileComplaint : GoodIn wsL_law (va_wsS RL 344 yL_fileComplaint wsL_fileComplaint) := goodIn_app (goodIn_of _ (by decide +kernel)) ggL_law_L_fileComplaint
set_option maxRecDepth 20000 in
theorem ggL_law_X10_fileComplaint : GoodIn wsL_law wsX10_fileComplaint := goodIn_r _ [1268, 357, 312, 882, 883, 5, 884, 381, 382, 383, 359, 360, 361, 362, 674, 675, 676, 476, 477, 478, 479, 480, 481, 482, 483, 484, 333, 334, 335, 485, 486, 487, 488, 489, 490, 1269, 1270, 1271, 1272, 409, 315, 491, 492, 493, 330, 331, 332, 1475, 1476, 1477, 1478, 1479, 1480, 1481, 1482, 1483, 1484, 1485, 1486, 1487, 1488, 1489, 1490, 1491, 1492, 1493] (by decide +kernel) (by decide +kernel)
set_option maxRecDepth 20000 in
theorem gL_law_X10_fileComplaint : GoodIn wsL_law (wsV RL 347 RX10 yX10_fileComplaint wsX10_fileComplaint) := goodIn_app (goodIn_of _ (by decide +kernel)) ggL_law_X10_fileComplaint
set_option maxRecDepth 20000 in
theorem ggL_law_L_giveUp : GoodIn wsL_law wsL_giveUp := goodIn_ca (goodIn_ca (goodIn_r _ [1275, 733, 340, 1276, 1277, 1278, 2, 1279, 25, 20, 392, 521, 792, 739, 740, 741, 742, 743, 744, 745, 746, 747, 63, 748, 277, 1223, 1224, 1225, 1226, 345, 346, 804, 1257, 1258, 1259, 24, 1260, 89, 1261, 398, 1262, 1169, 544, 1170, 1263, 283, 284, 19, 285, 203, 56, 60, 64, 286, 287, 288, 55, 289, 290, 291, 292, 251, 68, 293, 294, 295, 296, 297, 298, 299, 59, 300, 260, 301, 72, 302, 73, 303, 304, 305, 306, 77, 307, 78, 79, 80, 81, 82, 83, 1280, 1150, 1151, 1152, 1153, 1469, 1470, 1471, 1472, 1473, 1474, 1498, 1499, 1500, 1501, 1523, 1524, 1525, 1526, 1527, 1528, 1529, 1530, 1502, 1503, 1504, 1514, 1515, 1516, 1517, 1518, 1519, 1520, 1521, 1522] (by decide +kernel) (by decide +kernel)) (goodIn_sub (fun _ h => List.mem_append_right _ h) (by decide +kernel))) (goodIn_sub (fun _ h => List.mem_append_left _ (List.mem_append_left _ (List.mem_append_left _ (List.mem_append_right _ h)))) (by decide +kernel))
set_option maxRecDepth 20000 in
theorem gL_law_L_giveUp : GoodIn wsL_law (va_wsS RL 348 yL_giveUp wsL_giveUp) := goodIn_app (goodIn_of _ (by decide +kernel)) ggL_law_L_giveUp
set_option maxRecDepth 20000 in
theorem ggL_law_X10_giveUp : GoodIn wsL_law wsX10_giveUp := goodIn_r _ [1284, 357, 312, 757, 758, 759, 5, 760, 381, 382, 383, 359, 360, 361, 362, 479, 480, 481, 482, 483, 484, 333, 334, 335, 1269, 1270, 1271, 1272, 409, 315, 491, 492, 493, 1198, 1199, 1200, 1204, 1205, 1206, 945, 946, 947, 1475, 1476, 1477, 1478, 1479, 1480, 1481, 1482, 1483, 1484, 1485, 1486, 1487, 1488, 1489, 1490, 1491, 1492, 1493] (by decide +kernel) (by decide +kernel)
set_option maxRecDepth 20000 in
theorem gL_law_X10_giveUp : GoodIn wsL_law (wsV RL 350 RX10 yX10_giveUp wsX10_giveUp) := goodIn_app (goodIn_of _ (by decide +kernel)) ggL_law_X10_giveUp
set_option maxRecDepth 20000 in
theorem ggL_law_L_addClerk : GoodIn wsL_law wsL_addClerk := goodIn_ca (goodIn_ca (goodIn_r _ [1287, 370, 340, 1288, 1289, 1290, 2, 1291, 345, 346, 20, 988, 989, 25, 536, 537, 538, 375, 376, 1257, 1258, 1259, 24, 1260, 89, 1261, 398, 1262, 1169, 544, 1170, 1263, 283, 284, 19, 285, 203, 56, 60, 64, 286, 287, 288, 55, 289, 290, 291, 292, 251, 68, 293, 294, 295, 296, 297, 298, 299, 59, 300, 260, 301, 72, 302, 73, 303, 304, 305, 63, 306, 277, 77, 307, 78, 79, 80, 81, 82, 83, 1292, 257, 258, 259, 1469, 1470, 1471, 1472, 1473, 1474, 1498, 1499, 1500, 1501, 1519, 1520, 1521, 1522, 1502, 1503, 1504, 1514, 1515, 1516, 1517, 1518, 1523, 1524, 1525, 1526, 1527, 1528, 1529, 1530] (by decide +kernel) (by decide +kernel)) (goodIn_sub (fun _ h => List.mem_append_left _ (List.mem_append_left _ (List.mem_append_left _ (List.mem_append_right _ h)))) (by decide +kernel))) (goodIn_sub (fun _ h => List.mem_append_left _ (List.mem_append_left _ (List.mem_append_right _ h))) (by decide +kernel))
set_option maxRecDepth 20000 in
theorem gL_law_L_addClerk : GoodIn wsL_law (va_wsS RL 351 yL_addClerk wsL_addClerk) := goodIn_app (goodIn_of _ (by decide +kernel)) ggL_law_L_addClerk
set_option maxRecDepth 20000 in
theorem ggL_law_X10_addClerk : GoodIn wsL_law wsX10_addClerk := goodIn_r _ [1296, 357, 312, 381, 382, 5, 383, 359, 360, 361, 362, 1269, 1270, 1271, 1272, 409, 315, 491, 492, 493, 324, 325, 326, 327, 328, 329, 1475, 1476, 1477, 1478, 1479, 1480, 1481, 1482, 1483, 1484, 1485, 1486, 1487, 1488, 1489, 1490, 1491, 1492, 1493] (by decide +kernel) (by decide +kernel)
set_option maxRecDepth 20000 in
theorem gL_law_X10_addClerk : GoodIn wsL_law (wsV RL 353 RX10 yX10_addClerk wsX10_addClerk) := goodIn_app (goodIn_of _ (by decide +kernel)) ggL_law_X10_addClerk
set_option maxRecDepth 20000 in
theorem ggL_law_L_refill : GoodIn wsL_law wsL_refill := goodIn_ca (goodIn_ca (goodIn_r _ [1299, 733, 370, 1300, 1301, 1302, 2, 1303, 25, 20, 988, 1050, 1304, 1169, 544, 1170, 1023, 1024, 1025, 1026, 743, 744, 1027, 1028, 1029, 59, 1030, 260, 536, 537, 538, 375, 376, 1257, 1258, 1259, 24, 1260, 89, 1261, 398, 1262, 1263, 283, 284, 19, 285, 203, 56, 60, 64, 286, 287, 288, 55, 289, 290, 291, 292, 251, 68, 293, 294, 295, 296, 297, 298, 299, 300, 301, 72, 302, 73, 303, 304, 305, 63, 306, 277, 77, 307, 78, 79, 80, 81, 82, 83, 1469, 1470, 1471, 1472, 1473, 1474, 1498, 1499, 1500, 1501, 1519, 1520, 1521, 1522, 1502, 1503, 1504, 1514, 1515, 1516, 1517, 1518, 1523, 1524, 1525, 1526, 1527, 1528, 1529, 1530] (by decide +kernel) (by decide +kernel)) (goodIn_sub (fun _ h => List.mem_append_right _ h) (by decide +kernel))) (goodIn_sub (fun _ h => List.mem_append_left _ (List.mem_append_left _ (List.mem_append_right _ h))) (by decide +kernel))
set_option maxRecDepth 20000 in
theorem gL_law_L_refill : GoodIn wsL_law (va_wsS RL 354 yL_refill wsL_refill) := goodIn_app (goodIn_of _ (by decide +kernel)) ggL_law_L_refill
set_option maxRecDepth 20000 in
theorem ggL_law_X10_refill : GoodIn wsL_law wsX10_refill := goodIn_r _ [1308, 357, 312, 1039, 1040, 1041, 5, 1042, 381, 382, 383, 359, 360, 361, 362, 1269, 1270, 1271, 1272, 409, 315, 491, 492, 493, 327, 328, 329, 1210, 1211, 1212, 1475, 1476, 1477, 1478, 1479, 1480, 1481, 1482, 1483, 1484, 1485, 1486, 1487, 1488, 1489, 1490, 1491, 1492, 1493] (by decide +kernel) (by decide +kernel)
set_option maxRecDepth 20000 in
theorem gL_law_X10_refill : GoodIn wsL_law (wsV RL 356 RX10 yX10_refill wsX10_refill) := goodIn_app (goodIn_of _ (by decide +kernel)) ggL_law_X10_refill
set_option maxRecDepth 20000 in
theorem ggL_law_L_setCloud : GoodIn wsL_law wsL_setCloud := goodIn_ca (goodIn_ca (goodIn_r _ [1311, 733, 370, 1312, 1313, 1314, 2, 1315, 743, 744, 20, 583, 25, 1316, 1317, 1318, 1319, 55, 1320, 251, 536, 537, 538, 375, 376, 1257, 1258, 1259, 24, 1260, 89, 1261, 398, 1262, 1169, 544, 1170, 1263, 283, 284, 19, 285, 203, 56, 60, 64, 286, 287, 288, 289, 290, 291, 292, 68, 293, 294, 295, 296, 297, 298, 299, 59, 300, 260, 301, 72, 302, 73, 303, 304, 305, 63, 306, 277, 77, 307, 78, 79, 80, 81, 82, 83, 1469, 1470, 1471, 1472, 1473, 1474, 1498, 1499, 1500, 1501, 1514, 1515, 1516, 1517, 1518, 1502, 1503, 1504, 1519, 1520, 1521, 1522, 1523, 1524, 1525, 1526, 1527, 1528, 1529, 1530] (by decide +kernel) (by decide +kernel)) (goodIn_sub (fun _ h => List.mem_append_right _ h) (by decide +kernel))) (goodIn_sub (fun _ h => List.mem_append_left _ (List.mem_append_left _ (List.mem_append_right _ h))) (by decide +kernel))
set_option maxRecDepth 20000 in
theorem gL_law_L_setCloud : GoodIn wsL_law (va_wsS RL 357 yL_setCloud wsL_setCloud) := goodIn_app (goodIn_of _ (by decide +kernel)) ggL_law_L_setCloud
set_option maxRecDepth 20000 in
theorem ggL_law_X10_setCloud : GoodIn wsL_law wsX10_setCloud := goodIn_r _ [1324, 357, 312, 381, 382, 5, 383, 359, 360, 361, 362, 1325, 1326, 1327, 1328, 1269, 1270, 1271, 1272, 409, 315, 491, 492, 493, 1475, 1476, 1477, 1478, 1479, 1480, 1481, 1482, 1483, 1484, 1485, 1486, 1487, 1488, 1489, 1490, 1491, 1492, 1493] (by decide +kernel) (by decide +kernel)
set_option maxRecDepth 20000 in
theorem gL_law_X10_setCloud : GoodIn wsL_law (wsV RL 359 RX10 yX10_setCloud wsX10_setCloud) := goodIn_app (goodIn_of _ (by decide +kernel)) ggL_law_X10_setCloud
set_option maxRecDepth 20000 in
theorem ggL_law_L_setGlareLimit : GoodIn wsL_law wsL_setGlareLimit := goodIn_ca (goodIn_r _ [1331, 370, 1332, 1333, 1334, 2, 1335, 25, 20, 583, 619, 536, 537, 538, 375, 376, 1257, 1258, 1259, 24, 1260, 89, 1261, 398, 1262, 1169, 544, 1170, 1263, 283, 284, 19, 285, 203, 56, 60, 64, 286, 287, 288, 55, 289, 290, 291, 292, 251, 68, 293, 294, 295, 296, 297, 298, 299, 59, 300, 260, 301, 72, 302, 73, 303, 304, 305, 63, 306, 277, 77, 307, 78, 79, 80, 81, 82, 83, 1469, 1470, 1471, 1472, 1473, 1474, 1498, 1499, 1500, 1501, 1514, 1515, 1516, 1517, 1518, 1502, 1503, 1504, 1519, 1520, 1521, 1522, 1523, 1524, 1525, 1526, 1527, 1528, 1529, 1530] (by decide +kernel) (by decide +kernel)) (goodIn_sub (fun _ h => List.mem_append_left _ (List.mem_append_left _ (List.mem_append_right _ h))) (by decide +kernel))
set_option maxRecDepth 20000 in
theorem gL_law_L_setGlareLimit : GoodIn wsL_law (va_wsS RL 360 yL_setGlareLimit wsL_setGlareLimit) := goodIn_app (goodIn_of _ (by decide +kernel)) ggL_law_L_setGlareLimit
set_option maxRecDepth 20000 in
theorem ggL_law_X10_setGlareLimit : GoodIn wsL_law wsX10_setGlareLimit := goodIn_r _ [1339, 357, 381, 382, 5, 383, 359, 360, 361, 362, 1325, 1326, 1327, 1328, 312, 1269, 1270, 1271, 1272, 409, 315, 491, 492, 493, 1475, 1476, 1477, 1478, 1479, 1480, 1481, 1482, 1483, 1484, 1485, 1486, 1487, 1488, 1489, 1490, 1491, 1492, 1493] (by decide +kernel) (by decide +kernel)
set_option maxRecDepth 20000 in
theorem gL_law_X10_setGlareLimit : GoodIn wsL_law (wsV RL 362 RX10 yX10_setGlareLimit wsX10_setGlareLimit) := goodIn_app (goodIn_of _ (by decide +kernel)) ggL_law_X10_setGlareLimit
set_option maxRecDepth 20000 in
theorem ggL_law_L_setGloomLimit : GoodIn wsL_law wsL_setGloomLimit := goodIn_ca (goodIn_r _ [1342, 370, 1343, 1344, 1345, 2, 1346, 25, 20, 583, 631, 536, 537, 538, 375, 376, 1257, 1258, 1259, 24, 1260, 89, 1261, 398, 1262, 1169, 544, 1170, 1263, 283, 284, 19, 285, 203, 56, 60, 64, 286, 287, 288, 55, 289, 290, 291, 292, 251, 68, 293, 294, 295, 296, 297, 298, 299, 59, 300, 260, 301, 72, 302, 73, 303, 304, 305, 63, 306, 277, 77, 307, 78, 79, 80, 81, 82, 83, 1469, 1470, 1471, 1472, 1473, 1474, 1498, 1499, 1500, 1501, 1514, 1515, 1516, 1517, 1518, 1502, 1503, 1504, 1519, 1520, 1521, 1522, 1523, 1524, 1525, 1526, 1527, 1528, 1529, 1530] (by decide +kernel) (by decide +kernel)) (goodIn_sub (fun _ h => List.mem_append_left _ (List.mem_append_left _ (List.mem_append_right _ h))) (by decide +kernel))
set_option maxRecDepth 20000 in
theorem gL_law_L_setGloomLimit : GoodIn wsL_law (va_wsS RL 363 yL_setGloomLimit wsL_setGloomLimit) := goodIn_app (goodIn_of _ (by decide +kernel)) ggL_law_L_setGloomLimit
set_option maxRecDepth 20000 in
theorem ggL_law_X10_setGloomLimit : GoodIn wsL_law wsX10_setGloomLimit := goodIn_r _ [1350, 357, 381, 382, 5, 383, 359, 360, 361, 362, 1325, 1326, 1327, 1328, 312, 1269, 1270, 1271, 1272, 409, 315, 491, 492, 493, 1475, 1476, 1477, 1478, 1479, 1480, 1481, 1482, 1483, 1484, 1485, 1486, 1487, 1488, 1489, 1490, 1491, 1492, 1493] (by decide +kernel) (by decide +kernel)
set_option maxRecDepth 20000 in
theorem gL_law_X10_setGloomLimit : GoodIn wsL_law (wsV RL 365 RX10 yX10_setGloomLimit wsX10_setGloomLimit) := goodIn_app (goodIn_of _ (by decide +kernel)) ggL_law_X10_setGloomLimit
set_option maxRecDepth 20000 in
theorem ggL_law_L_setTideLimit : GoodIn wsL_law wsL_setTideLimit := goodIn_ca (goodIn_r _ [1353, 370, 1354, 1355, 1356, 2, 1357, 25, 20, 583, 640, 536, 537, 538, 375, 376, 1257, 1258, 1259, 24, 1260, 89, 1261, 398, 1262, 1169, 544, 1170, 1263, 283, 284, 19, 285, 203, 56, 60, 64, 286, 287, 288, 55, 289, 290, 291, 292, 251, 68, 293, 294, 295, 296, 297, 298, 299, 59, 300, 260, 301, 72, 302, 73, 303, 304, 305, 63, 306, 277, 77, 307, 78, 79, 80, 81, 82, 83, 1469, 1470, 1471, 1472, 1473, 1474, 1498, 1499, 1500, 1501, 1514, 1515, 1516, 1517, 1518, 1502, 1503, 1504, 1519, 1520, 1521, 1522, 1523, 1524, 1525, 1526, 1527, 1528, 1529, 1530] (by decide +kernel) (by decide +kernel)) (goodIn_sub (fun _ h => List.mem_append_left _ (List.mem_append_left _ (List.mem_append_right _ h))) (by decide +kernel))
set_option maxRecDepth 20000 in
theorem gL_law_L_setTideLimit : GoodIn wsL_law (va_wsS RL 366 yL_setTideLimit wsL_setTideLimit) := goodIn_app (goodIn_of _ (by decide +kernel)) ggL_law_L_setTideLimit
set_option maxRecDepth 20000 in
theorem ggL_law_X10_setTideLimit : GoodIn wsL_law wsX10_setTideLimit := goodIn_r _ [1361, 357, 381, 382, 5, 383, 359, 360, 361, 362, 1325, 1326, 1327, 1328, 312, 1269, 1270, 1271, 1272, 409, 315, 491, 492, 493, 1475, 1476, 1477, 1478, 1479, 1480, 1481, 1482, 1483, 1484, 1485, 1486, 1487, 1488, 1489, 1490, 1491, 1492, 1493] (by decide +kernel) (by decide +kernel)
set_option maxRecDepth 20000 in
theorem gL_law_X10_setTideLimit : GoodIn wsL_law (wsV RL 368 RX10 yX10_setTideLimit wsX10_setTideLimit) := goodIn_app (goodIn_of _ (by decide +kernel)) ggL_law_X10_setTideLimit
set_option maxRecDepth 20000 in
theorem ggL_law_L_endNights : GoodIn wsL_law wsL_endNights := goodIn_ca (goodIn_ca (goodIn_r _ [1364, 370, 340, 1365, 1366, 1367, 2, 1368, 345, 346, 20, 521, 25, 536, 537, 538, 375, 376, 1257, 1258, 1259, 24, 1260, 89, 1261, 398, 1262, 1169, 544, 1170, 1263, 283, 284, 19, 285, 203, 56, 60, 64, 286, 287, 288, 55, 289, 290, 291, 292, 251, 68, 293, 294, 295, 296, 297, 298, 299, 59, 300, 260, 301, 72, 302, 73, 303, 304, 305, 63, 306, 277, 77, 307, 78, 79, 80, 81, 82, 83, 1133, 1134, 1135, 1136, 205, 1137, 1138, 1139, 1140, 706, 665, 666, 667, 668, 603, 604, 605, 606, 540, 541, 542, 543, 545, 607, 585, 586, 587, 669, 567, 568, 1141, 1075, 1076, 1077, 1142, 1143, 1144, 1145, 1146, 1147, 1148, 956, 957, 958, 1149, 1150, 1151, 1152, 1153, 746, 747, 748, 1154, 1155, 1156, 1157, 1158, 932, 933, 934, 1159, 1160, 1161, 1162, 1163, 1028, 1029, 1030, 1164, 1165, 1166, 1167, 1168, 1171, 1469, 1470, 1471, 1472, 1473, 1474, 1498, 1499, 1500, 1501, 1502, 1503, 1504, 1514, 1515, 1516, 1517, 1518, 1519, 1520, 1521, 1522, 1523, 1524, 1525, 1526, 1527, 1528, 1529, 1530] (by decide +kernel) (by decide +kernel)) (goodIn_sub (fun _ h => List.mem_append_left _ (List.mem_append_left _ (List.mem_append_left _ (List.mem_append_right _ h)))) (by decide +kernel))) (goodIn_sub (fun _ h => List.mem_append_left _ (List.mem_append_left _ (List.mem_append_right _ h))) (by decide +kernel))
set_option maxRecDepth 20000 in
theorem gL_law_L_endNights : GoodIn wsL_law (va_wsS RL 369 yL_endNights wsL_endNights) := goodIn_app (goodIn_of _ (by decide +kernel)) ggL_law_L_endNights
set_option maxRecDepth 20000 in
theorem ggL_law_X10_endNights : GoodIn wsL_law wsX10_endNights := goodIn_r _ [1372, 357, 312, 381, 382, 5, 383, 359, 360, 361, 362, 1269, 1270, 1271, 1272, 409, 315, 491, 492, 493, 1180, 1181, 1182, 897, 898, 899, 482, 483, 484, 333, 334, 335, 1183, 1184, 1185, 1082, 1083, 1084, 612, 613, 614, 553, 554, 555, 556, 557, 558, 592, 593, 594, 1186, 1187, 1188, 327, 328, 329, 1189, 1190, 1191, 1012, 1013, 1014, 1192, 1193, 1194, 1195, 1196, 1197, 479, 480, 481, 488, 489, 490, 677, 678, 679, 624, 625, 626, 573, 574, 575, 963, 964, 965, 966, 967, 968, 1198, 1199, 1200, 939, 940, 941, 942, 943, 944, 945, 946, 947, 1201, 1202, 1203, 1204, 1205, 1206, 1207, 1208, 1209, 1210, 1211, 1212, 1213, 1214, 1215, 1475, 1476, 1477, 1478, 1479, 1480, 1481, 1482, 1483, 1484, 1485, 1486, 1487, 1488, 1489, 1490, 1491, 1492, 1493] (by decide +kernel) (by decide +kernel)
set_option maxRecDepth 20000 in
theorem gL_law_X10_endNights : GoodIn wsL_law (wsV RL 371 RX10 yX10_endNights wsX10_endNights) := goodIn_app (goodIn_of _ (by decide +kernel)) ggL_law_X10_endNights
set_option maxRecDepth 20000 in
theorem ggL_law_L_undo : GoodIn wsL_law wsL_undo := goodIn_ca (goodIn_r _ [1375, 340, 1376, 1377, 1378, 2, 1379, 345, 346, 25, 1380, 20, 1381, 1382, 1383, 24, 1384, 398, 1261, 89, 1263, 283, 284, 19, 285, 203, 56, 60, 64, 286, 287, 288, 55, 289, 290, 291, 292, 251, 68, 293, 294, 295, 296, 297, 298, 299, 59, 300, 260, 301, 72, 302, 73, 303, 304, 305, 63, 306, 277, 77, 307, 78, 79, 80, 81, 82, 83, 1469, 1470, 1471, 1472, 1473, 1474, 1502, 1503, 1504, 1498, 1499, 1500, 1501, 1514, 1515, 1516, 1517, 1518, 1519, 1520, 1521, 1522, 1523, 1524, 1525, 1526, 1527, 1528, 1529, 1530] (by decide +kernel) (by decide +kernel)) (goodIn_sub (fun _ h => List.mem_append_left _ (List.mem_append_left _ (List.mem_append_left _ (List.mem_append_right _ h)))) (by decide +kernel))
set_option maxRecDepth 20000 in
theorem gL_law_L_undo : GoodIn wsL_law (va_wsS RL 372 yL_undo wsL_undo) := goodIn_app (goodIn_of _ (by decide +kernel)) ggL_law_L_undo
set_option maxRecDepth 20000 in
theorem ggL_law_X10_undo : GoodIn wsL_law wsX10_undo := goodIn_r _ [1388, 357, 409, 315, 312, 359, 360, 361, 5, 362, 491, 492, 493, 1475, 1476, 1477, 1478, 1479, 1480, 1481, 1482, 1483, 1484, 1485, 1486, 1487, 1488, 1489, 1490, 1491, 1492, 1493] (by decide +kernel) (by decide +kernel)
set_option maxRecDepth 20000 in
theorem gL_law_X10_undo : GoodIn wsL_law (wsV RL 374 RX10 yX10_undo wsX10_undo) := goodIn_app (goodIn_of _ (by decide +kernel)) ggL_law_X10_undo
set_option maxRecDepth 20000 in
theorem ggL_law_L_saveSnapshot : GoodIn wsL_law wsL_saveSnapshot := goodIn_ca (goodIn_r _ [1391, 733, 1392, 1393, 1394, 2, 1395, 29, 20, 521, 1396, 1397, 1398, 743, 744, 1399, 1400, 1401, 28, 1402, 97, 95, 1403, 283, 284, 19, 285, 203, 56, 60, 64, 286, 287, 288, 55, 289, 290, 291, 292, 251, 68, 293, 294, 295, 296, 297, 298, 299, 59, 300, 260, 301, 72, 302, 73, 303, 304, 305, 63, 306, 277, 77, 307, 78, 79, 80, 81, 82, 83, 1469, 1470, 1471, 1472, 1473, 1474, 1498, 1499, 1500, 1501, 1505, 1506, 1514, 1515, 1516, 1517, 1518, 1519, 1520, 1521, 1522, 1523, 1524, 1525, 1526, 1527, 1528, 1529, 1530] (by decide +kernel) (by decide +kernel)) (goodIn_sub (fun _ h => List.mem_append_right _ h) (by decide +kernel))
set_option maxRecDepth 20000 in
theorem gL_law_L_saveSnapshot : GoodIn wsL_law (va_wsS RL 375 yL_saveSnapshot wsL_saveSnapshot) := goodIn_app (goodIn_of _ (by decide +kernel)) ggL_law_L_saveSnapshot
set_option maxRecDepth 20000 in
theorem ggL_law_X10_saveSnapshot : GoodIn wsL_law wsX10_saveSnapshot := goodIn_r _ [1407, 357, 312, 316, 317, 381, 382, 5, 383, 359, 360, 361, 362, 491, 492, 493, 1475, 1476, 1477, 1478, 1479, 1480, 1481, 1482, 1483, 1484, 1485, 1486, 1487, 1488, 1489, 1490, 1491, 1492, 1493] (by decide +kernel) (by decide +kernel)
set_option maxRecDepth 20000 in
theorem gL_law_X10_saveSnapshot : GoodIn wsL_law (wsV RL 377 RX10 yX10_saveSnapshot wsX10_saveSnapshot) := goodIn_app (goodIn_of _ (by decide +kernel)) ggL_law_X10_saveSnapshot
set_option maxRecDepth 20000 in
theorem ggL_law_L_restoreSnapshot : GoodIn wsL_law wsL_restoreSnapshot := goodIn_ca (goodIn_ca (goodIn_r _ [1410, 733, 505, 1411, 1412, 1413, 2, 1414, 510, 511, 29, 1415, 25, 20, 1416, 521, 1396, 1397, 1398, 743, 744, 1257, 1258, 1259, 24, 1260, 89, 1261, 398, 1262, 1169, 544, 1170, 1263, 283, 284, 19, 285, 203, 56, 60, 64, 286, 287, 288, 55, 289, 290, 291, 292, 251, 68, 293, 294, 295, 296, 297, 298, 299, 59, 300, 260, 301, 72, 302, 73, 303, 304, 305, 63, 306, 277, 77, 307, 78, 79, 80, 81, 82, 83, 282, 1469, 1470, 1471, 1472, 1473, 1474, 1505, 1506, 1498, 1499, 1500, 1501, 1502, 1503, 1504, 1514, 1515, 1516, 1517, 1518, 1519, 1520, 1521, 1522, 1523, 1524, 1525, 1526, 1527, 1528, 1529, 1530] (by decide +kernel) (by decide +kernel)) (goodIn_sub (fun _ h => List.mem_append_left _ (List.mem_append_right _ h)) (by decide +kernel))) (goodIn_sub (fun _ h => List.mem_append_right _ h) (by decide +kernel))
set_option maxRecDepth 20000 in
theorem gL_law_L_restoreSnapshot : GoodIn wsL_law (va_wsS RL 378 yL_restoreSnapshot wsL_restoreSnapshot) := goodIn_app (goodIn_of _ (by decide +kernel)) ggL_law_L_restoreSnapshot
set_option maxRecDepth 20000 in
theorem ggL_law_X10_restoreSnapshot : GoodIn wsL_law wsX10_restoreSnapshot := goodIn_r _ [1420, 357, 317, 316, 312, 381, 382, 5, 383, 359, 360, 361, 362, 1269, 1270, 1271, 1272, 409, 315, 491, 492, 493, 1475, 1476, 1477, 1478, 1479, 1480, 1481, 1482, 1483, 1484, 1485, 1486, 1487, 1488, 1489, 1490, 1491, 1492, 1493] (by decide +kernel) (by decide +kernel)
set_option maxRecDepth 20000 in
theorem gL_law_X10_restoreSnapshot : GoodIn wsL_law (wsV RL 380 RX10 yX10_restoreSnapshot wsX10_restoreSnapshot) := goodIn_app (goodIn_of _ (by decide +kernel)) ggL_law_X10_restoreSnapshot
set_option maxRecDepth 20000 in
theorem ggL_law_L_writeComplaints : GoodIn wsL_law wsL_writeComplaints := goodIn_ca (goodIn_r _ [1423, 370, 1424, 1425, 1426, 2, 1427, 33, 1428, 20, 392, 393, 738, 804, 536, 537, 538, 375, 376, 1429, 1430, 1431, 32, 1432, 1433, 1434, 1435, 1436, 1437, 101, 1438, 1439, 1440, 1469, 1470, 1471, 1472, 1473, 1474, 1507, 1508, 1498, 1499, 1500, 1501, 1523, 1524, 1525, 1526, 1527, 1528, 1529, 1530] (by decide +kernel) (by decide +kernel)) (goodIn_sub (fun _ h => List.mem_append_left _ (List.mem_append_left _ (List.mem_append_right _ h))) (by decide +kernel))
set_option maxRecDepth 20000 in
theorem gL_law_L_writeComplaints : GoodIn wsL_law (va_wsS RL 381 yL_writeComplaints wsL_writeComplaints) := goodIn_app (goodIn_of _ (by decide +kernel)) ggL_law_L_writeComplaints
set_option maxRecDepth 20000 in
theorem ggL_law_X10_writeComplaints : GoodIn wsL_law wsX10_writeComplaints := goodIn_r _ [1444, 357, 1445, 312, 882, 883, 5, 884, 381, 382, 383, 359, 360, 361, 362, 485, 486, 487, 333, 334, 335, 1446, 1447, 1448, 1449, 1450, 1451, 1452, 1453, 320, 1454, 1455, 1456, 1475, 1476, 1477, 1478, 1479, 1480, 1481, 1482, 1483, 1484, 1485, 1486, 1487, 1488, 1489, 1490, 1491, 1492, 1493] (by decide +kernel) (by decide +kernel)
set_option maxRecDepth 20000 in
theorem gL_law_X10_writeComplaints : GoodIn wsL_law (wsV RL 383 RX10 yX10_writeComplaints wsX10_writeComplaints) := goodIn_app (goodIn_of _ (by decide +kernel)) ggL_law_X10_writeComplaints
set_option maxRecDepth 20000 in
theorem ggL_law_L_writtenByte : GoodIn wsL_law wsL_writtenByte := goodIn_ca (goodIn_r _ [1459, 733, 1460, 1461, 1462, 2, 1463, 743, 744, 33, 1428, 1464, 1469, 1470, 1471, 1472, 1473, 1474, 1507, 1508] (by decide +kernel) (by decide +kernel)) (goodIn_sub (fun _ h => List.mem_append_right _ h) (by decide +kernel))
set_option maxRecDepth 20000 in
theorem gL_law_L_writtenByte : GoodIn wsL_law (va_wsS RL 384 yL_writtenByte wsL_writtenByte) := goodIn_app (goodIn_of _ (by decide +kernel)) ggL_law_L_writtenByte
set_option maxRecDepth 20000 in
theorem ggL_law_X10_writtenByte : GoodIn wsL_law wsX10_writtenByte := goodIn_r _ [1468, 357, 1445, 320, 381, 382, 5, 383, 359, 360, 361, 362, 1475, 1476, 1477, 1478, 1479, 1480, 1481, 1482, 1483, 1484, 1485, 1486, 1487, 1488, 1489, 1490, 1491, 1492, 1493] (by decide +kernel) (by decide +kernel)
set_option maxRecDepth 20000 in
theorem gL_law_X10_writtenByte : GoodIn wsL_law (wsV RL 386 RX10 yX10_writtenByte wsX10_writtenByte) := goodIn_app (goodIn_of _ (by decide +kernel)) ggL_law_X10_writtenByte
