set_option maxRecDepth 20000 in
theorem ggL_law_X8_back : GoodIn wsL_law wsX8_back := goodIn_r _ [538, 373, 24, 30, 150, 151, 2, 152, 517, 518, 519, 520, 25, 26, 374, 192, 193, 22, 194, 80, 81, 86, 87, 72, 73, 74, 195, 196, 197, 48, 198, 59, 199, 200, 201, 202, 521, 522, 523, 524, 525, 526, 527, 775, 776, 777, 778, 779, 780, 781, 782, 783, 784, 785, 824, 825, 826, 827, 817, 818, 819, 820, 821, 822, 823, 838] (by decide +kernel) (by decide +kernel)
set_option maxRecDepth 20000 in
theorem gL_law_X8_back : GoodIn wsL_law (wsV RL 64 RX8 yX8_back wsX8_back) := goodIn_app (goodIn_of _ (by decide +kernel)) ggL_law_X8_back
set_option maxRecDepth 20000 in
theorem ggL_law_X9_back : GoodIn wsL_law wsX9_back := goodIn_r _ [542, 163, 137, 131, 135, 380, 166, 167, 5, 168, 532, 533, 534, 786, 787, 788, 789, 790, 791, 792, 793, 794, 795, 796, 797, 798, 799, 800, 801, 802, 803, 804, 805, 806, 807, 808] (by decide +kernel) (by decide +kernel)
set_option maxRecDepth 20000 in
theorem gL_law_X9_back : GoodIn wsL_law (wsV RL 67 RX9 yX9_back wsX9_back) := goodIn_app (goodIn_of _ (by decide +kernel)) ggL_law_X9_back
set_option maxRecDepth 20000 in
theorem ggL_law_X8_stone : GoodIn wsL_law wsX8_stone := goodIn_r _ [546, 24, 385, 386, 387, 22, 388, 86, 151, 2, 152, 150, 547, 548, 549, 550, 73, 74, 81, 403, 200, 201, 48, 202, 59, 551, 552, 553, 554, 80, 404, 405, 406, 407, 72, 775, 776, 777, 778, 779, 780, 781, 782, 783, 784, 785, 817, 818, 819, 820, 821, 822, 823, 838] (by decide +kernel) (by decide +kernel)
set_option maxRecDepth 20000 in
theorem gL_law_X8_stone : GoodIn wsL_law (wsV RL 68 RX8 yX8_stone wsX8_stone) := goodIn_app (goodIn_of _ (by decide +kernel)) ggL_law_X8_stone
set_option maxRecDepth 20000 in
theorem ggL_law_X9_stone : GoodIn wsL_law wsX9_stone := goodIn_r _ [558, 163, 559, 413, 414, 415, 5, 416, 131, 166, 167, 168, 417, 418, 419, 420, 421, 422, 423, 424, 425, 426, 427, 428, 786, 787, 788, 789, 790, 791, 792, 793, 794, 795, 796, 797, 798, 799, 800, 801, 802, 803, 804, 805, 806, 807, 808] (by decide +kernel) (by decide +kernel)
set_option maxRecDepth 20000 in
theorem gL_law_X9_stone : GoodIn wsL_law (wsV RL 71 RX9 yX9_stone wsX9_stone) := goodIn_app (goodIn_of _ (by decide +kernel)) ggL_law_X9_stone
set_option maxRecDepth 20000 in
theorem ggL_law_X8_law : GoodIn wsL_law wsX8_law := goodIn_r _ [563, 38, 24, 150, 151, 2, 152, 564, 565, 566, 37, 567, 568, 569, 117, 570, 548, 549, 22, 550, 73, 74, 81, 403, 200, 201, 48, 202, 59, 551, 552, 553, 554, 80, 404, 405, 406, 407, 72, 571, 93, 94, 95, 572, 573, 574, 575, 576, 577, 578, 579, 580, 581, 582, 583, 584, 585, 586, 587, 588, 589, 590, 775, 776, 777, 778, 779, 780, 781, 782, 783, 784, 785, 817, 818, 819, 820, 821, 822, 823, 832, 833, 834, 838] (by decide +kernel) (by decide +kernel)
set_option maxRecDepth 20000 in
theorem gL_law_X8_law : GoodIn wsL_law (wsV RL 72 RX8 yX8_law wsX8_law) := goodIn_app (goodIn_of _ (by decide +kernel)) ggL_law_X8_law
set_option maxRecDepth 20000 in
theorem ggL_law_X9_law : GoodIn wsL_law wsX9_law := goodIn_r _ [594, 163, 559, 131, 595, 596, 166, 167, 5, 168, 597, 598, 599, 600, 417, 418, 419, 420, 421, 422, 423, 424, 425, 426, 427, 428, 601, 602, 603, 786, 787, 788, 789, 790, 791, 792, 793, 794, 795, 796, 797, 798, 799, 800, 801, 802, 803, 804, 805, 806, 807, 808] (by decide +kernel) (by decide +kernel)
set_option maxRecDepth 20000 in
theorem gL_law_X9_law : GoodIn wsL_law (wsV RL 75 RX9 yX9_law wsX9_law) := goodIn_app (goodIn_of _ (by decide +kernel)) ggL_law_X9_law
set_option maxRecDepth 20000 in
theorem ggL_law_X8_crossed : GoodIn wsL_law wsX8_crossed := goodIn_r _ [607, 608, 609, 610, 2, 611, 38, 24, 564, 565, 566, 37, 567, 568, 569, 117, 570, 548, 549, 22, 550, 73, 74, 81, 403, 200, 201, 48, 202, 59, 551, 552, 553, 554, 80, 404, 405, 406, 407, 72, 571, 93, 94, 95, 581, 582, 583, 584, 576, 577, 578, 579, 580, 572, 573, 574, 575, 775, 776, 777, 778, 779, 780, 781, 782, 783, 784, 785, 817, 818, 819, 820, 821, 822, 823, 832, 833, 834, 838] (by decide +kernel) (by decide +kernel)
set_option maxRecDepth 20000 in
theorem gL_law_X8_crossed : GoodIn wsL_law (wsV RL 76 RX8 yX8_crossed wsX8_crossed) := goodIn_app (goodIn_of _ (by decide +kernel)) ggL_law_X8_crossed
set_option maxRecDepth 20000 in
theorem ggL_law_X9_crossed : GoodIn wsL_law wsX9_crossed := goodIn_r _ [615, 163, 131, 595, 596, 597, 598, 599, 5, 600, 417, 418, 419, 420, 421, 422, 423, 424, 425, 426, 427, 428, 786, 787, 788, 789, 790, 791, 792, 793, 794, 795, 796, 797, 798, 799, 800, 801, 802, 803, 804, 805, 806, 807, 808] (by decide +kernel) (by decide +kernel)
set_option maxRecDepth 20000 in
theorem gL_law_X9_crossed : GoodIn wsL_law (wsV RL 79 RX9 yX9_crossed wsX9_crossed) := goodIn_app (goodIn_of _ (by decide +kernel)) ggL_law_X9_crossed
set_option maxRecDepth 20000 in
theorem ggL_law_X8_books : GoodIn wsL_law wsX8_books := goodIn_r _ [619, 24, 620, 214, 56, 215, 621, 55, 57, 150, 151, 2, 152, 622, 623, 624, 625, 38, 564, 565, 566, 37, 567, 568, 569, 117, 570, 548, 549, 22, 550, 73, 74, 81, 403, 200, 201, 48, 202, 59, 551, 552, 553, 554, 80, 404, 405, 406, 407, 72, 571, 93, 94, 95, 581, 582, 583, 584, 576, 577, 578, 579, 580, 572, 573, 574, 575, 775, 776, 777, 778, 779, 780, 781, 782, 783, 784, 785, 817, 818, 819, 820, 821, 822, 823, 832, 833, 834, 838] (by decide +kernel) (by decide +kernel)
set_option maxRecDepth 20000 in
theorem gL_law_X8_books : GoodIn wsL_law (wsV RL 80 RX8 yX8_books wsX8_books) := goodIn_app (goodIn_of _ (by decide +kernel)) ggL_law_X8_books
set_option maxRecDepth 20000 in
theorem ggL_law_X9_books : GoodIn wsL_law wsX9_books := goodIn_r _ [629, 163, 131, 595, 596, 166, 167, 5, 168, 597, 598, 599, 600, 417, 418, 419, 420, 421, 422, 423, 424, 425, 426, 427, 428, 786, 787, 788, 789, 790, 791, 792, 793, 794, 795, 796, 797, 798, 799, 800, 801, 802, 803, 804, 805, 806, 807, 808] (by decide +kernel) (by decide +kernel)
set_option maxRecDepth 20000 in
theorem gL_law_X9_books : GoodIn wsL_law (wsV RL 83 RX9 yX9_books wsX9_books) := goodIn_app (goodIn_of _ (by decide +kernel)) ggL_law_X9_books
set_option maxRecDepth 20000 in
theorem ggL_law_X8_send : GoodIn wsL_law wsX8_send := goodIn_r _ [633, 24, 38, 150, 151, 2, 152, 564, 565, 566, 37, 567, 568, 569, 117, 570, 548, 549, 22, 550, 73, 74, 81, 403, 200, 201, 48, 202, 59, 551, 552, 553, 554, 80, 404, 405, 406, 407, 72, 571, 93, 94, 95, 634, 635, 636, 637, 521, 522, 523, 524, 525, 526, 527, 638, 639, 640, 641, 572, 573, 574, 575, 576, 577, 578, 579, 580, 581, 582, 583, 584, 775, 776, 777, 778, 779, 780, 781, 782, 783, 784, 785, 817, 818, 819, 820, 821, 822, 823, 832, 833, 834, 838] (by decide +kernel) (by decide +kernel)
set_option maxRecDepth 20000 in
theorem gL_law_X8_send : GoodIn wsL_law (wsV RL 84 RX8 yX8_send wsX8_send) := goodIn_app (goodIn_of _ (by decide +kernel)) ggL_law_X8_send
set_option maxRecDepth 20000 in
theorem ggL_law_X9_send : GoodIn wsL_law wsX9_send := goodIn_r _ [645, 163, 559, 131, 595, 596, 166, 167, 5, 168, 532, 533, 534, 597, 598, 599, 600, 417, 418, 419, 420, 421, 422, 423, 424, 425, 426, 427, 428, 786, 787, 788, 789, 790, 791, 792, 793, 794, 795, 796, 797, 798, 799, 800, 801, 802, 803, 804, 805, 806, 807, 808] (by decide +kernel) (by decide +kernel)
set_option maxRecDepth 20000 in
theorem gL_law_X9_send : GoodIn wsL_law (wsV RL 88 RX9 yX9_send wsX9_send) := goodIn_app (goodIn_of _ (by decide +kernel)) ggL_law_X9_send
set_option maxRecDepth 20000 in
theorem ggL_law_X8_turns : GoodIn wsL_law wsX8_turns := goodIn_r _ [649, 38, 24, 42, 150, 151, 2, 152, 564, 565, 566, 37, 567, 568, 569, 117, 570, 548, 549, 22, 550, 73, 74, 81, 403, 200, 201, 48, 202, 59, 551, 552, 553, 554, 80, 404, 405, 406, 407, 72, 571, 93, 94, 95, 650, 651, 652, 41, 653, 654, 522, 523, 524, 525, 526, 527, 655, 656, 657, 658, 123, 124, 659, 660, 661, 662, 125, 663, 664, 665, 666, 667, 668, 669, 573, 574, 575, 576, 577, 578, 579, 580, 670, 582, 583, 584, 671, 672, 673, 674, 675, 676, 677, 678, 679, 680, 681, 682, 585, 586, 587, 588, 589, 590, 775, 776, 777, 778, 779, 780, 781, 782, 783, 784, 785, 817, 818, 819, 820, 821, 822, 823, 832, 833, 834, 838, 835, 836, 837] (by decide +kernel) (by decide +kernel)
set_option maxRecDepth 20000 in
theorem gL_law_X8_turns : GoodIn wsL_law (wsV RL 89 RX8 yX8_turns wsX8_turns) := goodIn_app (goodIn_of _ (by decide +kernel)) ggL_law_X8_turns
set_option maxRecDepth 20000 in
theorem ggL_law_X9_turns : GoodIn wsL_law wsX9_turns := goodIn_r _ [686, 163, 559, 687, 131, 142, 140, 141, 166, 167, 5, 168, 688, 689, 690, 691, 595, 596, 692, 693, 694, 695, 597, 598, 599, 600, 417, 418, 419, 420, 421, 422, 423, 424, 425, 426, 427, 428, 601, 602, 603, 786, 787, 788, 789, 790, 791, 792, 793, 794, 795, 796, 797, 798, 799, 800, 801, 802, 803, 804, 805, 806, 807, 808] (by decide +kernel) (by decide +kernel)
set_option maxRecDepth 20000 in
theorem gL_law_X9_turns : GoodIn wsL_law (wsV RL 92 RX9 yX9_turns wsX9_turns) := goodIn_app (goodIn_of _ (by decide +kernel)) ggL_law_X9_turns
set_option maxRecDepth 20000 in
theorem ggL_law_X8_seen : GoodIn wsL_law wsX8_seen := goodIn_r _ [699, 24, 34, 385, 386, 387, 22, 388, 86, 151, 2, 152, 150, 700, 701, 702, 33, 703, 109, 704, 110, 111, 705, 93, 94, 48, 95, 59, 775, 776, 777, 778, 779, 780, 781, 782, 783, 784, 785, 817, 818, 819, 820, 821, 822, 823, 828, 829, 830, 831, 838] (by decide +kernel) (by decide +kernel)
set_option maxRecDepth 20000 in
theorem gL_law_X8_seen : GoodIn wsL_law (wsV RL 93 RX8 yX8_seen wsX8_seen) := goodIn_app (goodIn_of _ (by decide +kernel)) ggL_law_X8_seen
set_option maxRecDepth 20000 in
theorem ggL_law_X9_seen : GoodIn wsL_law wsX9_seen := goodIn_r _ [709, 163, 559, 131, 379, 138, 413, 414, 415, 5, 416, 166, 167, 168, 786, 787, 788, 789, 790, 791, 792, 793, 794, 795, 796, 797, 798, 799, 800, 801, 802, 803, 804, 805, 806, 807, 808] (by decide +kernel) (by decide +kernel)
set_option maxRecDepth 20000 in
theorem gL_law_X9_seen : GoodIn wsL_law (wsV RL 96 RX9 yX9_seen wsX9_seen) := goodIn_app (goodIn_of _ (by decide +kernel)) ggL_law_X9_seen
set_option maxRecDepth 20000 in
theorem ggL_law_X8_forget : GoodIn wsL_law wsX8_forget := goodIn_r _ [713, 34, 775, 776, 777, 778, 779, 780, 781, 782, 783, 784, 785, 828, 829, 830, 831] (by decide +kernel) (by decide +kernel)
set_option maxRecDepth 20000 in
theorem gL_law_X8_forget : GoodIn wsL_law (wsV RL 97 RX8 yX8_forget wsX8_forget) := goodIn_app (goodIn_of _ (by decide +kernel)) ggL_law_X8_forget
set_option maxRecDepth 20000 in
theorem ggL_law_X9_forget : GoodIn wsL_law wsX9_forget := goodIn_r _ [717, 163, 379, 786, 787, 788, 789, 790, 791, 792, 793, 794, 795, 796, 797, 798, 799, 800, 801, 802, 803, 804, 805, 806, 807, 808] (by decide +kernel) (by decide +kernel)
set_option maxRecDepth 20000 in
theorem gL_law_X9_forget : GoodIn wsL_law (wsV RL 100 RX9 yX9_forget wsX9_forget) := goodIn_app (goodIn_of _ (by decide +kernel)) ggL_law_X9_forget
set_option maxRecDepth 20000 in
theorem ggL_law_X8_what : GoodIn wsL_law wsX8_what := goodIn_r _ [721, 24, 34, 385, 386, 387, 22, 388, 86, 151, 2, 152, 722, 723, 724, 33, 725, 704, 109, 726, 200, 201, 48, 202, 59, 727, 728, 729, 730, 110, 111, 731, 552, 553, 554, 80, 404, 405, 406, 407, 72, 403, 775, 776, 777, 778, 779, 780, 781, 782, 783, 784, 785, 817, 818, 819, 820, 821, 822, 823, 828, 829, 830, 831, 838] (by decide +kernel) (by decide +kernel)
set_option maxRecDepth 20000 in
theorem gL_law_X8_what : GoodIn wsL_law (wsV RL 101 RX8 yX8_what wsX8_what) := goodIn_app (goodIn_of _ (by decide +kernel)) ggL_law_X8_what
set_option maxRecDepth 20000 in
theorem ggL_law_X9_what : GoodIn wsL_law wsX9_what := goodIn_r _ [735, 163, 379, 138, 131, 413, 414, 415, 5, 416, 166, 167, 168, 421, 422, 423, 424, 425, 426, 427, 428, 786, 787, 788, 789, 790, 791, 792, 793, 794, 795, 796, 797, 798, 799, 800, 801, 802, 803, 804, 805, 806, 807, 808] (by decide +kernel) (by decide +kernel)
set_option maxRecDepth 20000 in
theorem gL_law_X9_what : GoodIn wsL_law (wsV RL 104 RX9 yX9_what wsX9_what) := goodIn_app (goodIn_of _ (by decide +kernel)) ggL_law_X9_what
set_option maxRecDepth 20000 in
theorem ggL_law_X8_miles : GoodIn wsL_law wsX8_miles := goodIn_r _ [739, 34, 24, 150, 151, 2, 152, 740, 741, 742, 33, 743, 704, 109, 726, 200, 201, 48, 202, 59, 727, 728, 729, 730, 110, 111, 731, 552, 553, 22, 554, 80, 404, 405, 406, 407, 72, 403, 775, 776, 777, 778, 779, 780, 781, 782, 783, 784, 785, 828, 829, 830, 831, 817, 818, 819, 820, 821, 822, 823, 838] (by decide +kernel) (by decide +kernel)
set_option maxRecDepth 20000 in
theorem gL_law_X8_miles : GoodIn wsL_law (wsV RL 105 RX8 yX8_miles wsX8_miles) := goodIn_app (goodIn_of _ (by decide +kernel)) ggL_law_X8_miles
set_option maxRecDepth 20000 in
theorem ggL_law_X9_miles : GoodIn wsL_law wsX9_miles := goodIn_r _ [747, 163, 379, 138, 131, 166, 167, 5, 168, 421, 422, 423, 424, 425, 426, 427, 428, 786, 787, 788, 789, 790, 791, 792, 793, 794, 795, 796, 797, 798, 799, 800, 801, 802, 803, 804, 805, 806, 807, 808] (by decide +kernel) (by decide +kernel)
set_option maxRecDepth 20000 in
theorem gL_law_X9_miles : GoodIn wsL_law (wsV RL 108 RX9 yX9_miles wsX9_miles) := goodIn_app (goodIn_of _ (by decide +kernel)) ggL_law_X9_miles
set_option maxRecDepth 20000 in
theorem ggL_law_X8_cider : GoodIn wsL_law wsX8_cider := goodIn_r _ [751, 24, 38, 150, 151, 2, 152, 564, 565, 566, 37, 567, 568, 569, 117, 570, 548, 549, 22, 550, 73, 74, 81, 403, 200, 201, 48, 202, 59, 551, 552, 553, 554, 80, 404, 405, 406, 407, 72, 571, 93, 94, 95, 752, 753, 754, 755, 572, 573, 574, 575, 576, 577, 578, 579, 580, 638, 639, 640, 641, 581, 582, 583, 584, 521, 522, 523, 524, 525, 526, 527, 756, 757, 758, 585, 586, 587, 588, 589, 590, 775, 776, 777, 778, 779, 780, 781, 782, 783, 784, 785, 817, 818, 819, 820, 821, 822, 823, 832, 833, 834, 838] (by decide +kernel) (by decide +kernel)
set_option maxRecDepth 20000 in
theorem gL_law_X8_cider : GoodIn wsL_law (wsV RL 109 RX8 yX8_cider wsX8_cider) := goodIn_app (goodIn_of _ (by decide +kernel)) ggL_law_X8_cider
set_option maxRecDepth 20000 in
theorem ggL_law_X9_cider : GoodIn wsL_law wsX9_cider := goodIn_r _ [762, 163, 559, 131, 338, 595, 596, 166, 167, 5, 168, 692, 693, 694, 695, 597, 598, 599, 600, 417, 418, 419, 420, 421, 422, 423, 424, 425, 426, 427, 428, 601, 602, 603, 786, 787, 788, 789, 790, 791, 792, 793, 794, 795, 796, 797, 798, 799, 800, 801, 802, 803, 804, 805, 806, 807, 808] (by decide +kernel) (by decide +kernel)
set_option maxRecDepth 20000 in
theorem gL_law_X9_cider : GoodIn wsL_law (wsV RL 113 RX9 yX9_cider wsX9_cider) := goodIn_app (goodIn_of _ (by decide +kernel)) ggL_law_X9_cider
set_option maxRecDepth 20000 in
theorem ggL_law_X8_count : GoodIn wsL_law wsX8_count := goodIn_r _ [766, 24, 34, 30, 15, 767, 768, 769, 22, 770, 80, 72, 403, 200, 201, 48, 202, 59, 622, 623, 624, 2, 625, 38, 564, 565, 566, 37, 567, 568, 569, 117, 570, 548, 549, 550, 73, 74, 81, 551, 552, 553, 554, 404, 405, 406, 407, 571, 93, 94, 95, 581, 582, 583, 584, 576, 577, 578, 579, 580, 572, 573, 574, 575, 775, 776, 777, 778, 779, 780, 781, 782, 783, 784, 785, 817, 818, 819, 820, 821, 822, 823, 828, 829, 830, 831, 824, 825, 826, 827, 809, 810, 811, 812, 838, 832, 833, 834] (by decide +kernel) (by decide +kernel)
set_option maxRecDepth 20000 in
theorem gL_law_X8_count : GoodIn wsL_law (wsV RL 114 RX8 yX8_count wsX8_count) := goodIn_app (goodIn_of _ (by decide +kernel)) ggL_law_X8_count
set_option maxRecDepth 20000 in
theorem ggL_law_X9_count : GoodIn wsL_law wsX9_count := goodIn_r _ [774, 163, 131, 379, 380, 165, 597, 598, 599, 5, 600, 595, 596, 417, 418, 419, 420, 421, 422, 423, 424, 425, 426, 427, 428, 786, 787, 788, 789, 790, 791, 792, 793, 794, 795, 796, 797, 798, 799, 800, 801, 802, 803, 804, 805, 806, 807, 808] (by decide +kernel) (by decide +kernel)
set_option maxRecDepth 20000 in
theorem gL_law_X9_count : GoodIn wsL_law (wsV RL 117 RX9 yX9_count wsX9_count) := goodIn_app (goodIn_of _ (by decide +kernel)) ggL_law_X9_count
