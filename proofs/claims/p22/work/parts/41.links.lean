/-! ===== which words of the tables the instructions lean on ===== -/
def ai_cns : List String := ["PenPage$Checker", "PenPage$NewKey", "PenPage$Packer", "PenPage$Page", "PenPage$Step", "PenPage$Story", "PenPage$View", "PenPage", "PenPageModel", "PenPageLaw", "java/lang/Math", "java/util/Arrays"]
def ai_lg : List (Nat × Nat × Nat × Nat × Nat × Nat) := [(0, 9, 0, 0, 112, 0), (0, 15, 0, 1, 113, 0), (0, 18, 0, 2, 114, 0), (0, 21, 0, 3, 115, 0), (0, 25, 0, 4, 116, 0), (0, 28, 0, 5, 117, 0), (0, 31, 0, 6, 118, 0), (1, 9, 1, 0, 78, 0), (1, 15, 1, 1, 80, 0), (1, 18, 1, 2, 81, 0), (1, 22, 1, 3, 83, 0), (1, 35, 6, 5, 44, 1), (1, 42, 6, 7, 47, 1), (1, 45, 6, 4, 42, 1), (2, 9, 2, 0, 99, 0), (2, 15, 2, 1, 100, 0), (2, 23, 3, 0, 198, 1), (2, 32, 3, 5, 209, 1), (2, 38, 1, 2, 82, 1), (2, 43, 1, 0, 79, 1), (3, 11, 3, 1, 201, 0), (3, 17, 3, 2, 204, 0), (3, 21, 3, 3, 205, 0), (3, 24, 3, 4, 206, 0), (3, 28, 3, 5, 208, 0), (3, 31, 3, 0, 197, 0), (4, 24, 4, 0, 700, 0), (5, 9, 5, 0, 146, 0), (5, 15, 5, 1, 147, 0), (5, 18, 5, 2, 148, 0), (5, 21, 5, 3, 149, 0), (5, 24, 5, 4, 150, 0), (5, 27, 5, 5, 151, 0), (5, 32, 5, 6, 153, 0), (5, 35, 5, 7, 154, 0), (5, 38, 5, 8, 155, 0), (5, 42, 5, 9, 157, 0), (5, 45, 5, 10, 159, 0), (5, 48, 5, 11, 161, 0), (5, 51, 5, 12, 163, 0), (6, 9, 6, 0, 36, 0), (6, 15, 6, 1, 38, 0), (6, 20, 6, 2, 39, 0), (6, 24, 6, 3, 40, 0), (6, 28, 6, 4, 41, 0), (6, 31, 6, 5, 43, 0), (6, 34, 6, 6, 45, 0), (6, 37, 6, 7, 46, 0), (6, 41, 6, 8, 49, 0), (6, 44, 3, 1, 202, 1), (6, 87, 3, 0, 199, 1), (7, 11, 7, 0, 224, 0), (7, 15, 7, 1, 225, 0), (7, 18, 7, 2, 226, 0), (7, 22, 7, 3, 227, 0), (7, 25, 7, 4, 228, 0), (7, 31, 7, 5, 229, 0), (7, 38, 7, 6, 230, 0), (7, 45, 7, 7, 231, 0), (7, 52, 7, 8, 232, 0), (7, 59, 7, 9, 233, 0), (7, 63, 7, 10, 234, 0), (7, 67, 7, 11, 235, 0), (7, 70, 7, 12, 236, 0), (7, 73, 7, 13, 237, 0), (7, 76, 7, 14, 238, 0), (7, 93, 5, 9, 158, 1), (7, 96, 5, 8, 156, 1), (7, 116, 6, 7, 48, 1), (7, 119, 6, 8, 50, 1), (7, 122, 3, 4, 207, 1), (7, 129, 3, 5, 210, 1), (7, 165, 6, 0, 37, 1), (7, 243, 0, 7, 120, 1), (7, 294, 5, 10, 160, 1), (7, 297, 5, 11, 162, 1), (7, 302, 5, 5, 152, 1), (7, 327, 3, 1, 203, 1), (7, 331, 3, 0, 200, 1), (8, 7, 8, 1, 957, 0), (8, 14, 8, 2, 958, 0), (8, 18, 8, 3, 959, 0), (8, 21, 8, 4, 960, 0), (8, 24, 8, 5, 961, 0), (8, 27, 8, 6, 962, 0), (8, 31, 8, 7, 963, 0), (8, 34, 8, 8, 964, 0), (8, 37, 8, 9, 965, 0), (8, 40, 8, 10, 966, 0), (8, 43, 8, 11, 967, 0), (8, 46, 8, 14, 970, 0), (8, 49, 8, 15, 971, 0), (8, 52, 8, 18, 974, 0), (8, 55, 8, 25, 981, 0), (8, 58, 8, 26, 982, 0), (8, 61, 8, 27, 983, 0), (8, 64, 8, 28, 984, 0), (8, 67, 8, 29, 985, 0), (8, 70, 8, 30, 986, 0), (8, 73, 8, 31, 987, 0), (8, 76, 8, 35, 991, 0), (8, 79, 8, 36, 992, 0), (8, 82, 8, 37, 993, 0), (8, 96, 8, 34, 990, 0), (8, 100, 8, 17, 973, 0), (8, 103, 8, 24, 980, 0), (8, 106, 8, 23, 979, 0), (8, 140, 8, 12, 968, 0), (8, 143, 8, 13, 969, 0), (8, 222, 8, 16, 972, 0), (8, 237, 8, 21, 977, 0), (8, 240, 8, 22, 978, 0), (8, 243, 8, 19, 975, 0), (8, 246, 8, 20, 976, 0), (8, 297, 8, 33, 989, 0), (8, 300, 8, 32, 988, 0)]
def ai_lp : List (Nat × Nat × Nat × Nat × Nat × Nat × Nat) := [(0, 9, 0, 0, 2, 112, 1), (0, 15, 0, 1, 2, 113, 1), (0, 18, 0, 2, 2, 114, 0), (0, 21, 0, 3, 0, 115, 0), (0, 25, 0, 4, 0, 116, 0), (0, 28, 0, 5, 0, 117, 0), (0, 31, 0, 6, 0, 118, 0), (0, 34, 0, 7, 0, 119, 0), (1, 9, 1, 0, 2, 78, 1), (1, 15, 1, 1, 2, 80, 1), (1, 18, 1, 2, 0, 81, 0), (1, 22, 1, 3, 0, 83, 0), (2, 9, 2, 0, 2, 99, 1), (2, 15, 2, 1, 0, 100, 0), (3, 11, 3, 1, 2, 201, 1), (3, 17, 3, 2, 2, 204, 1), (3, 21, 3, 3, 2, 205, 1), (3, 24, 3, 4, 0, 206, 0), (3, 28, 3, 5, 0, 208, 0), (3, 31, 3, 0, 0, 197, 1), (4, 24, 4, 0, 2, 700, 1), (5, 9, 5, 0, 2, 146, 1), (5, 15, 5, 1, 2, 147, 1), (5, 18, 5, 2, 2, 148, 1), (5, 21, 5, 3, 2, 149, 1), (5, 24, 5, 4, 2, 150, 1), (5, 27, 5, 5, 2, 151, 1), (5, 32, 5, 6, 2, 153, 1), (5, 35, 5, 7, 2, 154, 1), (5, 38, 5, 8, 0, 155, 0), (5, 42, 5, 9, 0, 157, 0), (5, 45, 5, 10, 0, 159, 0), (5, 48, 5, 11, 0, 161, 0), (5, 51, 5, 12, 1, 163, 0), (6, 9, 6, 0, 2, 36, 1), (6, 15, 6, 1, 2, 38, 1), (6, 20, 6, 2, 2, 39, 1), (6, 24, 6, 3, 2, 40, 1), (6, 28, 6, 4, 2, 41, 1), (6, 31, 6, 5, 2, 43, 1), (6, 34, 6, 6, 2, 45, 1), (6, 37, 6, 7, 0, 46, 0), (6, 41, 6, 8, 0, 49, 0), (7, 11, 7, 0, 2, 224, 1), (7, 15, 7, 1, 2, 225, 1), (7, 18, 7, 2, 2, 226, 1), (7, 22, 7, 3, 2, 227, 1), (7, 25, 7, 4, 2, 228, 1), (7, 31, 7, 5, 2, 229, 1), (7, 38, 7, 6, 2, 230, 1), (7, 45, 7, 7, 2, 231, 1), (7, 52, 7, 8, 2, 232, 1), (7, 59, 7, 9, 2, 233, 1), (7, 63, 7, 10, 0, 234, 0), (7, 67, 7, 11, 0, 235, 0), (7, 70, 7, 12, 0, 236, 0), (7, 73, 7, 13, 0, 237, 0), (7, 76, 7, 14, 1, 238, 0), (8, 7, 8, 1, 0, 957, 0), (8, 14, 8, 2, 2, 958, 1), (8, 18, 8, 3, 2, 959, 1), (8, 21, 8, 4, 2, 960, 1), (8, 24, 8, 5, 2, 961, 1), (8, 27, 8, 6, 2, 962, 1), (8, 31, 8, 7, 2, 963, 1), (8, 34, 8, 8, 2, 964, 1), (8, 37, 8, 9, 2, 965, 1), (8, 40, 8, 10, 2, 966, 1), (8, 43, 8, 11, 2, 967, 1), (8, 46, 8, 14, 2, 970, 1), (8, 49, 8, 15, 2, 971, 1), (8, 52, 8, 18, 0, 974, 0), (8, 55, 8, 25, 2, 981, 1), (8, 58, 8, 26, 2, 982, 1), (8, 61, 8, 27, 2, 983, 1), (8, 64, 8, 28, 2, 984, 1), (8, 67, 8, 29, 2, 985, 1), (8, 70, 8, 30, 2, 986, 1), (8, 73, 8, 31, 2, 987, 1), (8, 76, 8, 35, 2, 991, 1), (8, 79, 8, 36, 2, 992, 1), (8, 82, 8, 37, 2, 993, 1), (8, 85, 8, 0, 0, 956, 0), (8, 96, 8, 34, 1, 990, 0), (8, 100, 8, 17, 0, 973, 0), (8, 103, 8, 24, 0, 980, 0), (8, 106, 8, 23, 0, 979, 0), (8, 140, 8, 12, 0, 968, 0), (8, 143, 8, 13, 0, 969, 0), (8, 222, 8, 16, 0, 972, 0), (8, 237, 8, 21, 0, 977, 0), (8, 240, 8, 22, 0, 978, 0), (8, 243, 8, 19, 0, 975, 0), (8, 246, 8, 20, 0, 976, 0), (8, 297, 8, 33, 0, 989, 0), (8, 300, 8, 32, 0, 988, 0)]
def ai_ln : List (Nat × Nat × Nat × Nat × Nat × Nat) := [(2, 46, 4, 678, 679, 16), (7, 9, 3, 26, 191, 7), (7, 28, 6, 28, 29, 2), (7, 35, 1, 72, 73, 3), (7, 42, 2, 93, 94, 4), (7, 49, 0, 106, 107, 5), (7, 56, 5, 138, 139, 6), (7, 157, 4, 842, 679, 16), (9, 8, 7, 18, 19, 1), (9, 74, 8, 949, 950, 8)]
def ai_la : List (Nat × Nat × Nat × Nat) := [(3, 9, 5, 196), (6, 18, 5, 34), (7, 9, 4, 26)]
def ai_lm : List (Nat × Nat × Nat) := [(5, 30, 144)]
def ai_lcon : List (Nat × Nat × Nat × Nat) := [(0, 50, 65535, 812), (3, 54, 65535, 630), (8, 13, 531366, 955), (8, 185, 65535, 1180), (8, 211, 531210, 1197), (8, 221, 531200, 1250)]
def ai_loi : List (Nat × Nat × Nat) := [(0, 3, 111), (1, 3, 77), (2, 3, 98), (3, 3, 195), (4, 3, 683), (5, 3, 143), (6, 3, 33), (7, 3, 23), (8, 1, 954)]
def ai_lcp : List (Nat × Nat × Nat) := [(3, 40, 321), (5, 75, 939), (7, 309, 324), (11, 150, 699)]
def ai_lc : List (Nat × Nat × Nat × Nat × Nat × Nat × Nat) := [(0, 43, 48, 3, 0, 0, 796), (0, 46, 54, 4, 0, 0, 808), (0, 51, 53, 3, 0, 0, 813), (0, 55, 49, 3, 0, 0, 817), (0, 58, 55, 1, 0, 0, 834), (0, 61, 46, 3, 0, 0, 804), (0, 64, 47, 1, 0, 0, 800), (0, 68, 50, 1, 0, 0, 821), (0, 71, 51, 1, 0, 0, 825), (0, 74, 52, 1, 0, 0, 830), (0, 77, 34, 2, 6, 0, 829), (1, 25, 121, 2, 0, 6, 635), (1, 31, 60, 3, 3, 0, 636), (1, 38, 58, 2, 3, 0, 644), (1, 48, 112, 2, 0, 6, 639), (1, 57, 113, 3, 0, 6, 643), (1, 60, 106, 3, 0, 6, 647), (2, 19, 64, 2, 0, 2, 656), (2, 28, 80, 2, 0, 3, 660), (2, 35, 67, 2, 0, 2, 661), (2, 48, 81, 3, 1, 4, 680), (3, 34, 225, 2, 3, 0, 408), (3, 46, 80, 2, 0, 3, 476), (3, 50, 34, 2, 6, 0, 477), (3, 55, 93, 1, 0, 4, 708), (3, 59, 88, 1, 0, 4, 722), (3, 62, 79, 3, 0, 3, 848), (3, 66, 74, 3, 0, 3, 849), (3, 69, 90, 2, 0, 4, 853), (3, 73, 75, 2, 0, 3, 730), (3, 76, 73, 2, 0, 3, 735), (3, 80, 78, 1, 0, 3, 857), (3, 83, 82, 1, 0, 4, 712), (3, 91, 71, 1, 0, 3, 718), (3, 94, 76, 1, 0, 3, 726), (3, 97, 91, 2, 0, 4, 734), (4, 18, 224, 2, 3, 0, 688), (4, 30, 84, 2, 0, 4, 463), (4, 34, 89, 2, 0, 4, 527), (4, 37, 85, 1, 0, 4, 485), (4, 41, 34, 2, 6, 0, 506), (5, 55, 102, 2, 0, 5, 930), (5, 65, 98, 2, 0, 5, 935), (5, 68, 99, 3, 0, 5, 940), (5, 71, 100, 3, 0, 5, 944), (6, 49, 85, 1, 0, 4, 459), (6, 53, 124, 2, 0, 6, 467), (6, 57, 104, 2, 0, 6, 490), (6, 60, 115, 1, 0, 6, 531), (6, 63, 116, 1, 0, 6, 544), (6, 66, 87, 2, 0, 4, 502), (6, 70, 84, 2, 0, 4, 511), (6, 73, 89, 2, 0, 4, 543), (6, 76, 121, 2, 0, 6, 909), (6, 79, 111, 4, 0, 6, 552), (6, 83, 109, 4, 0, 6, 556), (6, 90, 120, 4, 0, 6, 560), (6, 93, 80, 2, 0, 3, 471), (6, 96, 79, 3, 0, 3, 472), (6, 100, 34, 2, 6, 0, 480), (6, 104, 92, 1, 0, 4, 481), (6, 107, 123, 4, 0, 6, 486), (6, 111, 122, 2, 0, 6, 494), (6, 115, 105, 2, 0, 6, 507), (6, 119, 118, 2, 0, 6, 516), (6, 122, 117, 3, 0, 6, 498), (6, 126, 83, 2, 0, 4, 512), (6, 129, 119, 2, 3, 0, 520), (6, 133, 82, 1, 0, 4, 523), (6, 136, 110, 2, 0, 6, 535), (6, 140, 106, 3, 0, 6, 539), (6, 143, 91, 2, 0, 4, 564), (7, 30, 103, 1, 2, 6, 30), (7, 37, 56, 1, 2, 1, 74), (7, 44, 61, 1, 2, 2, 95), (7, 51, 44, 1, 2, 0, 108), (7, 58, 94, 1, 2, 5, 140), (7, 80, 68, 2, 1, 3, 192), (7, 90, 72, 1, 0, 3, 404), (7, 104, 25, 2, 0, 7, 442), (7, 108, 80, 2, 0, 3, 447), (7, 112, 41, 2, 0, 7, 451), (7, 125, 107, 3, 0, 6, 548), (7, 134, 121, 2, 0, 6, 576), (7, 139, 33, 2, 3, 0, 581), (7, 142, 21, 1, 3, 0, 585), (7, 145, 112, 2, 0, 6, 588), (7, 148, 19, 4, 0, 7, 592), (7, 152, 36, 4, 0, 7, 608), (7, 156, 85, 1, 0, 4, 614), (7, 162, 82, 1, 0, 4, 615), (7, 169, 34, 2, 3, 0, 616), (7, 173, 92, 1, 0, 4, 617), (7, 178, 69, 1, 0, 3, 626), (7, 182, 18, 1, 3, 0, 286), (7, 186, 27, 2, 0, 7, 293), (7, 189, 57, 3, 0, 1, 631), (7, 193, 59, 2, 0, 1, 648), (7, 196, 62, 3, 0, 2, 652), (7, 200, 64, 2, 0, 2, 665), (7, 203, 65, 2, 0, 2, 666), (7, 207, 26, 2, 0, 7, 670), (7, 211, 66, 2, 0, 2, 744), (7, 214, 79, 3, 0, 3, 612), (7, 218, 5, 4, 0, 7, 755), (7, 222, 4, 4, 3, 0, 768), (7, 226, 86, 1, 0, 4, 778), (7, 231, 84, 2, 0, 4, 584), (7, 234, 11, 2, 0, 7, 274), (7, 239, 45, 4, 0, 0, 791), (7, 246, 28, 3, 0, 7, 838), (7, 249, 81, 3, 1, 4, 843), (7, 252, 77, 2, 0, 3, 844), (7, 256, 8, 2, 3, 0, 872), (7, 260, 13, 3, 3, 0, 879), (7, 268, 108, 2, 0, 6, 905), (7, 273, 93, 1, 0, 4, 918), (7, 276, 88, 1, 0, 4, 736), (7, 279, 111, 4, 0, 6, 760), (7, 283, 96, 2, 0, 5, 289), (7, 286, 95, 4, 0, 5, 301), (7, 290, 97, 1, 0, 5, 309), (7, 291, 101, 1, 0, 5, 926), (7, 305, 70, 2, 0, 3, 317), (7, 319, 114, 2, 0, 6, 455), (7, 324, 113, 3, 0, 6, 597), (7, 334, 117, 3, 0, 6, 759), (7, 338, 63, 1, 0, 2, 674), (7, 342, 73, 2, 0, 3, 704), (7, 346, 78, 1, 0, 3, 714), (7, 349, 17, 3, 3, 0, 875), (7, 353, 90, 2, 0, 4, 878), (8, 88, 171, 3, 3, 0, 1075), (8, 92, 173, 2, 0, 8, 1090), (8, 109, 157, 2, 0, 8, 1082), (8, 113, 163, 4, 0, 8, 1120), (8, 116, 184, 2, 3, 0, 1102), (8, 120, 205, 3, 3, 0, 1105), (8, 124, 188, 3, 0, 8, 1116), (8, 127, 206, 3, 0, 8, 1124), (8, 130, 190, 3, 0, 8, 1108), (8, 133, 210, 3, 0, 8, 1112), (8, 136, 215, 2, 0, 8, 1098), (8, 146, 216, 3, 0, 8, 1128), (8, 150, 181, 2, 0, 8, 1132), (8, 153, 152, 3, 0, 8, 1136), (8, 161, 187, 1, 3, 0, 1152), (8, 164, 214, 5, 0, 8, 1148), (8, 168, 170, 3, 0, 8, 1144), (8, 172, 217, 2, 0, 8, 1094), (8, 175, 162, 2, 0, 8, 1140), (8, 178, 147, 2, 0, 8, 1155), (8, 181, 195, 4, 0, 8, 1176), (8, 186, 146, 3, 0, 8, 1206), (8, 189, 203, 2, 0, 8, 1214), (8, 192, 153, 3, 0, 8, 1210), (8, 195, 194, 2, 0, 8, 1193), (8, 198, 174, 2, 0, 8, 1185), (8, 201, 149, 3, 0, 8, 1172), (8, 204, 202, 1, 0, 8, 1181), (8, 208, 175, 2, 0, 8, 1189), (8, 212, 189, 5, 0, 8, 1198), (8, 215, 156, 2, 0, 8, 1202), (8, 218, 185, 3, 0, 8, 1242), (8, 225, 179, 2, 0, 8, 1259), (8, 228, 180, 2, 0, 8, 1263), (8, 231, 182, 2, 0, 8, 1267), (8, 234, 183, 2, 0, 8, 1255), (8, 249, 223, 3, 0, 8, 1287), (8, 252, 196, 3, 0, 8, 1283), (8, 255, 201, 3, 0, 8, 1291), (8, 258, 198, 1, 0, 8, 1299), (8, 261, 197, 2, 0, 8, 1295), (8, 264, 199, 1, 0, 8, 1303), (8, 267, 200, 1, 0, 8, 1279), (8, 270, 165, 2, 0, 8, 1307), (8, 273, 172, 3, 0, 8, 1311), (8, 276, 166, 3, 0, 8, 1218), (8, 279, 150, 3, 0, 8, 1226), (8, 282, 155, 3, 0, 8, 1222), (8, 285, 169, 3, 0, 8, 1230), (8, 288, 178, 5, 0, 8, 1331), (8, 291, 176, 4, 0, 8, 1327), (8, 294, 221, 2, 0, 8, 1371), (8, 303, 168, 3, 0, 8, 1375), (8, 306, 145, 2, 0, 8, 1379), (8, 309, 191, 2, 0, 8, 1367), (8, 312, 226, 3, 0, 8, 1387), (9, 7, 43, 2, 0, 7, 333), (9, 15, 7, 2, 0, 7, 415), (9, 21, 24, 3, 0, 7, 438), (9, 25, 39, 4, 0, 7, 572), (9, 29, 35, 5, 0, 7, 604), (9, 33, 32, 4, 0, 7, 622), (9, 36, 38, 3, 0, 7, 740), (9, 39, 40, 3, 0, 7, 751), (9, 42, 22, 5, 0, 7, 764), (9, 45, 23, 5, 0, 7, 774), (9, 48, 15, 3, 0, 7, 786), (9, 51, 31, 5, 0, 7, 861), (9, 54, 20, 4, 0, 7, 868), (9, 57, 12, 3, 0, 7, 886), (9, 60, 3, 3, 0, 7, 893), (9, 64, 42, 3, 0, 7, 900), (9, 67, 14, 3, 0, 7, 913), (9, 70, 37, 2, 0, 7, 922), (9, 73, 1, 1, 1, 7, 20), (9, 76, 143, 1, 1, 8, 951), (9, 77, 142, 2, 4, 0, 329), (9, 82, 222, 2, 0, 8, 1071), (9, 83, 126, 3, 4, 0, 411), (9, 86, 154, 2, 0, 8, 1078), (9, 87, 133, 4, 4, 0, 435), (9, 90, 193, 3, 0, 8, 1086), (9, 91, 139, 5, 4, 0, 569), (9, 94, 218, 4, 0, 8, 1160), (9, 95, 136, 6, 4, 0, 601), (9, 98, 211, 5, 0, 8, 1164), (9, 99, 135, 5, 4, 0, 619), (9, 101, 209, 4, 0, 8, 1168), (9, 102, 138, 4, 4, 0, 737), (9, 104, 213, 3, 0, 8, 1234), (9, 105, 140, 4, 4, 0, 748), (9, 107, 219, 3, 0, 8, 1238), (9, 108, 131, 6, 4, 0, 761), (9, 110, 186, 5, 0, 8, 1246), (9, 111, 132, 6, 4, 0, 771), (9, 113, 192, 5, 0, 8, 1251), (9, 114, 10, 6, 0, 7, 270), (9, 118, 159, 6, 0, 8, 1271), (9, 119, 129, 4, 4, 0, 783), (9, 121, 164, 3, 0, 8, 1275), (9, 122, 9, 1, 0, 7, 278), (9, 126, 158, 1, 0, 8, 1315), (9, 127, 134, 6, 4, 0, 858), (9, 129, 208, 5, 0, 8, 1319), (9, 130, 130, 5, 4, 0, 865), (9, 132, 177, 4, 0, 8, 1323), (9, 133, 127, 4, 4, 0, 883), (9, 135, 160, 3, 0, 8, 1335), (9, 136, 125, 4, 4, 0, 890), (9, 138, 148, 3, 0, 8, 1339), (9, 139, 141, 4, 4, 0, 897), (9, 141, 220, 3, 0, 8, 1343), (9, 142, 128, 4, 4, 0, 910), (9, 144, 161, 3, 0, 8, 1347), (9, 145, 30, 2, 0, 7, 282), (9, 148, 207, 2, 0, 8, 1351), (9, 149, 2, 4, 0, 7, 297), (9, 152, 144, 4, 0, 8, 1355), (9, 153, 6, 1, 0, 7, 305), (9, 156, 151, 1, 0, 8, 1359), (9, 157, 137, 3, 4, 0, 919), (9, 159, 212, 2, 0, 8, 1363), (9, 160, 16, 1, 0, 7, 313), (9, 163, 167, 1, 0, 8, 1383), (9, 164, 29, 1, 0, 7, 325), (9, 168, 204, 1, 0, 8, 1391)]
def ai_lth : List (Nat × Nat × Nat × Nat × Nat × Nat × Nat) := [(7, 83, 3, 0, 85, 87, 337), (7, 83, 3, 9, 237, 87, 337), (7, 99, 2, 1, 101, 103, 419), (7, 99, 2, 2, 315, 103, 419), (7, 99, 2, 3, 132, 103, 419), (7, 99, 2, 4, 137, 103, 419), (7, 99, 2, 5, 322, 103, 419), (7, 99, 2, 6, 317, 103, 419), (7, 99, 2, 7, 176, 103, 419), (7, 99, 2, 8, 229, 103, 419), (7, 99, 2, 10, 264, 103, 419), (7, 99, 2, 11, 266, 103, 419), (7, 99, 2, 12, 271, 103, 419), (7, 99, 2, 13, 300, 103, 419)]
def ai_ltw : List (Nat × Nat × Nat) := [(7, 87, 3), (7, 103, 2)]
def ai_mw : List (Nat × Nat × Nat × Nat × Nat × Nat) := [(0, 0, 0, 0, 1, 9), (22, 1, 21, 0, 0, 3), (300, 1, 298, 299, 3, 0), (896, 1, 894, 895, 2, 0), (770, 1, 769, 0, 4, 1), (758, 1, 757, 5022, 3, 0), (308, 1, 306, 307, 0, 0), (418, 1, 416, 417, 1, 0), (874, 1, 873, 0, 2, 1), (281, 1, 279, 280, 0, 0), (273, 1, 271, 272, 5, 0), (277, 1, 276, 5000, 1, 0), (889, 1, 887, 888, 2, 0), (881, 1, 880, 0, 3, 1), (916, 1, 914, 915, 2, 0), (789, 1, 787, 788, 2, 0), (316, 1, 314, 315, 0, 0), (877, 1, 876, 0, 3, 1), (288, 1, 287, 0, 1, 1), (595, 1, 594, 5016, 3, 0), (871, 1, 869, 870, 3, 0), (587, 1, 586, 0, 1, 1), (767, 1, 765, 766, 4, 0), (777, 1, 775, 776, 4, 0), (441, 1, 439, 440, 2, 0), (445, 1, 444, 5003, 1, 0), (673, 1, 672, 5018, 1, 0), (296, 1, 295, 5001, 1, 0), (841, 1, 840, 5033, 2, 0), (328, 1, 326, 327, 0, 0), (285, 1, 283, 284, 1, 0), (864, 1, 862, 863, 4, 0), (625, 1, 623, 624, 3, 0), (583, 1, 582, 0, 2, 1), (479, 1, 478, 0, 2, 1), (607, 1, 605, 606, 4, 0), (611, 1, 610, 5017, 3, 0), (925, 1, 923, 924, 1, 0), (743, 1, 741, 742, 2, 0), (575, 1, 573, 574, 3, 0), (754, 1, 752, 753, 2, 0), (454, 1, 453, 5004, 1, 0), (903, 1, 901, 902, 2, 0), (336, 1, 334, 335, 1, 0), (110, 5, 109, 0, 0, 3), (794, 5, 792, 793, 3, 0), (807, 5, 806, 5025, 2, 0), (803, 5, 802, 5024, 0, 0), (799, 5, 798, 5023, 2, 0), (820, 5, 819, 5028, 2, 0), (824, 5, 823, 5029, 0, 0), (828, 5, 827, 5030, 0, 0), (833, 5, 832, 5031, 0, 0), (816, 5, 815, 5027, 2, 0), (811, 5, 810, 5026, 3, 0), (837, 5, 836, 5032, 0, 0), (76, 3, 75, 0, 0, 3), (634, 3, 632, 633, 2, 0), (646, 3, 645, 0, 2, 1), (651, 3, 649, 650, 1, 0), (638, 3, 637, 0, 3, 1), (97, 4, 96, 0, 0, 3), (655, 4, 653, 654, 2, 0), (677, 4, 675, 676, 0, 0), (659, 4, 657, 658, 1, 0), (669, 4, 667, 668, 1, 0), (747, 4, 745, 746, 1, 0), (664, 4, 662, 663, 1, 0), (194, 7, 193, 0, 1, 3), (629, 7, 627, 628, 0, 0), (320, 7, 318, 319, 1, 0), (721, 7, 720, 5019, 0, 0), (407, 7, 405, 406, 0, 0), (707, 7, 705, 706, 1, 0), (852, 7, 851, 5034, 2, 0), (733, 7, 732, 5021, 1, 0), (729, 7, 728, 5020, 0, 0), (847, 7, 845, 846, 1, 0), (717, 7, 715, 716, 0, 0), (475, 7, 473, 474, 2, 0), (450, 7, 448, 449, 1, 0), (682, 16, 681, 0, 2, 3), (526, 16, 524, 525, 0, 0), (515, 16, 513, 514, 1, 0), (466, 16, 464, 465, 1, 0), (462, 16, 460, 461, 0, 0), (781, 16, 779, 780, 0, 0), (505, 16, 503, 504, 1, 0), (725, 16, 723, 724, 0, 0), (530, 16, 528, 529, 1, 0), (856, 16, 854, 855, 1, 0), (567, 16, 565, 566, 1, 0), (484, 16, 482, 483, 0, 0), (711, 16, 709, 710, 0, 0), (142, 6, 141, 0, 0, 3), (304, 6, 302, 303, 3, 0), (292, 6, 290, 291, 1, 0), (312, 6, 310, 311, 0, 0), (938, 6, 937, 5036, 1, 0), (943, 6, 942, 5037, 2, 0), (947, 6, 946, 5038, 2, 0), (929, 6, 927, 928, 0, 0), (933, 6, 932, 5035, 1, 0), (32, 2, 31, 0, 0, 3), (493, 2, 492, 5007, 1, 0), (510, 2, 509, 5009, 1, 0), (542, 2, 540, 541, 2, 0), (551, 2, 549, 550, 2, 0), (908, 2, 906, 907, 1, 0), (559, 2, 558, 5014, 3, 0), (538, 2, 537, 5012, 1, 0), (555, 2, 553, 554, 3, 0), (591, 2, 589, 590, 1, 0), (600, 2, 598, 599, 2, 0), (458, 2, 456, 457, 1, 0), (534, 2, 533, 5011, 0, 0), (547, 2, 546, 5013, 0, 0), (501, 2, 499, 500, 2, 0), (519, 2, 518, 5010, 1, 0), (522, 2, 521, 0, 2, 1), (563, 2, 562, 5015, 3, 0), (579, 2, 577, 578, 1, 0), (497, 2, 496, 5008, 1, 0), (489, 2, 488, 5006, 3, 0), (470, 2, 469, 5005, 1, 0), (892, 0, 891, 0, 4, 2), (413, 0, 412, 0, 3, 2), (885, 0, 884, 0, 4, 2), (912, 0, 911, 0, 4, 2), (785, 0, 784, 0, 4, 2), (867, 0, 866, 0, 5, 2), (763, 0, 762, 0, 6, 2), (773, 0, 772, 0, 6, 2), (437, 0, 436, 0, 4, 2), (860, 0, 859, 0, 6, 2), (621, 0, 620, 0, 5, 2), (603, 0, 602, 0, 6, 2), (921, 0, 920, 0, 3, 2), (739, 0, 738, 0, 4, 2), (571, 0, 570, 0, 5, 2), (750, 0, 749, 0, 4, 2), (899, 0, 898, 0, 4, 2), (331, 0, 330, 0, 2, 2), (953, 8, 952, 0, 0, 3), (1358, 8, 1356, 1357, 3, 0), (1382, 8, 1381, 5089, 1, 0), (1209, 8, 1208, 5063, 2, 0), (1158, 8, 1157, 5054, 1, 0), (1342, 8, 1340, 1341, 2, 0), (1175, 8, 1174, 5055, 2, 0), (1229, 8, 1228, 5068, 2, 0), (1362, 8, 1360, 1361, 0, 0), (1139, 8, 1138, 5050, 2, 0), (1213, 8, 1212, 5064, 2, 0), (1081, 8, 1079, 1080, 1, 0), (1225, 8, 1224, 5067, 2, 0), (1205, 8, 1204, 5062, 1, 0), (1085, 8, 1084, 5039, 1, 0), (1318, 8, 1316, 1317, 0, 0), (1274, 8, 1272, 1273, 5, 0), (1338, 8, 1336, 1337, 2, 0), (1350, 8, 1348, 1349, 2, 0), (1143, 8, 1142, 5051, 1, 0), (1123, 8, 1122, 5046, 3, 0), (1278, 8, 1276, 1277, 2, 0), (1310, 8, 1309, 5082, 1, 0), (1221, 8, 1220, 5066, 2, 0), (1386, 8, 1384, 1385, 0, 0), (1378, 8, 1377, 5088, 2, 0), (1233, 8, 1232, 5069, 2, 0), (1147, 8, 1146, 5052, 2, 0), (1077, 8, 1076, 0, 3, 1), (1314, 8, 1313, 5083, 2, 0), (1093, 8, 1092, 5040, 1, 0), (1188, 8, 1187, 5058, 1, 0), (1192, 8, 1191, 5059, 1, 0), (1330, 8, 1329, 5084, 3, 0), (1326, 8, 1324, 1325, 3, 0), (1334, 8, 1333, 5085, 4, 0), (1262, 8, 1261, 5072, 1, 0), (1266, 8, 1265, 5073, 1, 0), (1135, 8, 1134, 5049, 1, 0), (1270, 8, 1269, 5074, 1, 0), (1258, 8, 1257, 5071, 1, 0), (1104, 8, 1103, 0, 2, 1), (1245, 8, 1244, 5070, 2, 0), (1249, 8, 1247, 1248, 4, 0), (1154, 8, 1153, 0, 1, 1), (1119, 8, 1118, 5045, 2, 0), (1201, 8, 1200, 5061, 4, 0), (1111, 8, 1110, 5043, 2, 0), (1370, 8, 1369, 5086, 1, 0), (1254, 8, 1252, 1253, 4, 0), (1089, 8, 1087, 1088, 2, 0), (1196, 8, 1195, 5060, 1, 0), (1179, 8, 1178, 5056, 3, 0), (1286, 8, 1285, 5076, 2, 0), (1298, 8, 1297, 5079, 1, 0), (1302, 8, 1301, 5080, 0, 0), (1306, 8, 1305, 5081, 0, 0), (1282, 8, 1281, 5075, 0, 0), (1294, 8, 1293, 5078, 2, 0), (1184, 8, 1183, 5057, 0, 0), (1217, 8, 1216, 5065, 1, 0), (1394, 8, 1392, 1393, 0, 0), (1107, 8, 1106, 0, 3, 1), (1127, 8, 1126, 5047, 2, 0), (1354, 8, 1352, 1353, 1, 0), (1322, 8, 1320, 1321, 4, 0), (1171, 8, 1169, 1170, 3, 0), (1115, 8, 1114, 5044, 2, 0), (1167, 8, 1165, 1166, 4, 0), (1366, 8, 1364, 1365, 1, 0), (1237, 8, 1235, 1236, 2, 0), (1151, 8, 1150, 5053, 4, 0), (1101, 8, 1100, 5042, 1, 0), (1131, 8, 1130, 5048, 2, 0), (1097, 8, 1096, 5041, 1, 0), (1163, 8, 1161, 1162, 3, 0), (1241, 8, 1239, 1240, 2, 0), (1346, 8, 1344, 1345, 2, 0), (1374, 8, 1373, 5087, 1, 0), (1074, 8, 1072, 1073, 1, 0), (1290, 8, 1289, 5077, 2, 0), (690, 13, 689, 0, 2, 1), (410, 13, 409, 0, 2, 1), (1390, 8, 1389, 5090, 2, 0)]
def ai_lmm : List (Nat × Nat × Nat × Nat) := [(0, 37, 9, 795), (1, 51, 9, 640), (3, 86, 8, 713), (4, 9, 9, 684), (4, 15, 8, 685), (5, 59, 8, 934), (8, 156, 8, 1159), (11, 304, 9, 698)]
def ai_up : List (List Nat) := [[121, 123, 125, 127, 129, 131, 133, 135], [84, 86, 88, 90], [101, 103], [211, 213, 215, 217, 219, 221], [701], [164, 166, 168, 170, 172, 174, 176, 178, 180, 182, 184, 186, 188], [51, 53, 55, 57, 59, 61, 63, 65, 67], [239, 241, 243, 245, 247, 249, 251, 253, 255, 257, 259, 261, 263, 265, 267], [994, 996, 998, 1000, 1002, 1004, 1006, 1008, 1010, 1012, 1014, 1016, 1018, 1020, 1022, 1024, 1026, 1028, 1030, 1032, 1034, 1036, 1038, 1040, 1042, 1044, 1046, 1048, 1050, 1052, 1054, 1056, 1058, 1060, 1062, 1064, 1066, 1068]]
def ai_cn (oc : Nat) : String := (ai_cns[oc]?).getD ""
theorem ai_tm {i : Nat} {w : Cond} (h : tables_1[i]? = some w) : w ∈ lw_tbl := List.mem_append_right _ (List.mem_of_getElem? h)
def ai_tw (i : Nat) (w : Cond) : Bool := decide (tables_1[i]? = some w)
theorem ai_tw_in {i : Nat} {w : Cond} (h : ai_tw i w = true) : w ∈ lw_tbl := ai_tm (of_decide_eq_true h)
-- fields
def ai_bU (ci : Nat) : Bool := match vwCl[ci]?, ai_up[ci]? with
  | some (C, T, N), some ps => (List.range N).all (fun k => match ps[k]? with
    | some i => ai_tw i (u_lay C T k) && (u_lay C T k).onTables
    | none => false)
  | _, _ => false
theorem ai_bU_ok : (List.range 9).all ai_bU = true := by decide +kernel
def ai_bG (q : Nat × Nat × Nat × Nat × Nat × Nat) : Bool := match q with
  | (oc, idx, ci, k, pos, nest) => match vwCl[ci]? with
    | some (_, T, N) => decide (k < N) && cond (Nat.beq nest 0) (ai_tw pos (.fieldLink (ai_cn oc) idx (T k).1 (T k).2.1 (T k).2.2.1)) (ai_tw pos (.fieldLinkNest (ai_cn oc) idx (T k).1 (T k).2.1 (T k).2.2.1 "PenPage"))
    | none => false
theorem ai_bG_ok : ai_lg.all ai_bG = true := by decide +kernel
def ai_ty0 (T : u_T) (k : Nat) : FieldType := (parseFieldDescriptor (T k).2.2.1).getD .int
def ai_btyOK (t : Nat) (ty : FieldType) : Bool := match t, ty with
  | 0, .int => true
  | 1, .boolean => true
  | 2, .object _ => true
  | 2, .array _ => true
  | _, _ => false
def ai_bP (q : Nat × Nat × Nat × Nat × Nat × Nat × Nat) : Bool := match q with
  | (oc, idx, ci, k, t, pos, fin) => match vwCl[ci]? with
    | some (_, T, N) => decide (k < N) && ai_tw pos (.fieldLink (ai_cn oc) idx (T k).1 (T k).2.1 (T k).2.2.1) && ai_btyOK t (ai_ty0 T k) && (!(T k).2.2.2 || (Nat.beq fin 1 && decide ((T k).1 = ai_cn oc)))
    | none => false
theorem ai_bP_ok : ai_lp.all ai_bP = true := by decide +kernel
def ai_bT (ci : Nat) : Bool := match vwCl[ci]? with
  | some (_, T, N) => (List.range N).all (fun k => (parseFieldDescriptor (T k).2.2.1).isSome)
  | none => false
theorem ai_bT_ok : (List.range 9).all ai_bT = true := by decide +kernel
-- new objects and arrays
def ai_dv (v : ai_V) : Value := if v.1 = 0 then .int 0 else .null
def ai_bN (q : Nat × Nat × Nat × Nat × Nat × Nat) : Bool := match q with
  | (oc, idx, ci, p1, p2, p3) => match vwCl[ci]? with
    | some (C, T, N) => ai_tw p1 (.classLink (ai_cn oc) idx C) && ai_tw p2 (.instantiable C N) && ai_tw p3 (.initialized C) && decide ((ai_fld ci).length = N) && (ai_fld ci).all (fun v => decide (v = ai_i 0 ∨ v = ai_nul)) && (List.range N).all (fun j => decide (defaultValue (ai_ty0 T j) = vp_V ((ai_fld ci).map ai_dv) j))
    | none => false
theorem ai_bN_ok : ai_ln.all ai_bN = true := by decide +kernel
def ai_bA (q : Nat × Nat × Nat × Nat) : Bool := match q with
  | (oc, idx, t, pos) => cond (Nat.beq t 4) (ai_tw pos (.classLink (ai_cn oc) idx "PenPage$Page")) (Nat.beq t 5 && ai_tw pos (.classLink (ai_cn oc) idx "PenPage$Step"))
theorem ai_bA_ok : ai_la.all ai_bA = true := by decide +kernel
def ai_bMn (q : Nat × Nat × Nat) : Bool := match q with
  | (oc, idx, pos) => ai_tw pos (.classLink (ai_cn oc) idx ("[" ++ (FieldType.array .int).toString))
theorem ai_bMn_ok : ai_lm.all ai_bMn = true := by decide +kernel
def ai_bK (q : Nat × Nat × Nat × Nat) : Bool := match q with
  | (oc, idx, v, pos) => ai_tw pos (.constant (ai_cn oc) idx (Int32.ofNat v)) && decide ((Int32.ofNat v).toInt = (v : Int))
theorem ai_bK_ok : ai_lcon.all ai_bK = true := by decide +kernel
def ai_bO (q : Nat × Nat × Nat) : Bool := match q with
  | (oc, idx, pos) => ai_tw pos (.methodLink (ai_cn oc) idx Lib.objectInit)
theorem ai_bO_ok : ai_loi.all ai_bO = true := by decide +kernel
theorem ai_bO1 : ai_tw 24 (.instanceMethod Lib.objectInit) = true := by decide +kernel
theorem ai_bO2 : tables_1[25]? = some (.code Lib.objectInit ⟨#[0xb1]⟩ 1 none) := by decide +kernel
def ai_bC (q : Nat × Nat × Nat) : Bool := match q with
  | (oc, idx, pos) => ai_tw pos (.methodLink (ai_cn oc) idx arraycopyName)
theorem ai_bC_ok : ai_lcp.all ai_bC = true := by decide +kernel
theorem ai_bC1 : (ai_tw 323 (.native arraycopyName) && ai_tw 322 (.static arraycopyName) && ai_tw 17 (.initialized "java/lang/System")) = true := by decide +kernel
def ai_bMM (q : Nat × Nat × Nat × Nat) : Bool := match q with
  | (oc, idx, k, pos) => cond (Nat.beq k 8) (ai_tw pos (.methodLink (ai_cn oc) idx Lib.Math.max.name)) (Nat.beq k 9 && ai_tw pos (.methodLink (ai_cn oc) idx Lib.Math.min.name))
theorem ai_bMM_ok : ai_lmm.all ai_bMM = true := by decide +kernel
theorem ai_bMM1 : (ai_tw 686 (.static Lib.Math.max.name) && ai_tw 687 (.code Lib.Math.max.name Lib.Math.max.code 2 (some .int)) && ai_tw 641 (.static Lib.Math.min.name) && ai_tw 642 (.code Lib.Math.min.name Lib.Math.min.code 2 (some .int)) && ai_tw 15 (.initialized "java/lang/Math")) = true := by decide +kernel
-- methods and calls
def ai_code (M : ai_M) : Cond := match M.2.2.2.2.2.1 with
  | [] => .code M.1 M.2.1 M.2.2.1 M.2.2.2.1
  | h :: t => .codeWith M.1 M.2.1 M.2.2.1 M.2.2.2.1 (h :: t)
def ai_bWd (M : ai_M) (q : Nat × Nat × Nat × Nat × Nat × Nat) : Bool := match q with
  | (_, p2, p3, p4, n, kind) => ai_tw p2 (.initialized M.1.cls) && plainName M.1.cls && decide (M.1.cls = ai_cn M.2.2.2.2.1) && decide (M.1.cls ≠ "java/lang/invoke/MethodHandle" ∧ M.1.cls ≠ "java/lang/invoke/VarHandle") && decide ((parseMethodDescriptor M.1.desc).map (fun d => d.parameters.length) = some n) && Nat.ble M.2.2.1 10 &&
    (match kind with
    | 0 => ai_tw p3 (.instanceMethod M.1) && (ai_tw p4 (.selects M.1.cls M.1 M.1) || decide ((k2_sels lw_privs)[p4 - 5000]? = some (.selects M.1.cls M.1 M.1))) && decide (M.2.2.2.2.2.1 = [])
    | 1 => ai_tw p3 (.static M.1) && decide (M.2.2.2.2.2.1 = [])
    | 2 => ai_tw p3 (.static M.1) && decide (M.2.2.2.2.2.1 ≠ [])
    | 3 => ai_tw p3 (.instanceMethod M.1) && decide (M.2.2.2.2.2.1 = []) && decide (M.1.name = "<init>") && decide (M.2.2.2.1 = none)
    | _ => false)
noncomputable def ai_bWds (ms : List ai_M) (qs : List (Nat × Nat × Nat × Nat × Nat × Nat)) : Bool :=
  List.rec (motive := fun _ => List (Nat × Nat × Nat × Nat × Nat × Nat) → Bool) (fun qs => qs.isEmpty) (fun M _ ih qs => List.casesOn qs false (fun q t => ai_bWd M q && ih t)) ms qs
theorem ai_bWds_ok : ai_bWds ai_meths.tail ai_mw.tail = true := by decide +kernel
theorem ai_t1_in {i : Nat} {w : Cond} (h : tables_1_1[i]? = some w) : w ∈ lw_tbl := by
  have h := List.mem_of_getElem? h
  exact List.mem_append_right _ (show w ∈ tables_1_1 ++ (tables_1_2 ++ (tables_1_3 ++ (tables_1_4 ++ (tables_1_5 ++ tables_1_6)))) from List.mem_append_left _ h)
theorem ai_t2_in {i : Nat} {w : Cond} (h : tables_1_2[i]? = some w) : w ∈ lw_tbl := by
  have h := List.mem_of_getElem? h
  exact List.mem_append_right _ (show w ∈ tables_1_1 ++ (tables_1_2 ++ (tables_1_3 ++ (tables_1_4 ++ (tables_1_5 ++ tables_1_6)))) from List.mem_append_right _ (List.mem_append_left _ h))
theorem ai_t3_in {i : Nat} {w : Cond} (h : tables_1_3[i]? = some w) : w ∈ lw_tbl := by
  have h := List.mem_of_getElem? h
  exact List.mem_append_right _ (show w ∈ tables_1_1 ++ (tables_1_2 ++ (tables_1_3 ++ (tables_1_4 ++ (tables_1_5 ++ tables_1_6)))) from List.mem_append_right _ (List.mem_append_right _ (List.mem_append_left _ h)))
theorem ai_t4_in {i : Nat} {w : Cond} (h : tables_1_4[i]? = some w) : w ∈ lw_tbl := by
  have h := List.mem_of_getElem? h
  exact List.mem_append_right _ (show w ∈ tables_1_1 ++ (tables_1_2 ++ (tables_1_3 ++ (tables_1_4 ++ (tables_1_5 ++ tables_1_6)))) from List.mem_append_right _ (List.mem_append_right _ (List.mem_append_right _ (List.mem_append_left _ h))))
theorem ai_t5_in {i : Nat} {w : Cond} (h : tables_1_5[i]? = some w) : w ∈ lw_tbl := by
  have h := List.mem_of_getElem? h
  exact List.mem_append_right _ (show w ∈ tables_1_1 ++ (tables_1_2 ++ (tables_1_3 ++ (tables_1_4 ++ (tables_1_5 ++ tables_1_6)))) from List.mem_append_right _ (List.mem_append_right _ (List.mem_append_right _ (List.mem_append_right _ (List.mem_append_left _ h)))))
theorem ai_t6_in {i : Nat} {w : Cond} (h : tables_1_6[i]? = some w) : w ∈ lw_tbl := by
  have h := List.mem_of_getElem? h
  exact List.mem_append_right _ (show w ∈ tables_1_1 ++ (tables_1_2 ++ (tables_1_3 ++ (tables_1_4 ++ (tables_1_5 ++ tables_1_6)))) from List.mem_append_right _ (List.mem_append_right _ (List.mem_append_right _ (List.mem_append_right _ (List.mem_append_right _ (h))))))
theorem ai_mc1 : ai_code ai_m1 ∈ lw_tbl := ai_t1_in (i := 22) rfl
theorem ai_mc2 : ai_code ai_m2 ∈ lw_tbl := ai_t2_in (i := 60) rfl
theorem ai_mc3 : ai_code ai_m3 ∈ lw_tbl := ai_t4_in (i := 176) rfl
theorem ai_mc4 : ai_code ai_m4 ∈ lw_tbl := ai_t4_in (i := 50) rfl
theorem ai_mc5 : ai_code ai_m5 ∈ lw_tbl := ai_t4_in (i := 38) rfl
theorem ai_mc6 : ai_code ai_m6 ∈ lw_tbl := ai_t2_in (i := 68) rfl
theorem ai_mc7 : ai_code ai_m7 ∈ lw_tbl := ai_t2_in (i := 178) rfl
theorem ai_mc8 : ai_code ai_m8 ∈ lw_tbl := ai_t4_in (i := 154) rfl
theorem ai_mc9 : ai_code ai_m9 ∈ lw_tbl := ai_t2_in (i := 41) rfl
theorem ai_mc10 : ai_code ai_m10 ∈ lw_tbl := ai_t2_in (i := 33) rfl
theorem ai_mc11 : ai_code ai_m11 ∈ lw_tbl := ai_t2_in (i := 37) rfl
theorem ai_mc12 : ai_code ai_m12 ∈ lw_tbl := ai_t4_in (i := 169) rfl
theorem ai_mc13 : ai_code ai_m13 ∈ lw_tbl := ai_t4_in (i := 161) rfl
theorem ai_mc14 : ai_code ai_m14 ∈ lw_tbl := ai_t4_in (i := 196) rfl
theorem ai_mc15 : ai_code ai_m15 ∈ lw_tbl := ai_t4_in (i := 69) rfl
theorem ai_mc16 : ai_code ai_m16 ∈ lw_tbl := ai_t2_in (i := 76) rfl
theorem ai_mc17 : ai_code ai_m17 ∈ lw_tbl := ai_t4_in (i := 157) rfl
theorem ai_mc18 : ai_code ai_m18 ∈ lw_tbl := ai_t2_in (i := 48) rfl
theorem ai_mc19 : ai_code ai_m19 ∈ lw_tbl := ai_t3_in (i := 115) rfl
theorem ai_mc20 : ai_code ai_m20 ∈ lw_tbl := ai_t4_in (i := 151) rfl
theorem ai_mc21 : ai_code ai_m21 ∈ lw_tbl := ai_t3_in (i := 107) rfl
theorem ai_mc22 : ai_code ai_m22 ∈ lw_tbl := ai_t4_in (i := 47) rfl
theorem ai_mc23 : ai_code ai_m23 ∈ lw_tbl := ai_t4_in (i := 57) rfl
theorem ai_mc24 : ai_code ai_m24 ∈ lw_tbl := ai_t2_in (i := 201) rfl
theorem ai_mc25 : ai_code ai_m25 ∈ lw_tbl := ai_t2_in (i := 205) rfl
theorem ai_mc26 : ai_code ai_m26 ∈ lw_tbl := ai_t3_in (i := 193) rfl
theorem ai_mc27 : ai_code ai_m27 ∈ lw_tbl := ai_t2_in (i := 56) rfl
theorem ai_mc28 : ai_code ai_m28 ∈ lw_tbl := ai_t4_in (i := 121) rfl
theorem ai_mc29 : ai_code ai_m29 ∈ lw_tbl := ai_t2_in (i := 88) rfl
theorem ai_mc30 : ai_code ai_m30 ∈ lw_tbl := ai_t2_in (i := 45) rfl
theorem ai_mc31 : ai_code ai_m31 ∈ lw_tbl := ai_t4_in (i := 144) rfl
theorem ai_mc32 : ai_code ai_m32 ∈ lw_tbl := ai_t3_in (i := 145) rfl
theorem ai_mc33 : ai_code ai_m33 ∈ lw_tbl := ai_t3_in (i := 103) rfl
theorem ai_mc34 : ai_code ai_m34 ∈ lw_tbl := ai_t2_in (i := 239) rfl
theorem ai_mc35 : ai_code ai_m35 ∈ lw_tbl := ai_t3_in (i := 127) rfl
theorem ai_mc36 : ai_code ai_m36 ∈ lw_tbl := ai_t3_in (i := 131) rfl
theorem ai_mc37 : ai_code ai_m37 ∈ lw_tbl := ai_t4_in (i := 205) rfl
theorem ai_mc38 : ai_code ai_m38 ∈ lw_tbl := ai_t4_in (i := 23) rfl
theorem ai_mc39 : ai_code ai_m39 ∈ lw_tbl := ai_t3_in (i := 95) rfl
theorem ai_mc40 : ai_code ai_m40 ∈ lw_tbl := ai_t4_in (i := 34) rfl
theorem ai_mc41 : ai_code ai_m41 ∈ lw_tbl := ai_t2_in (i := 214) rfl
theorem ai_mc42 : ai_code ai_m42 ∈ lw_tbl := ai_t4_in (i := 183) rfl
theorem ai_mc43 : ai_code ai_m43 ∈ lw_tbl := ai_t2_in (i := 96) rfl
theorem ai_mc44 : ai_code ai_m44 ∈ lw_tbl := ai_t1_in (i := 110) rfl
theorem ai_mc45 : ai_code ai_m45 ∈ lw_tbl := ai_t4_in (i := 74) rfl
theorem ai_mc46 : ai_code ai_m46 ∈ lw_tbl := ai_t4_in (i := 87) rfl
theorem ai_mc47 : ai_code ai_m47 ∈ lw_tbl := ai_t4_in (i := 83) rfl
theorem ai_mc48 : ai_code ai_m48 ∈ lw_tbl := ai_t4_in (i := 79) rfl
theorem ai_mc49 : ai_code ai_m49 ∈ lw_tbl := ai_t4_in (i := 100) rfl
theorem ai_mc50 : ai_code ai_m50 ∈ lw_tbl := ai_t4_in (i := 104) rfl
theorem ai_mc51 : ai_code ai_m51 ∈ lw_tbl := ai_t4_in (i := 108) rfl
theorem ai_mc52 : ai_code ai_m52 ∈ lw_tbl := ai_t4_in (i := 113) rfl
theorem ai_mc53 : ai_code ai_m53 ∈ lw_tbl := ai_t4_in (i := 96) rfl
theorem ai_mc54 : ai_code ai_m54 ∈ lw_tbl := ai_t4_in (i := 91) rfl
theorem ai_mc55 : ai_code ai_m55 ∈ lw_tbl := ai_t4_in (i := 117) rfl
theorem ai_mc56 : ai_code ai_m56 ∈ lw_tbl := ai_t1_in (i := 76) rfl
theorem ai_mc57 : ai_code ai_m57 ∈ lw_tbl := ai_t3_in (i := 154) rfl
theorem ai_mc58 : ai_code ai_m58 ∈ lw_tbl := ai_t3_in (i := 166) rfl
theorem ai_mc59 : ai_code ai_m59 ∈ lw_tbl := ai_t3_in (i := 171) rfl
theorem ai_mc60 : ai_code ai_m60 ∈ lw_tbl := ai_t3_in (i := 158) rfl
theorem ai_mc61 : ai_code ai_m61 ∈ lw_tbl := ai_t1_in (i := 97) rfl
theorem ai_mc62 : ai_code ai_m62 ∈ lw_tbl := ai_t3_in (i := 175) rfl
theorem ai_mc63 : ai_code ai_m63 ∈ lw_tbl := ai_t3_in (i := 197) rfl
theorem ai_mc64 : ai_code ai_m64 ∈ lw_tbl := ai_t3_in (i := 179) rfl
theorem ai_mc65 : ai_code ai_m65 ∈ lw_tbl := ai_t3_in (i := 189) rfl
theorem ai_mc66 : ai_code ai_m66 ∈ lw_tbl := ai_t4_in (i := 27) rfl
theorem ai_mc67 : ai_code ai_m67 ∈ lw_tbl := ai_t3_in (i := 184) rfl
theorem ai_mc68 : ai_code ai_m68 ∈ lw_tbl := ai_t1_in (i := 194) rfl
theorem ai_mc69 : ai_code ai_m69 ∈ lw_tbl := ai_t3_in (i := 149) rfl
theorem ai_mc70 : ai_code ai_m70 ∈ lw_tbl := ai_t2_in (i := 80) rfl
theorem ai_mc71 : ai_code ai_m71 ∈ lw_tbl := ai_t4_in (i := 1) rfl
theorem ai_mc72 : ai_code ai_m72 ∈ lw_tbl := ai_t2_in (i := 167) rfl
theorem ai_mc73 : ai_code ai_m73 ∈ lw_tbl := ai_t3_in (i := 227) rfl
theorem ai_mc74 : ai_code ai_m74 ∈ lw_tbl := ai_t4_in (i := 132) rfl
theorem ai_mc75 : ai_code ai_m75 ∈ lw_tbl := ai_t4_in (i := 13) rfl
theorem ai_mc76 : ai_code ai_m76 ∈ lw_tbl := ai_t4_in (i := 9) rfl
theorem ai_mc77 : ai_code ai_m77 ∈ lw_tbl := ai_t4_in (i := 127) rfl
theorem ai_mc78 : ai_code ai_m78 ∈ lw_tbl := ai_t3_in (i := 237) rfl
theorem ai_mc79 : ai_code ai_m79 ∈ lw_tbl := ai_t2_in (i := 235) rfl
theorem ai_mc80 : ai_code ai_m80 ∈ lw_tbl := ai_t2_in (i := 210) rfl
theorem ai_mc81 : ai_code ai_m81 ∈ lw_tbl := ai_t3_in (i := 202) rfl
theorem ai_mc82 : ai_code ai_m82 ∈ lw_tbl := ai_t3_in (i := 46) rfl
theorem ai_mc83 : ai_code ai_m83 ∈ lw_tbl := ai_t3_in (i := 35) rfl
theorem ai_mc84 : ai_code ai_m84 ∈ lw_tbl := ai_t2_in (i := 226) rfl
theorem ai_mc85 : ai_code ai_m85 ∈ lw_tbl := ai_t2_in (i := 222) rfl
theorem ai_mc86 : ai_code ai_m86 ∈ lw_tbl := ai_t4_in (i := 61) rfl
theorem ai_mc87 : ai_code ai_m87 ∈ lw_tbl := ai_t3_in (i := 25) rfl
theorem ai_mc88 : ai_code ai_m88 ∈ lw_tbl := ai_t4_in (i := 5) rfl
theorem ai_mc89 : ai_code ai_m89 ∈ lw_tbl := ai_t3_in (i := 50) rfl
theorem ai_mc90 : ai_code ai_m90 ∈ lw_tbl := ai_t4_in (i := 136) rfl
theorem ai_mc91 : ai_code ai_m91 ∈ lw_tbl := ai_t3_in (i := 87) rfl
theorem ai_mc92 : ai_code ai_m92 ∈ lw_tbl := ai_t3_in (i := 4) rfl
theorem ai_mc93 : ai_code ai_m93 ∈ lw_tbl := ai_t3_in (i := 231) rfl
theorem ai_mc94 : ai_code ai_m94 ∈ lw_tbl := ai_t1_in (i := 142) rfl
theorem ai_mc95 : ai_code ai_m95 ∈ lw_tbl := ai_t2_in (i := 64) rfl
theorem ai_mc96 : ai_code ai_m96 ∈ lw_tbl := ai_t2_in (i := 52) rfl
theorem ai_mc97 : ai_code ai_m97 ∈ lw_tbl := ai_t2_in (i := 72) rfl
theorem ai_mc98 : ai_code ai_m98 ∈ lw_tbl := ai_t4_in (i := 218) rfl
theorem ai_mc99 : ai_code ai_m99 ∈ lw_tbl := ai_t4_in (i := 223) rfl
theorem ai_mc100 : ai_code ai_m100 ∈ lw_tbl := ai_t4_in (i := 227) rfl
theorem ai_mc101 : ai_code ai_m101 ∈ lw_tbl := ai_t4_in (i := 209) rfl
theorem ai_mc102 : ai_code ai_m102 ∈ lw_tbl := ai_t4_in (i := 213) rfl
theorem ai_mc103 : ai_code ai_m103 ∈ lw_tbl := ai_t1_in (i := 32) rfl
theorem ai_mc104 : ai_code ai_m104 ∈ lw_tbl := ai_t3_in (i := 13) rfl
theorem ai_mc105 : ai_code ai_m105 ∈ lw_tbl := ai_t3_in (i := 30) rfl
theorem ai_mc106 : ai_code ai_m106 ∈ lw_tbl := ai_t3_in (i := 62) rfl
theorem ai_mc107 : ai_code ai_m107 ∈ lw_tbl := ai_t3_in (i := 71) rfl
theorem ai_mc108 : ai_code ai_m108 ∈ lw_tbl := ai_t4_in (i := 188) rfl
theorem ai_mc109 : ai_code ai_m109 ∈ lw_tbl := ai_t3_in (i := 79) rfl
theorem ai_mc110 : ai_code ai_m110 ∈ lw_tbl := ai_t3_in (i := 58) rfl
theorem ai_mc111 : ai_code ai_m111 ∈ lw_tbl := ai_t3_in (i := 75) rfl
theorem ai_mc112 : ai_code ai_m112 ∈ lw_tbl := ai_t3_in (i := 111) rfl
theorem ai_mc113 : ai_code ai_m113 ∈ lw_tbl := ai_t3_in (i := 120) rfl
theorem ai_mc114 : ai_code ai_m114 ∈ lw_tbl := ai_t2_in (i := 218) rfl
theorem ai_mc115 : ai_code ai_m115 ∈ lw_tbl := ai_t3_in (i := 54) rfl
theorem ai_mc116 : ai_code ai_m116 ∈ lw_tbl := ai_t3_in (i := 67) rfl
theorem ai_mc117 : ai_code ai_m117 ∈ lw_tbl := ai_t3_in (i := 21) rfl
theorem ai_mc118 : ai_code ai_m118 ∈ lw_tbl := ai_t3_in (i := 39) rfl
theorem ai_mc119 : ai_code ai_m119 ∈ lw_tbl := ai_t3_in (i := 42) rfl
theorem ai_mc120 : ai_code ai_m120 ∈ lw_tbl := ai_t3_in (i := 83) rfl
theorem ai_mc121 : ai_code ai_m121 ∈ lw_tbl := ai_t3_in (i := 99) rfl
theorem ai_mc122 : ai_code ai_m122 ∈ lw_tbl := ai_t3_in (i := 17) rfl
theorem ai_mc123 : ai_code ai_m123 ∈ lw_tbl := ai_t3_in (i := 9) rfl
theorem ai_mc124 : ai_code ai_m124 ∈ lw_tbl := ai_t2_in (i := 230) rfl
theorem ai_mc125 : ai_code ai_m125 ∈ lw_tbl := ai_t4_in (i := 172) rfl
theorem ai_mc126 : ai_code ai_m126 ∈ lw_tbl := ai_t2_in (i := 173) rfl
theorem ai_mc127 : ai_code ai_m127 ∈ lw_tbl := ai_t4_in (i := 165) rfl
theorem ai_mc128 : ai_code ai_m128 ∈ lw_tbl := ai_t4_in (i := 192) rfl
theorem ai_mc129 : ai_code ai_m129 ∈ lw_tbl := ai_t4_in (i := 65) rfl
theorem ai_mc130 : ai_code ai_m130 ∈ lw_tbl := ai_t4_in (i := 147) rfl
theorem ai_mc131 : ai_code ai_m131 ∈ lw_tbl := ai_t4_in (i := 43) rfl
theorem ai_mc132 : ai_code ai_m132 ∈ lw_tbl := ai_t4_in (i := 53) rfl
theorem ai_mc133 : ai_code ai_m133 ∈ lw_tbl := ai_t2_in (i := 197) rfl
theorem ai_mc134 : ai_code ai_m134 ∈ lw_tbl := ai_t4_in (i := 140) rfl
theorem ai_mc135 : ai_code ai_m135 ∈ lw_tbl := ai_t3_in (i := 141) rfl
theorem ai_mc136 : ai_code ai_m136 ∈ lw_tbl := ai_t3_in (i := 123) rfl
theorem ai_mc137 : ai_code ai_m137 ∈ lw_tbl := ai_t4_in (i := 201) rfl
theorem ai_mc138 : ai_code ai_m138 ∈ lw_tbl := ai_t4_in (i := 19) rfl
theorem ai_mc139 : ai_code ai_m139 ∈ lw_tbl := ai_t3_in (i := 91) rfl
theorem ai_mc140 : ai_code ai_m140 ∈ lw_tbl := ai_t4_in (i := 30) rfl
theorem ai_mc141 : ai_code ai_m141 ∈ lw_tbl := ai_t4_in (i := 179) rfl
theorem ai_mc142 : ai_code ai_m142 ∈ lw_tbl := ai_t2_in (i := 91) rfl
theorem ai_mc143 : ai_code ai_m143 ∈ lw_tbl := ai_t4_in (i := 233) rfl
theorem ai_mc144 : ai_code ai_m144 ∈ lw_tbl := ai_t6_in (i := 158) rfl
theorem ai_mc145 : ai_code ai_m145 ∈ lw_tbl := ai_t6_in (i := 182) rfl
theorem ai_mc146 : ai_code ai_m146 ∈ lw_tbl := ai_t6_in (i := 9) rfl
theorem ai_mc147 : ai_code ai_m147 ∈ lw_tbl := ai_t5_in (i := 198) rfl
theorem ai_mc148 : ai_code ai_m148 ∈ lw_tbl := ai_t6_in (i := 142) rfl
theorem ai_mc149 : ai_code ai_m149 ∈ lw_tbl := ai_t5_in (i := 215) rfl
theorem ai_mc150 : ai_code ai_m150 ∈ lw_tbl := ai_t6_in (i := 29) rfl
theorem ai_mc151 : ai_code ai_m151 ∈ lw_tbl := ai_t6_in (i := 162) rfl
theorem ai_mc152 : ai_code ai_m152 ∈ lw_tbl := ai_t5_in (i := 179) rfl
theorem ai_mc153 : ai_code ai_m153 ∈ lw_tbl := ai_t6_in (i := 13) rfl
theorem ai_mc154 : ai_code ai_m154 ∈ lw_tbl := ai_t5_in (i := 121) rfl
theorem ai_mc155 : ai_code ai_m155 ∈ lw_tbl := ai_t6_in (i := 25) rfl
theorem ai_mc156 : ai_code ai_m156 ∈ lw_tbl := ai_t6_in (i := 5) rfl
theorem ai_mc157 : ai_code ai_m157 ∈ lw_tbl := ai_t5_in (i := 125) rfl
theorem ai_mc158 : ai_code ai_m158 ∈ lw_tbl := ai_t6_in (i := 118) rfl
theorem ai_mc159 : ai_code ai_m159 ∈ lw_tbl := ai_t6_in (i := 74) rfl
theorem ai_mc160 : ai_code ai_m160 ∈ lw_tbl := ai_t6_in (i := 138) rfl
theorem ai_mc161 : ai_code ai_m161 ∈ lw_tbl := ai_t6_in (i := 150) rfl
theorem ai_mc162 : ai_code ai_m162 ∈ lw_tbl := ai_t5_in (i := 183) rfl
theorem ai_mc163 : ai_code ai_m163 ∈ lw_tbl := ai_t5_in (i := 163) rfl
theorem ai_mc164 : ai_code ai_m164 ∈ lw_tbl := ai_t6_in (i := 78) rfl
theorem ai_mc165 : ai_code ai_m165 ∈ lw_tbl := ai_t6_in (i := 110) rfl
theorem ai_mc166 : ai_code ai_m166 ∈ lw_tbl := ai_t6_in (i := 21) rfl
theorem ai_mc167 : ai_code ai_m167 ∈ lw_tbl := ai_t6_in (i := 186) rfl
theorem ai_mc168 : ai_code ai_m168 ∈ lw_tbl := ai_t6_in (i := 178) rfl
theorem ai_mc169 : ai_code ai_m169 ∈ lw_tbl := ai_t6_in (i := 33) rfl
theorem ai_mc170 : ai_code ai_m170 ∈ lw_tbl := ai_t5_in (i := 187) rfl
theorem ai_mc171 : ai_code ai_m171 ∈ lw_tbl := ai_t5_in (i := 117) rfl
theorem ai_mc172 : ai_code ai_m172 ∈ lw_tbl := ai_t6_in (i := 114) rfl
theorem ai_mc173 : ai_code ai_m173 ∈ lw_tbl := ai_t5_in (i := 133) rfl
theorem ai_mc174 : ai_code ai_m174 ∈ lw_tbl := ai_t5_in (i := 228) rfl
theorem ai_mc175 : ai_code ai_m175 ∈ lw_tbl := ai_t5_in (i := 232) rfl
theorem ai_mc176 : ai_code ai_m176 ∈ lw_tbl := ai_t6_in (i := 130) rfl
theorem ai_mc177 : ai_code ai_m177 ∈ lw_tbl := ai_t6_in (i := 126) rfl
theorem ai_mc178 : ai_code ai_m178 ∈ lw_tbl := ai_t6_in (i := 134) rfl
theorem ai_mc179 : ai_code ai_m179 ∈ lw_tbl := ai_t6_in (i := 62) rfl
theorem ai_mc180 : ai_code ai_m180 ∈ lw_tbl := ai_t6_in (i := 66) rfl
theorem ai_mc181 : ai_code ai_m181 ∈ lw_tbl := ai_t5_in (i := 175) rfl
theorem ai_mc182 : ai_code ai_m182 ∈ lw_tbl := ai_t6_in (i := 70) rfl
theorem ai_mc183 : ai_code ai_m183 ∈ lw_tbl := ai_t6_in (i := 58) rfl
theorem ai_mc184 : ai_code ai_m184 ∈ lw_tbl := ai_t5_in (i := 144) rfl
theorem ai_mc185 : ai_code ai_m185 ∈ lw_tbl := ai_t6_in (i := 45) rfl
theorem ai_mc186 : ai_code ai_m186 ∈ lw_tbl := ai_t6_in (i := 49) rfl
theorem ai_mc187 : ai_code ai_m187 ∈ lw_tbl := ai_t5_in (i := 194) rfl
theorem ai_mc188 : ai_code ai_m188 ∈ lw_tbl := ai_t5_in (i := 159) rfl
theorem ai_mc189 : ai_code ai_m189 ∈ lw_tbl := ai_t6_in (i := 1) rfl
theorem ai_mc190 : ai_code ai_m190 ∈ lw_tbl := ai_t5_in (i := 151) rfl
theorem ai_mc191 : ai_code ai_m191 ∈ lw_tbl := ai_t6_in (i := 170) rfl
theorem ai_mc192 : ai_code ai_m192 ∈ lw_tbl := ai_t6_in (i := 54) rfl
theorem ai_mc193 : ai_code ai_m193 ∈ lw_tbl := ai_t5_in (i := 129) rfl
theorem ai_mc194 : ai_code ai_m194 ∈ lw_tbl := ai_t5_in (i := 236) rfl
theorem ai_mc195 : ai_code ai_m195 ∈ lw_tbl := ai_t5_in (i := 219) rfl
theorem ai_mc196 : ai_code ai_m196 ∈ lw_tbl := ai_t6_in (i := 86) rfl
theorem ai_mc197 : ai_code ai_m197 ∈ lw_tbl := ai_t6_in (i := 98) rfl
theorem ai_mc198 : ai_code ai_m198 ∈ lw_tbl := ai_t6_in (i := 102) rfl
theorem ai_mc199 : ai_code ai_m199 ∈ lw_tbl := ai_t6_in (i := 106) rfl
theorem ai_mc200 : ai_code ai_m200 ∈ lw_tbl := ai_t6_in (i := 82) rfl
theorem ai_mc201 : ai_code ai_m201 ∈ lw_tbl := ai_t6_in (i := 94) rfl
theorem ai_mc202 : ai_code ai_m202 ∈ lw_tbl := ai_t5_in (i := 224) rfl
theorem ai_mc203 : ai_code ai_m203 ∈ lw_tbl := ai_t6_in (i := 17) rfl
theorem ai_mc204 : ai_code ai_m204 ∈ lw_tbl := ai_t6_in (i := 194) rfl
theorem ai_mc205 : ai_code ai_m205 ∈ lw_tbl := ai_t5_in (i := 147) rfl
theorem ai_mc206 : ai_code ai_m206 ∈ lw_tbl := ai_t5_in (i := 167) rfl
theorem ai_mc207 : ai_code ai_m207 ∈ lw_tbl := ai_t6_in (i := 154) rfl
theorem ai_mc208 : ai_code ai_m208 ∈ lw_tbl := ai_t6_in (i := 122) rfl
theorem ai_mc209 : ai_code ai_m209 ∈ lw_tbl := ai_t5_in (i := 211) rfl
theorem ai_mc210 : ai_code ai_m210 ∈ lw_tbl := ai_t5_in (i := 155) rfl
theorem ai_mc211 : ai_code ai_m211 ∈ lw_tbl := ai_t5_in (i := 207) rfl
theorem ai_mc212 : ai_code ai_m212 ∈ lw_tbl := ai_t6_in (i := 166) rfl
theorem ai_mc213 : ai_code ai_m213 ∈ lw_tbl := ai_t6_in (i := 37) rfl
theorem ai_mc214 : ai_code ai_m214 ∈ lw_tbl := ai_t5_in (i := 191) rfl
theorem ai_mc215 : ai_code ai_m215 ∈ lw_tbl := ai_t5_in (i := 141) rfl
theorem ai_mc216 : ai_code ai_m216 ∈ lw_tbl := ai_t5_in (i := 171) rfl
theorem ai_mc217 : ai_code ai_m217 ∈ lw_tbl := ai_t5_in (i := 137) rfl
theorem ai_mc218 : ai_code ai_m218 ∈ lw_tbl := ai_t5_in (i := 203) rfl
theorem ai_mc219 : ai_code ai_m219 ∈ lw_tbl := ai_t6_in (i := 41) rfl
theorem ai_mc220 : ai_code ai_m220 ∈ lw_tbl := ai_t6_in (i := 146) rfl
theorem ai_mc221 : ai_code ai_m221 ∈ lw_tbl := ai_t6_in (i := 174) rfl
theorem ai_mc222 : ai_code ai_m222 ∈ lw_tbl := ai_t5_in (i := 114) rfl
theorem ai_mc223 : ai_code ai_m223 ∈ lw_tbl := ai_t6_in (i := 90) rfl
theorem ai_mc224 : ai_code ai_m224 ∈ lw_tbl := ai_t3_in (i := 210) rfl
theorem ai_mc225 : ai_code ai_m225 ∈ lw_tbl := ai_t2_in (i := 170) rfl
theorem ai_mc226 : ai_code ai_m226 ∈ lw_tbl := ai_t6_in (i := 190) rfl
theorem ai_mcs0 : ∀ M ∈ ai_ms0.tail, ai_code M ∈ lw_tbl := List.forall_mem_cons.mpr ⟨ai_mc1, List.forall_mem_cons.mpr ⟨ai_mc2, List.forall_mem_cons.mpr ⟨ai_mc3, List.forall_mem_cons.mpr ⟨ai_mc4, List.forall_mem_cons.mpr ⟨ai_mc5, List.forall_mem_cons.mpr ⟨ai_mc6, List.forall_mem_cons.mpr ⟨ai_mc7, List.forall_mem_cons.mpr ⟨ai_mc8, List.forall_mem_cons.mpr ⟨ai_mc9, fun _ h => nomatch h⟩⟩⟩⟩⟩⟩⟩⟩⟩
theorem ai_mcs1 : ∀ M ∈ ai_ms1, ai_code M ∈ lw_tbl := List.forall_mem_cons.mpr ⟨ai_mc10, List.forall_mem_cons.mpr ⟨ai_mc11, List.forall_mem_cons.mpr ⟨ai_mc12, List.forall_mem_cons.mpr ⟨ai_mc13, List.forall_mem_cons.mpr ⟨ai_mc14, List.forall_mem_cons.mpr ⟨ai_mc15, List.forall_mem_cons.mpr ⟨ai_mc16, List.forall_mem_cons.mpr ⟨ai_mc17, List.forall_mem_cons.mpr ⟨ai_mc18, List.forall_mem_cons.mpr ⟨ai_mc19, fun _ h => nomatch h⟩⟩⟩⟩⟩⟩⟩⟩⟩⟩
theorem ai_mcs2 : ∀ M ∈ ai_ms2, ai_code M ∈ lw_tbl := List.forall_mem_cons.mpr ⟨ai_mc20, List.forall_mem_cons.mpr ⟨ai_mc21, List.forall_mem_cons.mpr ⟨ai_mc22, List.forall_mem_cons.mpr ⟨ai_mc23, List.forall_mem_cons.mpr ⟨ai_mc24, List.forall_mem_cons.mpr ⟨ai_mc25, List.forall_mem_cons.mpr ⟨ai_mc26, List.forall_mem_cons.mpr ⟨ai_mc27, List.forall_mem_cons.mpr ⟨ai_mc28, List.forall_mem_cons.mpr ⟨ai_mc29, fun _ h => nomatch h⟩⟩⟩⟩⟩⟩⟩⟩⟩⟩
theorem ai_mcs3 : ∀ M ∈ ai_ms3, ai_code M ∈ lw_tbl := List.forall_mem_cons.mpr ⟨ai_mc30, List.forall_mem_cons.mpr ⟨ai_mc31, List.forall_mem_cons.mpr ⟨ai_mc32, List.forall_mem_cons.mpr ⟨ai_mc33, List.forall_mem_cons.mpr ⟨ai_mc34, List.forall_mem_cons.mpr ⟨ai_mc35, List.forall_mem_cons.mpr ⟨ai_mc36, List.forall_mem_cons.mpr ⟨ai_mc37, List.forall_mem_cons.mpr ⟨ai_mc38, List.forall_mem_cons.mpr ⟨ai_mc39, fun _ h => nomatch h⟩⟩⟩⟩⟩⟩⟩⟩⟩⟩
theorem ai_mcs4 : ∀ M ∈ ai_ms4, ai_code M ∈ lw_tbl := List.forall_mem_cons.mpr ⟨ai_mc40, List.forall_mem_cons.mpr ⟨ai_mc41, List.forall_mem_cons.mpr ⟨ai_mc42, List.forall_mem_cons.mpr ⟨ai_mc43, List.forall_mem_cons.mpr ⟨ai_mc44, List.forall_mem_cons.mpr ⟨ai_mc45, List.forall_mem_cons.mpr ⟨ai_mc46, List.forall_mem_cons.mpr ⟨ai_mc47, List.forall_mem_cons.mpr ⟨ai_mc48, List.forall_mem_cons.mpr ⟨ai_mc49, fun _ h => nomatch h⟩⟩⟩⟩⟩⟩⟩⟩⟩⟩
theorem ai_mcs5 : ∀ M ∈ ai_ms5, ai_code M ∈ lw_tbl := List.forall_mem_cons.mpr ⟨ai_mc50, List.forall_mem_cons.mpr ⟨ai_mc51, List.forall_mem_cons.mpr ⟨ai_mc52, List.forall_mem_cons.mpr ⟨ai_mc53, List.forall_mem_cons.mpr ⟨ai_mc54, List.forall_mem_cons.mpr ⟨ai_mc55, List.forall_mem_cons.mpr ⟨ai_mc56, List.forall_mem_cons.mpr ⟨ai_mc57, List.forall_mem_cons.mpr ⟨ai_mc58, List.forall_mem_cons.mpr ⟨ai_mc59, fun _ h => nomatch h⟩⟩⟩⟩⟩⟩⟩⟩⟩⟩
theorem ai_mcs6 : ∀ M ∈ ai_ms6, ai_code M ∈ lw_tbl := List.forall_mem_cons.mpr ⟨ai_mc60, List.forall_mem_cons.mpr ⟨ai_mc61, List.forall_mem_cons.mpr ⟨ai_mc62, List.forall_mem_cons.mpr ⟨ai_mc63, List.forall_mem_cons.mpr ⟨ai_mc64, List.forall_mem_cons.mpr ⟨ai_mc65, List.forall_mem_cons.mpr ⟨ai_mc66, List.forall_mem_cons.mpr ⟨ai_mc67, List.forall_mem_cons.mpr ⟨ai_mc68, List.forall_mem_cons.mpr ⟨ai_mc69, fun _ h => nomatch h⟩⟩⟩⟩⟩⟩⟩⟩⟩⟩
theorem ai_mcs7 : ∀ M ∈ ai_ms7, ai_code M ∈ lw_tbl := List.forall_mem_cons.mpr ⟨ai_mc70, List.forall_mem_cons.mpr ⟨ai_mc71, List.forall_mem_cons.mpr ⟨ai_mc72, List.forall_mem_cons.mpr ⟨ai_mc73, List.forall_mem_cons.mpr ⟨ai_mc74, List.forall_mem_cons.mpr ⟨ai_mc75, List.forall_mem_cons.mpr ⟨ai_mc76, List.forall_mem_cons.mpr ⟨ai_mc77, List.forall_mem_cons.mpr ⟨ai_mc78, List.forall_mem_cons.mpr ⟨ai_mc79, fun _ h => nomatch h⟩⟩⟩⟩⟩⟩⟩⟩⟩⟩
theorem ai_mcs8 : ∀ M ∈ ai_ms8, ai_code M ∈ lw_tbl := List.forall_mem_cons.mpr ⟨ai_mc80, List.forall_mem_cons.mpr ⟨ai_mc81, List.forall_mem_cons.mpr ⟨ai_mc82, List.forall_mem_cons.mpr ⟨ai_mc83, List.forall_mem_cons.mpr ⟨ai_mc84, List.forall_mem_cons.mpr ⟨ai_mc85, List.forall_mem_cons.mpr ⟨ai_mc86, List.forall_mem_cons.mpr ⟨ai_mc87, List.forall_mem_cons.mpr ⟨ai_mc88, List.forall_mem_cons.mpr ⟨ai_mc89, fun _ h => nomatch h⟩⟩⟩⟩⟩⟩⟩⟩⟩⟩
theorem ai_mcs9 : ∀ M ∈ ai_ms9, ai_code M ∈ lw_tbl := List.forall_mem_cons.mpr ⟨ai_mc90, List.forall_mem_cons.mpr ⟨ai_mc91, List.forall_mem_cons.mpr ⟨ai_mc92, List.forall_mem_cons.mpr ⟨ai_mc93, List.forall_mem_cons.mpr ⟨ai_mc94, List.forall_mem_cons.mpr ⟨ai_mc95, List.forall_mem_cons.mpr ⟨ai_mc96, List.forall_mem_cons.mpr ⟨ai_mc97, List.forall_mem_cons.mpr ⟨ai_mc98, List.forall_mem_cons.mpr ⟨ai_mc99, fun _ h => nomatch h⟩⟩⟩⟩⟩⟩⟩⟩⟩⟩
theorem ai_mcs10 : ∀ M ∈ ai_ms10, ai_code M ∈ lw_tbl := List.forall_mem_cons.mpr ⟨ai_mc100, List.forall_mem_cons.mpr ⟨ai_mc101, List.forall_mem_cons.mpr ⟨ai_mc102, List.forall_mem_cons.mpr ⟨ai_mc103, List.forall_mem_cons.mpr ⟨ai_mc104, List.forall_mem_cons.mpr ⟨ai_mc105, List.forall_mem_cons.mpr ⟨ai_mc106, List.forall_mem_cons.mpr ⟨ai_mc107, List.forall_mem_cons.mpr ⟨ai_mc108, List.forall_mem_cons.mpr ⟨ai_mc109, fun _ h => nomatch h⟩⟩⟩⟩⟩⟩⟩⟩⟩⟩
theorem ai_mcs11 : ∀ M ∈ ai_ms11, ai_code M ∈ lw_tbl := List.forall_mem_cons.mpr ⟨ai_mc110, List.forall_mem_cons.mpr ⟨ai_mc111, List.forall_mem_cons.mpr ⟨ai_mc112, List.forall_mem_cons.mpr ⟨ai_mc113, List.forall_mem_cons.mpr ⟨ai_mc114, List.forall_mem_cons.mpr ⟨ai_mc115, List.forall_mem_cons.mpr ⟨ai_mc116, List.forall_mem_cons.mpr ⟨ai_mc117, List.forall_mem_cons.mpr ⟨ai_mc118, List.forall_mem_cons.mpr ⟨ai_mc119, fun _ h => nomatch h⟩⟩⟩⟩⟩⟩⟩⟩⟩⟩
theorem ai_mcs12 : ∀ M ∈ ai_ms12, ai_code M ∈ lw_tbl := List.forall_mem_cons.mpr ⟨ai_mc120, List.forall_mem_cons.mpr ⟨ai_mc121, List.forall_mem_cons.mpr ⟨ai_mc122, List.forall_mem_cons.mpr ⟨ai_mc123, List.forall_mem_cons.mpr ⟨ai_mc124, List.forall_mem_cons.mpr ⟨ai_mc125, List.forall_mem_cons.mpr ⟨ai_mc126, List.forall_mem_cons.mpr ⟨ai_mc127, List.forall_mem_cons.mpr ⟨ai_mc128, List.forall_mem_cons.mpr ⟨ai_mc129, fun _ h => nomatch h⟩⟩⟩⟩⟩⟩⟩⟩⟩⟩
theorem ai_mcs13 : ∀ M ∈ ai_ms13, ai_code M ∈ lw_tbl := List.forall_mem_cons.mpr ⟨ai_mc130, List.forall_mem_cons.mpr ⟨ai_mc131, List.forall_mem_cons.mpr ⟨ai_mc132, List.forall_mem_cons.mpr ⟨ai_mc133, List.forall_mem_cons.mpr ⟨ai_mc134, List.forall_mem_cons.mpr ⟨ai_mc135, List.forall_mem_cons.mpr ⟨ai_mc136, List.forall_mem_cons.mpr ⟨ai_mc137, List.forall_mem_cons.mpr ⟨ai_mc138, List.forall_mem_cons.mpr ⟨ai_mc139, fun _ h => nomatch h⟩⟩⟩⟩⟩⟩⟩⟩⟩⟩
theorem ai_mcs14 : ∀ M ∈ ai_ms14, ai_code M ∈ lw_tbl := List.forall_mem_cons.mpr ⟨ai_mc140, List.forall_mem_cons.mpr ⟨ai_mc141, List.forall_mem_cons.mpr ⟨ai_mc142, List.forall_mem_cons.mpr ⟨ai_mc143, List.forall_mem_cons.mpr ⟨ai_mc144, List.forall_mem_cons.mpr ⟨ai_mc145, List.forall_mem_cons.mpr ⟨ai_mc146, List.forall_mem_cons.mpr ⟨ai_mc147, List.forall_mem_cons.mpr ⟨ai_mc148, List.forall_mem_cons.mpr ⟨ai_mc149, fun _ h => nomatch h⟩⟩⟩⟩⟩⟩⟩⟩⟩⟩
theorem ai_mcs15 : ∀ M ∈ ai_ms15, ai_code M ∈ lw_tbl := List.forall_mem_cons.mpr ⟨ai_mc150, List.forall_mem_cons.mpr ⟨ai_mc151, List.forall_mem_cons.mpr ⟨ai_mc152, List.forall_mem_cons.mpr ⟨ai_mc153, List.forall_mem_cons.mpr ⟨ai_mc154, List.forall_mem_cons.mpr ⟨ai_mc155, List.forall_mem_cons.mpr ⟨ai_mc156, List.forall_mem_cons.mpr ⟨ai_mc157, List.forall_mem_cons.mpr ⟨ai_mc158, List.forall_mem_cons.mpr ⟨ai_mc159, fun _ h => nomatch h⟩⟩⟩⟩⟩⟩⟩⟩⟩⟩
theorem ai_mcs16 : ∀ M ∈ ai_ms16, ai_code M ∈ lw_tbl := List.forall_mem_cons.mpr ⟨ai_mc160, List.forall_mem_cons.mpr ⟨ai_mc161, List.forall_mem_cons.mpr ⟨ai_mc162, List.forall_mem_cons.mpr ⟨ai_mc163, List.forall_mem_cons.mpr ⟨ai_mc164, List.forall_mem_cons.mpr ⟨ai_mc165, List.forall_mem_cons.mpr ⟨ai_mc166, List.forall_mem_cons.mpr ⟨ai_mc167, List.forall_mem_cons.mpr ⟨ai_mc168, List.forall_mem_cons.mpr ⟨ai_mc169, fun _ h => nomatch h⟩⟩⟩⟩⟩⟩⟩⟩⟩⟩
theorem ai_mcs17 : ∀ M ∈ ai_ms17, ai_code M ∈ lw_tbl := List.forall_mem_cons.mpr ⟨ai_mc170, List.forall_mem_cons.mpr ⟨ai_mc171, List.forall_mem_cons.mpr ⟨ai_mc172, List.forall_mem_cons.mpr ⟨ai_mc173, List.forall_mem_cons.mpr ⟨ai_mc174, List.forall_mem_cons.mpr ⟨ai_mc175, List.forall_mem_cons.mpr ⟨ai_mc176, List.forall_mem_cons.mpr ⟨ai_mc177, List.forall_mem_cons.mpr ⟨ai_mc178, List.forall_mem_cons.mpr ⟨ai_mc179, fun _ h => nomatch h⟩⟩⟩⟩⟩⟩⟩⟩⟩⟩
theorem ai_mcs18 : ∀ M ∈ ai_ms18, ai_code M ∈ lw_tbl := List.forall_mem_cons.mpr ⟨ai_mc180, List.forall_mem_cons.mpr ⟨ai_mc181, List.forall_mem_cons.mpr ⟨ai_mc182, List.forall_mem_cons.mpr ⟨ai_mc183, List.forall_mem_cons.mpr ⟨ai_mc184, List.forall_mem_cons.mpr ⟨ai_mc185, List.forall_mem_cons.mpr ⟨ai_mc186, List.forall_mem_cons.mpr ⟨ai_mc187, List.forall_mem_cons.mpr ⟨ai_mc188, List.forall_mem_cons.mpr ⟨ai_mc189, fun _ h => nomatch h⟩⟩⟩⟩⟩⟩⟩⟩⟩⟩
theorem ai_mcs19 : ∀ M ∈ ai_ms19, ai_code M ∈ lw_tbl := List.forall_mem_cons.mpr ⟨ai_mc190, List.forall_mem_cons.mpr ⟨ai_mc191, List.forall_mem_cons.mpr ⟨ai_mc192, List.forall_mem_cons.mpr ⟨ai_mc193, List.forall_mem_cons.mpr ⟨ai_mc194, List.forall_mem_cons.mpr ⟨ai_mc195, List.forall_mem_cons.mpr ⟨ai_mc196, List.forall_mem_cons.mpr ⟨ai_mc197, List.forall_mem_cons.mpr ⟨ai_mc198, List.forall_mem_cons.mpr ⟨ai_mc199, fun _ h => nomatch h⟩⟩⟩⟩⟩⟩⟩⟩⟩⟩
theorem ai_mcs20 : ∀ M ∈ ai_ms20, ai_code M ∈ lw_tbl := List.forall_mem_cons.mpr ⟨ai_mc200, List.forall_mem_cons.mpr ⟨ai_mc201, List.forall_mem_cons.mpr ⟨ai_mc202, List.forall_mem_cons.mpr ⟨ai_mc203, List.forall_mem_cons.mpr ⟨ai_mc204, List.forall_mem_cons.mpr ⟨ai_mc205, List.forall_mem_cons.mpr ⟨ai_mc206, List.forall_mem_cons.mpr ⟨ai_mc207, List.forall_mem_cons.mpr ⟨ai_mc208, List.forall_mem_cons.mpr ⟨ai_mc209, fun _ h => nomatch h⟩⟩⟩⟩⟩⟩⟩⟩⟩⟩
theorem ai_mcs21 : ∀ M ∈ ai_ms21, ai_code M ∈ lw_tbl := List.forall_mem_cons.mpr ⟨ai_mc210, List.forall_mem_cons.mpr ⟨ai_mc211, List.forall_mem_cons.mpr ⟨ai_mc212, List.forall_mem_cons.mpr ⟨ai_mc213, List.forall_mem_cons.mpr ⟨ai_mc214, List.forall_mem_cons.mpr ⟨ai_mc215, List.forall_mem_cons.mpr ⟨ai_mc216, List.forall_mem_cons.mpr ⟨ai_mc217, List.forall_mem_cons.mpr ⟨ai_mc218, List.forall_mem_cons.mpr ⟨ai_mc219, fun _ h => nomatch h⟩⟩⟩⟩⟩⟩⟩⟩⟩⟩
theorem ai_mcs22 : ∀ M ∈ ai_ms22, ai_code M ∈ lw_tbl := List.forall_mem_cons.mpr ⟨ai_mc220, List.forall_mem_cons.mpr ⟨ai_mc221, List.forall_mem_cons.mpr ⟨ai_mc222, List.forall_mem_cons.mpr ⟨ai_mc223, List.forall_mem_cons.mpr ⟨ai_mc224, List.forall_mem_cons.mpr ⟨ai_mc225, List.forall_mem_cons.mpr ⟨ai_mc226, fun _ h => nomatch h⟩⟩⟩⟩⟩⟩⟩
theorem ai_mcs : ∀ M ∈ ai_meths.tail, ai_code M ∈ lw_tbl := by
  show ∀ M ∈ ai_ms0.tail ++ (ai_ms1 ++ (ai_ms2 ++ (ai_ms3 ++ (ai_ms4 ++ (ai_ms5 ++ (ai_ms6 ++ (ai_ms7 ++ (ai_ms8 ++ (ai_ms9 ++ (ai_ms10 ++ (ai_ms11 ++ (ai_ms12 ++ (ai_ms13 ++ (ai_ms14 ++ (ai_ms15 ++ (ai_ms16 ++ (ai_ms17 ++ (ai_ms18 ++ (ai_ms19 ++ (ai_ms20 ++ (ai_ms21 ++ (ai_ms22)))))))))))))))))))))), ai_code M ∈ lw_tbl
  exact List.forall_mem_append.mpr ⟨ai_mcs0, List.forall_mem_append.mpr ⟨ai_mcs1, List.forall_mem_append.mpr ⟨ai_mcs2, List.forall_mem_append.mpr ⟨ai_mcs3, List.forall_mem_append.mpr ⟨ai_mcs4, List.forall_mem_append.mpr ⟨ai_mcs5, List.forall_mem_append.mpr ⟨ai_mcs6, List.forall_mem_append.mpr ⟨ai_mcs7, List.forall_mem_append.mpr ⟨ai_mcs8, List.forall_mem_append.mpr ⟨ai_mcs9, List.forall_mem_append.mpr ⟨ai_mcs10, List.forall_mem_append.mpr ⟨ai_mcs11, List.forall_mem_append.mpr ⟨ai_mcs12, List.forall_mem_append.mpr ⟨ai_mcs13, List.forall_mem_append.mpr ⟨ai_mcs14, List.forall_mem_append.mpr ⟨ai_mcs15, List.forall_mem_append.mpr ⟨ai_mcs16, List.forall_mem_append.mpr ⟨ai_mcs17, List.forall_mem_append.mpr ⟨ai_mcs18, List.forall_mem_append.mpr ⟨ai_mcs19, List.forall_mem_append.mpr ⟨ai_mcs20, List.forall_mem_append.mpr ⟨ai_mcs21, ai_mcs22⟩⟩⟩⟩⟩⟩⟩⟩⟩⟩⟩⟩⟩⟩⟩⟩⟩⟩⟩⟩⟩⟩
def ai_mdf : ai_M := (⟨"", "", ""⟩, ⟨#[]⟩, 0, none, 0, [], [])
def ai_bCl (q : Nat × Nat × Nat × Nat × Nat × Nat × Nat) : Bool := match q with
  | (oc, idx, j, n, kind, ci, pos) => match ai_meths[j]?, ai_mw[j]? with
    | some M, some (_, _, _, _, ar, kd) => decide (j ≠ 0) && (match kind with
      | 0 => ai_tw pos (.methodLink (ai_cn oc) idx M.1) && Nat.beq kd 0 && Nat.beq n (ar + 1) && (match vwCl[ci]? with
        | some (C, _, _) => decide (M.1.cls = C)
        | none => false)
      | 1 => ai_tw pos (.methodLink (ai_cn oc) idx M.1) && Nat.beq kd 3 && Nat.beq n (ar + 1)
      | 2 => ai_tw pos (.methodLinkNest (ai_cn oc) idx M.1 "PenPage") && Nat.beq kd 3 && Nat.beq n (ar + 1)
      | 3 => ai_tw pos (.methodLink (ai_cn oc) idx M.1) && Nat.beq kd 1 && Nat.beq n ar
      | 4 => ai_tw pos (.methodLink (ai_cn oc) idx M.1) && Nat.beq kd 2 && Nat.beq n ar
      | 6 => ai_tw pos (.methodLinkNest (ai_cn oc) idx M.1 "PenPage") && Nat.beq kd 1 && Nat.beq n ar
      | _ => false)
    | _, _ => false
theorem ai_bCl_ok : ai_lc.all ai_bCl = true := by decide +kernel
