/-! ===== the constructors ===== -/
def iT0 : cm_T := fun _ => (0, 0)
def iE0 : cm_E := fun _ _ => ai_un
def iT1 : cm_T := fun i => if i = 0 then (0, 7) else iT0 i
noncomputable def iE1 : cm_E := fun i k => if i = 0 then ai_nth ai_un (ai_fld 7) k else iE0 i k
def iT2 : cm_T := fun i => if i = 1 then (4, 5) else iT1 i
noncomputable def iE2 : cm_E := fun i k => if i = 1 then ai_nul else iE1 i k
noncomputable def iE3 : cm_E := cm_up iE2 0 0 (cr 1)
def iT3 : cm_T := fun i => if i = 2 then (4, 5) else iT2 i
noncomputable def iE4 : cm_E := fun i k => if i = 2 then ai_nul else iE3 i k
noncomputable def iE5 : cm_E := cm_up iE4 0 1 (cr 2)
def iT4 : cm_T := fun i => if i = 3 then (1, 3) else iT3 i
noncomputable def iE6 : cm_E := fun i k => if i = 3 then (0, 0, 0) else iE5 i k
noncomputable def iE7 : cm_E := cm_up iE6 0 2 (cr 3)
def iT5 : cm_T := fun i => if i = 4 then (1, 3) else iT4 i
noncomputable def iE8 : cm_E := fun i k => if i = 4 then (0, 0, 0) else iE7 i k
noncomputable def iE9 : cm_E := cm_up iE8 0 3 (cr 4)
def iT6 : cm_T := fun i => if i = 5 then (1, 400) else iT5 i
noncomputable def iE10 : cm_E := fun i k => if i = 5 then (0, 0, 0) else iE9 i k
noncomputable def iE11 : cm_E := cm_up iE10 0 4 (cr 5)
def iT7 : cm_T := fun i => if i = 6 then (0, 6) else iT6 i
noncomputable def iE12 : cm_E := fun i k => if i = 6 then ai_nth ai_un (ai_fld 6) k else iE11 i k
def iT8 : cm_T := fun i => if i = 7 then (2, 300) else iT7 i
noncomputable def iE13 : cm_E := fun i k => if i = 7 then (0, 0, 0) else iE12 i k
noncomputable def iE14 : cm_E := cm_up iE13 6 0 (cr 7)
def iT9 : cm_T := fun i => if i = 8 then (2, 300) else iT8 i
noncomputable def iE15 : cm_E := fun i k => if i = 8 then (0, 0, 0) else iE14 i k
noncomputable def iE16 : cm_E := cm_up iE15 6 1 (cr 8)
def iT10 : cm_T := fun i => if i = 9 then (5, 300) else iT9 i
noncomputable def iE17 : cm_E := fun i k => if i = 9 then ai_nul else iE16 i k
noncomputable def iE18 : cm_E := cm_up iE17 6 2 (cr 9)
def iT11 : cm_T := fun i => if i = 10 then (1, 300) else iT10 i
noncomputable def iE19 : cm_E := fun i k => if i = 10 then (0, 0, 0) else iE18 i k
noncomputable def iE20 : cm_E := cm_up iE19 6 3 (cr 10)
def iT12 : cm_T := fun i => if i = 11 then (1, 300) else iT11 i
noncomputable def iE21 : cm_E := fun i k => if i = 11 then (0, 0, 0) else iE20 i k
noncomputable def iE22 : cm_E := cm_up iE21 6 4 (cr 11)
def iT13 : cm_T := fun i => if i = 12 then (1, 300) else iT12 i
noncomputable def iE23 : cm_E := fun i k => if i = 12 then (0, 0, 0) else iE22 i k
noncomputable def iE24 : cm_E := cm_up iE23 6 5 (cr 12)
def iT14 : cm_T := fun i => if i = 13 then (1, 5) else iT13 i
noncomputable def iE25 : cm_E := fun i k => if i = 13 then (0, 0, 0) else iE24 i k
noncomputable def iE26 : cm_E := cm_up iE25 6 6 (cr 13)
noncomputable def iE27 : cm_E := cm_up iE26 6 7 (ai_i 0)
noncomputable def iE28 : cm_E := cm_up iE27 6 8 (ai_i 0)
noncomputable def iE29 : cm_E := cm_up iE28 0 5 (cr 6)
def iT15 : cm_T := fun i => if i = 14 then (0, 1) else iT14 i
noncomputable def iE30 : cm_E := fun i k => if i = 14 then ai_nth ai_un (ai_fld 1) k else iE29 i k
def iT16 : cm_T := fun i => if i = 15 then (1, 24) else iT15 i
noncomputable def iE31 : cm_E := fun i k => if i = 15 then (0, 0, 0) else iE30 i k
noncomputable def iE32 : cm_E := cm_up iE31 14 0 (cr 15)
def iT17 : cm_T := fun i => if i = 16 then (1, 24) else iT16 i
noncomputable def iE33 : cm_E := fun i k => if i = 16 then (0, 0, 0) else iE32 i k
noncomputable def iE34 : cm_E := cm_up iE33 14 1 (cr 16)
noncomputable def iE35 : cm_E := cm_up iE34 14 2 (ai_i 0)
noncomputable def iE36 : cm_E := cm_up iE35 14 3 (ai_i 0)
noncomputable def iE37 : cm_E := cm_up iE36 0 6 (cr 14)
def iT18 : cm_T := fun i => if i = 17 then (0, 2) else iT17 i
noncomputable def iE38 : cm_E := fun i k => if i = 17 then ai_nth ai_un (ai_fld 2) k else iE37 i k
def iT19 : cm_T := fun i => if i = 18 then (1, 400) else iT18 i
noncomputable def iE39 : cm_E := fun i k => if i = 18 then (0, 0, 0) else iE38 i k
noncomputable def iE40 : cm_E := cm_up iE39 17 0 (cr 18)
noncomputable def iE41 : cm_E := cm_up iE40 17 1 (ai_i 0)
noncomputable def iE42 : cm_E := cm_up iE41 0 7 (cr 17)
def iT20 : cm_T := fun i => if i = 19 then (0, 0) else iT19 i
noncomputable def iE43 : cm_E := fun i k => if i = 19 then ai_nth ai_un (ai_fld 0) k else iE42 i k
def iT21 : cm_T := fun i => if i = 20 then (1, 5) else iT20 i
noncomputable def iE44 : cm_E := fun i k => if i = 20 then (0, 0, 0) else iE43 i k
noncomputable def iE45 : cm_E := cm_up iE44 19 0 (cr 20)
def iT22 : cm_T := fun i => if i = 21 then (1, 6) else iT21 i
noncomputable def iE46 : cm_E := fun i k => if i = 21 then (0, 0, 0) else iE45 i k
noncomputable def iE47 : cm_E := cm_up iE46 19 1 (cr 21)
def iT23 : cm_T := fun i => if i = 22 then (1, 0) else iT22 i
noncomputable def iE48 : cm_E := fun i k => if i = 22 then (0, 0, 0) else iE47 i k
noncomputable def iE49 : cm_E := cm_up iE48 19 2 (cr 22)
noncomputable def iE50 : cm_E := cm_up iE49 19 3 (ai_i 0)
noncomputable def iE51 : cm_E := cm_up iE50 19 4 (ai_i 0)
noncomputable def iE52 : cm_E := cm_up iE51 19 5 (ai_i 0)
noncomputable def iE53 : cm_E := cm_up iE52 19 6 (ai_i 0)
noncomputable def iE54 : cm_E := cm_up iE53 19 7 (ai_i 0)
noncomputable def iE55 : cm_E := cm_up iE54 0 8 (cr 19)
def iT24 : cm_T := fun i => if i = 23 then (0, 5) else iT23 i
noncomputable def iE56 : cm_E := fun i k => if i = 23 then ai_nth ai_un (ai_fld 5) k else iE55 i k
def iT25 : cm_T := fun i => if i = 24 then (1, 12) else iT24 i
noncomputable def iE57 : cm_E := fun i k => if i = 24 then (0, 0, 0) else iE56 i k
noncomputable def iE58 : cm_E := cm_up iE57 23 0 (cr 24)
def iT26 : cm_T := fun i => if i = 25 then (1, 8) else iT25 i
noncomputable def iE59 : cm_E := fun i k => if i = 25 then (0, 0, 0) else iE58 i k
noncomputable def iE60 : cm_E := cm_up iE59 23 1 (cr 25)
def iT27 : cm_T := fun i => if i = 26 then (1, 8) else iT26 i
noncomputable def iE61 : cm_E := fun i k => if i = 26 then (0, 0, 0) else iE60 i k
noncomputable def iE62 : cm_E := cm_up iE61 23 2 (cr 26)
def iT28 : cm_T := fun i => if i = 27 then (1, 8) else iT27 i
noncomputable def iE63 : cm_E := fun i k => if i = 27 then (0, 0, 0) else iE62 i k
noncomputable def iE64 : cm_E := cm_up iE63 23 3 (cr 27)
def iT29 : cm_T := fun i => if i = 28 then (1, 8) else iT28 i
noncomputable def iE65 : cm_E := fun i k => if i = 28 then (0, 0, 0) else iE64 i k
noncomputable def iE66 : cm_E := cm_up iE65 23 4 (cr 28)
def iT30 : cm_T := fun i => if i = 29 then (1, 8) else iT29 i
noncomputable def iE67 : cm_E := fun i k => if i = 29 then (0, 0, 0) else iE66 i k
noncomputable def iE68 : cm_E := cm_up iE67 23 5 (cr 29)
def iT31 : cm_T := fun i => if i = 30 then (6, 9) else if 30 < i ∧ i < 40 then (1, 8) else iT30 i
noncomputable def iE69 : cm_E := fun i k => if i = 30 then (if k < 9 then cr (30 + 1 + k) else ai_nul) else if 30 < i ∧ i < 40 then ai_i 0 else iE68 i k
noncomputable def iE70 : cm_E := cm_up iE69 23 6 (cr 30)
def iT32 : cm_T := fun i => if i = 40 then (1, 9) else iT31 i
noncomputable def iE71 : cm_E := fun i k => if i = 40 then (0, 0, 0) else iE70 i k
noncomputable def iE72 : cm_E := cm_up iE71 23 7 (cr 40)
noncomputable def iE73 : cm_E := cm_up iE72 23 8 (ai_i 0)
noncomputable def iE74 : cm_E := cm_up iE73 23 9 (ai_i 0)
noncomputable def iE75 : cm_E := cm_up iE74 23 10 (ai_i 0)
noncomputable def iE76 : cm_E := cm_up iE75 23 11 (ai_i 0)
noncomputable def iE77 : cm_E := cm_up iE76 23 12 (ai_i 0)
noncomputable def iE78 : cm_E := cm_up iE77 0 9 (cr 23)
noncomputable def iE79 : cm_E := cm_up iE78 0 10 (ai_i 2)
noncomputable def iE80 : cm_E := cm_up iE79 0 11 (ai_i 0)
noncomputable def iE81 : cm_E := cm_up iE80 0 12 (ai_i ((-1)))
noncomputable def iE82 : cm_E := cm_up iE81 0 13 (ai_i ((-1)))
noncomputable def iE83 : cm_E := cm_up iE82 0 14 (ai_i 0)
def iT33 : cm_T := fun i => if i = 41 then (0, 3) else iT32 i
noncomputable def iE84 : cm_E := fun i k => if i = 41 then ai_nth ai_un (ai_fld 3) k else iE83 i k
def iT34 : cm_T := fun i => if i = 42 then (5, 300) else iT33 i
noncomputable def iE85 : cm_E := fun i k => if i = 42 then ai_nul else iE84 i k
noncomputable def iE86 : cm_E := cm_up iE85 41 1 (cr 42)
def iT35 : cm_T := fun i => if i = 43 then (1, 5) else iT34 i
noncomputable def iE87 : cm_E := fun i k => if i = 43 then (0, 0, 0) else iE86 i k
noncomputable def iE88 : cm_E := cm_up iE87 41 2 (cr 43)
def iT36 : cm_T := fun i => if i = 44 then (5, 20) else iT35 i
noncomputable def iE89 : cm_E := fun i k => if i = 44 then ai_nul else iE88 i k
noncomputable def iE90 : cm_E := cm_up iE89 41 3 (cr 44)
noncomputable def iE91 : cm_E := cm_up iE90 41 4 (ai_i 0)
noncomputable def iE92 : cm_E := cm_up iE91 41 5 (ai_i 0)
noncomputable def iE93 : cm_E := cm_up iE92 41 0 (ai_i 0)
noncomputable def iE94 : cm_E := cm_up iE93 1 0 (cr 41)
def iT37 : cm_T := fun i => if i = 45 then (0, 3) else iT36 i
noncomputable def iE95 : cm_E := fun i k => if i = 45 then ai_nth ai_un (ai_fld 3) k else iE94 i k
def iT38 : cm_T := fun i => if i = 46 then (5, 300) else iT37 i
noncomputable def iE96 : cm_E := fun i k => if i = 46 then ai_nul else iE95 i k
noncomputable def iE97 : cm_E := cm_up iE96 45 1 (cr 46)
def iT39 : cm_T := fun i => if i = 47 then (1, 5) else iT38 i
noncomputable def iE98 : cm_E := fun i k => if i = 47 then (0, 0, 0) else iE97 i k
noncomputable def iE99 : cm_E := cm_up iE98 45 2 (cr 47)
def iT40 : cm_T := fun i => if i = 48 then (5, 20) else iT39 i
noncomputable def iE100 : cm_E := fun i k => if i = 48 then ai_nul else iE99 i k
noncomputable def iE101 : cm_E := cm_up iE100 45 3 (cr 48)
noncomputable def iE102 : cm_E := cm_up iE101 45 4 (ai_i 0)
noncomputable def iE103 : cm_E := cm_up iE102 45 5 (ai_i 0)
noncomputable def iE104 : cm_E := cm_up iE103 45 0 (ai_i 0)
noncomputable def iE105 : cm_E := cm_up iE104 2 0 (cr 45)
def iT41 : cm_T := fun i => if i = 49 then (0, 3) else iT40 i
noncomputable def iE106 : cm_E := fun i k => if i = 49 then ai_nth ai_un (ai_fld 3) k else iE105 i k
def iT42 : cm_T := fun i => if i = 50 then (5, 300) else iT41 i
noncomputable def iE107 : cm_E := fun i k => if i = 50 then ai_nul else iE106 i k
noncomputable def iE108 : cm_E := cm_up iE107 49 1 (cr 50)
def iT43 : cm_T := fun i => if i = 51 then (1, 5) else iT42 i
noncomputable def iE109 : cm_E := fun i k => if i = 51 then (0, 0, 0) else iE108 i k
noncomputable def iE110 : cm_E := cm_up iE109 49 2 (cr 51)
def iT44 : cm_T := fun i => if i = 52 then (5, 20) else iT43 i
noncomputable def iE111 : cm_E := fun i k => if i = 52 then ai_nul else iE110 i k
noncomputable def iE112 : cm_E := cm_up iE111 49 3 (cr 52)
noncomputable def iE113 : cm_E := cm_up iE112 49 4 (ai_i 0)
noncomputable def iE114 : cm_E := cm_up iE113 49 5 (ai_i 0)
noncomputable def iE115 : cm_E := cm_up iE114 49 0 (ai_i 1)
noncomputable def iE116 : cm_E := cm_up iE115 1 1 (cr 49)
def iT45 : cm_T := fun i => if i = 53 then (0, 3) else iT44 i
noncomputable def iE117 : cm_E := fun i k => if i = 53 then ai_nth ai_un (ai_fld 3) k else iE116 i k
def iT46 : cm_T := fun i => if i = 54 then (5, 300) else iT45 i
noncomputable def iE118 : cm_E := fun i k => if i = 54 then ai_nul else iE117 i k
noncomputable def iE119 : cm_E := cm_up iE118 53 1 (cr 54)
def iT47 : cm_T := fun i => if i = 55 then (1, 5) else iT46 i
noncomputable def iE120 : cm_E := fun i k => if i = 55 then (0, 0, 0) else iE119 i k
noncomputable def iE121 : cm_E := cm_up iE120 53 2 (cr 55)
def iT48 : cm_T := fun i => if i = 56 then (5, 20) else iT47 i
noncomputable def iE122 : cm_E := fun i k => if i = 56 then ai_nul else iE121 i k
noncomputable def iE123 : cm_E := cm_up iE122 53 3 (cr 56)
noncomputable def iE124 : cm_E := cm_up iE123 53 4 (ai_i 0)
noncomputable def iE125 : cm_E := cm_up iE124 53 5 (ai_i 0)
noncomputable def iE126 : cm_E := cm_up iE125 53 0 (ai_i 1)
noncomputable def iE127 : cm_E := cm_up iE126 2 1 (cr 53)
def iT49 : cm_T := fun i => if i = 57 then (0, 3) else iT48 i
noncomputable def iE128 : cm_E := fun i k => if i = 57 then ai_nth ai_un (ai_fld 3) k else iE127 i k
def iT50 : cm_T := fun i => if i = 58 then (5, 300) else iT49 i
noncomputable def iE129 : cm_E := fun i k => if i = 58 then ai_nul else iE128 i k
noncomputable def iE130 : cm_E := cm_up iE129 57 1 (cr 58)
def iT51 : cm_T := fun i => if i = 59 then (1, 5) else iT50 i
noncomputable def iE131 : cm_E := fun i k => if i = 59 then (0, 0, 0) else iE130 i k
noncomputable def iE132 : cm_E := cm_up iE131 57 2 (cr 59)
def iT52 : cm_T := fun i => if i = 60 then (5, 20) else iT51 i
noncomputable def iE133 : cm_E := fun i k => if i = 60 then ai_nul else iE132 i k
noncomputable def iE134 : cm_E := cm_up iE133 57 3 (cr 60)
noncomputable def iE135 : cm_E := cm_up iE134 57 4 (ai_i 0)
noncomputable def iE136 : cm_E := cm_up iE135 57 5 (ai_i 0)
noncomputable def iE137 : cm_E := cm_up iE136 57 0 (ai_i 2)
noncomputable def iE138 : cm_E := cm_up iE137 1 2 (cr 57)
def iT53 : cm_T := fun i => if i = 61 then (0, 3) else iT52 i
noncomputable def iE139 : cm_E := fun i k => if i = 61 then ai_nth ai_un (ai_fld 3) k else iE138 i k
def iT54 : cm_T := fun i => if i = 62 then (5, 300) else iT53 i
noncomputable def iE140 : cm_E := fun i k => if i = 62 then ai_nul else iE139 i k
noncomputable def iE141 : cm_E := cm_up iE140 61 1 (cr 62)
def iT55 : cm_T := fun i => if i = 63 then (1, 5) else iT54 i
noncomputable def iE142 : cm_E := fun i k => if i = 63 then (0, 0, 0) else iE141 i k
noncomputable def iE143 : cm_E := cm_up iE142 61 2 (cr 63)
def iT56 : cm_T := fun i => if i = 64 then (5, 20) else iT55 i
noncomputable def iE144 : cm_E := fun i k => if i = 64 then ai_nul else iE143 i k
noncomputable def iE145 : cm_E := cm_up iE144 61 3 (cr 64)
noncomputable def iE146 : cm_E := cm_up iE145 61 4 (ai_i 0)
noncomputable def iE147 : cm_E := cm_up iE146 61 5 (ai_i 0)
noncomputable def iE148 : cm_E := cm_up iE147 61 0 (ai_i 2)
noncomputable def iE149 : cm_E := cm_up iE148 2 2 (cr 61)
def iT57 : cm_T := fun i => if i = 65 then (0, 3) else iT56 i
noncomputable def iE150 : cm_E := fun i k => if i = 65 then ai_nth ai_un (ai_fld 3) k else iE149 i k
def iT58 : cm_T := fun i => if i = 66 then (5, 300) else iT57 i
noncomputable def iE151 : cm_E := fun i k => if i = 66 then ai_nul else iE150 i k
noncomputable def iE152 : cm_E := cm_up iE151 65 1 (cr 66)
def iT59 : cm_T := fun i => if i = 67 then (1, 5) else iT58 i
noncomputable def iE153 : cm_E := fun i k => if i = 67 then (0, 0, 0) else iE152 i k
noncomputable def iE154 : cm_E := cm_up iE153 65 2 (cr 67)
def iT60 : cm_T := fun i => if i = 68 then (5, 20) else iT59 i
noncomputable def iE155 : cm_E := fun i k => if i = 68 then ai_nul else iE154 i k
noncomputable def iE156 : cm_E := cm_up iE155 65 3 (cr 68)
noncomputable def iE157 : cm_E := cm_up iE156 65 4 (ai_i 0)
noncomputable def iE158 : cm_E := cm_up iE157 65 5 (ai_i 0)
noncomputable def iE159 : cm_E := cm_up iE158 65 0 (ai_i 3)
noncomputable def iE160 : cm_E := cm_up iE159 1 3 (cr 65)
def iT61 : cm_T := fun i => if i = 69 then (0, 3) else iT60 i
noncomputable def iE161 : cm_E := fun i k => if i = 69 then ai_nth ai_un (ai_fld 3) k else iE160 i k
def iT62 : cm_T := fun i => if i = 70 then (5, 300) else iT61 i
noncomputable def iE162 : cm_E := fun i k => if i = 70 then ai_nul else iE161 i k
noncomputable def iE163 : cm_E := cm_up iE162 69 1 (cr 70)
def iT63 : cm_T := fun i => if i = 71 then (1, 5) else iT62 i
noncomputable def iE164 : cm_E := fun i k => if i = 71 then (0, 0, 0) else iE163 i k
noncomputable def iE165 : cm_E := cm_up iE164 69 2 (cr 71)
def iT64 : cm_T := fun i => if i = 72 then (5, 20) else iT63 i
noncomputable def iE166 : cm_E := fun i k => if i = 72 then ai_nul else iE165 i k
noncomputable def iE167 : cm_E := cm_up iE166 69 3 (cr 72)
noncomputable def iE168 : cm_E := cm_up iE167 69 4 (ai_i 0)
noncomputable def iE169 : cm_E := cm_up iE168 69 5 (ai_i 0)
noncomputable def iE170 : cm_E := cm_up iE169 69 0 (ai_i 3)
noncomputable def iE171 : cm_E := cm_up iE170 2 3 (cr 69)
def iT65 : cm_T := fun i => if i = 73 then (0, 3) else iT64 i
noncomputable def iE172 : cm_E := fun i k => if i = 73 then ai_nth ai_un (ai_fld 3) k else iE171 i k
def iT66 : cm_T := fun i => if i = 74 then (5, 300) else iT65 i
noncomputable def iE173 : cm_E := fun i k => if i = 74 then ai_nul else iE172 i k
noncomputable def iE174 : cm_E := cm_up iE173 73 1 (cr 74)
def iT67 : cm_T := fun i => if i = 75 then (1, 5) else iT66 i
noncomputable def iE175 : cm_E := fun i k => if i = 75 then (0, 0, 0) else iE174 i k
noncomputable def iE176 : cm_E := cm_up iE175 73 2 (cr 75)
def iT68 : cm_T := fun i => if i = 76 then (5, 20) else iT67 i
noncomputable def iE177 : cm_E := fun i k => if i = 76 then ai_nul else iE176 i k
noncomputable def iE178 : cm_E := cm_up iE177 73 3 (cr 76)
noncomputable def iE179 : cm_E := cm_up iE178 73 4 (ai_i 0)
noncomputable def iE180 : cm_E := cm_up iE179 73 5 (ai_i 0)
noncomputable def iE181 : cm_E := cm_up iE180 73 0 (ai_i 4)
noncomputable def iE182 : cm_E := cm_up iE181 1 4 (cr 73)
def iT69 : cm_T := fun i => if i = 77 then (0, 3) else iT68 i
noncomputable def iE183 : cm_E := fun i k => if i = 77 then ai_nth ai_un (ai_fld 3) k else iE182 i k
def iT70 : cm_T := fun i => if i = 78 then (5, 300) else iT69 i
noncomputable def iE184 : cm_E := fun i k => if i = 78 then ai_nul else iE183 i k
noncomputable def iE185 : cm_E := cm_up iE184 77 1 (cr 78)
def iT71 : cm_T := fun i => if i = 79 then (1, 5) else iT70 i
noncomputable def iE186 : cm_E := fun i k => if i = 79 then (0, 0, 0) else iE185 i k
noncomputable def iE187 : cm_E := cm_up iE186 77 2 (cr 79)
def iT72 : cm_T := fun i => if i = 80 then (5, 20) else iT71 i
noncomputable def iE188 : cm_E := fun i k => if i = 80 then ai_nul else iE187 i k
noncomputable def iE189 : cm_E := cm_up iE188 77 3 (cr 80)
noncomputable def iE190 : cm_E := cm_up iE189 77 4 (ai_i 0)
noncomputable def iE191 : cm_E := cm_up iE190 77 5 (ai_i 0)
noncomputable def iE192 : cm_E := cm_up iE191 77 0 (ai_i 4)
noncomputable def iE193 : cm_E := cm_up iE192 2 4 (cr 77)
def iT73 : cm_T := fun i => if i = 81 then (0, 8) else iT72 i
noncomputable def iE194 : cm_E := fun i k => if i = 81 then ai_nth ai_un (ai_fld 8) k else iE193 i k
noncomputable def iE195 : cm_E := cm_up iE194 81 1 (ai_i 2)
def iT74 : cm_T := fun i => if i = 82 then (1, 531366) else iT73 i
noncomputable def iE196 : cm_E := fun i k => if i = 82 then (0, 0, 0) else iE195 i k
noncomputable def iE197 : cm_E := cm_up iE196 81 2 (cr 82)
def iT75 : cm_T := fun i => if i = 83 then (1, 25) else iT74 i
noncomputable def iE198 : cm_E := fun i k => if i = 83 then (0, 0, 0) else iE197 i k
noncomputable def iE199 : cm_E := cm_up iE198 81 3 (cr 83)
def iT76 : cm_T := fun i => if i = 84 then (1, 5) else iT75 i
noncomputable def iE200 : cm_E := fun i k => if i = 84 then (0, 0, 0) else iE199 i k
noncomputable def iE201 : cm_E := cm_up iE200 81 4 (cr 84)
def iT77 : cm_T := fun i => if i = 85 then (1, 3) else iT76 i
noncomputable def iE202 : cm_E := fun i k => if i = 85 then (0, 0, 0) else iE201 i k
noncomputable def iE203 : cm_E := cm_up iE202 81 5 (cr 85)
def iT78 : cm_T := fun i => if i = 86 then (2, 300) else iT77 i
noncomputable def iE204 : cm_E := fun i k => if i = 86 then (0, 0, 0) else iE203 i k
noncomputable def iE205 : cm_E := cm_up iE204 81 6 (cr 86)
def iT79 : cm_T := fun i => if i = 87 then (2, 300) else iT78 i
noncomputable def iE206 : cm_E := fun i k => if i = 87 then (0, 0, 0) else iE205 i k
noncomputable def iE207 : cm_E := cm_up iE206 81 7 (cr 87)
def iT80 : cm_T := fun i => if i = 88 then (1, 300) else iT79 i
noncomputable def iE208 : cm_E := fun i k => if i = 88 then (0, 0, 0) else iE207 i k
noncomputable def iE209 : cm_E := cm_up iE208 81 8 (cr 88)
def iT81 : cm_T := fun i => if i = 89 then (1, 300) else iT80 i
noncomputable def iE210 : cm_E := fun i k => if i = 89 then (0, 0, 0) else iE209 i k
noncomputable def iE211 : cm_E := cm_up iE210 81 9 (cr 89)
def iT82 : cm_T := fun i => if i = 90 then (1, 300) else iT81 i
noncomputable def iE212 : cm_E := fun i k => if i = 90 then (0, 0, 0) else iE211 i k
noncomputable def iE213 : cm_E := cm_up iE212 81 10 (cr 90)
def iT83 : cm_T := fun i => if i = 91 then (1, 300) else iT82 i
noncomputable def iE214 : cm_E := fun i k => if i = 91 then (0, 0, 0) else iE213 i k
noncomputable def iE215 : cm_E := cm_up iE214 81 11 (cr 91)
def iT84 : cm_T := fun i => if i = 92 then (1, 400) else iT83 i
noncomputable def iE216 : cm_E := fun i k => if i = 92 then (0, 0, 0) else iE215 i k
noncomputable def iE217 : cm_E := cm_up iE216 81 14 (cr 92)
def iT85 : cm_T := fun i => if i = 93 then (1, 400) else iT84 i
noncomputable def iE218 : cm_E := fun i k => if i = 93 then (0, 0, 0) else iE217 i k
noncomputable def iE219 : cm_E := cm_up iE218 81 15 (cr 93)
noncomputable def iE220 : cm_E := cm_up iE219 81 18 (ai_i ((-1)))
def iT86 : cm_T := fun i => if i = 94 then (1, 12) else iT85 i
noncomputable def iE221 : cm_E := fun i k => if i = 94 then (0, 0, 0) else iE220 i k
noncomputable def iE222 : cm_E := cm_up iE221 81 25 (cr 94)
def iT87 : cm_T := fun i => if i = 95 then (1, 8) else iT86 i
noncomputable def iE223 : cm_E := fun i k => if i = 95 then (0, 0, 0) else iE222 i k
noncomputable def iE224 : cm_E := cm_up iE223 81 26 (cr 95)
def iT88 : cm_T := fun i => if i = 96 then (1, 8) else iT87 i
noncomputable def iE225 : cm_E := fun i k => if i = 96 then (0, 0, 0) else iE224 i k
noncomputable def iE226 : cm_E := cm_up iE225 81 27 (cr 96)
def iT89 : cm_T := fun i => if i = 97 then (1, 8) else iT88 i
noncomputable def iE227 : cm_E := fun i k => if i = 97 then (0, 0, 0) else iE226 i k
noncomputable def iE228 : cm_E := cm_up iE227 81 28 (cr 97)
def iT90 : cm_T := fun i => if i = 98 then (1, 8) else iT89 i
noncomputable def iE229 : cm_E := fun i k => if i = 98 then (0, 0, 0) else iE228 i k
noncomputable def iE230 : cm_E := cm_up iE229 81 29 (cr 98)
def iT91 : cm_T := fun i => if i = 99 then (1, 8) else iT90 i
noncomputable def iE231 : cm_E := fun i k => if i = 99 then (0, 0, 0) else iE230 i k
noncomputable def iE232 : cm_E := cm_up iE231 81 30 (cr 99)
def iT92 : cm_T := fun i => if i = 100 then (1, 8) else iT91 i
noncomputable def iE233 : cm_E := fun i k => if i = 100 then (0, 0, 0) else iE232 i k
noncomputable def iE234 : cm_E := cm_up iE233 81 31 (cr 100)
def iT93 : cm_T := fun i => if i = 101 then (1, 25) else iT92 i
noncomputable def iE235 : cm_E := fun i k => if i = 101 then (0, 0, 0) else iE234 i k
noncomputable def iE236 : cm_E := cm_up iE235 81 35 (cr 101)
def iT94 : cm_T := fun i => if i = 102 then (1, 5) else iT93 i
noncomputable def iE237 : cm_E := fun i k => if i = 102 then (0, 0, 0) else iE236 i k
noncomputable def iE238 : cm_E := cm_up iE237 81 36 (cr 102)
def iT95 : cm_T := fun i => if i = 103 then (1, 3) else iT94 i
noncomputable def iE239 : cm_E := fun i k => if i = 103 then (0, 0, 0) else iE238 i k
noncomputable def iE240 : cm_E := cm_up iE239 81 37 (cr 103)
def iT96 : cm_T := fun i => if i = 104 then (3, 1) else iT95 i
noncomputable def iE241 : cm_E := fun i k => if i = 104 then (4, 0, 0) else iE240 i k
set_option maxRecDepth 16384 in
theorem ini_2 {sl : Int × Int} {x : ai_E} {d : Nat} : cm_ct (ai_ev sl (d + 1)) x 103 [cr 6] iT7 iE12 7 7 1805 (fun rk rv T' E' nx' => rk = 0 ∧ T' = iT14 ∧ E' = iE28 ∧ nx' = 14) := by
  refine cm_body (M := ai_m103) rfl rfl (fun kc ks => ?_)
  show cm_wp (ai_find ai_c103 sl) (ai_ev sl (d + 0)) x (kc + 7) (ks + 1805) _ 0 [cr 6] [] iT7 iE12 7 kc ks
  refine w_aload (i := 0) (npc := 1) (v := cr 6) rfl rfl rfl ?_
  refine w_oinit (npc := 4) rfl ?_
  refine w_aload (i := 0) (npc := 5) (v := cr 6) rfl rfl rfl ?_
  refine w_const (n := 300) (npc := 8) rfl ?_
  refine w_newa (t := 2) (dv := (0, 0, 0)) (npc := 10) rfl (by decide) (by decide) (by decide) ?_
  change cm_wp _ _ _ _ _ _ 10 [cr 6] [cr 7, cr 6] iT8 iE13 8 (kc + 1) (ks + 300)
  refine w_putf (i := 6) (ci := 6) (k := 0) (t := 2) (npc := 13) rfl (by decide) rfl (by decide) rfl ?_
  change cm_wp _ _ _ _ _ _ 13 [cr 6] [] iT8 iE14 8 (kc + 1) (ks + 300)
  refine w_aload (i := 0) (npc := 14) (v := cr 6) rfl rfl rfl ?_
  refine w_const (n := 300) (npc := 17) rfl ?_
  refine w_newa (t := 2) (dv := (0, 0, 0)) (npc := 19) rfl (by decide) (by decide) (by decide) ?_
  change cm_wp _ _ _ _ _ _ 19 [cr 6] [cr 8, cr 6] iT9 iE15 9 ((kc + 1) + 1) ((ks + 300) + 300)
  refine w_putf (i := 6) (ci := 6) (k := 1) (t := 2) (npc := 22) rfl (by decide) rfl (by decide) rfl ?_
  change cm_wp _ _ _ _ _ _ 22 [cr 6] [] iT9 iE16 9 ((kc + 1) + 1) ((ks + 300) + 300)
  refine w_aload (i := 0) (npc := 23) (v := cr 6) rfl rfl rfl ?_
  refine w_const (n := 300) (npc := 26) rfl ?_
  refine w_newa (t := 5) (dv := ai_nul) (npc := 29) rfl (by decide) (by decide) (by decide) ?_
  change cm_wp _ _ _ _ _ _ 29 [cr 6] [cr 9, cr 6] iT10 iE17 10 (((kc + 1) + 1) + 1) (((ks + 300) + 300) + 300)
  refine w_putf (i := 6) (ci := 6) (k := 2) (t := 2) (npc := 32) rfl (by decide) rfl (by decide) rfl ?_
  change cm_wp _ _ _ _ _ _ 32 [cr 6] [] iT10 iE18 10 (((kc + 1) + 1) + 1) (((ks + 300) + 300) + 300)
  refine w_aload (i := 0) (npc := 33) (v := cr 6) rfl rfl rfl ?_
  refine w_const (n := 300) (npc := 36) rfl ?_
  refine w_newa (t := 1) (dv := (0, 0, 0)) (npc := 38) rfl (by decide) (by decide) (by decide) ?_
  change cm_wp _ _ _ _ _ _ 38 [cr 6] [cr 10, cr 6] iT11 iE19 11 ((((kc + 1) + 1) + 1) + 1) ((((ks + 300) + 300) + 300) + 300)
  refine w_putf (i := 6) (ci := 6) (k := 3) (t := 2) (npc := 41) rfl (by decide) rfl (by decide) rfl ?_
  change cm_wp _ _ _ _ _ _ 41 [cr 6] [] iT11 iE20 11 ((((kc + 1) + 1) + 1) + 1) ((((ks + 300) + 300) + 300) + 300)
  refine w_aload (i := 0) (npc := 42) (v := cr 6) rfl rfl rfl ?_
  refine w_const (n := 300) (npc := 45) rfl ?_
  refine w_newa (t := 1) (dv := (0, 0, 0)) (npc := 47) rfl (by decide) (by decide) (by decide) ?_
  change cm_wp _ _ _ _ _ _ 47 [cr 6] [cr 11, cr 6] iT12 iE21 12 (((((kc + 1) + 1) + 1) + 1) + 1) (((((ks + 300) + 300) + 300) + 300) + 300)
  refine w_putf (i := 6) (ci := 6) (k := 4) (t := 2) (npc := 50) rfl (by decide) rfl (by decide) rfl ?_
  change cm_wp _ _ _ _ _ _ 50 [cr 6] [] iT12 iE22 12 (((((kc + 1) + 1) + 1) + 1) + 1) (((((ks + 300) + 300) + 300) + 300) + 300)
  refine w_aload (i := 0) (npc := 51) (v := cr 6) rfl rfl rfl ?_
  refine w_const (n := 300) (npc := 54) rfl ?_
  refine w_newa (t := 1) (dv := (0, 0, 0)) (npc := 56) rfl (by decide) (by decide) (by decide) ?_
  change cm_wp _ _ _ _ _ _ 56 [cr 6] [cr 12, cr 6] iT13 iE23 13 ((((((kc + 1) + 1) + 1) + 1) + 1) + 1) ((((((ks + 300) + 300) + 300) + 300) + 300) + 300)
  refine w_putf (i := 6) (ci := 6) (k := 5) (t := 2) (npc := 59) rfl (by decide) rfl (by decide) rfl ?_
  change cm_wp _ _ _ _ _ _ 59 [cr 6] [] iT13 iE24 13 ((((((kc + 1) + 1) + 1) + 1) + 1) + 1) ((((((ks + 300) + 300) + 300) + 300) + 300) + 300)
  refine w_aload (i := 0) (npc := 60) (v := cr 6) rfl rfl rfl ?_
  refine w_const (n := 5) (npc := 61) rfl ?_
  refine w_newa (t := 1) (dv := (0, 0, 0)) (npc := 63) rfl (by decide) (by decide) (by decide) ?_
  change cm_wp _ _ _ _ _ _ 63 [cr 6] [cr 13, cr 6] iT14 iE25 14 (((((((kc + 1) + 1) + 1) + 1) + 1) + 1) + 1) (((((((ks + 300) + 300) + 300) + 300) + 300) + 300) + 5)
  refine w_putf (i := 6) (ci := 6) (k := 6) (t := 2) (npc := 66) rfl (by decide) rfl (by decide) rfl ?_
  change cm_wp _ _ _ _ _ _ 66 [cr 6] [] iT14 iE26 14 (((((((kc + 1) + 1) + 1) + 1) + 1) + 1) + 1) (((((((ks + 300) + 300) + 300) + 300) + 300) + 300) + 5)
  refine w_aload (i := 0) (npc := 67) (v := cr 6) rfl rfl rfl ?_
  refine w_const (n := 0) (npc := 68) rfl ?_
  refine w_putf (i := 6) (ci := 6) (k := 7) (t := 0) (npc := 71) rfl (by decide) rfl (by decide) rfl ?_
  change cm_wp _ _ _ _ _ _ 71 [cr 6] [] iT14 iE27 14 (((((((kc + 1) + 1) + 1) + 1) + 1) + 1) + 1) (((((((ks + 300) + 300) + 300) + 300) + 300) + 300) + 5)
  refine w_aload (i := 0) (npc := 72) (v := cr 6) rfl rfl rfl ?_
  refine w_const (n := 0) (npc := 73) rfl ?_
  refine w_putf (i := 6) (ci := 6) (k := 8) (t := 0) (npc := 76) rfl (by decide) rfl (by decide) rfl ?_
  change cm_wp _ _ _ _ _ _ 76 [cr 6] [] iT14 iE28 14 (((((((kc + 1) + 1) + 1) + 1) + 1) + 1) + 1) (((((((ks + 300) + 300) + 300) + 300) + 300) + 300) + 5)
  exact w_vret rfl ⟨rfl, rfl, rfl, rfl⟩ (by omega) (by omega)
set_option maxRecDepth 16384 in
theorem ini_3 {sl : Int × Int} {x : ai_E} {d : Nat} : cm_ct (ai_ev sl (d + 1)) x 56 [cr 14] iT15 iE30 15 2 48 (fun rk rv T' E' nx' => rk = 0 ∧ T' = iT17 ∧ E' = iE36 ∧ nx' = 17) := by
  refine cm_body (M := ai_m56) rfl rfl (fun kc ks => ?_)
  show cm_wp (ai_find ai_c56 sl) (ai_ev sl (d + 0)) x (kc + 2) (ks + 48) _ 0 [cr 14] [] iT15 iE30 15 kc ks
  refine w_aload (i := 0) (npc := 1) (v := cr 14) rfl rfl rfl ?_
  refine w_oinit (npc := 4) rfl ?_
  refine w_aload (i := 0) (npc := 5) (v := cr 14) rfl rfl rfl ?_
  refine w_const (n := 24) (npc := 7) rfl ?_
  refine w_newa (t := 1) (dv := (0, 0, 0)) (npc := 9) rfl (by decide) (by decide) (by decide) ?_
  change cm_wp _ _ _ _ _ _ 9 [cr 14] [cr 15, cr 14] iT16 iE31 16 (kc + 1) (ks + 24)
  refine w_putf (i := 14) (ci := 1) (k := 0) (t := 2) (npc := 12) rfl (by decide) rfl (by decide) rfl ?_
  change cm_wp _ _ _ _ _ _ 12 [cr 14] [] iT16 iE32 16 (kc + 1) (ks + 24)
  refine w_aload (i := 0) (npc := 13) (v := cr 14) rfl rfl rfl ?_
  refine w_const (n := 24) (npc := 15) rfl ?_
  refine w_newa (t := 1) (dv := (0, 0, 0)) (npc := 17) rfl (by decide) (by decide) (by decide) ?_
  change cm_wp _ _ _ _ _ _ 17 [cr 14] [cr 16, cr 14] iT17 iE33 17 ((kc + 1) + 1) ((ks + 24) + 24)
  refine w_putf (i := 14) (ci := 1) (k := 1) (t := 2) (npc := 20) rfl (by decide) rfl (by decide) rfl ?_
  change cm_wp _ _ _ _ _ _ 20 [cr 14] [] iT17 iE34 17 ((kc + 1) + 1) ((ks + 24) + 24)
  refine w_aload (i := 0) (npc := 21) (v := cr 14) rfl rfl rfl ?_
  refine w_const (n := 0) (npc := 22) rfl ?_
  refine w_putf (i := 14) (ci := 1) (k := 2) (t := 0) (npc := 25) rfl (by decide) rfl (by decide) rfl ?_
  change cm_wp _ _ _ _ _ _ 25 [cr 14] [] iT17 iE35 17 ((kc + 1) + 1) ((ks + 24) + 24)
  refine w_aload (i := 0) (npc := 26) (v := cr 14) rfl rfl rfl ?_
  refine w_const (n := 0) (npc := 27) rfl ?_
  refine w_putf (i := 14) (ci := 1) (k := 3) (t := 0) (npc := 30) rfl (by decide) rfl (by decide) rfl ?_
  change cm_wp _ _ _ _ _ _ 30 [cr 14] [] iT17 iE36 17 ((kc + 1) + 1) ((ks + 24) + 24)
  exact w_vret rfl ⟨rfl, rfl, rfl, rfl⟩ (by omega) (by omega)
set_option maxRecDepth 16384 in
theorem ini_4 {sl : Int × Int} {x : ai_E} {d : Nat} : cm_ct (ai_ev sl (d + 1)) x 61 [cr 17] iT18 iE38 18 1 400 (fun rk rv T' E' nx' => rk = 0 ∧ T' = iT19 ∧ E' = iE41 ∧ nx' = 19) := by
  refine cm_body (M := ai_m61) rfl rfl (fun kc ks => ?_)
  show cm_wp (ai_find ai_c61 sl) (ai_ev sl (d + 0)) x (kc + 1) (ks + 400) _ 0 [cr 17] [] iT18 iE38 18 kc ks
  refine w_aload (i := 0) (npc := 1) (v := cr 17) rfl rfl rfl ?_
  refine w_oinit (npc := 4) rfl ?_
  refine w_aload (i := 0) (npc := 5) (v := cr 17) rfl rfl rfl ?_
  refine w_const (n := 400) (npc := 8) rfl ?_
  refine w_newa (t := 1) (dv := (0, 0, 0)) (npc := 10) rfl (by decide) (by decide) (by decide) ?_
  change cm_wp _ _ _ _ _ _ 10 [cr 17] [cr 18, cr 17] iT19 iE39 19 (kc + 1) (ks + 400)
  refine w_putf (i := 17) (ci := 2) (k := 0) (t := 2) (npc := 13) rfl (by decide) rfl (by decide) rfl ?_
  change cm_wp _ _ _ _ _ _ 13 [cr 17] [] iT19 iE40 19 (kc + 1) (ks + 400)
  refine w_aload (i := 0) (npc := 14) (v := cr 17) rfl rfl rfl ?_
  refine w_const (n := 0) (npc := 15) rfl ?_
  refine w_putf (i := 17) (ci := 2) (k := 1) (t := 0) (npc := 18) rfl (by decide) rfl (by decide) rfl ?_
  change cm_wp _ _ _ _ _ _ 18 [cr 17] [] iT19 iE41 19 (kc + 1) (ks + 400)
  exact w_vret rfl ⟨rfl, rfl, rfl, rfl⟩ (by omega) (by omega)
set_option maxRecDepth 16384 in
theorem ini_5 {sl : Int × Int} {x : ai_E} {d : Nat} : cm_ct (ai_ev sl (d + 1)) x 44 [cr 19] iT20 iE43 20 3 11 (fun rk rv T' E' nx' => rk = 0 ∧ T' = iT23 ∧ E' = iE54 ∧ nx' = 23) := by
  refine cm_body (M := ai_m44) rfl rfl (fun kc ks => ?_)
  show cm_wp (ai_find ai_c44 sl) (ai_ev sl (d + 0)) x (kc + 3) (ks + 11) _ 0 [cr 19] [] iT20 iE43 20 kc ks
  refine w_aload (i := 0) (npc := 1) (v := cr 19) rfl rfl rfl ?_
  refine w_oinit (npc := 4) rfl ?_
  refine w_aload (i := 0) (npc := 5) (v := cr 19) rfl rfl rfl ?_
  refine w_const (n := 5) (npc := 6) rfl ?_
  refine w_newa (t := 1) (dv := (0, 0, 0)) (npc := 8) rfl (by decide) (by decide) (by decide) ?_
  change cm_wp _ _ _ _ _ _ 8 [cr 19] [cr 20, cr 19] iT21 iE44 21 (kc + 1) (ks + 5)
  refine w_putf (i := 19) (ci := 0) (k := 0) (t := 2) (npc := 11) rfl (by decide) rfl (by decide) rfl ?_
  change cm_wp _ _ _ _ _ _ 11 [cr 19] [] iT21 iE45 21 (kc + 1) (ks + 5)
  refine w_aload (i := 0) (npc := 12) (v := cr 19) rfl rfl rfl ?_
  refine w_const (n := 6) (npc := 14) rfl ?_
  refine w_newa (t := 1) (dv := (0, 0, 0)) (npc := 16) rfl (by decide) (by decide) (by decide) ?_
  change cm_wp _ _ _ _ _ _ 16 [cr 19] [cr 21, cr 19] iT22 iE46 22 ((kc + 1) + 1) ((ks + 5) + 6)
  refine w_putf (i := 19) (ci := 0) (k := 1) (t := 2) (npc := 19) rfl (by decide) rfl (by decide) rfl ?_
  change cm_wp _ _ _ _ _ _ 19 [cr 19] [] iT22 iE47 22 ((kc + 1) + 1) ((ks + 5) + 6)
  refine w_aload (i := 0) (npc := 20) (v := cr 19) rfl rfl rfl ?_
  refine w_const (n := 0) (npc := 21) rfl ?_
  refine w_newa (t := 1) (dv := (0, 0, 0)) (npc := 23) rfl (by decide) (by decide) (by decide) ?_
  change cm_wp _ _ _ _ _ _ 23 [cr 19] [cr 22, cr 19] iT23 iE48 23 (((kc + 1) + 1) + 1) (((ks + 5) + 6) + 0)
  refine w_putf (i := 19) (ci := 0) (k := 2) (t := 2) (npc := 26) rfl (by decide) rfl (by decide) rfl ?_
  change cm_wp _ _ _ _ _ _ 26 [cr 19] [] iT23 iE49 23 (((kc + 1) + 1) + 1) (((ks + 5) + 6) + 0)
  refine w_aload (i := 0) (npc := 27) (v := cr 19) rfl rfl rfl ?_
  refine w_const (n := 0) (npc := 28) rfl ?_
  refine w_putf (i := 19) (ci := 0) (k := 3) (t := 0) (npc := 31) rfl (by decide) rfl (by decide) rfl ?_
  change cm_wp _ _ _ _ _ _ 31 [cr 19] [] iT23 iE50 23 (((kc + 1) + 1) + 1) (((ks + 5) + 6) + 0)
  refine w_aload (i := 0) (npc := 32) (v := cr 19) rfl rfl rfl ?_
  refine w_const (n := 0) (npc := 33) rfl ?_
  refine w_putf (i := 19) (ci := 0) (k := 4) (t := 0) (npc := 36) rfl (by decide) rfl (by decide) rfl ?_
  change cm_wp _ _ _ _ _ _ 36 [cr 19] [] iT23 iE51 23 (((kc + 1) + 1) + 1) (((ks + 5) + 6) + 0)
  refine w_aload (i := 0) (npc := 37) (v := cr 19) rfl rfl rfl ?_
  refine w_const (n := 0) (npc := 38) rfl ?_
  refine w_putf (i := 19) (ci := 0) (k := 5) (t := 0) (npc := 41) rfl (by decide) rfl (by decide) rfl ?_
  change cm_wp _ _ _ _ _ _ 41 [cr 19] [] iT23 iE52 23 (((kc + 1) + 1) + 1) (((ks + 5) + 6) + 0)
  refine w_aload (i := 0) (npc := 42) (v := cr 19) rfl rfl rfl ?_
  refine w_const (n := 0) (npc := 43) rfl ?_
  refine w_putf (i := 19) (ci := 0) (k := 6) (t := 0) (npc := 46) rfl (by decide) rfl (by decide) rfl ?_
  change cm_wp _ _ _ _ _ _ 46 [cr 19] [] iT23 iE53 23 (((kc + 1) + 1) + 1) (((ks + 5) + 6) + 0)
  refine w_aload (i := 0) (npc := 47) (v := cr 19) rfl rfl rfl ?_
  refine w_const (n := 0) (npc := 48) rfl ?_
  refine w_putf (i := 19) (ci := 0) (k := 7) (t := 0) (npc := 51) rfl (by decide) rfl (by decide) rfl ?_
  change cm_wp _ _ _ _ _ _ 51 [cr 19] [] iT23 iE54 23 (((kc + 1) + 1) + 1) (((ks + 5) + 6) + 0)
  exact w_vret rfl ⟨rfl, rfl, rfl, rfl⟩ (by omega) (by omega)
set_option maxRecDepth 16384 in
theorem ini_6 {sl : Int × Int} {x : ai_E} {d : Nat} : cm_ct (ai_ev sl (d + 1)) x 94 [cr 23] iT24 iE56 24 17 142 (fun rk rv T' E' nx' => rk = 0 ∧ T' = iT32 ∧ E' = iE77 ∧ nx' = 41) := by
  refine cm_body (M := ai_m94) rfl rfl (fun kc ks => ?_)
  show cm_wp (ai_find ai_c94 sl) (ai_ev sl (d + 0)) x (kc + 17) (ks + 142) _ 0 [cr 23] [] iT24 iE56 24 kc ks
  refine w_aload (i := 0) (npc := 1) (v := cr 23) rfl rfl rfl ?_
  refine w_oinit (npc := 4) rfl ?_
  refine w_aload (i := 0) (npc := 5) (v := cr 23) rfl rfl rfl ?_
  refine w_const (n := 12) (npc := 7) rfl ?_
  refine w_newa (t := 1) (dv := (0, 0, 0)) (npc := 9) rfl (by decide) (by decide) (by decide) ?_
  change cm_wp _ _ _ _ _ _ 9 [cr 23] [cr 24, cr 23] iT25 iE57 25 (kc + 1) (ks + 12)
  refine w_putf (i := 23) (ci := 5) (k := 0) (t := 2) (npc := 12) rfl (by decide) rfl (by decide) rfl ?_
  change cm_wp _ _ _ _ _ _ 12 [cr 23] [] iT25 iE58 25 (kc + 1) (ks + 12)
  refine w_aload (i := 0) (npc := 13) (v := cr 23) rfl rfl rfl ?_
  refine w_const (n := 8) (npc := 15) rfl ?_
  refine w_newa (t := 1) (dv := (0, 0, 0)) (npc := 17) rfl (by decide) (by decide) (by decide) ?_
  change cm_wp _ _ _ _ _ _ 17 [cr 23] [cr 25, cr 23] iT26 iE59 26 ((kc + 1) + 1) ((ks + 12) + 8)
  refine w_putf (i := 23) (ci := 5) (k := 1) (t := 2) (npc := 20) rfl (by decide) rfl (by decide) rfl ?_
  change cm_wp _ _ _ _ _ _ 20 [cr 23] [] iT26 iE60 26 ((kc + 1) + 1) ((ks + 12) + 8)
  refine w_aload (i := 0) (npc := 21) (v := cr 23) rfl rfl rfl ?_
  refine w_const (n := 8) (npc := 23) rfl ?_
  refine w_newa (t := 1) (dv := (0, 0, 0)) (npc := 25) rfl (by decide) (by decide) (by decide) ?_
  change cm_wp _ _ _ _ _ _ 25 [cr 23] [cr 26, cr 23] iT27 iE61 27 (((kc + 1) + 1) + 1) (((ks + 12) + 8) + 8)
  refine w_putf (i := 23) (ci := 5) (k := 2) (t := 2) (npc := 28) rfl (by decide) rfl (by decide) rfl ?_
  change cm_wp _ _ _ _ _ _ 28 [cr 23] [] iT27 iE62 27 (((kc + 1) + 1) + 1) (((ks + 12) + 8) + 8)
  refine w_aload (i := 0) (npc := 29) (v := cr 23) rfl rfl rfl ?_
  refine w_const (n := 8) (npc := 31) rfl ?_
  refine w_newa (t := 1) (dv := (0, 0, 0)) (npc := 33) rfl (by decide) (by decide) (by decide) ?_
  change cm_wp _ _ _ _ _ _ 33 [cr 23] [cr 27, cr 23] iT28 iE63 28 ((((kc + 1) + 1) + 1) + 1) ((((ks + 12) + 8) + 8) + 8)
  refine w_putf (i := 23) (ci := 5) (k := 3) (t := 2) (npc := 36) rfl (by decide) rfl (by decide) rfl ?_
  change cm_wp _ _ _ _ _ _ 36 [cr 23] [] iT28 iE64 28 ((((kc + 1) + 1) + 1) + 1) ((((ks + 12) + 8) + 8) + 8)
  refine w_aload (i := 0) (npc := 37) (v := cr 23) rfl rfl rfl ?_
  refine w_const (n := 8) (npc := 39) rfl ?_
  refine w_newa (t := 1) (dv := (0, 0, 0)) (npc := 41) rfl (by decide) (by decide) (by decide) ?_
  change cm_wp _ _ _ _ _ _ 41 [cr 23] [cr 28, cr 23] iT29 iE65 29 (((((kc + 1) + 1) + 1) + 1) + 1) (((((ks + 12) + 8) + 8) + 8) + 8)
  refine w_putf (i := 23) (ci := 5) (k := 4) (t := 2) (npc := 44) rfl (by decide) rfl (by decide) rfl ?_
  change cm_wp _ _ _ _ _ _ 44 [cr 23] [] iT29 iE66 29 (((((kc + 1) + 1) + 1) + 1) + 1) (((((ks + 12) + 8) + 8) + 8) + 8)
  refine w_aload (i := 0) (npc := 45) (v := cr 23) rfl rfl rfl ?_
  refine w_const (n := 8) (npc := 47) rfl ?_
  refine w_newa (t := 1) (dv := (0, 0, 0)) (npc := 49) rfl (by decide) (by decide) (by decide) ?_
  change cm_wp _ _ _ _ _ _ 49 [cr 23] [cr 29, cr 23] iT30 iE67 30 ((((((kc + 1) + 1) + 1) + 1) + 1) + 1) ((((((ks + 12) + 8) + 8) + 8) + 8) + 8)
  refine w_putf (i := 23) (ci := 5) (k := 5) (t := 2) (npc := 52) rfl (by decide) rfl (by decide) rfl ?_
  change cm_wp _ _ _ _ _ _ 52 [cr 23] [] iT30 iE68 30 ((((((kc + 1) + 1) + 1) + 1) + 1) + 1) ((((((ks + 12) + 8) + 8) + 8) + 8) + 8)
  refine w_aload (i := 0) (npc := 53) (v := cr 23) rfl rfl rfl ?_
  refine w_const (n := 9) (npc := 55) rfl ?_
  refine w_const (n := 8) (npc := 57) rfl ?_
  refine w_mna (a := 9) (b := 8) (npc := 61) rfl (by decide) (by decide) (by decide) ?_
  change cm_wp _ _ _ _ _ _ 61 [cr 23] [cr 30, cr 23] iT31 iE69 40 (((((((kc + 1) + 1) + 1) + 1) + 1) + 1) + 1 + 9) (((((((ks + 12) + 8) + 8) + 8) + 8) + 8) + 9 + 9 * 8)
  refine w_putf (i := 23) (ci := 5) (k := 6) (t := 2) (npc := 64) rfl (by decide) rfl (by decide) rfl ?_
  change cm_wp _ _ _ _ _ _ 64 [cr 23] [] iT31 iE70 40 (((((((kc + 1) + 1) + 1) + 1) + 1) + 1) + 1 + 9) (((((((ks + 12) + 8) + 8) + 8) + 8) + 8) + 9 + 9 * 8)
  refine w_aload (i := 0) (npc := 65) (v := cr 23) rfl rfl rfl ?_
  refine w_const (n := 9) (npc := 67) rfl ?_
  refine w_newa (t := 1) (dv := (0, 0, 0)) (npc := 69) rfl (by decide) (by decide) (by decide) ?_
  change cm_wp _ _ _ _ _ _ 69 [cr 23] [cr 40, cr 23] iT32 iE71 41 ((((((((kc + 1) + 1) + 1) + 1) + 1) + 1) + 1 + 9) + 1) ((((((((ks + 12) + 8) + 8) + 8) + 8) + 8) + 9 + 9 * 8) + 9)
  refine w_putf (i := 23) (ci := 5) (k := 7) (t := 2) (npc := 72) rfl (by decide) rfl (by decide) rfl ?_
  change cm_wp _ _ _ _ _ _ 72 [cr 23] [] iT32 iE72 41 ((((((((kc + 1) + 1) + 1) + 1) + 1) + 1) + 1 + 9) + 1) ((((((((ks + 12) + 8) + 8) + 8) + 8) + 8) + 9 + 9 * 8) + 9)
  refine w_aload (i := 0) (npc := 73) (v := cr 23) rfl rfl rfl ?_
  refine w_const (n := 0) (npc := 74) rfl ?_
  refine w_putf (i := 23) (ci := 5) (k := 8) (t := 0) (npc := 77) rfl (by decide) rfl (by decide) rfl ?_
  change cm_wp _ _ _ _ _ _ 77 [cr 23] [] iT32 iE73 41 ((((((((kc + 1) + 1) + 1) + 1) + 1) + 1) + 1 + 9) + 1) ((((((((ks + 12) + 8) + 8) + 8) + 8) + 8) + 9 + 9 * 8) + 9)
  refine w_aload (i := 0) (npc := 78) (v := cr 23) rfl rfl rfl ?_
  refine w_const (n := 0) (npc := 79) rfl ?_
  refine w_putf (i := 23) (ci := 5) (k := 9) (t := 0) (npc := 82) rfl (by decide) rfl (by decide) rfl ?_
  change cm_wp _ _ _ _ _ _ 82 [cr 23] [] iT32 iE74 41 ((((((((kc + 1) + 1) + 1) + 1) + 1) + 1) + 1 + 9) + 1) ((((((((ks + 12) + 8) + 8) + 8) + 8) + 8) + 9 + 9 * 8) + 9)
  refine w_aload (i := 0) (npc := 83) (v := cr 23) rfl rfl rfl ?_
  refine w_const (n := 0) (npc := 84) rfl ?_
  refine w_putf (i := 23) (ci := 5) (k := 10) (t := 0) (npc := 87) rfl (by decide) rfl (by decide) rfl ?_
  change cm_wp _ _ _ _ _ _ 87 [cr 23] [] iT32 iE75 41 ((((((((kc + 1) + 1) + 1) + 1) + 1) + 1) + 1 + 9) + 1) ((((((((ks + 12) + 8) + 8) + 8) + 8) + 8) + 9 + 9 * 8) + 9)
  refine w_aload (i := 0) (npc := 88) (v := cr 23) rfl rfl rfl ?_
  refine w_const (n := 0) (npc := 89) rfl ?_
  refine w_putf (i := 23) (ci := 5) (k := 11) (t := 0) (npc := 92) rfl (by decide) rfl (by decide) rfl ?_
  change cm_wp _ _ _ _ _ _ 92 [cr 23] [] iT32 iE76 41 ((((((((kc + 1) + 1) + 1) + 1) + 1) + 1) + 1 + 9) + 1) ((((((((ks + 12) + 8) + 8) + 8) + 8) + 8) + 9 + 9 * 8) + 9)
  refine w_aload (i := 0) (npc := 93) (v := cr 23) rfl rfl rfl ?_
  refine w_const (n := 0) (npc := 94) rfl ?_
  refine w_putf (i := 23) (ci := 5) (k := 12) (t := 1) (npc := 97) rfl (by decide) rfl (by decide) rfl ?_
  change cm_wp _ _ _ _ _ _ 97 [cr 23] [] iT32 iE77 41 ((((((((kc + 1) + 1) + 1) + 1) + 1) + 1) + 1 + 9) + 1) ((((((((ks + 12) + 8) + 8) + 8) + 8) + 8) + 9 + 9 * 8) + 9)
  exact w_vret rfl ⟨rfl, rfl, rfl, rfl⟩ (by omega) (by omega)
set_option maxRecDepth 16384 in
theorem ini_7 {sl : Int × Int} {x : ai_E} {d : Nat} : cm_ct (ai_ev sl (d + 1)) x 68 [cr 41, ai_i 0] iT33 iE84 42 3 325 (fun rk rv T' E' nx' => rk = 0 ∧ T' = iT36 ∧ E' = iE93 ∧ nx' = 45) := by
  refine cm_body (M := ai_m68) rfl rfl (fun kc ks => ?_)
  show cm_wp (ai_find ai_c68 sl) (ai_ev sl (d + 0)) x (kc + 3) (ks + 325) _ 0 [cr 41, ai_i 0] [] iT33 iE84 42 kc ks
  refine w_aload (i := 0) (npc := 1) (v := cr 41) rfl rfl rfl ?_
  refine w_oinit (npc := 4) rfl ?_
  refine w_aload (i := 0) (npc := 5) (v := cr 41) rfl rfl rfl ?_
  refine w_const (n := 300) (npc := 8) rfl ?_
  refine w_newa (t := 5) (dv := ai_nul) (npc := 11) rfl (by decide) (by decide) (by decide) ?_
  change cm_wp _ _ _ _ _ _ 11 [cr 41, ai_i 0] [cr 42, cr 41] iT34 iE85 43 (kc + 1) (ks + 300)
  refine w_putf (i := 41) (ci := 3) (k := 1) (t := 2) (npc := 14) rfl (by decide) rfl (by decide) rfl ?_
  change cm_wp _ _ _ _ _ _ 14 [cr 41, ai_i 0] [] iT34 iE86 43 (kc + 1) (ks + 300)
  refine w_aload (i := 0) (npc := 15) (v := cr 41) rfl rfl rfl ?_
  refine w_const (n := 5) (npc := 16) rfl ?_
  refine w_newa (t := 1) (dv := (0, 0, 0)) (npc := 18) rfl (by decide) (by decide) (by decide) ?_
  change cm_wp _ _ _ _ _ _ 18 [cr 41, ai_i 0] [cr 43, cr 41] iT35 iE87 44 ((kc + 1) + 1) ((ks + 300) + 5)
  refine w_putf (i := 41) (ci := 3) (k := 2) (t := 2) (npc := 21) rfl (by decide) rfl (by decide) rfl ?_
  change cm_wp _ _ _ _ _ _ 21 [cr 41, ai_i 0] [] iT35 iE88 44 ((kc + 1) + 1) ((ks + 300) + 5)
  refine w_aload (i := 0) (npc := 22) (v := cr 41) rfl rfl rfl ?_
  refine w_const (n := 20) (npc := 24) rfl ?_
  refine w_newa (t := 5) (dv := ai_nul) (npc := 27) rfl (by decide) (by decide) (by decide) ?_
  change cm_wp _ _ _ _ _ _ 27 [cr 41, ai_i 0] [cr 44, cr 41] iT36 iE89 45 (((kc + 1) + 1) + 1) (((ks + 300) + 5) + 20)
  refine w_putf (i := 41) (ci := 3) (k := 3) (t := 2) (npc := 30) rfl (by decide) rfl (by decide) rfl ?_
  change cm_wp _ _ _ _ _ _ 30 [cr 41, ai_i 0] [] iT36 iE90 45 (((kc + 1) + 1) + 1) (((ks + 300) + 5) + 20)
  refine w_aload (i := 0) (npc := 31) (v := cr 41) rfl rfl rfl ?_
  refine w_const (n := 0) (npc := 32) rfl ?_
  refine w_putf (i := 41) (ci := 3) (k := 4) (t := 0) (npc := 35) rfl (by decide) rfl (by decide) rfl ?_
  change cm_wp _ _ _ _ _ _ 35 [cr 41, ai_i 0] [] iT36 iE91 45 (((kc + 1) + 1) + 1) (((ks + 300) + 5) + 20)
  refine w_aload (i := 0) (npc := 36) (v := cr 41) rfl rfl rfl ?_
  refine w_const (n := 0) (npc := 37) rfl ?_
  refine w_putf (i := 41) (ci := 3) (k := 5) (t := 0) (npc := 40) rfl (by decide) rfl (by decide) rfl ?_
  change cm_wp _ _ _ _ _ _ 40 [cr 41, ai_i 0] [] iT36 iE92 45 (((kc + 1) + 1) + 1) (((ks + 300) + 5) + 20)
  refine w_aload (i := 0) (npc := 41) (v := cr 41) rfl rfl rfl ?_
  refine w_iload (i := 1) (npc := 42) (z := 0) rfl rfl ?_
  refine w_putf (i := 41) (ci := 3) (k := 0) (t := 0) (npc := 45) rfl (by decide) rfl (by decide) rfl ?_
  change cm_wp _ _ _ _ _ _ 45 [cr 41, ai_i 0] [] iT36 iE93 45 (((kc + 1) + 1) + 1) (((ks + 300) + 5) + 20)
  exact w_vret rfl ⟨rfl, rfl, rfl, rfl⟩ (by omega) (by omega)
set_option maxRecDepth 16384 in
theorem ini_8 {sl : Int × Int} {x : ai_E} {d : Nat} : cm_ct (ai_ev sl (d + 1)) x 68 [cr 45, ai_i 0] iT37 iE95 46 3 325 (fun rk rv T' E' nx' => rk = 0 ∧ T' = iT40 ∧ E' = iE104 ∧ nx' = 49) := by
  refine cm_body (M := ai_m68) rfl rfl (fun kc ks => ?_)
  show cm_wp (ai_find ai_c68 sl) (ai_ev sl (d + 0)) x (kc + 3) (ks + 325) _ 0 [cr 45, ai_i 0] [] iT37 iE95 46 kc ks
  refine w_aload (i := 0) (npc := 1) (v := cr 45) rfl rfl rfl ?_
  refine w_oinit (npc := 4) rfl ?_
  refine w_aload (i := 0) (npc := 5) (v := cr 45) rfl rfl rfl ?_
  refine w_const (n := 300) (npc := 8) rfl ?_
  refine w_newa (t := 5) (dv := ai_nul) (npc := 11) rfl (by decide) (by decide) (by decide) ?_
  change cm_wp _ _ _ _ _ _ 11 [cr 45, ai_i 0] [cr 46, cr 45] iT38 iE96 47 (kc + 1) (ks + 300)
  refine w_putf (i := 45) (ci := 3) (k := 1) (t := 2) (npc := 14) rfl (by decide) rfl (by decide) rfl ?_
  change cm_wp _ _ _ _ _ _ 14 [cr 45, ai_i 0] [] iT38 iE97 47 (kc + 1) (ks + 300)
  refine w_aload (i := 0) (npc := 15) (v := cr 45) rfl rfl rfl ?_
  refine w_const (n := 5) (npc := 16) rfl ?_
  refine w_newa (t := 1) (dv := (0, 0, 0)) (npc := 18) rfl (by decide) (by decide) (by decide) ?_
  change cm_wp _ _ _ _ _ _ 18 [cr 45, ai_i 0] [cr 47, cr 45] iT39 iE98 48 ((kc + 1) + 1) ((ks + 300) + 5)
  refine w_putf (i := 45) (ci := 3) (k := 2) (t := 2) (npc := 21) rfl (by decide) rfl (by decide) rfl ?_
  change cm_wp _ _ _ _ _ _ 21 [cr 45, ai_i 0] [] iT39 iE99 48 ((kc + 1) + 1) ((ks + 300) + 5)
  refine w_aload (i := 0) (npc := 22) (v := cr 45) rfl rfl rfl ?_
  refine w_const (n := 20) (npc := 24) rfl ?_
  refine w_newa (t := 5) (dv := ai_nul) (npc := 27) rfl (by decide) (by decide) (by decide) ?_
  change cm_wp _ _ _ _ _ _ 27 [cr 45, ai_i 0] [cr 48, cr 45] iT40 iE100 49 (((kc + 1) + 1) + 1) (((ks + 300) + 5) + 20)
  refine w_putf (i := 45) (ci := 3) (k := 3) (t := 2) (npc := 30) rfl (by decide) rfl (by decide) rfl ?_
  change cm_wp _ _ _ _ _ _ 30 [cr 45, ai_i 0] [] iT40 iE101 49 (((kc + 1) + 1) + 1) (((ks + 300) + 5) + 20)
  refine w_aload (i := 0) (npc := 31) (v := cr 45) rfl rfl rfl ?_
  refine w_const (n := 0) (npc := 32) rfl ?_
  refine w_putf (i := 45) (ci := 3) (k := 4) (t := 0) (npc := 35) rfl (by decide) rfl (by decide) rfl ?_
  change cm_wp _ _ _ _ _ _ 35 [cr 45, ai_i 0] [] iT40 iE102 49 (((kc + 1) + 1) + 1) (((ks + 300) + 5) + 20)
  refine w_aload (i := 0) (npc := 36) (v := cr 45) rfl rfl rfl ?_
  refine w_const (n := 0) (npc := 37) rfl ?_
  refine w_putf (i := 45) (ci := 3) (k := 5) (t := 0) (npc := 40) rfl (by decide) rfl (by decide) rfl ?_
  change cm_wp _ _ _ _ _ _ 40 [cr 45, ai_i 0] [] iT40 iE103 49 (((kc + 1) + 1) + 1) (((ks + 300) + 5) + 20)
  refine w_aload (i := 0) (npc := 41) (v := cr 45) rfl rfl rfl ?_
  refine w_iload (i := 1) (npc := 42) (z := 0) rfl rfl ?_
  refine w_putf (i := 45) (ci := 3) (k := 0) (t := 0) (npc := 45) rfl (by decide) rfl (by decide) rfl ?_
  change cm_wp _ _ _ _ _ _ 45 [cr 45, ai_i 0] [] iT40 iE104 49 (((kc + 1) + 1) + 1) (((ks + 300) + 5) + 20)
  exact w_vret rfl ⟨rfl, rfl, rfl, rfl⟩ (by omega) (by omega)
set_option maxRecDepth 16384 in
theorem ini_9 {sl : Int × Int} {x : ai_E} {d : Nat} : cm_ct (ai_ev sl (d + 1)) x 68 [cr 49, ai_i 1] iT41 iE106 50 3 325 (fun rk rv T' E' nx' => rk = 0 ∧ T' = iT44 ∧ E' = iE115 ∧ nx' = 53) := by
  refine cm_body (M := ai_m68) rfl rfl (fun kc ks => ?_)
  show cm_wp (ai_find ai_c68 sl) (ai_ev sl (d + 0)) x (kc + 3) (ks + 325) _ 0 [cr 49, ai_i 1] [] iT41 iE106 50 kc ks
  refine w_aload (i := 0) (npc := 1) (v := cr 49) rfl rfl rfl ?_
  refine w_oinit (npc := 4) rfl ?_
  refine w_aload (i := 0) (npc := 5) (v := cr 49) rfl rfl rfl ?_
  refine w_const (n := 300) (npc := 8) rfl ?_
  refine w_newa (t := 5) (dv := ai_nul) (npc := 11) rfl (by decide) (by decide) (by decide) ?_
  change cm_wp _ _ _ _ _ _ 11 [cr 49, ai_i 1] [cr 50, cr 49] iT42 iE107 51 (kc + 1) (ks + 300)
  refine w_putf (i := 49) (ci := 3) (k := 1) (t := 2) (npc := 14) rfl (by decide) rfl (by decide) rfl ?_
  change cm_wp _ _ _ _ _ _ 14 [cr 49, ai_i 1] [] iT42 iE108 51 (kc + 1) (ks + 300)
  refine w_aload (i := 0) (npc := 15) (v := cr 49) rfl rfl rfl ?_
  refine w_const (n := 5) (npc := 16) rfl ?_
  refine w_newa (t := 1) (dv := (0, 0, 0)) (npc := 18) rfl (by decide) (by decide) (by decide) ?_
  change cm_wp _ _ _ _ _ _ 18 [cr 49, ai_i 1] [cr 51, cr 49] iT43 iE109 52 ((kc + 1) + 1) ((ks + 300) + 5)
  refine w_putf (i := 49) (ci := 3) (k := 2) (t := 2) (npc := 21) rfl (by decide) rfl (by decide) rfl ?_
  change cm_wp _ _ _ _ _ _ 21 [cr 49, ai_i 1] [] iT43 iE110 52 ((kc + 1) + 1) ((ks + 300) + 5)
  refine w_aload (i := 0) (npc := 22) (v := cr 49) rfl rfl rfl ?_
  refine w_const (n := 20) (npc := 24) rfl ?_
  refine w_newa (t := 5) (dv := ai_nul) (npc := 27) rfl (by decide) (by decide) (by decide) ?_
  change cm_wp _ _ _ _ _ _ 27 [cr 49, ai_i 1] [cr 52, cr 49] iT44 iE111 53 (((kc + 1) + 1) + 1) (((ks + 300) + 5) + 20)
  refine w_putf (i := 49) (ci := 3) (k := 3) (t := 2) (npc := 30) rfl (by decide) rfl (by decide) rfl ?_
  change cm_wp _ _ _ _ _ _ 30 [cr 49, ai_i 1] [] iT44 iE112 53 (((kc + 1) + 1) + 1) (((ks + 300) + 5) + 20)
  refine w_aload (i := 0) (npc := 31) (v := cr 49) rfl rfl rfl ?_
  refine w_const (n := 0) (npc := 32) rfl ?_
  refine w_putf (i := 49) (ci := 3) (k := 4) (t := 0) (npc := 35) rfl (by decide) rfl (by decide) rfl ?_
  change cm_wp _ _ _ _ _ _ 35 [cr 49, ai_i 1] [] iT44 iE113 53 (((kc + 1) + 1) + 1) (((ks + 300) + 5) + 20)
  refine w_aload (i := 0) (npc := 36) (v := cr 49) rfl rfl rfl ?_
  refine w_const (n := 0) (npc := 37) rfl ?_
  refine w_putf (i := 49) (ci := 3) (k := 5) (t := 0) (npc := 40) rfl (by decide) rfl (by decide) rfl ?_
  change cm_wp _ _ _ _ _ _ 40 [cr 49, ai_i 1] [] iT44 iE114 53 (((kc + 1) + 1) + 1) (((ks + 300) + 5) + 20)
  refine w_aload (i := 0) (npc := 41) (v := cr 49) rfl rfl rfl ?_
  refine w_iload (i := 1) (npc := 42) (z := 1) rfl rfl ?_
  refine w_putf (i := 49) (ci := 3) (k := 0) (t := 0) (npc := 45) rfl (by decide) rfl (by decide) rfl ?_
  change cm_wp _ _ _ _ _ _ 45 [cr 49, ai_i 1] [] iT44 iE115 53 (((kc + 1) + 1) + 1) (((ks + 300) + 5) + 20)
  exact w_vret rfl ⟨rfl, rfl, rfl, rfl⟩ (by omega) (by omega)
set_option maxRecDepth 16384 in
theorem ini_10 {sl : Int × Int} {x : ai_E} {d : Nat} : cm_ct (ai_ev sl (d + 1)) x 68 [cr 53, ai_i 1] iT45 iE117 54 3 325 (fun rk rv T' E' nx' => rk = 0 ∧ T' = iT48 ∧ E' = iE126 ∧ nx' = 57) := by
  refine cm_body (M := ai_m68) rfl rfl (fun kc ks => ?_)
  show cm_wp (ai_find ai_c68 sl) (ai_ev sl (d + 0)) x (kc + 3) (ks + 325) _ 0 [cr 53, ai_i 1] [] iT45 iE117 54 kc ks
  refine w_aload (i := 0) (npc := 1) (v := cr 53) rfl rfl rfl ?_
  refine w_oinit (npc := 4) rfl ?_
  refine w_aload (i := 0) (npc := 5) (v := cr 53) rfl rfl rfl ?_
  refine w_const (n := 300) (npc := 8) rfl ?_
  refine w_newa (t := 5) (dv := ai_nul) (npc := 11) rfl (by decide) (by decide) (by decide) ?_
  change cm_wp _ _ _ _ _ _ 11 [cr 53, ai_i 1] [cr 54, cr 53] iT46 iE118 55 (kc + 1) (ks + 300)
  refine w_putf (i := 53) (ci := 3) (k := 1) (t := 2) (npc := 14) rfl (by decide) rfl (by decide) rfl ?_
  change cm_wp _ _ _ _ _ _ 14 [cr 53, ai_i 1] [] iT46 iE119 55 (kc + 1) (ks + 300)
  refine w_aload (i := 0) (npc := 15) (v := cr 53) rfl rfl rfl ?_
  refine w_const (n := 5) (npc := 16) rfl ?_
  refine w_newa (t := 1) (dv := (0, 0, 0)) (npc := 18) rfl (by decide) (by decide) (by decide) ?_
  change cm_wp _ _ _ _ _ _ 18 [cr 53, ai_i 1] [cr 55, cr 53] iT47 iE120 56 ((kc + 1) + 1) ((ks + 300) + 5)
  refine w_putf (i := 53) (ci := 3) (k := 2) (t := 2) (npc := 21) rfl (by decide) rfl (by decide) rfl ?_
  change cm_wp _ _ _ _ _ _ 21 [cr 53, ai_i 1] [] iT47 iE121 56 ((kc + 1) + 1) ((ks + 300) + 5)
  refine w_aload (i := 0) (npc := 22) (v := cr 53) rfl rfl rfl ?_
  refine w_const (n := 20) (npc := 24) rfl ?_
  refine w_newa (t := 5) (dv := ai_nul) (npc := 27) rfl (by decide) (by decide) (by decide) ?_
  change cm_wp _ _ _ _ _ _ 27 [cr 53, ai_i 1] [cr 56, cr 53] iT48 iE122 57 (((kc + 1) + 1) + 1) (((ks + 300) + 5) + 20)
  refine w_putf (i := 53) (ci := 3) (k := 3) (t := 2) (npc := 30) rfl (by decide) rfl (by decide) rfl ?_
  change cm_wp _ _ _ _ _ _ 30 [cr 53, ai_i 1] [] iT48 iE123 57 (((kc + 1) + 1) + 1) (((ks + 300) + 5) + 20)
  refine w_aload (i := 0) (npc := 31) (v := cr 53) rfl rfl rfl ?_
  refine w_const (n := 0) (npc := 32) rfl ?_
  refine w_putf (i := 53) (ci := 3) (k := 4) (t := 0) (npc := 35) rfl (by decide) rfl (by decide) rfl ?_
  change cm_wp _ _ _ _ _ _ 35 [cr 53, ai_i 1] [] iT48 iE124 57 (((kc + 1) + 1) + 1) (((ks + 300) + 5) + 20)
  refine w_aload (i := 0) (npc := 36) (v := cr 53) rfl rfl rfl ?_
  refine w_const (n := 0) (npc := 37) rfl ?_
  refine w_putf (i := 53) (ci := 3) (k := 5) (t := 0) (npc := 40) rfl (by decide) rfl (by decide) rfl ?_
  change cm_wp _ _ _ _ _ _ 40 [cr 53, ai_i 1] [] iT48 iE125 57 (((kc + 1) + 1) + 1) (((ks + 300) + 5) + 20)
  refine w_aload (i := 0) (npc := 41) (v := cr 53) rfl rfl rfl ?_
  refine w_iload (i := 1) (npc := 42) (z := 1) rfl rfl ?_
  refine w_putf (i := 53) (ci := 3) (k := 0) (t := 0) (npc := 45) rfl (by decide) rfl (by decide) rfl ?_
  change cm_wp _ _ _ _ _ _ 45 [cr 53, ai_i 1] [] iT48 iE126 57 (((kc + 1) + 1) + 1) (((ks + 300) + 5) + 20)
  exact w_vret rfl ⟨rfl, rfl, rfl, rfl⟩ (by omega) (by omega)
set_option maxRecDepth 16384 in
theorem ini_11 {sl : Int × Int} {x : ai_E} {d : Nat} : cm_ct (ai_ev sl (d + 1)) x 68 [cr 57, ai_i 2] iT49 iE128 58 3 325 (fun rk rv T' E' nx' => rk = 0 ∧ T' = iT52 ∧ E' = iE137 ∧ nx' = 61) := by
  refine cm_body (M := ai_m68) rfl rfl (fun kc ks => ?_)
  show cm_wp (ai_find ai_c68 sl) (ai_ev sl (d + 0)) x (kc + 3) (ks + 325) _ 0 [cr 57, ai_i 2] [] iT49 iE128 58 kc ks
  refine w_aload (i := 0) (npc := 1) (v := cr 57) rfl rfl rfl ?_
  refine w_oinit (npc := 4) rfl ?_
  refine w_aload (i := 0) (npc := 5) (v := cr 57) rfl rfl rfl ?_
  refine w_const (n := 300) (npc := 8) rfl ?_
  refine w_newa (t := 5) (dv := ai_nul) (npc := 11) rfl (by decide) (by decide) (by decide) ?_
  change cm_wp _ _ _ _ _ _ 11 [cr 57, ai_i 2] [cr 58, cr 57] iT50 iE129 59 (kc + 1) (ks + 300)
  refine w_putf (i := 57) (ci := 3) (k := 1) (t := 2) (npc := 14) rfl (by decide) rfl (by decide) rfl ?_
  change cm_wp _ _ _ _ _ _ 14 [cr 57, ai_i 2] [] iT50 iE130 59 (kc + 1) (ks + 300)
  refine w_aload (i := 0) (npc := 15) (v := cr 57) rfl rfl rfl ?_
  refine w_const (n := 5) (npc := 16) rfl ?_
  refine w_newa (t := 1) (dv := (0, 0, 0)) (npc := 18) rfl (by decide) (by decide) (by decide) ?_
  change cm_wp _ _ _ _ _ _ 18 [cr 57, ai_i 2] [cr 59, cr 57] iT51 iE131 60 ((kc + 1) + 1) ((ks + 300) + 5)
  refine w_putf (i := 57) (ci := 3) (k := 2) (t := 2) (npc := 21) rfl (by decide) rfl (by decide) rfl ?_
  change cm_wp _ _ _ _ _ _ 21 [cr 57, ai_i 2] [] iT51 iE132 60 ((kc + 1) + 1) ((ks + 300) + 5)
  refine w_aload (i := 0) (npc := 22) (v := cr 57) rfl rfl rfl ?_
  refine w_const (n := 20) (npc := 24) rfl ?_
  refine w_newa (t := 5) (dv := ai_nul) (npc := 27) rfl (by decide) (by decide) (by decide) ?_
  change cm_wp _ _ _ _ _ _ 27 [cr 57, ai_i 2] [cr 60, cr 57] iT52 iE133 61 (((kc + 1) + 1) + 1) (((ks + 300) + 5) + 20)
  refine w_putf (i := 57) (ci := 3) (k := 3) (t := 2) (npc := 30) rfl (by decide) rfl (by decide) rfl ?_
  change cm_wp _ _ _ _ _ _ 30 [cr 57, ai_i 2] [] iT52 iE134 61 (((kc + 1) + 1) + 1) (((ks + 300) + 5) + 20)
  refine w_aload (i := 0) (npc := 31) (v := cr 57) rfl rfl rfl ?_
  refine w_const (n := 0) (npc := 32) rfl ?_
  refine w_putf (i := 57) (ci := 3) (k := 4) (t := 0) (npc := 35) rfl (by decide) rfl (by decide) rfl ?_
  change cm_wp _ _ _ _ _ _ 35 [cr 57, ai_i 2] [] iT52 iE135 61 (((kc + 1) + 1) + 1) (((ks + 300) + 5) + 20)
  refine w_aload (i := 0) (npc := 36) (v := cr 57) rfl rfl rfl ?_
  refine w_const (n := 0) (npc := 37) rfl ?_
  refine w_putf (i := 57) (ci := 3) (k := 5) (t := 0) (npc := 40) rfl (by decide) rfl (by decide) rfl ?_
  change cm_wp _ _ _ _ _ _ 40 [cr 57, ai_i 2] [] iT52 iE136 61 (((kc + 1) + 1) + 1) (((ks + 300) + 5) + 20)
  refine w_aload (i := 0) (npc := 41) (v := cr 57) rfl rfl rfl ?_
  refine w_iload (i := 1) (npc := 42) (z := 2) rfl rfl ?_
  refine w_putf (i := 57) (ci := 3) (k := 0) (t := 0) (npc := 45) rfl (by decide) rfl (by decide) rfl ?_
  change cm_wp _ _ _ _ _ _ 45 [cr 57, ai_i 2] [] iT52 iE137 61 (((kc + 1) + 1) + 1) (((ks + 300) + 5) + 20)
  exact w_vret rfl ⟨rfl, rfl, rfl, rfl⟩ (by omega) (by omega)
set_option maxRecDepth 16384 in
theorem ini_12 {sl : Int × Int} {x : ai_E} {d : Nat} : cm_ct (ai_ev sl (d + 1)) x 68 [cr 61, ai_i 2] iT53 iE139 62 3 325 (fun rk rv T' E' nx' => rk = 0 ∧ T' = iT56 ∧ E' = iE148 ∧ nx' = 65) := by
  refine cm_body (M := ai_m68) rfl rfl (fun kc ks => ?_)
  show cm_wp (ai_find ai_c68 sl) (ai_ev sl (d + 0)) x (kc + 3) (ks + 325) _ 0 [cr 61, ai_i 2] [] iT53 iE139 62 kc ks
  refine w_aload (i := 0) (npc := 1) (v := cr 61) rfl rfl rfl ?_
  refine w_oinit (npc := 4) rfl ?_
  refine w_aload (i := 0) (npc := 5) (v := cr 61) rfl rfl rfl ?_
  refine w_const (n := 300) (npc := 8) rfl ?_
  refine w_newa (t := 5) (dv := ai_nul) (npc := 11) rfl (by decide) (by decide) (by decide) ?_
  change cm_wp _ _ _ _ _ _ 11 [cr 61, ai_i 2] [cr 62, cr 61] iT54 iE140 63 (kc + 1) (ks + 300)
  refine w_putf (i := 61) (ci := 3) (k := 1) (t := 2) (npc := 14) rfl (by decide) rfl (by decide) rfl ?_
  change cm_wp _ _ _ _ _ _ 14 [cr 61, ai_i 2] [] iT54 iE141 63 (kc + 1) (ks + 300)
  refine w_aload (i := 0) (npc := 15) (v := cr 61) rfl rfl rfl ?_
  refine w_const (n := 5) (npc := 16) rfl ?_
  refine w_newa (t := 1) (dv := (0, 0, 0)) (npc := 18) rfl (by decide) (by decide) (by decide) ?_
  change cm_wp _ _ _ _ _ _ 18 [cr 61, ai_i 2] [cr 63, cr 61] iT55 iE142 64 ((kc + 1) + 1) ((ks + 300) + 5)
  refine w_putf (i := 61) (ci := 3) (k := 2) (t := 2) (npc := 21) rfl (by decide) rfl (by decide) rfl ?_
  change cm_wp _ _ _ _ _ _ 21 [cr 61, ai_i 2] [] iT55 iE143 64 ((kc + 1) + 1) ((ks + 300) + 5)
  refine w_aload (i := 0) (npc := 22) (v := cr 61) rfl rfl rfl ?_
  refine w_const (n := 20) (npc := 24) rfl ?_
  refine w_newa (t := 5) (dv := ai_nul) (npc := 27) rfl (by decide) (by decide) (by decide) ?_
  change cm_wp _ _ _ _ _ _ 27 [cr 61, ai_i 2] [cr 64, cr 61] iT56 iE144 65 (((kc + 1) + 1) + 1) (((ks + 300) + 5) + 20)
  refine w_putf (i := 61) (ci := 3) (k := 3) (t := 2) (npc := 30) rfl (by decide) rfl (by decide) rfl ?_
  change cm_wp _ _ _ _ _ _ 30 [cr 61, ai_i 2] [] iT56 iE145 65 (((kc + 1) + 1) + 1) (((ks + 300) + 5) + 20)
  refine w_aload (i := 0) (npc := 31) (v := cr 61) rfl rfl rfl ?_
  refine w_const (n := 0) (npc := 32) rfl ?_
  refine w_putf (i := 61) (ci := 3) (k := 4) (t := 0) (npc := 35) rfl (by decide) rfl (by decide) rfl ?_
  change cm_wp _ _ _ _ _ _ 35 [cr 61, ai_i 2] [] iT56 iE146 65 (((kc + 1) + 1) + 1) (((ks + 300) + 5) + 20)
  refine w_aload (i := 0) (npc := 36) (v := cr 61) rfl rfl rfl ?_
  refine w_const (n := 0) (npc := 37) rfl ?_
  refine w_putf (i := 61) (ci := 3) (k := 5) (t := 0) (npc := 40) rfl (by decide) rfl (by decide) rfl ?_
  change cm_wp _ _ _ _ _ _ 40 [cr 61, ai_i 2] [] iT56 iE147 65 (((kc + 1) + 1) + 1) (((ks + 300) + 5) + 20)
  refine w_aload (i := 0) (npc := 41) (v := cr 61) rfl rfl rfl ?_
  refine w_iload (i := 1) (npc := 42) (z := 2) rfl rfl ?_
  refine w_putf (i := 61) (ci := 3) (k := 0) (t := 0) (npc := 45) rfl (by decide) rfl (by decide) rfl ?_
  change cm_wp _ _ _ _ _ _ 45 [cr 61, ai_i 2] [] iT56 iE148 65 (((kc + 1) + 1) + 1) (((ks + 300) + 5) + 20)
  exact w_vret rfl ⟨rfl, rfl, rfl, rfl⟩ (by omega) (by omega)
set_option maxRecDepth 16384 in
theorem ini_13 {sl : Int × Int} {x : ai_E} {d : Nat} : cm_ct (ai_ev sl (d + 1)) x 68 [cr 65, ai_i 3] iT57 iE150 66 3 325 (fun rk rv T' E' nx' => rk = 0 ∧ T' = iT60 ∧ E' = iE159 ∧ nx' = 69) := by
  refine cm_body (M := ai_m68) rfl rfl (fun kc ks => ?_)
  show cm_wp (ai_find ai_c68 sl) (ai_ev sl (d + 0)) x (kc + 3) (ks + 325) _ 0 [cr 65, ai_i 3] [] iT57 iE150 66 kc ks
  refine w_aload (i := 0) (npc := 1) (v := cr 65) rfl rfl rfl ?_
  refine w_oinit (npc := 4) rfl ?_
  refine w_aload (i := 0) (npc := 5) (v := cr 65) rfl rfl rfl ?_
  refine w_const (n := 300) (npc := 8) rfl ?_
  refine w_newa (t := 5) (dv := ai_nul) (npc := 11) rfl (by decide) (by decide) (by decide) ?_
  change cm_wp _ _ _ _ _ _ 11 [cr 65, ai_i 3] [cr 66, cr 65] iT58 iE151 67 (kc + 1) (ks + 300)
  refine w_putf (i := 65) (ci := 3) (k := 1) (t := 2) (npc := 14) rfl (by decide) rfl (by decide) rfl ?_
  change cm_wp _ _ _ _ _ _ 14 [cr 65, ai_i 3] [] iT58 iE152 67 (kc + 1) (ks + 300)
  refine w_aload (i := 0) (npc := 15) (v := cr 65) rfl rfl rfl ?_
  refine w_const (n := 5) (npc := 16) rfl ?_
  refine w_newa (t := 1) (dv := (0, 0, 0)) (npc := 18) rfl (by decide) (by decide) (by decide) ?_
  change cm_wp _ _ _ _ _ _ 18 [cr 65, ai_i 3] [cr 67, cr 65] iT59 iE153 68 ((kc + 1) + 1) ((ks + 300) + 5)
  refine w_putf (i := 65) (ci := 3) (k := 2) (t := 2) (npc := 21) rfl (by decide) rfl (by decide) rfl ?_
  change cm_wp _ _ _ _ _ _ 21 [cr 65, ai_i 3] [] iT59 iE154 68 ((kc + 1) + 1) ((ks + 300) + 5)
  refine w_aload (i := 0) (npc := 22) (v := cr 65) rfl rfl rfl ?_
  refine w_const (n := 20) (npc := 24) rfl ?_
  refine w_newa (t := 5) (dv := ai_nul) (npc := 27) rfl (by decide) (by decide) (by decide) ?_
  change cm_wp _ _ _ _ _ _ 27 [cr 65, ai_i 3] [cr 68, cr 65] iT60 iE155 69 (((kc + 1) + 1) + 1) (((ks + 300) + 5) + 20)
  refine w_putf (i := 65) (ci := 3) (k := 3) (t := 2) (npc := 30) rfl (by decide) rfl (by decide) rfl ?_
  change cm_wp _ _ _ _ _ _ 30 [cr 65, ai_i 3] [] iT60 iE156 69 (((kc + 1) + 1) + 1) (((ks + 300) + 5) + 20)
  refine w_aload (i := 0) (npc := 31) (v := cr 65) rfl rfl rfl ?_
  refine w_const (n := 0) (npc := 32) rfl ?_
  refine w_putf (i := 65) (ci := 3) (k := 4) (t := 0) (npc := 35) rfl (by decide) rfl (by decide) rfl ?_
  change cm_wp _ _ _ _ _ _ 35 [cr 65, ai_i 3] [] iT60 iE157 69 (((kc + 1) + 1) + 1) (((ks + 300) + 5) + 20)
  refine w_aload (i := 0) (npc := 36) (v := cr 65) rfl rfl rfl ?_
  refine w_const (n := 0) (npc := 37) rfl ?_
  refine w_putf (i := 65) (ci := 3) (k := 5) (t := 0) (npc := 40) rfl (by decide) rfl (by decide) rfl ?_
  change cm_wp _ _ _ _ _ _ 40 [cr 65, ai_i 3] [] iT60 iE158 69 (((kc + 1) + 1) + 1) (((ks + 300) + 5) + 20)
  refine w_aload (i := 0) (npc := 41) (v := cr 65) rfl rfl rfl ?_
  refine w_iload (i := 1) (npc := 42) (z := 3) rfl rfl ?_
  refine w_putf (i := 65) (ci := 3) (k := 0) (t := 0) (npc := 45) rfl (by decide) rfl (by decide) rfl ?_
  change cm_wp _ _ _ _ _ _ 45 [cr 65, ai_i 3] [] iT60 iE159 69 (((kc + 1) + 1) + 1) (((ks + 300) + 5) + 20)
  exact w_vret rfl ⟨rfl, rfl, rfl, rfl⟩ (by omega) (by omega)
set_option maxRecDepth 16384 in
theorem ini_14 {sl : Int × Int} {x : ai_E} {d : Nat} : cm_ct (ai_ev sl (d + 1)) x 68 [cr 69, ai_i 3] iT61 iE161 70 3 325 (fun rk rv T' E' nx' => rk = 0 ∧ T' = iT64 ∧ E' = iE170 ∧ nx' = 73) := by
  refine cm_body (M := ai_m68) rfl rfl (fun kc ks => ?_)
  show cm_wp (ai_find ai_c68 sl) (ai_ev sl (d + 0)) x (kc + 3) (ks + 325) _ 0 [cr 69, ai_i 3] [] iT61 iE161 70 kc ks
  refine w_aload (i := 0) (npc := 1) (v := cr 69) rfl rfl rfl ?_
  refine w_oinit (npc := 4) rfl ?_
  refine w_aload (i := 0) (npc := 5) (v := cr 69) rfl rfl rfl ?_
  refine w_const (n := 300) (npc := 8) rfl ?_
  refine w_newa (t := 5) (dv := ai_nul) (npc := 11) rfl (by decide) (by decide) (by decide) ?_
  change cm_wp _ _ _ _ _ _ 11 [cr 69, ai_i 3] [cr 70, cr 69] iT62 iE162 71 (kc + 1) (ks + 300)
  refine w_putf (i := 69) (ci := 3) (k := 1) (t := 2) (npc := 14) rfl (by decide) rfl (by decide) rfl ?_
  change cm_wp _ _ _ _ _ _ 14 [cr 69, ai_i 3] [] iT62 iE163 71 (kc + 1) (ks + 300)
  refine w_aload (i := 0) (npc := 15) (v := cr 69) rfl rfl rfl ?_
  refine w_const (n := 5) (npc := 16) rfl ?_
  refine w_newa (t := 1) (dv := (0, 0, 0)) (npc := 18) rfl (by decide) (by decide) (by decide) ?_
  change cm_wp _ _ _ _ _ _ 18 [cr 69, ai_i 3] [cr 71, cr 69] iT63 iE164 72 ((kc + 1) + 1) ((ks + 300) + 5)
  refine w_putf (i := 69) (ci := 3) (k := 2) (t := 2) (npc := 21) rfl (by decide) rfl (by decide) rfl ?_
  change cm_wp _ _ _ _ _ _ 21 [cr 69, ai_i 3] [] iT63 iE165 72 ((kc + 1) + 1) ((ks + 300) + 5)
  refine w_aload (i := 0) (npc := 22) (v := cr 69) rfl rfl rfl ?_
  refine w_const (n := 20) (npc := 24) rfl ?_
  refine w_newa (t := 5) (dv := ai_nul) (npc := 27) rfl (by decide) (by decide) (by decide) ?_
  change cm_wp _ _ _ _ _ _ 27 [cr 69, ai_i 3] [cr 72, cr 69] iT64 iE166 73 (((kc + 1) + 1) + 1) (((ks + 300) + 5) + 20)
  refine w_putf (i := 69) (ci := 3) (k := 3) (t := 2) (npc := 30) rfl (by decide) rfl (by decide) rfl ?_
  change cm_wp _ _ _ _ _ _ 30 [cr 69, ai_i 3] [] iT64 iE167 73 (((kc + 1) + 1) + 1) (((ks + 300) + 5) + 20)
  refine w_aload (i := 0) (npc := 31) (v := cr 69) rfl rfl rfl ?_
  refine w_const (n := 0) (npc := 32) rfl ?_
  refine w_putf (i := 69) (ci := 3) (k := 4) (t := 0) (npc := 35) rfl (by decide) rfl (by decide) rfl ?_
  change cm_wp _ _ _ _ _ _ 35 [cr 69, ai_i 3] [] iT64 iE168 73 (((kc + 1) + 1) + 1) (((ks + 300) + 5) + 20)
  refine w_aload (i := 0) (npc := 36) (v := cr 69) rfl rfl rfl ?_
  refine w_const (n := 0) (npc := 37) rfl ?_
  refine w_putf (i := 69) (ci := 3) (k := 5) (t := 0) (npc := 40) rfl (by decide) rfl (by decide) rfl ?_
  change cm_wp _ _ _ _ _ _ 40 [cr 69, ai_i 3] [] iT64 iE169 73 (((kc + 1) + 1) + 1) (((ks + 300) + 5) + 20)
  refine w_aload (i := 0) (npc := 41) (v := cr 69) rfl rfl rfl ?_
  refine w_iload (i := 1) (npc := 42) (z := 3) rfl rfl ?_
  refine w_putf (i := 69) (ci := 3) (k := 0) (t := 0) (npc := 45) rfl (by decide) rfl (by decide) rfl ?_
  change cm_wp _ _ _ _ _ _ 45 [cr 69, ai_i 3] [] iT64 iE170 73 (((kc + 1) + 1) + 1) (((ks + 300) + 5) + 20)
  exact w_vret rfl ⟨rfl, rfl, rfl, rfl⟩ (by omega) (by omega)
set_option maxRecDepth 16384 in
theorem ini_15 {sl : Int × Int} {x : ai_E} {d : Nat} : cm_ct (ai_ev sl (d + 1)) x 68 [cr 73, ai_i 4] iT65 iE172 74 3 325 (fun rk rv T' E' nx' => rk = 0 ∧ T' = iT68 ∧ E' = iE181 ∧ nx' = 77) := by
  refine cm_body (M := ai_m68) rfl rfl (fun kc ks => ?_)
  show cm_wp (ai_find ai_c68 sl) (ai_ev sl (d + 0)) x (kc + 3) (ks + 325) _ 0 [cr 73, ai_i 4] [] iT65 iE172 74 kc ks
  refine w_aload (i := 0) (npc := 1) (v := cr 73) rfl rfl rfl ?_
  refine w_oinit (npc := 4) rfl ?_
  refine w_aload (i := 0) (npc := 5) (v := cr 73) rfl rfl rfl ?_
  refine w_const (n := 300) (npc := 8) rfl ?_
  refine w_newa (t := 5) (dv := ai_nul) (npc := 11) rfl (by decide) (by decide) (by decide) ?_
  change cm_wp _ _ _ _ _ _ 11 [cr 73, ai_i 4] [cr 74, cr 73] iT66 iE173 75 (kc + 1) (ks + 300)
  refine w_putf (i := 73) (ci := 3) (k := 1) (t := 2) (npc := 14) rfl (by decide) rfl (by decide) rfl ?_
  change cm_wp _ _ _ _ _ _ 14 [cr 73, ai_i 4] [] iT66 iE174 75 (kc + 1) (ks + 300)
  refine w_aload (i := 0) (npc := 15) (v := cr 73) rfl rfl rfl ?_
  refine w_const (n := 5) (npc := 16) rfl ?_
  refine w_newa (t := 1) (dv := (0, 0, 0)) (npc := 18) rfl (by decide) (by decide) (by decide) ?_
  change cm_wp _ _ _ _ _ _ 18 [cr 73, ai_i 4] [cr 75, cr 73] iT67 iE175 76 ((kc + 1) + 1) ((ks + 300) + 5)
  refine w_putf (i := 73) (ci := 3) (k := 2) (t := 2) (npc := 21) rfl (by decide) rfl (by decide) rfl ?_
  change cm_wp _ _ _ _ _ _ 21 [cr 73, ai_i 4] [] iT67 iE176 76 ((kc + 1) + 1) ((ks + 300) + 5)
  refine w_aload (i := 0) (npc := 22) (v := cr 73) rfl rfl rfl ?_
  refine w_const (n := 20) (npc := 24) rfl ?_
  refine w_newa (t := 5) (dv := ai_nul) (npc := 27) rfl (by decide) (by decide) (by decide) ?_
  change cm_wp _ _ _ _ _ _ 27 [cr 73, ai_i 4] [cr 76, cr 73] iT68 iE177 77 (((kc + 1) + 1) + 1) (((ks + 300) + 5) + 20)
  refine w_putf (i := 73) (ci := 3) (k := 3) (t := 2) (npc := 30) rfl (by decide) rfl (by decide) rfl ?_
  change cm_wp _ _ _ _ _ _ 30 [cr 73, ai_i 4] [] iT68 iE178 77 (((kc + 1) + 1) + 1) (((ks + 300) + 5) + 20)
  refine w_aload (i := 0) (npc := 31) (v := cr 73) rfl rfl rfl ?_
  refine w_const (n := 0) (npc := 32) rfl ?_
  refine w_putf (i := 73) (ci := 3) (k := 4) (t := 0) (npc := 35) rfl (by decide) rfl (by decide) rfl ?_
  change cm_wp _ _ _ _ _ _ 35 [cr 73, ai_i 4] [] iT68 iE179 77 (((kc + 1) + 1) + 1) (((ks + 300) + 5) + 20)
  refine w_aload (i := 0) (npc := 36) (v := cr 73) rfl rfl rfl ?_
  refine w_const (n := 0) (npc := 37) rfl ?_
  refine w_putf (i := 73) (ci := 3) (k := 5) (t := 0) (npc := 40) rfl (by decide) rfl (by decide) rfl ?_
  change cm_wp _ _ _ _ _ _ 40 [cr 73, ai_i 4] [] iT68 iE180 77 (((kc + 1) + 1) + 1) (((ks + 300) + 5) + 20)
  refine w_aload (i := 0) (npc := 41) (v := cr 73) rfl rfl rfl ?_
  refine w_iload (i := 1) (npc := 42) (z := 4) rfl rfl ?_
  refine w_putf (i := 73) (ci := 3) (k := 0) (t := 0) (npc := 45) rfl (by decide) rfl (by decide) rfl ?_
  change cm_wp _ _ _ _ _ _ 45 [cr 73, ai_i 4] [] iT68 iE181 77 (((kc + 1) + 1) + 1) (((ks + 300) + 5) + 20)
  exact w_vret rfl ⟨rfl, rfl, rfl, rfl⟩ (by omega) (by omega)
set_option maxRecDepth 16384 in
theorem ini_16 {sl : Int × Int} {x : ai_E} {d : Nat} : cm_ct (ai_ev sl (d + 1)) x 68 [cr 77, ai_i 4] iT69 iE183 78 3 325 (fun rk rv T' E' nx' => rk = 0 ∧ T' = iT72 ∧ E' = iE192 ∧ nx' = 81) := by
  refine cm_body (M := ai_m68) rfl rfl (fun kc ks => ?_)
  show cm_wp (ai_find ai_c68 sl) (ai_ev sl (d + 0)) x (kc + 3) (ks + 325) _ 0 [cr 77, ai_i 4] [] iT69 iE183 78 kc ks
  refine w_aload (i := 0) (npc := 1) (v := cr 77) rfl rfl rfl ?_
  refine w_oinit (npc := 4) rfl ?_
  refine w_aload (i := 0) (npc := 5) (v := cr 77) rfl rfl rfl ?_
  refine w_const (n := 300) (npc := 8) rfl ?_
  refine w_newa (t := 5) (dv := ai_nul) (npc := 11) rfl (by decide) (by decide) (by decide) ?_
  change cm_wp _ _ _ _ _ _ 11 [cr 77, ai_i 4] [cr 78, cr 77] iT70 iE184 79 (kc + 1) (ks + 300)
  refine w_putf (i := 77) (ci := 3) (k := 1) (t := 2) (npc := 14) rfl (by decide) rfl (by decide) rfl ?_
  change cm_wp _ _ _ _ _ _ 14 [cr 77, ai_i 4] [] iT70 iE185 79 (kc + 1) (ks + 300)
  refine w_aload (i := 0) (npc := 15) (v := cr 77) rfl rfl rfl ?_
  refine w_const (n := 5) (npc := 16) rfl ?_
  refine w_newa (t := 1) (dv := (0, 0, 0)) (npc := 18) rfl (by decide) (by decide) (by decide) ?_
  change cm_wp _ _ _ _ _ _ 18 [cr 77, ai_i 4] [cr 79, cr 77] iT71 iE186 80 ((kc + 1) + 1) ((ks + 300) + 5)
  refine w_putf (i := 77) (ci := 3) (k := 2) (t := 2) (npc := 21) rfl (by decide) rfl (by decide) rfl ?_
  change cm_wp _ _ _ _ _ _ 21 [cr 77, ai_i 4] [] iT71 iE187 80 ((kc + 1) + 1) ((ks + 300) + 5)
  refine w_aload (i := 0) (npc := 22) (v := cr 77) rfl rfl rfl ?_
  refine w_const (n := 20) (npc := 24) rfl ?_
  refine w_newa (t := 5) (dv := ai_nul) (npc := 27) rfl (by decide) (by decide) (by decide) ?_
  change cm_wp _ _ _ _ _ _ 27 [cr 77, ai_i 4] [cr 80, cr 77] iT72 iE188 81 (((kc + 1) + 1) + 1) (((ks + 300) + 5) + 20)
  refine w_putf (i := 77) (ci := 3) (k := 3) (t := 2) (npc := 30) rfl (by decide) rfl (by decide) rfl ?_
  change cm_wp _ _ _ _ _ _ 30 [cr 77, ai_i 4] [] iT72 iE189 81 (((kc + 1) + 1) + 1) (((ks + 300) + 5) + 20)
  refine w_aload (i := 0) (npc := 31) (v := cr 77) rfl rfl rfl ?_
  refine w_const (n := 0) (npc := 32) rfl ?_
  refine w_putf (i := 77) (ci := 3) (k := 4) (t := 0) (npc := 35) rfl (by decide) rfl (by decide) rfl ?_
  change cm_wp _ _ _ _ _ _ 35 [cr 77, ai_i 4] [] iT72 iE190 81 (((kc + 1) + 1) + 1) (((ks + 300) + 5) + 20)
  refine w_aload (i := 0) (npc := 36) (v := cr 77) rfl rfl rfl ?_
  refine w_const (n := 0) (npc := 37) rfl ?_
  refine w_putf (i := 77) (ci := 3) (k := 5) (t := 0) (npc := 40) rfl (by decide) rfl (by decide) rfl ?_
  change cm_wp _ _ _ _ _ _ 40 [cr 77, ai_i 4] [] iT72 iE191 81 (((kc + 1) + 1) + 1) (((ks + 300) + 5) + 20)
  refine w_aload (i := 0) (npc := 41) (v := cr 77) rfl rfl rfl ?_
  refine w_iload (i := 1) (npc := 42) (z := 4) rfl rfl ?_
  refine w_putf (i := 77) (ci := 3) (k := 0) (t := 0) (npc := 45) rfl (by decide) rfl (by decide) rfl ?_
  change cm_wp _ _ _ _ _ _ 45 [cr 77, ai_i 4] [] iT72 iE192 81 (((kc + 1) + 1) + 1) (((ks + 300) + 5) + 20)
  exact w_vret rfl ⟨rfl, rfl, rfl, rfl⟩ (by omega) (by omega)
set_option maxRecDepth 16384 in
theorem ini_1 {sl : Int × Int} {x : ai_E} {d : Nat} : cm_ct (ai_ev sl (d + 2)) x 1 [cr 0] iT1 iE1 1 80 6168 (fun rk rv T' E' nx' => rk = 0 ∧ T' = iT72 ∧ E' = iE193 ∧ nx' = 81) := by
  refine cm_body (M := ai_m1) rfl rfl (fun kc ks => ?_)
  show cm_wp (ai_find ai_c1 sl) (ai_ev sl (d + 1)) x (kc + 80) (ks + 6168) _ 0 [cr 0, ai_un] [] iT1 iE1 1 kc ks
  have hf0 : cm_fn 0 = 8 := rfl
  have hf1 : cm_fn 1 = 4 := rfl
  have hf2 : cm_fn 2 = 2 := rfl
  have hf3 : cm_fn 3 = 6 := rfl
  have hf5 : cm_fn 5 = 13 := rfl
  have hf6 : cm_fn 6 = 9 := rfl
  refine w_aload (i := 0) (npc := 1) (v := cr 0) rfl rfl rfl ?_
  refine w_oinit (npc := 4) rfl ?_
  refine w_aload (i := 0) (npc := 5) (v := cr 0) rfl rfl rfl ?_
  refine w_const (n := 5) (npc := 6) rfl ?_
  refine w_newa (t := 4) (dv := ai_nul) (npc := 9) rfl (by decide) (by decide) (by decide) ?_
  change cm_wp _ _ _ _ _ _ 9 [cr 0, ai_un] [cr 1, cr 0] iT2 iE2 2 (kc + 1) (ks + 5)
  refine w_putf (i := 0) (ci := 7) (k := 0) (t := 2) (npc := 12) rfl (by decide) rfl (by decide) rfl ?_
  change cm_wp _ _ _ _ _ _ 12 [cr 0, ai_un] [] iT2 iE3 2 (kc + 1) (ks + 5)
  refine w_aload (i := 0) (npc := 13) (v := cr 0) rfl rfl rfl ?_
  refine w_const (n := 5) (npc := 14) rfl ?_
  refine w_newa (t := 4) (dv := ai_nul) (npc := 17) rfl (by decide) (by decide) (by decide) ?_
  change cm_wp _ _ _ _ _ _ 17 [cr 0, ai_un] [cr 2, cr 0] iT3 iE4 3 ((kc + 1) + 1) ((ks + 5) + 5)
  refine w_putf (i := 0) (ci := 7) (k := 1) (t := 2) (npc := 20) rfl (by decide) rfl (by decide) rfl ?_
  change cm_wp _ _ _ _ _ _ 20 [cr 0, ai_un] [] iT3 iE5 3 ((kc + 1) + 1) ((ks + 5) + 5)
  refine w_aload (i := 0) (npc := 21) (v := cr 0) rfl rfl rfl ?_
  refine w_const (n := 3) (npc := 22) rfl ?_
  refine w_newa (t := 1) (dv := (0, 0, 0)) (npc := 24) rfl (by decide) (by decide) (by decide) ?_
  change cm_wp _ _ _ _ _ _ 24 [cr 0, ai_un] [cr 3, cr 0] iT4 iE6 4 (((kc + 1) + 1) + 1) (((ks + 5) + 5) + 3)
  refine w_putf (i := 0) (ci := 7) (k := 2) (t := 2) (npc := 27) rfl (by decide) rfl (by decide) rfl ?_
  change cm_wp _ _ _ _ _ _ 27 [cr 0, ai_un] [] iT4 iE7 4 (((kc + 1) + 1) + 1) (((ks + 5) + 5) + 3)
  refine w_aload (i := 0) (npc := 28) (v := cr 0) rfl rfl rfl ?_
  refine w_const (n := 3) (npc := 29) rfl ?_
  refine w_newa (t := 1) (dv := (0, 0, 0)) (npc := 31) rfl (by decide) (by decide) (by decide) ?_
  change cm_wp _ _ _ _ _ _ 31 [cr 0, ai_un] [cr 4, cr 0] iT5 iE8 5 ((((kc + 1) + 1) + 1) + 1) ((((ks + 5) + 5) + 3) + 3)
  refine w_putf (i := 0) (ci := 7) (k := 3) (t := 2) (npc := 34) rfl (by decide) rfl (by decide) rfl ?_
  change cm_wp _ _ _ _ _ _ 34 [cr 0, ai_un] [] iT5 iE9 5 ((((kc + 1) + 1) + 1) + 1) ((((ks + 5) + 5) + 3) + 3)
  refine w_aload (i := 0) (npc := 35) (v := cr 0) rfl rfl rfl ?_
  refine w_const (n := 400) (npc := 38) rfl ?_
  refine w_newa (t := 1) (dv := (0, 0, 0)) (npc := 40) rfl (by decide) (by decide) (by decide) ?_
  change cm_wp _ _ _ _ _ _ 40 [cr 0, ai_un] [cr 5, cr 0] iT6 iE10 6 (((((kc + 1) + 1) + 1) + 1) + 1) (((((ks + 5) + 5) + 3) + 3) + 400)
  refine w_putf (i := 0) (ci := 7) (k := 4) (t := 2) (npc := 43) rfl (by decide) rfl (by decide) rfl ?_
  change cm_wp _ _ _ _ _ _ 43 [cr 0, ai_un] [] iT6 iE11 6 (((((kc + 1) + 1) + 1) + 1) + 1) (((((ks + 5) + 5) + 3) + 3) + 400)
  refine w_aload (i := 0) (npc := 44) (v := cr 0) rfl rfl rfl ?_
  refine w_new (ci := 6) (npc := 47) rfl (by decide) ?_
  change cm_wp _ _ _ _ _ _ 47 [cr 0, ai_un] [cr 6, cr 0] iT7 iE12 7 ((((((kc + 1) + 1) + 1) + 1) + 1) + 1) ((((((ks + 5) + 5) + 3) + 3) + 400) + cm_fn 6)
  refine w_dup (npc := 48) rfl rfl ?_
  refine w_virt (ci := 6) (i := 6) (npc := 51) (a := [cr 6]) (rest := [cr 6, cr 0]) rfl rfl (by decide) rfl rfl rfl rfl rfl (ini_2 (sl := sl) (x := x) (d := d + 0)) (Or.inr (fun _ _ _ _ _ hq => by have h1 := hq.1; omega)) (fun k9 v9 T9 E9 nx9 kc2 ks2 hq2 hk2 hs2 => ?_)
  obtain ⟨rfl, rfl, rfl, rfl⟩ := hq2
  refine Or.inl ⟨rfl, ?_⟩
  refine w_putf (i := 0) (ci := 7) (k := 5) (t := 2) (npc := 54) rfl (by decide) rfl (by decide) rfl ?_
  change cm_wp _ _ _ _ _ _ 54 [cr 0, ai_un] [] iT14 iE29 14 kc2 ks2
  refine w_aload (i := 0) (npc := 55) (v := cr 0) rfl rfl rfl ?_
  refine w_new (ci := 1) (npc := 58) rfl (by decide) ?_
  change cm_wp _ _ _ _ _ _ 58 [cr 0, ai_un] [cr 14, cr 0] iT15 iE30 15 (kc2 + 1) (ks2 + cm_fn 1)
  refine w_dup (npc := 59) rfl rfl ?_
  refine w_virt (ci := 1) (i := 14) (npc := 62) (a := [cr 14]) (rest := [cr 14, cr 0]) rfl rfl (by decide) rfl rfl rfl rfl rfl (ini_3 (sl := sl) (x := x) (d := d + 0)) (Or.inr (fun _ _ _ _ _ hq => by have h1 := hq.1; omega)) (fun k9 v9 T9 E9 nx9 kc3 ks3 hq3 hk3 hs3 => ?_)
  obtain ⟨rfl, rfl, rfl, rfl⟩ := hq3
  refine Or.inl ⟨rfl, ?_⟩
  refine w_putf (i := 0) (ci := 7) (k := 6) (t := 2) (npc := 65) rfl (by decide) rfl (by decide) rfl ?_
  change cm_wp _ _ _ _ _ _ 65 [cr 0, ai_un] [] iT17 iE37 17 kc3 ks3
  refine w_aload (i := 0) (npc := 66) (v := cr 0) rfl rfl rfl ?_
  refine w_new (ci := 2) (npc := 69) rfl (by decide) ?_
  change cm_wp _ _ _ _ _ _ 69 [cr 0, ai_un] [cr 17, cr 0] iT18 iE38 18 (kc3 + 1) (ks3 + cm_fn 2)
  refine w_dup (npc := 70) rfl rfl ?_
  refine w_virt (ci := 2) (i := 17) (npc := 73) (a := [cr 17]) (rest := [cr 17, cr 0]) rfl rfl (by decide) rfl rfl rfl rfl rfl (ini_4 (sl := sl) (x := x) (d := d + 0)) (Or.inr (fun _ _ _ _ _ hq => by have h1 := hq.1; omega)) (fun k9 v9 T9 E9 nx9 kc4 ks4 hq4 hk4 hs4 => ?_)
  obtain ⟨rfl, rfl, rfl, rfl⟩ := hq4
  refine Or.inl ⟨rfl, ?_⟩
  refine w_putf (i := 0) (ci := 7) (k := 7) (t := 2) (npc := 76) rfl (by decide) rfl (by decide) rfl ?_
  change cm_wp _ _ _ _ _ _ 76 [cr 0, ai_un] [] iT19 iE42 19 kc4 ks4
  refine w_aload (i := 0) (npc := 77) (v := cr 0) rfl rfl rfl ?_
  refine w_new (ci := 0) (npc := 80) rfl (by decide) ?_
  change cm_wp _ _ _ _ _ _ 80 [cr 0, ai_un] [cr 19, cr 0] iT20 iE43 20 (kc4 + 1) (ks4 + cm_fn 0)
  refine w_dup (npc := 81) rfl rfl ?_
  refine w_virt (ci := 0) (i := 19) (npc := 84) (a := [cr 19]) (rest := [cr 19, cr 0]) rfl rfl (by decide) rfl rfl rfl rfl rfl (ini_5 (sl := sl) (x := x) (d := d + 0)) (Or.inr (fun _ _ _ _ _ hq => by have h1 := hq.1; omega)) (fun k9 v9 T9 E9 nx9 kc5 ks5 hq5 hk5 hs5 => ?_)
  obtain ⟨rfl, rfl, rfl, rfl⟩ := hq5
  refine Or.inl ⟨rfl, ?_⟩
  refine w_putf (i := 0) (ci := 7) (k := 8) (t := 2) (npc := 87) rfl (by decide) rfl (by decide) rfl ?_
  change cm_wp _ _ _ _ _ _ 87 [cr 0, ai_un] [] iT23 iE55 23 kc5 ks5
  refine w_aload (i := 0) (npc := 88) (v := cr 0) rfl rfl rfl ?_
  refine w_new (ci := 5) (npc := 91) rfl (by decide) ?_
  change cm_wp _ _ _ _ _ _ 91 [cr 0, ai_un] [cr 23, cr 0] iT24 iE56 24 (kc5 + 1) (ks5 + cm_fn 5)
  refine w_dup (npc := 92) rfl rfl ?_
  refine w_virt (ci := 5) (i := 23) (npc := 95) (a := [cr 23]) (rest := [cr 23, cr 0]) rfl rfl (by decide) rfl rfl rfl rfl rfl (ini_6 (sl := sl) (x := x) (d := d + 0)) (Or.inr (fun _ _ _ _ _ hq => by have h1 := hq.1; omega)) (fun k9 v9 T9 E9 nx9 kc6 ks6 hq6 hk6 hs6 => ?_)
  obtain ⟨rfl, rfl, rfl, rfl⟩ := hq6
  refine Or.inl ⟨rfl, ?_⟩
  refine w_putf (i := 0) (ci := 7) (k := 9) (t := 2) (npc := 98) rfl (by decide) rfl (by decide) rfl ?_
  change cm_wp _ _ _ _ _ _ 98 [cr 0, ai_un] [] iT32 iE78 41 kc6 ks6
  refine w_aload (i := 0) (npc := 99) (v := cr 0) rfl rfl rfl ?_
  refine w_const (n := 2) (npc := 100) rfl ?_
  refine w_putf (i := 0) (ci := 7) (k := 10) (t := 0) (npc := 103) rfl (by decide) rfl (by decide) rfl ?_
  change cm_wp _ _ _ _ _ _ 103 [cr 0, ai_un] [] iT32 iE79 41 kc6 ks6
  refine w_aload (i := 0) (npc := 104) (v := cr 0) rfl rfl rfl ?_
  refine w_const (n := 0) (npc := 105) rfl ?_
  refine w_putf (i := 0) (ci := 7) (k := 11) (t := 0) (npc := 108) rfl (by decide) rfl (by decide) rfl ?_
  change cm_wp _ _ _ _ _ _ 108 [cr 0, ai_un] [] iT32 iE80 41 kc6 ks6
  refine w_aload (i := 0) (npc := 109) (v := cr 0) rfl rfl rfl ?_
  refine w_const (n := (-1)) (npc := 110) rfl ?_
  refine w_putf (i := 0) (ci := 7) (k := 12) (t := 0) (npc := 113) rfl (by decide) rfl (by decide) rfl ?_
  change cm_wp _ _ _ _ _ _ 113 [cr 0, ai_un] [] iT32 iE81 41 kc6 ks6
  refine w_aload (i := 0) (npc := 114) (v := cr 0) rfl rfl rfl ?_
  refine w_const (n := (-1)) (npc := 115) rfl ?_
  refine w_putf (i := 0) (ci := 7) (k := 13) (t := 0) (npc := 118) rfl (by decide) rfl (by decide) rfl ?_
  change cm_wp _ _ _ _ _ _ 118 [cr 0, ai_un] [] iT32 iE82 41 kc6 ks6
  refine w_aload (i := 0) (npc := 119) (v := cr 0) rfl rfl rfl ?_
  refine w_const (n := 0) (npc := 120) rfl ?_
  refine w_putf (i := 0) (ci := 7) (k := 14) (t := 1) (npc := 123) rfl (by decide) rfl (by decide) rfl ?_
  change cm_wp _ _ _ _ _ _ 123 [cr 0, ai_un] [] iT32 iE83 41 kc6 ks6
  refine w_const (n := 0) (npc := 124) rfl ?_
  refine w_istore (i := 1) (npc := 125) (loc' := [cr 0, ai_i 0]) rfl rfl ?_
  refine w_iload (i := 1) (npc := 126) (z := 0) rfl rfl ?_
  refine w_const (n := 5) (npc := 127) rfl ?_
  refine w_icmp (c := .ge) (npc := 130) (pt := 164) rfl (fun h => absurd (show 5 ≤ (0 : Int) from h) (by decide)) (fun _ => ?_)
  refine w_aload (i := 0) (npc := 131) (v := cr 0) rfl rfl rfl ?_
  refine w_getf (i := 0) (ci := 7) (k := 0) (v := cr 1) (npc := 134) rfl (by decide) rfl (by decide) rfl ?_
  refine w_iload (i := 1) (npc := 135) (z := 0) rfl rfl ?_
  refine w_new (ci := 3) (npc := 138) rfl (by decide) ?_
  change cm_wp _ _ _ _ _ _ 138 [cr 0, ai_i 0] [cr 41, ai_i 0, cr 1] iT33 iE84 42 (kc6 + 1) (ks6 + cm_fn 3)
  refine w_dup (npc := 139) rfl rfl ?_
  refine w_iload (i := 1) (npc := 140) (z := 0) rfl rfl ?_
  refine w_virt (ci := 3) (i := 41) (npc := 143) (a := [cr 41, ai_i 0]) (rest := [cr 41, ai_i 0, cr 1]) rfl rfl (by decide) rfl rfl rfl rfl rfl (ini_7 (sl := sl) (x := x) (d := d + 0)) (Or.inr (fun _ _ _ _ _ hq => by have h1 := hq.1; omega)) (fun k9 v9 T9 E9 nx9 kc7 ks7 hq7 hk7 hs7 => ?_)
  obtain ⟨rfl, rfl, rfl, rfl⟩ := hq7
  refine Or.inl ⟨rfl, ?_⟩
  refine w_aast (i := 1) (k := 4) (n := 5) (npc := 144) rfl (by decide) rfl (Or.inl rfl) (by decide) (Or.inr ⟨41, rfl, by decide, rfl⟩) ?_
  change cm_wp _ _ _ _ _ _ 144 [cr 0, ai_i 0] [] iT36 iE94 45 kc7 ks7
  refine w_aload (i := 0) (npc := 145) (v := cr 0) rfl rfl rfl ?_
  refine w_getf (i := 0) (ci := 7) (k := 1) (v := cr 2) (npc := 148) rfl (by decide) rfl (by decide) rfl ?_
  refine w_iload (i := 1) (npc := 149) (z := 0) rfl rfl ?_
  refine w_new (ci := 3) (npc := 152) rfl (by decide) ?_
  change cm_wp _ _ _ _ _ _ 152 [cr 0, ai_i 0] [cr 45, ai_i 0, cr 2] iT37 iE95 46 (kc7 + 1) (ks7 + cm_fn 3)
  refine w_dup (npc := 153) rfl rfl ?_
  refine w_iload (i := 1) (npc := 154) (z := 0) rfl rfl ?_
  refine w_virt (ci := 3) (i := 45) (npc := 157) (a := [cr 45, ai_i 0]) (rest := [cr 45, ai_i 0, cr 2]) rfl rfl (by decide) rfl rfl rfl rfl rfl (ini_8 (sl := sl) (x := x) (d := d + 0)) (Or.inr (fun _ _ _ _ _ hq => by have h1 := hq.1; omega)) (fun k9 v9 T9 E9 nx9 kc8 ks8 hq8 hk8 hs8 => ?_)
  obtain ⟨rfl, rfl, rfl, rfl⟩ := hq8
  refine Or.inl ⟨rfl, ?_⟩
  refine w_aast (i := 2) (k := 4) (n := 5) (npc := 158) rfl (by decide) rfl (Or.inl rfl) (by decide) (Or.inr ⟨45, rfl, by decide, rfl⟩) ?_
  change cm_wp _ _ _ _ _ _ 158 [cr 0, ai_i 0] [] iT40 iE105 49 kc8 ks8
  refine w_iinc (i := 1) (n := 1) (npc := 161) (loc' := [cr 0, ai_i 1]) rfl rfl (by decide) rfl ?_
  refine w_goto (pt := 125) rfl ?_
  refine w_iload (i := 1) (npc := 126) (z := 1) rfl rfl ?_
  refine w_const (n := 5) (npc := 127) rfl ?_
  refine w_icmp (c := .ge) (npc := 130) (pt := 164) rfl (fun h => absurd (show 5 ≤ (1 : Int) from h) (by decide)) (fun _ => ?_)
  refine w_aload (i := 0) (npc := 131) (v := cr 0) rfl rfl rfl ?_
  refine w_getf (i := 0) (ci := 7) (k := 0) (v := cr 1) (npc := 134) rfl (by decide) rfl (by decide) rfl ?_
  refine w_iload (i := 1) (npc := 135) (z := 1) rfl rfl ?_
  refine w_new (ci := 3) (npc := 138) rfl (by decide) ?_
  change cm_wp _ _ _ _ _ _ 138 [cr 0, ai_i 1] [cr 49, ai_i 1, cr 1] iT41 iE106 50 (kc8 + 1) (ks8 + cm_fn 3)
  refine w_dup (npc := 139) rfl rfl ?_
  refine w_iload (i := 1) (npc := 140) (z := 1) rfl rfl ?_
  refine w_virt (ci := 3) (i := 49) (npc := 143) (a := [cr 49, ai_i 1]) (rest := [cr 49, ai_i 1, cr 1]) rfl rfl (by decide) rfl rfl rfl rfl rfl (ini_9 (sl := sl) (x := x) (d := d + 0)) (Or.inr (fun _ _ _ _ _ hq => by have h1 := hq.1; omega)) (fun k9 v9 T9 E9 nx9 kc9 ks9 hq9 hk9 hs9 => ?_)
  obtain ⟨rfl, rfl, rfl, rfl⟩ := hq9
  refine Or.inl ⟨rfl, ?_⟩
  refine w_aast (i := 1) (k := 4) (n := 5) (npc := 144) rfl (by decide) rfl (Or.inl rfl) (by decide) (Or.inr ⟨49, rfl, by decide, rfl⟩) ?_
  change cm_wp _ _ _ _ _ _ 144 [cr 0, ai_i 1] [] iT44 iE116 53 kc9 ks9
  refine w_aload (i := 0) (npc := 145) (v := cr 0) rfl rfl rfl ?_
  refine w_getf (i := 0) (ci := 7) (k := 1) (v := cr 2) (npc := 148) rfl (by decide) rfl (by decide) rfl ?_
  refine w_iload (i := 1) (npc := 149) (z := 1) rfl rfl ?_
  refine w_new (ci := 3) (npc := 152) rfl (by decide) ?_
  change cm_wp _ _ _ _ _ _ 152 [cr 0, ai_i 1] [cr 53, ai_i 1, cr 2] iT45 iE117 54 (kc9 + 1) (ks9 + cm_fn 3)
  refine w_dup (npc := 153) rfl rfl ?_
  refine w_iload (i := 1) (npc := 154) (z := 1) rfl rfl ?_
  refine w_virt (ci := 3) (i := 53) (npc := 157) (a := [cr 53, ai_i 1]) (rest := [cr 53, ai_i 1, cr 2]) rfl rfl (by decide) rfl rfl rfl rfl rfl (ini_10 (sl := sl) (x := x) (d := d + 0)) (Or.inr (fun _ _ _ _ _ hq => by have h1 := hq.1; omega)) (fun k9 v9 T9 E9 nx9 kc10 ks10 hq10 hk10 hs10 => ?_)
  obtain ⟨rfl, rfl, rfl, rfl⟩ := hq10
  refine Or.inl ⟨rfl, ?_⟩
  refine w_aast (i := 2) (k := 4) (n := 5) (npc := 158) rfl (by decide) rfl (Or.inl rfl) (by decide) (Or.inr ⟨53, rfl, by decide, rfl⟩) ?_
  change cm_wp _ _ _ _ _ _ 158 [cr 0, ai_i 1] [] iT48 iE127 57 kc10 ks10
  refine w_iinc (i := 1) (n := 1) (npc := 161) (loc' := [cr 0, ai_i 2]) rfl rfl (by decide) rfl ?_
  refine w_goto (pt := 125) rfl ?_
  refine w_iload (i := 1) (npc := 126) (z := 2) rfl rfl ?_
  refine w_const (n := 5) (npc := 127) rfl ?_
  refine w_icmp (c := .ge) (npc := 130) (pt := 164) rfl (fun h => absurd (show 5 ≤ (2 : Int) from h) (by decide)) (fun _ => ?_)
  refine w_aload (i := 0) (npc := 131) (v := cr 0) rfl rfl rfl ?_
  refine w_getf (i := 0) (ci := 7) (k := 0) (v := cr 1) (npc := 134) rfl (by decide) rfl (by decide) rfl ?_
  refine w_iload (i := 1) (npc := 135) (z := 2) rfl rfl ?_
  refine w_new (ci := 3) (npc := 138) rfl (by decide) ?_
  change cm_wp _ _ _ _ _ _ 138 [cr 0, ai_i 2] [cr 57, ai_i 2, cr 1] iT49 iE128 58 (kc10 + 1) (ks10 + cm_fn 3)
  refine w_dup (npc := 139) rfl rfl ?_
  refine w_iload (i := 1) (npc := 140) (z := 2) rfl rfl ?_
  refine w_virt (ci := 3) (i := 57) (npc := 143) (a := [cr 57, ai_i 2]) (rest := [cr 57, ai_i 2, cr 1]) rfl rfl (by decide) rfl rfl rfl rfl rfl (ini_11 (sl := sl) (x := x) (d := d + 0)) (Or.inr (fun _ _ _ _ _ hq => by have h1 := hq.1; omega)) (fun k9 v9 T9 E9 nx9 kc11 ks11 hq11 hk11 hs11 => ?_)
  obtain ⟨rfl, rfl, rfl, rfl⟩ := hq11
  refine Or.inl ⟨rfl, ?_⟩
  refine w_aast (i := 1) (k := 4) (n := 5) (npc := 144) rfl (by decide) rfl (Or.inl rfl) (by decide) (Or.inr ⟨57, rfl, by decide, rfl⟩) ?_
  change cm_wp _ _ _ _ _ _ 144 [cr 0, ai_i 2] [] iT52 iE138 61 kc11 ks11
  refine w_aload (i := 0) (npc := 145) (v := cr 0) rfl rfl rfl ?_
  refine w_getf (i := 0) (ci := 7) (k := 1) (v := cr 2) (npc := 148) rfl (by decide) rfl (by decide) rfl ?_
  refine w_iload (i := 1) (npc := 149) (z := 2) rfl rfl ?_
  refine w_new (ci := 3) (npc := 152) rfl (by decide) ?_
  change cm_wp _ _ _ _ _ _ 152 [cr 0, ai_i 2] [cr 61, ai_i 2, cr 2] iT53 iE139 62 (kc11 + 1) (ks11 + cm_fn 3)
  refine w_dup (npc := 153) rfl rfl ?_
  refine w_iload (i := 1) (npc := 154) (z := 2) rfl rfl ?_
  refine w_virt (ci := 3) (i := 61) (npc := 157) (a := [cr 61, ai_i 2]) (rest := [cr 61, ai_i 2, cr 2]) rfl rfl (by decide) rfl rfl rfl rfl rfl (ini_12 (sl := sl) (x := x) (d := d + 0)) (Or.inr (fun _ _ _ _ _ hq => by have h1 := hq.1; omega)) (fun k9 v9 T9 E9 nx9 kc12 ks12 hq12 hk12 hs12 => ?_)
  obtain ⟨rfl, rfl, rfl, rfl⟩ := hq12
  refine Or.inl ⟨rfl, ?_⟩
  refine w_aast (i := 2) (k := 4) (n := 5) (npc := 158) rfl (by decide) rfl (Or.inl rfl) (by decide) (Or.inr ⟨61, rfl, by decide, rfl⟩) ?_
  change cm_wp _ _ _ _ _ _ 158 [cr 0, ai_i 2] [] iT56 iE149 65 kc12 ks12
  refine w_iinc (i := 1) (n := 1) (npc := 161) (loc' := [cr 0, ai_i 3]) rfl rfl (by decide) rfl ?_
  refine w_goto (pt := 125) rfl ?_
  refine w_iload (i := 1) (npc := 126) (z := 3) rfl rfl ?_
  refine w_const (n := 5) (npc := 127) rfl ?_
  refine w_icmp (c := .ge) (npc := 130) (pt := 164) rfl (fun h => absurd (show 5 ≤ (3 : Int) from h) (by decide)) (fun _ => ?_)
  refine w_aload (i := 0) (npc := 131) (v := cr 0) rfl rfl rfl ?_
  refine w_getf (i := 0) (ci := 7) (k := 0) (v := cr 1) (npc := 134) rfl (by decide) rfl (by decide) rfl ?_
  refine w_iload (i := 1) (npc := 135) (z := 3) rfl rfl ?_
  refine w_new (ci := 3) (npc := 138) rfl (by decide) ?_
  change cm_wp _ _ _ _ _ _ 138 [cr 0, ai_i 3] [cr 65, ai_i 3, cr 1] iT57 iE150 66 (kc12 + 1) (ks12 + cm_fn 3)
  refine w_dup (npc := 139) rfl rfl ?_
  refine w_iload (i := 1) (npc := 140) (z := 3) rfl rfl ?_
  refine w_virt (ci := 3) (i := 65) (npc := 143) (a := [cr 65, ai_i 3]) (rest := [cr 65, ai_i 3, cr 1]) rfl rfl (by decide) rfl rfl rfl rfl rfl (ini_13 (sl := sl) (x := x) (d := d + 0)) (Or.inr (fun _ _ _ _ _ hq => by have h1 := hq.1; omega)) (fun k9 v9 T9 E9 nx9 kc13 ks13 hq13 hk13 hs13 => ?_)
  obtain ⟨rfl, rfl, rfl, rfl⟩ := hq13
  refine Or.inl ⟨rfl, ?_⟩
  refine w_aast (i := 1) (k := 4) (n := 5) (npc := 144) rfl (by decide) rfl (Or.inl rfl) (by decide) (Or.inr ⟨65, rfl, by decide, rfl⟩) ?_
  change cm_wp _ _ _ _ _ _ 144 [cr 0, ai_i 3] [] iT60 iE160 69 kc13 ks13
  refine w_aload (i := 0) (npc := 145) (v := cr 0) rfl rfl rfl ?_
  refine w_getf (i := 0) (ci := 7) (k := 1) (v := cr 2) (npc := 148) rfl (by decide) rfl (by decide) rfl ?_
  refine w_iload (i := 1) (npc := 149) (z := 3) rfl rfl ?_
  refine w_new (ci := 3) (npc := 152) rfl (by decide) ?_
  change cm_wp _ _ _ _ _ _ 152 [cr 0, ai_i 3] [cr 69, ai_i 3, cr 2] iT61 iE161 70 (kc13 + 1) (ks13 + cm_fn 3)
  refine w_dup (npc := 153) rfl rfl ?_
  refine w_iload (i := 1) (npc := 154) (z := 3) rfl rfl ?_
  refine w_virt (ci := 3) (i := 69) (npc := 157) (a := [cr 69, ai_i 3]) (rest := [cr 69, ai_i 3, cr 2]) rfl rfl (by decide) rfl rfl rfl rfl rfl (ini_14 (sl := sl) (x := x) (d := d + 0)) (Or.inr (fun _ _ _ _ _ hq => by have h1 := hq.1; omega)) (fun k9 v9 T9 E9 nx9 kc14 ks14 hq14 hk14 hs14 => ?_)
  obtain ⟨rfl, rfl, rfl, rfl⟩ := hq14
  refine Or.inl ⟨rfl, ?_⟩
  refine w_aast (i := 2) (k := 4) (n := 5) (npc := 158) rfl (by decide) rfl (Or.inl rfl) (by decide) (Or.inr ⟨69, rfl, by decide, rfl⟩) ?_
  change cm_wp _ _ _ _ _ _ 158 [cr 0, ai_i 3] [] iT64 iE171 73 kc14 ks14
  refine w_iinc (i := 1) (n := 1) (npc := 161) (loc' := [cr 0, ai_i 4]) rfl rfl (by decide) rfl ?_
  refine w_goto (pt := 125) rfl ?_
  refine w_iload (i := 1) (npc := 126) (z := 4) rfl rfl ?_
  refine w_const (n := 5) (npc := 127) rfl ?_
  refine w_icmp (c := .ge) (npc := 130) (pt := 164) rfl (fun h => absurd (show 5 ≤ (4 : Int) from h) (by decide)) (fun _ => ?_)
  refine w_aload (i := 0) (npc := 131) (v := cr 0) rfl rfl rfl ?_
  refine w_getf (i := 0) (ci := 7) (k := 0) (v := cr 1) (npc := 134) rfl (by decide) rfl (by decide) rfl ?_
  refine w_iload (i := 1) (npc := 135) (z := 4) rfl rfl ?_
  refine w_new (ci := 3) (npc := 138) rfl (by decide) ?_
  change cm_wp _ _ _ _ _ _ 138 [cr 0, ai_i 4] [cr 73, ai_i 4, cr 1] iT65 iE172 74 (kc14 + 1) (ks14 + cm_fn 3)
  refine w_dup (npc := 139) rfl rfl ?_
  refine w_iload (i := 1) (npc := 140) (z := 4) rfl rfl ?_
  refine w_virt (ci := 3) (i := 73) (npc := 143) (a := [cr 73, ai_i 4]) (rest := [cr 73, ai_i 4, cr 1]) rfl rfl (by decide) rfl rfl rfl rfl rfl (ini_15 (sl := sl) (x := x) (d := d + 0)) (Or.inr (fun _ _ _ _ _ hq => by have h1 := hq.1; omega)) (fun k9 v9 T9 E9 nx9 kc15 ks15 hq15 hk15 hs15 => ?_)
  obtain ⟨rfl, rfl, rfl, rfl⟩ := hq15
  refine Or.inl ⟨rfl, ?_⟩
  refine w_aast (i := 1) (k := 4) (n := 5) (npc := 144) rfl (by decide) rfl (Or.inl rfl) (by decide) (Or.inr ⟨73, rfl, by decide, rfl⟩) ?_
  change cm_wp _ _ _ _ _ _ 144 [cr 0, ai_i 4] [] iT68 iE182 77 kc15 ks15
  refine w_aload (i := 0) (npc := 145) (v := cr 0) rfl rfl rfl ?_
  refine w_getf (i := 0) (ci := 7) (k := 1) (v := cr 2) (npc := 148) rfl (by decide) rfl (by decide) rfl ?_
  refine w_iload (i := 1) (npc := 149) (z := 4) rfl rfl ?_
  refine w_new (ci := 3) (npc := 152) rfl (by decide) ?_
  change cm_wp _ _ _ _ _ _ 152 [cr 0, ai_i 4] [cr 77, ai_i 4, cr 2] iT69 iE183 78 (kc15 + 1) (ks15 + cm_fn 3)
  refine w_dup (npc := 153) rfl rfl ?_
  refine w_iload (i := 1) (npc := 154) (z := 4) rfl rfl ?_
  refine w_virt (ci := 3) (i := 77) (npc := 157) (a := [cr 77, ai_i 4]) (rest := [cr 77, ai_i 4, cr 2]) rfl rfl (by decide) rfl rfl rfl rfl rfl (ini_16 (sl := sl) (x := x) (d := d + 0)) (Or.inr (fun _ _ _ _ _ hq => by have h1 := hq.1; omega)) (fun k9 v9 T9 E9 nx9 kc16 ks16 hq16 hk16 hs16 => ?_)
  obtain ⟨rfl, rfl, rfl, rfl⟩ := hq16
  refine Or.inl ⟨rfl, ?_⟩
  refine w_aast (i := 2) (k := 4) (n := 5) (npc := 158) rfl (by decide) rfl (Or.inl rfl) (by decide) (Or.inr ⟨77, rfl, by decide, rfl⟩) ?_
  change cm_wp _ _ _ _ _ _ 158 [cr 0, ai_i 4] [] iT72 iE193 81 kc16 ks16
  refine w_iinc (i := 1) (n := 1) (npc := 161) (loc' := [cr 0, ai_i 5]) rfl rfl (by decide) rfl ?_
  refine w_goto (pt := 125) rfl ?_
  refine w_iload (i := 1) (npc := 126) (z := 5) rfl rfl ?_
  refine w_const (n := 5) (npc := 127) rfl ?_
  refine w_icmp (c := .ge) (npc := 130) (pt := 164) rfl (fun _ => ?_) (fun h => absurd (show 5 ≤ (5 : Int) by decide) h)
  exact w_vret rfl ⟨rfl, rfl, rfl, rfl⟩ (by omega) (by omega)
set_option maxRecDepth 16384 in
theorem ini_17 {sl : Int × Int} {x : ai_E} {d : Nat} : cm_ct (ai_ev sl (d + 1)) x 143 [cr 81] iT73 iE194 82 22 534092 (fun rk rv T' E' nx' => rk = 0 ∧ T' = iT95 ∧ E' = iE240 ∧ nx' = 104) := by
  refine cm_body (M := ai_m143) rfl rfl (fun kc ks => ?_)
  show cm_wp (ai_find ai_c143 sl) (ai_ev sl (d + 0)) x (kc + 22) (ks + 534092) _ 0 [cr 81] [] iT73 iE194 82 kc ks
  refine w_aload (i := 0) (npc := 1) (v := cr 81) rfl rfl rfl ?_
  refine w_oinit (npc := 4) rfl ?_
  refine w_aload (i := 0) (npc := 5) (v := cr 81) rfl rfl rfl ?_
  refine w_const (n := 2) (npc := 6) rfl ?_
  refine w_putf (i := 81) (ci := 8) (k := 1) (t := 0) (npc := 9) rfl (by decide) rfl (by decide) rfl ?_
  change cm_wp _ _ _ _ _ _ 9 [cr 81] [] iT73 iE195 82 kc ks
  refine w_aload (i := 0) (npc := 10) (v := cr 81) rfl rfl rfl ?_
  refine w_const (n := 531366) (npc := 12) rfl ?_
  refine w_newa (t := 1) (dv := (0, 0, 0)) (npc := 14) rfl (by decide) (by decide) (by decide) ?_
  change cm_wp _ _ _ _ _ _ 14 [cr 81] [cr 82, cr 81] iT74 iE196 83 (kc + 1) (ks + 531366)
  refine w_putf (i := 81) (ci := 8) (k := 2) (t := 2) (npc := 17) rfl (by decide) rfl (by decide) rfl ?_
  change cm_wp _ _ _ _ _ _ 17 [cr 81] [] iT74 iE197 83 (kc + 1) (ks + 531366)
  refine w_aload (i := 0) (npc := 18) (v := cr 81) rfl rfl rfl ?_
  refine w_const (n := 25) (npc := 20) rfl ?_
  refine w_newa (t := 1) (dv := (0, 0, 0)) (npc := 22) rfl (by decide) (by decide) (by decide) ?_
  change cm_wp _ _ _ _ _ _ 22 [cr 81] [cr 83, cr 81] iT75 iE198 84 ((kc + 1) + 1) ((ks + 531366) + 25)
  refine w_putf (i := 81) (ci := 8) (k := 3) (t := 2) (npc := 25) rfl (by decide) rfl (by decide) rfl ?_
  change cm_wp _ _ _ _ _ _ 25 [cr 81] [] iT75 iE199 84 ((kc + 1) + 1) ((ks + 531366) + 25)
  refine w_aload (i := 0) (npc := 26) (v := cr 81) rfl rfl rfl ?_
  refine w_const (n := 5) (npc := 27) rfl ?_
  refine w_newa (t := 1) (dv := (0, 0, 0)) (npc := 29) rfl (by decide) (by decide) (by decide) ?_
  change cm_wp _ _ _ _ _ _ 29 [cr 81] [cr 84, cr 81] iT76 iE200 85 (((kc + 1) + 1) + 1) (((ks + 531366) + 25) + 5)
  refine w_putf (i := 81) (ci := 8) (k := 4) (t := 2) (npc := 32) rfl (by decide) rfl (by decide) rfl ?_
  change cm_wp _ _ _ _ _ _ 32 [cr 81] [] iT76 iE201 85 (((kc + 1) + 1) + 1) (((ks + 531366) + 25) + 5)
  refine w_aload (i := 0) (npc := 33) (v := cr 81) rfl rfl rfl ?_
  refine w_const (n := 3) (npc := 34) rfl ?_
  refine w_newa (t := 1) (dv := (0, 0, 0)) (npc := 36) rfl (by decide) (by decide) (by decide) ?_
  change cm_wp _ _ _ _ _ _ 36 [cr 81] [cr 85, cr 81] iT77 iE202 86 ((((kc + 1) + 1) + 1) + 1) ((((ks + 531366) + 25) + 5) + 3)
  refine w_putf (i := 81) (ci := 8) (k := 5) (t := 2) (npc := 39) rfl (by decide) rfl (by decide) rfl ?_
  change cm_wp _ _ _ _ _ _ 39 [cr 81] [] iT77 iE203 86 ((((kc + 1) + 1) + 1) + 1) ((((ks + 531366) + 25) + 5) + 3)
  refine w_aload (i := 0) (npc := 40) (v := cr 81) rfl rfl rfl ?_
  refine w_const (n := 300) (npc := 43) rfl ?_
  refine w_newa (t := 2) (dv := (0, 0, 0)) (npc := 45) rfl (by decide) (by decide) (by decide) ?_
  change cm_wp _ _ _ _ _ _ 45 [cr 81] [cr 86, cr 81] iT78 iE204 87 (((((kc + 1) + 1) + 1) + 1) + 1) (((((ks + 531366) + 25) + 5) + 3) + 300)
  refine w_putf (i := 81) (ci := 8) (k := 6) (t := 2) (npc := 48) rfl (by decide) rfl (by decide) rfl ?_
  change cm_wp _ _ _ _ _ _ 48 [cr 81] [] iT78 iE205 87 (((((kc + 1) + 1) + 1) + 1) + 1) (((((ks + 531366) + 25) + 5) + 3) + 300)
  refine w_aload (i := 0) (npc := 49) (v := cr 81) rfl rfl rfl ?_
  refine w_const (n := 300) (npc := 52) rfl ?_
  refine w_newa (t := 2) (dv := (0, 0, 0)) (npc := 54) rfl (by decide) (by decide) (by decide) ?_
  change cm_wp _ _ _ _ _ _ 54 [cr 81] [cr 87, cr 81] iT79 iE206 88 ((((((kc + 1) + 1) + 1) + 1) + 1) + 1) ((((((ks + 531366) + 25) + 5) + 3) + 300) + 300)
  refine w_putf (i := 81) (ci := 8) (k := 7) (t := 2) (npc := 57) rfl (by decide) rfl (by decide) rfl ?_
  change cm_wp _ _ _ _ _ _ 57 [cr 81] [] iT79 iE207 88 ((((((kc + 1) + 1) + 1) + 1) + 1) + 1) ((((((ks + 531366) + 25) + 5) + 3) + 300) + 300)
  refine w_aload (i := 0) (npc := 58) (v := cr 81) rfl rfl rfl ?_
  refine w_const (n := 300) (npc := 61) rfl ?_
  refine w_newa (t := 1) (dv := (0, 0, 0)) (npc := 63) rfl (by decide) (by decide) (by decide) ?_
  change cm_wp _ _ _ _ _ _ 63 [cr 81] [cr 88, cr 81] iT80 iE208 89 (((((((kc + 1) + 1) + 1) + 1) + 1) + 1) + 1) (((((((ks + 531366) + 25) + 5) + 3) + 300) + 300) + 300)
  refine w_putf (i := 81) (ci := 8) (k := 8) (t := 2) (npc := 66) rfl (by decide) rfl (by decide) rfl ?_
  change cm_wp _ _ _ _ _ _ 66 [cr 81] [] iT80 iE209 89 (((((((kc + 1) + 1) + 1) + 1) + 1) + 1) + 1) (((((((ks + 531366) + 25) + 5) + 3) + 300) + 300) + 300)
  refine w_aload (i := 0) (npc := 67) (v := cr 81) rfl rfl rfl ?_
  refine w_const (n := 300) (npc := 70) rfl ?_
  refine w_newa (t := 1) (dv := (0, 0, 0)) (npc := 72) rfl (by decide) (by decide) (by decide) ?_
  change cm_wp _ _ _ _ _ _ 72 [cr 81] [cr 89, cr 81] iT81 iE210 90 ((((((((kc + 1) + 1) + 1) + 1) + 1) + 1) + 1) + 1) ((((((((ks + 531366) + 25) + 5) + 3) + 300) + 300) + 300) + 300)
  refine w_putf (i := 81) (ci := 8) (k := 9) (t := 2) (npc := 75) rfl (by decide) rfl (by decide) rfl ?_
  change cm_wp _ _ _ _ _ _ 75 [cr 81] [] iT81 iE211 90 ((((((((kc + 1) + 1) + 1) + 1) + 1) + 1) + 1) + 1) ((((((((ks + 531366) + 25) + 5) + 3) + 300) + 300) + 300) + 300)
  refine w_aload (i := 0) (npc := 76) (v := cr 81) rfl rfl rfl ?_
  refine w_const (n := 300) (npc := 79) rfl ?_
  refine w_newa (t := 1) (dv := (0, 0, 0)) (npc := 81) rfl (by decide) (by decide) (by decide) ?_
  change cm_wp _ _ _ _ _ _ 81 [cr 81] [cr 90, cr 81] iT82 iE212 91 (((((((((kc + 1) + 1) + 1) + 1) + 1) + 1) + 1) + 1) + 1) (((((((((ks + 531366) + 25) + 5) + 3) + 300) + 300) + 300) + 300) + 300)
  refine w_putf (i := 81) (ci := 8) (k := 10) (t := 2) (npc := 84) rfl (by decide) rfl (by decide) rfl ?_
  change cm_wp _ _ _ _ _ _ 84 [cr 81] [] iT82 iE213 91 (((((((((kc + 1) + 1) + 1) + 1) + 1) + 1) + 1) + 1) + 1) (((((((((ks + 531366) + 25) + 5) + 3) + 300) + 300) + 300) + 300) + 300)
  refine w_aload (i := 0) (npc := 85) (v := cr 81) rfl rfl rfl ?_
  refine w_const (n := 300) (npc := 88) rfl ?_
  refine w_newa (t := 1) (dv := (0, 0, 0)) (npc := 90) rfl (by decide) (by decide) (by decide) ?_
  change cm_wp _ _ _ _ _ _ 90 [cr 81] [cr 91, cr 81] iT83 iE214 92 ((((((((((kc + 1) + 1) + 1) + 1) + 1) + 1) + 1) + 1) + 1) + 1) ((((((((((ks + 531366) + 25) + 5) + 3) + 300) + 300) + 300) + 300) + 300) + 300)
  refine w_putf (i := 81) (ci := 8) (k := 11) (t := 2) (npc := 93) rfl (by decide) rfl (by decide) rfl ?_
  change cm_wp _ _ _ _ _ _ 93 [cr 81] [] iT83 iE215 92 ((((((((((kc + 1) + 1) + 1) + 1) + 1) + 1) + 1) + 1) + 1) + 1) ((((((((((ks + 531366) + 25) + 5) + 3) + 300) + 300) + 300) + 300) + 300) + 300)
  refine w_aload (i := 0) (npc := 94) (v := cr 81) rfl rfl rfl ?_
  refine w_const (n := 400) (npc := 97) rfl ?_
  refine w_newa (t := 1) (dv := (0, 0, 0)) (npc := 99) rfl (by decide) (by decide) (by decide) ?_
  change cm_wp _ _ _ _ _ _ 99 [cr 81] [cr 92, cr 81] iT84 iE216 93 (((((((((((kc + 1) + 1) + 1) + 1) + 1) + 1) + 1) + 1) + 1) + 1) + 1) (((((((((((ks + 531366) + 25) + 5) + 3) + 300) + 300) + 300) + 300) + 300) + 300) + 400)
  refine w_putf (i := 81) (ci := 8) (k := 14) (t := 2) (npc := 102) rfl (by decide) rfl (by decide) rfl ?_
  change cm_wp _ _ _ _ _ _ 102 [cr 81] [] iT84 iE217 93 (((((((((((kc + 1) + 1) + 1) + 1) + 1) + 1) + 1) + 1) + 1) + 1) + 1) (((((((((((ks + 531366) + 25) + 5) + 3) + 300) + 300) + 300) + 300) + 300) + 300) + 400)
  refine w_aload (i := 0) (npc := 103) (v := cr 81) rfl rfl rfl ?_
  refine w_const (n := 400) (npc := 106) rfl ?_
  refine w_newa (t := 1) (dv := (0, 0, 0)) (npc := 108) rfl (by decide) (by decide) (by decide) ?_
  change cm_wp _ _ _ _ _ _ 108 [cr 81] [cr 93, cr 81] iT85 iE218 94 ((((((((((((kc + 1) + 1) + 1) + 1) + 1) + 1) + 1) + 1) + 1) + 1) + 1) + 1) ((((((((((((ks + 531366) + 25) + 5) + 3) + 300) + 300) + 300) + 300) + 300) + 300) + 400) + 400)
  refine w_putf (i := 81) (ci := 8) (k := 15) (t := 2) (npc := 111) rfl (by decide) rfl (by decide) rfl ?_
  change cm_wp _ _ _ _ _ _ 111 [cr 81] [] iT85 iE219 94 ((((((((((((kc + 1) + 1) + 1) + 1) + 1) + 1) + 1) + 1) + 1) + 1) + 1) + 1) ((((((((((((ks + 531366) + 25) + 5) + 3) + 300) + 300) + 300) + 300) + 300) + 300) + 400) + 400)
  refine w_aload (i := 0) (npc := 112) (v := cr 81) rfl rfl rfl ?_
  refine w_const (n := (-1)) (npc := 113) rfl ?_
  refine w_putf (i := 81) (ci := 8) (k := 18) (t := 0) (npc := 116) rfl (by decide) rfl (by decide) rfl ?_
  change cm_wp _ _ _ _ _ _ 116 [cr 81] [] iT85 iE220 94 ((((((((((((kc + 1) + 1) + 1) + 1) + 1) + 1) + 1) + 1) + 1) + 1) + 1) + 1) ((((((((((((ks + 531366) + 25) + 5) + 3) + 300) + 300) + 300) + 300) + 300) + 300) + 400) + 400)
  refine w_aload (i := 0) (npc := 117) (v := cr 81) rfl rfl rfl ?_
  refine w_const (n := 12) (npc := 119) rfl ?_
  refine w_newa (t := 1) (dv := (0, 0, 0)) (npc := 121) rfl (by decide) (by decide) (by decide) ?_
  change cm_wp _ _ _ _ _ _ 121 [cr 81] [cr 94, cr 81] iT86 iE221 95 (((((((((((((kc + 1) + 1) + 1) + 1) + 1) + 1) + 1) + 1) + 1) + 1) + 1) + 1) + 1) (((((((((((((ks + 531366) + 25) + 5) + 3) + 300) + 300) + 300) + 300) + 300) + 300) + 400) + 400) + 12)
  refine w_putf (i := 81) (ci := 8) (k := 25) (t := 2) (npc := 124) rfl (by decide) rfl (by decide) rfl ?_
  change cm_wp _ _ _ _ _ _ 124 [cr 81] [] iT86 iE222 95 (((((((((((((kc + 1) + 1) + 1) + 1) + 1) + 1) + 1) + 1) + 1) + 1) + 1) + 1) + 1) (((((((((((((ks + 531366) + 25) + 5) + 3) + 300) + 300) + 300) + 300) + 300) + 300) + 400) + 400) + 12)
  refine w_aload (i := 0) (npc := 125) (v := cr 81) rfl rfl rfl ?_
  refine w_const (n := 8) (npc := 127) rfl ?_
  refine w_newa (t := 1) (dv := (0, 0, 0)) (npc := 129) rfl (by decide) (by decide) (by decide) ?_
  change cm_wp _ _ _ _ _ _ 129 [cr 81] [cr 95, cr 81] iT87 iE223 96 ((((((((((((((kc + 1) + 1) + 1) + 1) + 1) + 1) + 1) + 1) + 1) + 1) + 1) + 1) + 1) + 1) ((((((((((((((ks + 531366) + 25) + 5) + 3) + 300) + 300) + 300) + 300) + 300) + 300) + 400) + 400) + 12) + 8)
  refine w_putf (i := 81) (ci := 8) (k := 26) (t := 2) (npc := 132) rfl (by decide) rfl (by decide) rfl ?_
  change cm_wp _ _ _ _ _ _ 132 [cr 81] [] iT87 iE224 96 ((((((((((((((kc + 1) + 1) + 1) + 1) + 1) + 1) + 1) + 1) + 1) + 1) + 1) + 1) + 1) + 1) ((((((((((((((ks + 531366) + 25) + 5) + 3) + 300) + 300) + 300) + 300) + 300) + 300) + 400) + 400) + 12) + 8)
  refine w_aload (i := 0) (npc := 133) (v := cr 81) rfl rfl rfl ?_
  refine w_const (n := 8) (npc := 135) rfl ?_
  refine w_newa (t := 1) (dv := (0, 0, 0)) (npc := 137) rfl (by decide) (by decide) (by decide) ?_
  change cm_wp _ _ _ _ _ _ 137 [cr 81] [cr 96, cr 81] iT88 iE225 97 (((((((((((((((kc + 1) + 1) + 1) + 1) + 1) + 1) + 1) + 1) + 1) + 1) + 1) + 1) + 1) + 1) + 1) (((((((((((((((ks + 531366) + 25) + 5) + 3) + 300) + 300) + 300) + 300) + 300) + 300) + 400) + 400) + 12) + 8) + 8)
  refine w_putf (i := 81) (ci := 8) (k := 27) (t := 2) (npc := 140) rfl (by decide) rfl (by decide) rfl ?_
  change cm_wp _ _ _ _ _ _ 140 [cr 81] [] iT88 iE226 97 (((((((((((((((kc + 1) + 1) + 1) + 1) + 1) + 1) + 1) + 1) + 1) + 1) + 1) + 1) + 1) + 1) + 1) (((((((((((((((ks + 531366) + 25) + 5) + 3) + 300) + 300) + 300) + 300) + 300) + 300) + 400) + 400) + 12) + 8) + 8)
  refine w_aload (i := 0) (npc := 141) (v := cr 81) rfl rfl rfl ?_
  refine w_const (n := 8) (npc := 143) rfl ?_
  refine w_newa (t := 1) (dv := (0, 0, 0)) (npc := 145) rfl (by decide) (by decide) (by decide) ?_
  change cm_wp _ _ _ _ _ _ 145 [cr 81] [cr 97, cr 81] iT89 iE227 98 ((((((((((((((((kc + 1) + 1) + 1) + 1) + 1) + 1) + 1) + 1) + 1) + 1) + 1) + 1) + 1) + 1) + 1) + 1) ((((((((((((((((ks + 531366) + 25) + 5) + 3) + 300) + 300) + 300) + 300) + 300) + 300) + 400) + 400) + 12) + 8) + 8) + 8)
  refine w_putf (i := 81) (ci := 8) (k := 28) (t := 2) (npc := 148) rfl (by decide) rfl (by decide) rfl ?_
  change cm_wp _ _ _ _ _ _ 148 [cr 81] [] iT89 iE228 98 ((((((((((((((((kc + 1) + 1) + 1) + 1) + 1) + 1) + 1) + 1) + 1) + 1) + 1) + 1) + 1) + 1) + 1) + 1) ((((((((((((((((ks + 531366) + 25) + 5) + 3) + 300) + 300) + 300) + 300) + 300) + 300) + 400) + 400) + 12) + 8) + 8) + 8)
  refine w_aload (i := 0) (npc := 149) (v := cr 81) rfl rfl rfl ?_
  refine w_const (n := 8) (npc := 151) rfl ?_
  refine w_newa (t := 1) (dv := (0, 0, 0)) (npc := 153) rfl (by decide) (by decide) (by decide) ?_
  change cm_wp _ _ _ _ _ _ 153 [cr 81] [cr 98, cr 81] iT90 iE229 99 (((((((((((((((((kc + 1) + 1) + 1) + 1) + 1) + 1) + 1) + 1) + 1) + 1) + 1) + 1) + 1) + 1) + 1) + 1) + 1) (((((((((((((((((ks + 531366) + 25) + 5) + 3) + 300) + 300) + 300) + 300) + 300) + 300) + 400) + 400) + 12) + 8) + 8) + 8) + 8)
  refine w_putf (i := 81) (ci := 8) (k := 29) (t := 2) (npc := 156) rfl (by decide) rfl (by decide) rfl ?_
  change cm_wp _ _ _ _ _ _ 156 [cr 81] [] iT90 iE230 99 (((((((((((((((((kc + 1) + 1) + 1) + 1) + 1) + 1) + 1) + 1) + 1) + 1) + 1) + 1) + 1) + 1) + 1) + 1) + 1) (((((((((((((((((ks + 531366) + 25) + 5) + 3) + 300) + 300) + 300) + 300) + 300) + 300) + 400) + 400) + 12) + 8) + 8) + 8) + 8)
  refine w_aload (i := 0) (npc := 157) (v := cr 81) rfl rfl rfl ?_
  refine w_const (n := 8) (npc := 159) rfl ?_
  refine w_newa (t := 1) (dv := (0, 0, 0)) (npc := 161) rfl (by decide) (by decide) (by decide) ?_
  change cm_wp _ _ _ _ _ _ 161 [cr 81] [cr 99, cr 81] iT91 iE231 100 ((((((((((((((((((kc + 1) + 1) + 1) + 1) + 1) + 1) + 1) + 1) + 1) + 1) + 1) + 1) + 1) + 1) + 1) + 1) + 1) + 1) ((((((((((((((((((ks + 531366) + 25) + 5) + 3) + 300) + 300) + 300) + 300) + 300) + 300) + 400) + 400) + 12) + 8) + 8) + 8) + 8) + 8)
  refine w_putf (i := 81) (ci := 8) (k := 30) (t := 2) (npc := 164) rfl (by decide) rfl (by decide) rfl ?_
  change cm_wp _ _ _ _ _ _ 164 [cr 81] [] iT91 iE232 100 ((((((((((((((((((kc + 1) + 1) + 1) + 1) + 1) + 1) + 1) + 1) + 1) + 1) + 1) + 1) + 1) + 1) + 1) + 1) + 1) + 1) ((((((((((((((((((ks + 531366) + 25) + 5) + 3) + 300) + 300) + 300) + 300) + 300) + 300) + 400) + 400) + 12) + 8) + 8) + 8) + 8) + 8)
  refine w_aload (i := 0) (npc := 165) (v := cr 81) rfl rfl rfl ?_
  refine w_const (n := 8) (npc := 167) rfl ?_
  refine w_newa (t := 1) (dv := (0, 0, 0)) (npc := 169) rfl (by decide) (by decide) (by decide) ?_
  change cm_wp _ _ _ _ _ _ 169 [cr 81] [cr 100, cr 81] iT92 iE233 101 (((((((((((((((((((kc + 1) + 1) + 1) + 1) + 1) + 1) + 1) + 1) + 1) + 1) + 1) + 1) + 1) + 1) + 1) + 1) + 1) + 1) + 1) (((((((((((((((((((ks + 531366) + 25) + 5) + 3) + 300) + 300) + 300) + 300) + 300) + 300) + 400) + 400) + 12) + 8) + 8) + 8) + 8) + 8) + 8)
  refine w_putf (i := 81) (ci := 8) (k := 31) (t := 2) (npc := 172) rfl (by decide) rfl (by decide) rfl ?_
  change cm_wp _ _ _ _ _ _ 172 [cr 81] [] iT92 iE234 101 (((((((((((((((((((kc + 1) + 1) + 1) + 1) + 1) + 1) + 1) + 1) + 1) + 1) + 1) + 1) + 1) + 1) + 1) + 1) + 1) + 1) + 1) (((((((((((((((((((ks + 531366) + 25) + 5) + 3) + 300) + 300) + 300) + 300) + 300) + 300) + 400) + 400) + 12) + 8) + 8) + 8) + 8) + 8) + 8)
  refine w_aload (i := 0) (npc := 173) (v := cr 81) rfl rfl rfl ?_
  refine w_const (n := 25) (npc := 175) rfl ?_
  refine w_newa (t := 1) (dv := (0, 0, 0)) (npc := 177) rfl (by decide) (by decide) (by decide) ?_
  change cm_wp _ _ _ _ _ _ 177 [cr 81] [cr 101, cr 81] iT93 iE235 102 ((((((((((((((((((((kc + 1) + 1) + 1) + 1) + 1) + 1) + 1) + 1) + 1) + 1) + 1) + 1) + 1) + 1) + 1) + 1) + 1) + 1) + 1) + 1) ((((((((((((((((((((ks + 531366) + 25) + 5) + 3) + 300) + 300) + 300) + 300) + 300) + 300) + 400) + 400) + 12) + 8) + 8) + 8) + 8) + 8) + 8) + 25)
  refine w_putf (i := 81) (ci := 8) (k := 35) (t := 2) (npc := 180) rfl (by decide) rfl (by decide) rfl ?_
  change cm_wp _ _ _ _ _ _ 180 [cr 81] [] iT93 iE236 102 ((((((((((((((((((((kc + 1) + 1) + 1) + 1) + 1) + 1) + 1) + 1) + 1) + 1) + 1) + 1) + 1) + 1) + 1) + 1) + 1) + 1) + 1) + 1) ((((((((((((((((((((ks + 531366) + 25) + 5) + 3) + 300) + 300) + 300) + 300) + 300) + 300) + 400) + 400) + 12) + 8) + 8) + 8) + 8) + 8) + 8) + 25)
  refine w_aload (i := 0) (npc := 181) (v := cr 81) rfl rfl rfl ?_
  refine w_const (n := 5) (npc := 182) rfl ?_
  refine w_newa (t := 1) (dv := (0, 0, 0)) (npc := 184) rfl (by decide) (by decide) (by decide) ?_
  change cm_wp _ _ _ _ _ _ 184 [cr 81] [cr 102, cr 81] iT94 iE237 103 (((((((((((((((((((((kc + 1) + 1) + 1) + 1) + 1) + 1) + 1) + 1) + 1) + 1) + 1) + 1) + 1) + 1) + 1) + 1) + 1) + 1) + 1) + 1) + 1) (((((((((((((((((((((ks + 531366) + 25) + 5) + 3) + 300) + 300) + 300) + 300) + 300) + 300) + 400) + 400) + 12) + 8) + 8) + 8) + 8) + 8) + 8) + 25) + 5)
  refine w_putf (i := 81) (ci := 8) (k := 36) (t := 2) (npc := 187) rfl (by decide) rfl (by decide) rfl ?_
  change cm_wp _ _ _ _ _ _ 187 [cr 81] [] iT94 iE238 103 (((((((((((((((((((((kc + 1) + 1) + 1) + 1) + 1) + 1) + 1) + 1) + 1) + 1) + 1) + 1) + 1) + 1) + 1) + 1) + 1) + 1) + 1) + 1) + 1) (((((((((((((((((((((ks + 531366) + 25) + 5) + 3) + 300) + 300) + 300) + 300) + 300) + 300) + 400) + 400) + 12) + 8) + 8) + 8) + 8) + 8) + 8) + 25) + 5)
  refine w_aload (i := 0) (npc := 188) (v := cr 81) rfl rfl rfl ?_
  refine w_const (n := 3) (npc := 189) rfl ?_
  refine w_newa (t := 1) (dv := (0, 0, 0)) (npc := 191) rfl (by decide) (by decide) (by decide) ?_
  change cm_wp _ _ _ _ _ _ 191 [cr 81] [cr 103, cr 81] iT95 iE239 104 ((((((((((((((((((((((kc + 1) + 1) + 1) + 1) + 1) + 1) + 1) + 1) + 1) + 1) + 1) + 1) + 1) + 1) + 1) + 1) + 1) + 1) + 1) + 1) + 1) + 1) ((((((((((((((((((((((ks + 531366) + 25) + 5) + 3) + 300) + 300) + 300) + 300) + 300) + 300) + 400) + 400) + 12) + 8) + 8) + 8) + 8) + 8) + 8) + 25) + 5) + 3)
  refine w_putf (i := 81) (ci := 8) (k := 37) (t := 2) (npc := 194) rfl (by decide) rfl (by decide) rfl ?_
  change cm_wp _ _ _ _ _ _ 194 [cr 81] [] iT95 iE240 104 ((((((((((((((((((((((kc + 1) + 1) + 1) + 1) + 1) + 1) + 1) + 1) + 1) + 1) + 1) + 1) + 1) + 1) + 1) + 1) + 1) + 1) + 1) + 1) + 1) + 1) ((((((((((((((((((((((ks + 531366) + 25) + 5) + 3) + 300) + 300) + 300) + 300) + 300) + 300) + 400) + 400) + 12) + 8) + 8) + 8) + 8) + 8) + 8) + 25) + 5) + 3)
  exact w_vret rfl ⟨rfl, rfl, rfl, rfl⟩ (by omega) (by omega)
