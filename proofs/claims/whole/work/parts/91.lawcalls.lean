/-! ===== the law's calls ===== -/
theorem qlk_9_9 : Cond.methodLink (q_ow 9) 9 yX7_init ∈ q_Ts := q_in 77 (by decide +kernel) rfl
theorem qlk_9_12 : Cond.methodLink (q_ow 9) 12 yX8_init ∈ q_Ts := q_in 886 (by decide +kernel) rfl
theorem qlk_9_13 : Cond.methodLink (q_ow 9) 13 yX7_setFormat ∈ q_Ts := q_in 355 (by decide +kernel) rfl
theorem qlk_9_17 : Cond.methodLink (q_ow 9) 17 yX8_setFormat ∈ q_Ts := q_in 976 (by decide +kernel) rfl
theorem qlk_9_18 : Cond.methodLink (q_ow 9) 18 yX7_setRegister ∈ q_Ts := q_in 403 (by decide +kernel) rfl
theorem qlk_9_22 : Cond.methodLink (q_ow 9) 22 yX8_setRegister ∈ q_Ts := q_in 999 (by decide +kernel) rfl
theorem qlk_9_23 : Cond.methodLink (q_ow 9) 23 yX7_setValue ∈ q_Ts := q_in 410 (by decide +kernel) rfl
theorem qlk_9_26 : Cond.methodLink (q_ow 9) 26 yX8_setValue ∈ q_Ts := q_in 1006 (by decide +kernel) rfl
theorem qlk_9_27 : Cond.methodLink (q_ow 9) 27 yX7_setMode ∈ q_Ts := q_in 469 (by decide +kernel) rfl
theorem qlk_9_31 : Cond.methodLink (q_ow 9) 31 yX8_setMode ∈ q_Ts := q_in 1046 (by decide +kernel) rfl
theorem qlk_9_32 : Cond.methodLink (q_ow 9) 32 yX7_setBits ∈ q_Ts := q_in 476 (by decide +kernel) rfl
theorem qlk_9_35 : Cond.methodLink (q_ow 9) 35 yX8_setBits ∈ q_Ts := q_in 1054 (by decide +kernel) rfl
theorem qlk_9_36 : Cond.methodLink (q_ow 9) 36 yX7_setSeed ∈ q_Ts := q_in 480 (by decide +kernel) rfl
theorem qlk_9_39 : Cond.methodLink (q_ow 9) 39 yX8_setSeed ∈ q_Ts := q_in 1058 (by decide +kernel) rfl
theorem qlk_9_40 : Cond.methodLink (q_ow 9) 40 yX7_value ∈ q_Ts := q_in 484 (by decide +kernel) rfl
theorem qlk_9_43 : Cond.methodLink (q_ow 9) 43 yX8_value ∈ q_Ts := q_in 1062 (by decide +kernel) rfl
theorem qlk_9_44 : Cond.methodLink (q_ow 9) 44 yX7_formatOf ∈ q_Ts := q_in 488 (by decide +kernel) rfl
theorem qlk_9_47 : Cond.methodLink (q_ow 9) 47 yX8_formatOf ∈ q_Ts := q_in 1066 (by decide +kernel) rfl
theorem qlk_9_48 : Cond.methodLink (q_ow 9) 48 yX7_operate ∈ q_Ts := q_in 492 (by decide +kernel) rfl
theorem qlk_9_51 : Cond.methodLink (q_ow 9) 51 yX8_operate ∈ q_Ts := q_in 1070 (by decide +kernel) rfl
theorem qlk_9_52 : Cond.methodLink (q_ow 9) 52 yX7_type ∈ q_Ts := q_in 567 (by decide +kernel) rfl
theorem qlk_9_55 : Cond.methodLink (q_ow 9) 55 yX8_type ∈ q_Ts := q_in 1126 (by decide +kernel) rfl
theorem qlk_9_56 : Cond.methodLink (q_ow 9) 56 yX7_clear ∈ q_Ts := q_in 576 (by decide +kernel) rfl
theorem qlk_9_60 : Cond.methodLink (q_ow 9) 60 yX8_clear ∈ q_Ts := q_in 1131 (by decide +kernel) rfl
theorem qlk_9_61 : Cond.methodLink (q_ow 9) 61 yX7_fault ∈ q_Ts := q_in 580 (by decide +kernel) rfl
theorem qlk_9_64 : Cond.methodLink (q_ow 9) 64 yX8_fault ∈ q_Ts := q_in 1135 (by decide +kernel) rfl
theorem qlk_9_65 : Cond.methodLink (q_ow 9) 65 yX7_run ∈ q_Ts := q_in 656 (by decide +kernel) rfl
theorem qlk_9_68 : Cond.methodLink (q_ow 9) 68 yX8_run ∈ q_Ts := q_in 1176 (by decide +kernel) rfl
theorem qlk_9_69 : Cond.methodLink (q_ow 9) 69 yX7_stopped ∈ q_Ts := q_in 685 (by decide +kernel) rfl
theorem qlk_9_72 : Cond.methodLink (q_ow 9) 72 yX8_stopped ∈ q_Ts := q_in 1188 (by decide +kernel) rfl
theorem qlk_9_73 : Cond.methodLink (q_ow 9) 73 yX7_ifRun ∈ q_Ts := q_in 689 (by decide +kernel) rfl
theorem qlk_9_77 : Cond.methodLink (q_ow 9) 77 yX8_ifRun ∈ q_Ts := q_in 1192 (by decide +kernel) rfl
theorem qlk_9_78 : Cond.methodLink (q_ow 9) 78 yX7_ensembleSum ∈ q_Ts := q_in 698 (by decide +kernel) rfl
theorem qlk_9_81 : Cond.methodLink (q_ow 9) 81 yX8_ensembleSum ∈ q_Ts := q_in 1200 (by decide +kernel) rfl
theorem qlk_9_82 : Cond.methodLink (q_ow 9) 82 yX7_ensembleSpread ∈ q_Ts := q_in 705 (by decide +kernel) rfl
theorem qlk_9_85 : Cond.methodLink (q_ow 9) 85 yX8_ensembleSpread ∈ q_Ts := q_in 1204 (by decide +kernel) rfl
theorem qlk_9_86 : Cond.methodLink (q_ow 9) 86 yX7_records ∈ q_Ts := q_in 711 (by decide +kernel) rfl
theorem qlk_9_89 : Cond.methodLink (q_ow 9) 89 yX8_records ∈ q_Ts := q_in 1208 (by decide +kernel) rfl
theorem qlk_9_90 : Cond.methodLink (q_ow 9) 90 yX7_numberOf ∈ q_Ts := q_in 715 (by decide +kernel) rfl
theorem qlk_9_93 : Cond.methodLink (q_ow 9) 93 yX8_numberOf ∈ q_Ts := q_in 1212 (by decide +kernel) rfl
theorem qlk_9_94 : Cond.methodLink (q_ow 9) 94 yX7_operation ∈ q_Ts := q_in 724 (by decide +kernel) rfl
theorem qlk_9_97 : Cond.methodLink (q_ow 9) 97 yX8_operation ∈ q_Ts := q_in 1220 (by decide +kernel) rfl
theorem qlk_9_98 : Cond.methodLink (q_ow 9) 98 yX7_result ∈ q_Ts := q_in 735 (by decide +kernel) rfl
theorem qlk_9_101 : Cond.methodLink (q_ow 9) 101 yX8_result ∈ q_Ts := q_in 1227 (by decide +kernel) rfl
theorem qlk_9_102 : Cond.methodLink (q_ow 9) 102 yX7_neighbor ∈ q_Ts := q_in 739 (by decide +kernel) rfl
theorem qlk_9_106 : Cond.methodLink (q_ow 9) 106 yX8_neighbor ∈ q_Ts := q_in 1231 (by decide +kernel) rfl
theorem qlk_9_107 : Cond.methodLink (q_ow 9) 107 yX7_drawOf ∈ q_Ts := q_in 743 (by decide +kernel) rfl
theorem qlk_9_110 : Cond.methodLink (q_ow 9) 110 yX8_drawOf ∈ q_Ts := q_in 1235 (by decide +kernel) rfl
theorem qlk_9_111 : Cond.methodLink (q_ow 9) 111 yX7_flags ∈ q_Ts := q_in 747 (by decide +kernel) rfl
theorem qlk_9_114 : Cond.methodLink (q_ow 9) 114 yX8_flags ∈ q_Ts := q_in 1239 (by decide +kernel) rfl
theorem qlk_9_115 : Cond.methodLink (q_ow 9) 115 yX7_exactNumerator ∈ q_Ts := q_in 751 (by decide +kernel) rfl
theorem qlk_9_119 : Cond.methodLink (q_ow 9) 119 yX8_exactNumerator ∈ q_Ts := q_in 1243 (by decide +kernel) rfl
theorem qlk_9_120 : Cond.methodLink (q_ow 9) 120 yX7_exactDenominator ∈ q_Ts := q_in 767 (by decide +kernel) rfl
theorem qlk_9_123 : Cond.methodLink (q_ow 9) 123 yX8_exactDenominator ∈ q_Ts := q_in 1248 (by decide +kernel) rfl
theorem qlk_9_124 : Cond.methodLink (q_ow 9) 124 yX7_replay ∈ q_Ts := q_in 774 (by decide +kernel) rfl
theorem qlk_9_127 : Cond.methodLink (q_ow 9) 127 yX8_replay ∈ q_Ts := q_in 1252 (by decide +kernel) rfl
theorem qlk_9_128 : Cond.methodLink (q_ow 9) 128 yX7_mean ∈ q_Ts := q_in 779 (by decide +kernel) rfl
theorem qlk_9_131 : Cond.methodLink (q_ow 9) 131 yX8_mean ∈ q_Ts := q_in 1256 (by decide +kernel) rfl
theorem qlk_9_132 : Cond.methodLink (q_ow 9) 132 yX7_biasNumerator ∈ q_Ts := q_in 784 (by decide +kernel) rfl
theorem qlk_9_135 : Cond.methodLink (q_ow 9) 135 yX8_biasNumerator ∈ q_Ts := q_in 1260 (by decide +kernel) rfl
theorem qlk_9_136 : Cond.methodLink (q_ow 9) 136 yX7_biasDenominator ∈ q_Ts := q_in 789 (by decide +kernel) rfl
theorem qlk_9_139 : Cond.methodLink (q_ow 9) 139 yX8_biasDenominator ∈ q_Ts := q_in 1272 (by decide +kernel) rfl
theorem qlk_9_140 : Cond.methodLink (q_ow 9) 140 yX7_variance ∈ q_Ts := q_in 793 (by decide +kernel) rfl
theorem qlk_9_143 : Cond.methodLink (q_ow 9) 143 yX8_variance ∈ q_Ts := q_in 1276 (by decide +kernel) rfl
theorem qlk_9_144 : Cond.methodLink (q_ow 9) 144 yX7_account ∈ q_Ts := q_in 798 (by decide +kernel) rfl
theorem qlk_9_147 : Cond.methodLink (q_ow 9) 147 yX8_account ∈ q_Ts := q_in 1280 (by decide +kernel) rfl
theorem qlk_9_148 : Cond.methodLink (q_ow 9) 148 yX7_clearAccount ∈ q_Ts := q_in 802 (by decide +kernel) rfl
theorem qlk_9_151 : Cond.methodLink (q_ow 9) 151 yX8_clearAccount ∈ q_Ts := q_in 1284 (by decide +kernel) rfl
theorem qlk_9_152 : Cond.methodLink (q_ow 9) 152 yX7_isValue ∈ q_Ts := q_in 811 (by decide +kernel) rfl
theorem qlk_9_155 : Cond.methodLink (q_ow 9) 155 yX8_isValue ∈ q_Ts := q_in 1289 (by decide +kernel) rfl
theorem qlk_9_156 : Cond.methodLink (q_ow 9) 156 yX7_next ∈ q_Ts := q_in 820 (by decide +kernel) rfl
theorem qlk_9_160 : Cond.methodLink (q_ow 9) 160 yX8_next ∈ q_Ts := q_in 1304 (by decide +kernel) rfl
theorem qlk_9_161 : Cond.methodLink (q_ow 9) 161 yX7_countValues ∈ q_Ts := q_in 826 (by decide +kernel) rfl
theorem qlk_9_164 : Cond.methodLink (q_ow 9) 164 yX8_countValues ∈ q_Ts := q_in 1312 (by decide +kernel) rfl
theorem qlk_9_165 : Cond.methodLink (q_ow 9) 165 yX7_between ∈ q_Ts := q_in 838 (by decide +kernel) rfl
theorem qlk_9_168 : Cond.methodLink (q_ow 9) 168 yX8_between ∈ q_Ts := q_in 1324 (by decide +kernel) rfl
theorem qlk_9_169 : Cond.methodLink (q_ow 9) 169 yX7_contains ∈ q_Ts := q_in 842 (by decide +kernel) rfl
theorem qlk_9_172 : Cond.methodLink (q_ow 9) 172 yX8_contains ∈ q_Ts := q_in 1328 (by decide +kernel) rfl
theorem qlk_9_173 : Cond.methodLink (q_ow 9) 173 yX7_undo ∈ q_Ts := q_in 851 (by decide +kernel) rfl
theorem qlk_9_176 : Cond.methodLink (q_ow 9) 176 yX8_undo ∈ q_Ts := q_in 1332 (by decide +kernel) rfl
theorem qlk_9_177 : Cond.methodLink (q_ow 9) 177 yX7_told ∈ q_Ts := q_in 859 (by decide +kernel) rfl
theorem qlk_9_180 : Cond.methodLink (q_ow 9) 180 yX8_told ∈ q_Ts := q_in 1336 (by decide +kernel) rfl
theorem qlk_9_181 : Cond.methodLink (q_ow 9) 181 yX7_digest ∈ q_Ts := q_in 867 (by decide +kernel) rfl
theorem qlk_9_185 : Cond.methodLink (q_ow 9) 185 yX8_digest ∈ q_Ts := q_in 1340 (by decide +kernel) rfl
def ms_L_law : Nat → Option QI := fun i => if i = 9 then some (2, 0, 7, T_X7_init, 546, 6140) else if i = 12 then some (2, 0, 8, T_X8_init, 10, 8467) else if i = 13 then some (1, 4, 7, T_X7_setFormat, 0, 0) else if i = 17 then some (1, 4, 8, T_X8_setFormat, 0, 0) else if i = 18 then some (1, 2, 7, T_X7_setRegister, 0, 0) else if i = 22 then some (1, 2, 8, T_X8_setRegister, 0, 0) else if i = 23 then some (1, 2, 7, T_X7_setValue, 0, 0) else if i = 26 then some (1, 2, 8, T_X8_setValue, 0, 0) else if i = 27 then some (1, 1, 7, T_X7_setMode, 0, 0) else if i = 31 then some (1, 1, 8, T_X8_setMode, 0, 0) else if i = 32 then some (1, 1, 7, T_X7_setBits, 0, 0) else if i = 35 then some (1, 1, 8, T_X8_setBits, 0, 0) else if i = 36 then some (1, 1, 7, T_X7_setSeed, 0, 0) else if i = 39 then some (1, 1, 8, T_X8_setSeed, 0, 0) else if i = 40 then some (1, 1, 7, T_X7_value, 0, 0) else if i = 43 then some (1, 1, 8, T_X8_value, 0, 0) else if i = 44 then some (1, 1, 7, T_X7_formatOf, 0, 0) else if i = 47 then some (1, 1, 8, T_X8_formatOf, 0, 0) else if i = 48 then some (1, 4, 7, T_X7_operate, 0, 0) else if i = 51 then some (1, 4, 8, T_X8_operate, 0, 0) else if i = 52 then some (1, 1, 7, T_X7_type, 0, 0) else if i = 55 then some (1, 1, 8, T_X8_type, 0, 0) else if i = 56 then some (1, 0, 7, T_X7_clear, 0, 0) else if i = 60 then some (1, 0, 8, T_X8_clear, 0, 0) else if i = 61 then some (1, 0, 7, T_X7_fault, 0, 0) else if i = 64 then some (1, 0, 8, T_X8_fault, 0, 0) else if i = 65 then some (1, 0, 7, T_X7_run, 0, 0) else if i = 68 then some (1, 0, 8, T_X8_run, 0, 0) else if i = 69 then some (1, 0, 7, T_X7_stopped, 0, 0) else if i = 72 then some (1, 0, 8, T_X8_stopped, 0, 0) else if i = 73 then some (1, 3, 7, T_X7_ifRun, 0, 0) else if i = 77 then some (1, 3, 8, T_X8_ifRun, 0, 0) else if i = 78 then some (1, 3, 7, T_X7_ensembleSum, 0, 0) else if i = 81 then some (1, 3, 8, T_X8_ensembleSum, 0, 0) else if i = 82 then some (1, 3, 7, T_X7_ensembleSpread, 0, 0) else if i = 85 then some (1, 3, 8, T_X8_ensembleSpread, 0, 0) else if i = 86 then some (1, 0, 7, T_X7_records, 0, 0) else if i = 89 then some (1, 0, 8, T_X8_records, 0, 0) else if i = 90 then some (1, 1, 7, T_X7_numberOf, 0, 0) else if i = 93 then some (1, 1, 8, T_X8_numberOf, 0, 0) else if i = 94 then some (1, 1, 7, T_X7_operation, 0, 0) else if i = 97 then some (1, 1, 8, T_X8_operation, 0, 0) else if i = 98 then some (1, 1, 7, T_X7_result, 0, 0) else if i = 101 then some (1, 1, 8, T_X8_result, 0, 0) else if i = 102 then some (1, 2, 7, T_X7_neighbor, 0, 0) else if i = 106 then some (1, 2, 8, T_X8_neighbor, 0, 0) else if i = 107 then some (1, 1, 7, T_X7_drawOf, 0, 0) else if i = 110 then some (1, 1, 8, T_X8_drawOf, 0, 0) else if i = 111 then some (1, 1, 7, T_X7_flags, 0, 0) else if i = 114 then some (1, 1, 8, T_X8_flags, 0, 0) else if i = 115 then some (1, 1, 7, T_X7_exactNumerator, 0, 0) else if i = 119 then some (1, 1, 8, T_X8_exactNumerator, 0, 0) else if i = 120 then some (1, 1, 7, T_X7_exactDenominator, 0, 0) else if i = 123 then some (1, 1, 8, T_X8_exactDenominator, 0, 0) else if i = 124 then some (1, 3, 7, T_X7_replay, 0, 0) else if i = 127 then some (1, 3, 8, T_X8_replay, 0, 0) else if i = 128 then some (1, 1, 7, T_X7_mean, 0, 0) else if i = 131 then some (1, 1, 8, T_X8_mean, 0, 0) else if i = 132 then some (1, 1, 7, T_X7_biasNumerator, 0, 0) else if i = 135 then some (1, 1, 8, T_X8_biasNumerator, 0, 0) else if i = 136 then some (1, 1, 7, T_X7_biasDenominator, 0, 0) else if i = 139 then some (1, 1, 8, T_X8_biasDenominator, 0, 0) else if i = 140 then some (1, 1, 7, T_X7_variance, 0, 0) else if i = 143 then some (1, 1, 8, T_X8_variance, 0, 0) else if i = 144 then some (1, 1, 7, T_X7_account, 0, 0) else if i = 147 then some (1, 1, 8, T_X8_account, 0, 0) else if i = 148 then some (1, 0, 7, T_X7_clearAccount, 0, 0) else if i = 151 then some (1, 0, 8, T_X8_clearAccount, 0, 0) else if i = 152 then some (1, 2, 7, T_X7_isValue, 0, 0) else if i = 155 then some (1, 2, 8, T_X8_isValue, 0, 0) else if i = 156 then some (1, 3, 7, T_X7_next, 0, 0) else if i = 160 then some (1, 3, 8, T_X8_next, 0, 0) else if i = 161 then some (1, 1, 7, T_X7_countValues, 0, 0) else if i = 164 then some (1, 1, 8, T_X8_countValues, 0, 0) else if i = 165 then some (1, 3, 7, T_X7_between, 0, 0) else if i = 168 then some (1, 3, 8, T_X8_between, 0, 0) else if i = 169 then some (1, 2, 7, T_X7_contains, 0, 0) else if i = 172 then some (1, 2, 8, T_X8_contains, 0, 0) else if i = 173 then some (1, 0, 7, T_X7_undo, 0, 0) else if i = 176 then some (1, 0, 8, T_X8_undo, 0, 0) else if i = 177 then some (1, 1, 7, T_X7_told, 0, 0) else if i = 180 then some (1, 1, 8, T_X8_told, 0, 0) else if i = 181 then some (1, 0, 7, T_X7_digest, 0, 0) else if i = 185 then some (1, 0, 8, T_X8_digest, 0, 0) else none
theorem ms_L_law_9 : ms_L_law 9 = some (2, 0, 7, T_X7_init, 546, 6140) := rfl
theorem ms_L_law_12 : ms_L_law 12 = some (2, 0, 8, T_X8_init, 10, 8467) := rfl
theorem ms_L_law_13 : ms_L_law 13 = some (1, 4, 7, T_X7_setFormat, 0, 0) := rfl
theorem ms_L_law_17 : ms_L_law 17 = some (1, 4, 8, T_X8_setFormat, 0, 0) := rfl
theorem ms_L_law_18 : ms_L_law 18 = some (1, 2, 7, T_X7_setRegister, 0, 0) := rfl
theorem ms_L_law_22 : ms_L_law 22 = some (1, 2, 8, T_X8_setRegister, 0, 0) := rfl
theorem ms_L_law_23 : ms_L_law 23 = some (1, 2, 7, T_X7_setValue, 0, 0) := rfl
theorem ms_L_law_26 : ms_L_law 26 = some (1, 2, 8, T_X8_setValue, 0, 0) := rfl
theorem ms_L_law_27 : ms_L_law 27 = some (1, 1, 7, T_X7_setMode, 0, 0) := rfl
theorem ms_L_law_31 : ms_L_law 31 = some (1, 1, 8, T_X8_setMode, 0, 0) := rfl
theorem ms_L_law_32 : ms_L_law 32 = some (1, 1, 7, T_X7_setBits, 0, 0) := rfl
theorem ms_L_law_35 : ms_L_law 35 = some (1, 1, 8, T_X8_setBits, 0, 0) := rfl
theorem ms_L_law_36 : ms_L_law 36 = some (1, 1, 7, T_X7_setSeed, 0, 0) := rfl
theorem ms_L_law_39 : ms_L_law 39 = some (1, 1, 8, T_X8_setSeed, 0, 0) := rfl
theorem ms_L_law_40 : ms_L_law 40 = some (1, 1, 7, T_X7_value, 0, 0) := rfl
theorem ms_L_law_43 : ms_L_law 43 = some (1, 1, 8, T_X8_value, 0, 0) := rfl
theorem ms_L_law_44 : ms_L_law 44 = some (1, 1, 7, T_X7_formatOf, 0, 0) := rfl
theorem ms_L_law_47 : ms_L_law 47 = some (1, 1, 8, T_X8_formatOf, 0, 0) := rfl
theorem ms_L_law_48 : ms_L_law 48 = some (1, 4, 7, T_X7_operate, 0, 0) := rfl
theorem ms_L_law_51 : ms_L_law 51 = some (1, 4, 8, T_X8_operate, 0, 0) := rfl
theorem ms_L_law_52 : ms_L_law 52 = some (1, 1, 7, T_X7_type, 0, 0) := rfl
theorem ms_L_law_55 : ms_L_law 55 = some (1, 1, 8, T_X8_type, 0, 0) := rfl
theorem ms_L_law_56 : ms_L_law 56 = some (1, 0, 7, T_X7_clear, 0, 0) := rfl
theorem ms_L_law_60 : ms_L_law 60 = some (1, 0, 8, T_X8_clear, 0, 0) := rfl
theorem ms_L_law_61 : ms_L_law 61 = some (1, 0, 7, T_X7_fault, 0, 0) := rfl
theorem ms_L_law_64 : ms_L_law 64 = some (1, 0, 8, T_X8_fault, 0, 0) := rfl
theorem ms_L_law_65 : ms_L_law 65 = some (1, 0, 7, T_X7_run, 0, 0) := rfl
theorem ms_L_law_68 : ms_L_law 68 = some (1, 0, 8, T_X8_run, 0, 0) := rfl
theorem ms_L_law_69 : ms_L_law 69 = some (1, 0, 7, T_X7_stopped, 0, 0) := rfl
theorem ms_L_law_72 : ms_L_law 72 = some (1, 0, 8, T_X8_stopped, 0, 0) := rfl
theorem ms_L_law_73 : ms_L_law 73 = some (1, 3, 7, T_X7_ifRun, 0, 0) := rfl
theorem ms_L_law_77 : ms_L_law 77 = some (1, 3, 8, T_X8_ifRun, 0, 0) := rfl
theorem ms_L_law_78 : ms_L_law 78 = some (1, 3, 7, T_X7_ensembleSum, 0, 0) := rfl
theorem ms_L_law_81 : ms_L_law 81 = some (1, 3, 8, T_X8_ensembleSum, 0, 0) := rfl
theorem ms_L_law_82 : ms_L_law 82 = some (1, 3, 7, T_X7_ensembleSpread, 0, 0) := rfl
theorem ms_L_law_85 : ms_L_law 85 = some (1, 3, 8, T_X8_ensembleSpread, 0, 0) := rfl
theorem ms_L_law_86 : ms_L_law 86 = some (1, 0, 7, T_X7_records, 0, 0) := rfl
theorem ms_L_law_89 : ms_L_law 89 = some (1, 0, 8, T_X8_records, 0, 0) := rfl
theorem ms_L_law_90 : ms_L_law 90 = some (1, 1, 7, T_X7_numberOf, 0, 0) := rfl
theorem ms_L_law_93 : ms_L_law 93 = some (1, 1, 8, T_X8_numberOf, 0, 0) := rfl
theorem ms_L_law_94 : ms_L_law 94 = some (1, 1, 7, T_X7_operation, 0, 0) := rfl
theorem ms_L_law_97 : ms_L_law 97 = some (1, 1, 8, T_X8_operation, 0, 0) := rfl
theorem ms_L_law_98 : ms_L_law 98 = some (1, 1, 7, T_X7_result, 0, 0) := rfl
theorem ms_L_law_101 : ms_L_law 101 = some (1, 1, 8, T_X8_result, 0, 0) := rfl
theorem ms_L_law_102 : ms_L_law 102 = some (1, 2, 7, T_X7_neighbor, 0, 0) := rfl
theorem ms_L_law_106 : ms_L_law 106 = some (1, 2, 8, T_X8_neighbor, 0, 0) := rfl
theorem ms_L_law_107 : ms_L_law 107 = some (1, 1, 7, T_X7_drawOf, 0, 0) := rfl
theorem ms_L_law_110 : ms_L_law 110 = some (1, 1, 8, T_X8_drawOf, 0, 0) := rfl
theorem ms_L_law_111 : ms_L_law 111 = some (1, 1, 7, T_X7_flags, 0, 0) := rfl
theorem ms_L_law_114 : ms_L_law 114 = some (1, 1, 8, T_X8_flags, 0, 0) := rfl
theorem ms_L_law_115 : ms_L_law 115 = some (1, 1, 7, T_X7_exactNumerator, 0, 0) := rfl
theorem ms_L_law_119 : ms_L_law 119 = some (1, 1, 8, T_X8_exactNumerator, 0, 0) := rfl
theorem ms_L_law_120 : ms_L_law 120 = some (1, 1, 7, T_X7_exactDenominator, 0, 0) := rfl
theorem ms_L_law_123 : ms_L_law 123 = some (1, 1, 8, T_X8_exactDenominator, 0, 0) := rfl
theorem ms_L_law_124 : ms_L_law 124 = some (1, 3, 7, T_X7_replay, 0, 0) := rfl
theorem ms_L_law_127 : ms_L_law 127 = some (1, 3, 8, T_X8_replay, 0, 0) := rfl
theorem ms_L_law_128 : ms_L_law 128 = some (1, 1, 7, T_X7_mean, 0, 0) := rfl
theorem ms_L_law_131 : ms_L_law 131 = some (1, 1, 8, T_X8_mean, 0, 0) := rfl
theorem ms_L_law_132 : ms_L_law 132 = some (1, 1, 7, T_X7_biasNumerator, 0, 0) := rfl
theorem ms_L_law_135 : ms_L_law 135 = some (1, 1, 8, T_X8_biasNumerator, 0, 0) := rfl
theorem ms_L_law_136 : ms_L_law 136 = some (1, 1, 7, T_X7_biasDenominator, 0, 0) := rfl
theorem ms_L_law_139 : ms_L_law 139 = some (1, 1, 8, T_X8_biasDenominator, 0, 0) := rfl
theorem ms_L_law_140 : ms_L_law 140 = some (1, 1, 7, T_X7_variance, 0, 0) := rfl
theorem ms_L_law_143 : ms_L_law 143 = some (1, 1, 8, T_X8_variance, 0, 0) := rfl
theorem ms_L_law_144 : ms_L_law 144 = some (1, 1, 7, T_X7_account, 0, 0) := rfl
theorem ms_L_law_147 : ms_L_law 147 = some (1, 1, 8, T_X8_account, 0, 0) := rfl
theorem ms_L_law_148 : ms_L_law 148 = some (1, 0, 7, T_X7_clearAccount, 0, 0) := rfl
theorem ms_L_law_151 : ms_L_law 151 = some (1, 0, 8, T_X8_clearAccount, 0, 0) := rfl
theorem ms_L_law_152 : ms_L_law 152 = some (1, 2, 7, T_X7_isValue, 0, 0) := rfl
theorem ms_L_law_155 : ms_L_law 155 = some (1, 2, 8, T_X8_isValue, 0, 0) := rfl
theorem ms_L_law_156 : ms_L_law 156 = some (1, 3, 7, T_X7_next, 0, 0) := rfl
theorem ms_L_law_160 : ms_L_law 160 = some (1, 3, 8, T_X8_next, 0, 0) := rfl
theorem ms_L_law_161 : ms_L_law 161 = some (1, 1, 7, T_X7_countValues, 0, 0) := rfl
theorem ms_L_law_164 : ms_L_law 164 = some (1, 1, 8, T_X8_countValues, 0, 0) := rfl
theorem ms_L_law_165 : ms_L_law 165 = some (1, 3, 7, T_X7_between, 0, 0) := rfl
theorem ms_L_law_168 : ms_L_law 168 = some (1, 3, 8, T_X8_between, 0, 0) := rfl
theorem ms_L_law_169 : ms_L_law 169 = some (1, 2, 7, T_X7_contains, 0, 0) := rfl
theorem ms_L_law_172 : ms_L_law 172 = some (1, 2, 8, T_X8_contains, 0, 0) := rfl
theorem ms_L_law_173 : ms_L_law 173 = some (1, 0, 7, T_X7_undo, 0, 0) := rfl
theorem ms_L_law_176 : ms_L_law 176 = some (1, 0, 8, T_X8_undo, 0, 0) := rfl
theorem ms_L_law_177 : ms_L_law 177 = some (1, 1, 7, T_X7_told, 0, 0) := rfl
theorem ms_L_law_180 : ms_L_law 180 = some (1, 1, 8, T_X8_told, 0, 0) := rfl
theorem ms_L_law_181 : ms_L_law 181 = some (1, 0, 7, T_X7_digest, 0, 0) := rfl
theorem ms_L_law_185 : ms_L_law 185 = some (1, 0, 8, T_X8_digest, 0, 0) := rfl
set_option maxRecDepth 100000 in
theorem cs_L_law : ∀ (idx : Nat) (info : QI), ms_L_law idx = some info → q_Cs cL_law 9 11 idx info := by
  intro idx info h
  unfold ms_L_law at h
  by_cases h0 : idx = 9
  · subst h0; rw [if_pos rfl] at h; cases h; intro p l e R s m args below meth c Q D cy nL A hC hf hlo; exact q_r2 hC ok_X7_init qw_X7_init qlk_9_9 qst_X7_init rfl (by omega) (by omega)
  rw [if_neg h0] at h
  by_cases h1 : idx = 12
  · subst h1; rw [if_pos rfl] at h; cases h; intro p l e R s m args below meth c Q D cy nL A hC hf hlo; exact q_r2 hC ok_X8_init qw_X8_init qlk_9_12 qst_X8_init rfl (by omega) (by omega)
  rw [if_neg h1] at h
  by_cases h2 : idx = 13
  · subst h2; rw [if_pos rfl] at h; cases h; intro p l e R s m args below meth c Q D cy nL A hC hf hlo; exact q_r1 hC ok_X7_setFormat qw_X7_setFormat qlk_9_13 ⟨qst_X7_setFormat, qsl_X7_setFormat⟩ ⟨rfl, rfl⟩ (by omega) (by omega)
  rw [if_neg h2] at h
  by_cases h3 : idx = 17
  · subst h3; rw [if_pos rfl] at h; cases h; intro p l e R s m args below meth c Q D cy nL A hC hf hlo; exact q_r1 hC ok_X8_setFormat qw_X8_setFormat qlk_9_17 ⟨qst_X8_setFormat, qsl_X8_setFormat⟩ ⟨rfl, rfl⟩ (by omega) (by omega)
  rw [if_neg h3] at h
  by_cases h4 : idx = 18
  · subst h4; rw [if_pos rfl] at h; cases h; intro p l e R s m args below meth c Q D cy nL A hC hf hlo; exact q_r1 hC ok_X7_setRegister qw_X7_setRegister qlk_9_18 ⟨qst_X7_setRegister, qsl_X7_setRegister⟩ ⟨rfl, rfl⟩ (by omega) (by omega)
  rw [if_neg h4] at h
  by_cases h5 : idx = 22
  · subst h5; rw [if_pos rfl] at h; cases h; intro p l e R s m args below meth c Q D cy nL A hC hf hlo; exact q_r1 hC ok_X8_setRegister qw_X8_setRegister qlk_9_22 ⟨qst_X8_setRegister, qsl_X8_setRegister⟩ ⟨rfl, rfl⟩ (by omega) (by omega)
  rw [if_neg h5] at h
  by_cases h6 : idx = 23
  · subst h6; rw [if_pos rfl] at h; cases h; intro p l e R s m args below meth c Q D cy nL A hC hf hlo; exact q_r1 hC ok_X7_setValue qw_X7_setValue qlk_9_23 ⟨qst_X7_setValue, qsl_X7_setValue⟩ ⟨rfl, rfl⟩ (by omega) (by omega)
  rw [if_neg h6] at h
  by_cases h7 : idx = 26
  · subst h7; rw [if_pos rfl] at h; cases h; intro p l e R s m args below meth c Q D cy nL A hC hf hlo; exact q_r1 hC ok_X8_setValue qw_X8_setValue qlk_9_26 ⟨qst_X8_setValue, qsl_X8_setValue⟩ ⟨rfl, rfl⟩ (by omega) (by omega)
  rw [if_neg h7] at h
  by_cases h8 : idx = 27
  · subst h8; rw [if_pos rfl] at h; cases h; intro p l e R s m args below meth c Q D cy nL A hC hf hlo; exact q_r1 hC ok_X7_setMode qw_X7_setMode qlk_9_27 ⟨qst_X7_setMode, qsl_X7_setMode⟩ ⟨rfl, rfl⟩ (by omega) (by omega)
  rw [if_neg h8] at h
  by_cases h9 : idx = 31
  · subst h9; rw [if_pos rfl] at h; cases h; intro p l e R s m args below meth c Q D cy nL A hC hf hlo; exact q_r1 hC ok_X8_setMode qw_X8_setMode qlk_9_31 ⟨qst_X8_setMode, qsl_X8_setMode⟩ ⟨rfl, rfl⟩ (by omega) (by omega)
  rw [if_neg h9] at h
  by_cases h10 : idx = 32
  · subst h10; rw [if_pos rfl] at h; cases h; intro p l e R s m args below meth c Q D cy nL A hC hf hlo; exact q_r1 hC ok_X7_setBits qw_X7_setBits qlk_9_32 ⟨qst_X7_setBits, qsl_X7_setBits⟩ ⟨rfl, rfl⟩ (by omega) (by omega)
  rw [if_neg h10] at h
  by_cases h11 : idx = 35
  · subst h11; rw [if_pos rfl] at h; cases h; intro p l e R s m args below meth c Q D cy nL A hC hf hlo; exact q_r1 hC ok_X8_setBits qw_X8_setBits qlk_9_35 ⟨qst_X8_setBits, qsl_X8_setBits⟩ ⟨rfl, rfl⟩ (by omega) (by omega)
  rw [if_neg h11] at h
  by_cases h12 : idx = 36
  · subst h12; rw [if_pos rfl] at h; cases h; intro p l e R s m args below meth c Q D cy nL A hC hf hlo; exact q_r1 hC ok_X7_setSeed qw_X7_setSeed qlk_9_36 ⟨qst_X7_setSeed, qsl_X7_setSeed⟩ ⟨rfl, rfl⟩ (by omega) (by omega)
  rw [if_neg h12] at h
  by_cases h13 : idx = 39
  · subst h13; rw [if_pos rfl] at h; cases h; intro p l e R s m args below meth c Q D cy nL A hC hf hlo; exact q_r1 hC ok_X8_setSeed qw_X8_setSeed qlk_9_39 ⟨qst_X8_setSeed, qsl_X8_setSeed⟩ ⟨rfl, rfl⟩ (by omega) (by omega)
  rw [if_neg h13] at h
  by_cases h14 : idx = 40
  · subst h14; rw [if_pos rfl] at h; cases h; intro p l e R s m args below meth c Q D cy nL A hC hf hlo; exact q_r1 hC ok_X7_value qw_X7_value qlk_9_40 ⟨qst_X7_value, qsl_X7_value⟩ ⟨rfl, rfl⟩ (by omega) (by omega)
  rw [if_neg h14] at h
  by_cases h15 : idx = 43
  · subst h15; rw [if_pos rfl] at h; cases h; intro p l e R s m args below meth c Q D cy nL A hC hf hlo; exact q_r1 hC ok_X8_value qw_X8_value qlk_9_43 ⟨qst_X8_value, qsl_X8_value⟩ ⟨rfl, rfl⟩ (by omega) (by omega)
  rw [if_neg h15] at h
  by_cases h16 : idx = 44
  · subst h16; rw [if_pos rfl] at h; cases h; intro p l e R s m args below meth c Q D cy nL A hC hf hlo; exact q_r1 hC ok_X7_formatOf qw_X7_formatOf qlk_9_44 ⟨qst_X7_formatOf, qsl_X7_formatOf⟩ ⟨rfl, rfl⟩ (by omega) (by omega)
  rw [if_neg h16] at h
  by_cases h17 : idx = 47
  · subst h17; rw [if_pos rfl] at h; cases h; intro p l e R s m args below meth c Q D cy nL A hC hf hlo; exact q_r1 hC ok_X8_formatOf qw_X8_formatOf qlk_9_47 ⟨qst_X8_formatOf, qsl_X8_formatOf⟩ ⟨rfl, rfl⟩ (by omega) (by omega)
  rw [if_neg h17] at h
  by_cases h18 : idx = 48
  · subst h18; rw [if_pos rfl] at h; cases h; intro p l e R s m args below meth c Q D cy nL A hC hf hlo; exact q_r1 hC ok_X7_operate qw_X7_operate qlk_9_48 ⟨qst_X7_operate, qsl_X7_operate⟩ ⟨rfl, rfl⟩ (by omega) (by omega)
  rw [if_neg h18] at h
  by_cases h19 : idx = 51
  · subst h19; rw [if_pos rfl] at h; cases h; intro p l e R s m args below meth c Q D cy nL A hC hf hlo; exact q_r1 hC ok_X8_operate qw_X8_operate qlk_9_51 ⟨qst_X8_operate, qsl_X8_operate⟩ ⟨rfl, rfl⟩ (by omega) (by omega)
  rw [if_neg h19] at h
  by_cases h20 : idx = 52
  · subst h20; rw [if_pos rfl] at h; cases h; intro p l e R s m args below meth c Q D cy nL A hC hf hlo; exact q_r1 hC ok_X7_type qw_X7_type qlk_9_52 ⟨qst_X7_type, qsl_X7_type⟩ ⟨rfl, rfl⟩ (by omega) (by omega)
  rw [if_neg h20] at h
  by_cases h21 : idx = 55
  · subst h21; rw [if_pos rfl] at h; cases h; intro p l e R s m args below meth c Q D cy nL A hC hf hlo; exact q_r1 hC ok_X8_type qw_X8_type qlk_9_55 ⟨qst_X8_type, qsl_X8_type⟩ ⟨rfl, rfl⟩ (by omega) (by omega)
  rw [if_neg h21] at h
  by_cases h22 : idx = 56
  · subst h22; rw [if_pos rfl] at h; cases h; intro p l e R s m args below meth c Q D cy nL A hC hf hlo; exact q_r1 hC ok_X7_clear qw_X7_clear qlk_9_56 ⟨qst_X7_clear, qsl_X7_clear⟩ ⟨rfl, rfl⟩ (by omega) (by omega)
  rw [if_neg h22] at h
  by_cases h23 : idx = 60
  · subst h23; rw [if_pos rfl] at h; cases h; intro p l e R s m args below meth c Q D cy nL A hC hf hlo; exact q_r1 hC ok_X8_clear qw_X8_clear qlk_9_60 ⟨qst_X8_clear, qsl_X8_clear⟩ ⟨rfl, rfl⟩ (by omega) (by omega)
  rw [if_neg h23] at h
  by_cases h24 : idx = 61
  · subst h24; rw [if_pos rfl] at h; cases h; intro p l e R s m args below meth c Q D cy nL A hC hf hlo; exact q_r1 hC ok_X7_fault qw_X7_fault qlk_9_61 ⟨qst_X7_fault, qsl_X7_fault⟩ ⟨rfl, rfl⟩ (by omega) (by omega)
  rw [if_neg h24] at h
  by_cases h25 : idx = 64
  · subst h25; rw [if_pos rfl] at h; cases h; intro p l e R s m args below meth c Q D cy nL A hC hf hlo; exact q_r1 hC ok_X8_fault qw_X8_fault qlk_9_64 ⟨qst_X8_fault, qsl_X8_fault⟩ ⟨rfl, rfl⟩ (by omega) (by omega)
  rw [if_neg h25] at h
  by_cases h26 : idx = 65
  · subst h26; rw [if_pos rfl] at h; cases h; intro p l e R s m args below meth c Q D cy nL A hC hf hlo; exact q_r1 hC ok_X7_run qw_X7_run qlk_9_65 ⟨qst_X7_run, qsl_X7_run⟩ ⟨rfl, rfl⟩ (by omega) (by omega)
  rw [if_neg h26] at h
  by_cases h27 : idx = 68
  · subst h27; rw [if_pos rfl] at h; cases h; intro p l e R s m args below meth c Q D cy nL A hC hf hlo; exact q_r1 hC ok_X8_run qw_X8_run qlk_9_68 ⟨qst_X8_run, qsl_X8_run⟩ ⟨rfl, rfl⟩ (by omega) (by omega)
  rw [if_neg h27] at h
  by_cases h28 : idx = 69
  · subst h28; rw [if_pos rfl] at h; cases h; intro p l e R s m args below meth c Q D cy nL A hC hf hlo; exact q_r1 hC ok_X7_stopped qw_X7_stopped qlk_9_69 ⟨qst_X7_stopped, qsl_X7_stopped⟩ ⟨rfl, rfl⟩ (by omega) (by omega)
  rw [if_neg h28] at h
  by_cases h29 : idx = 72
  · subst h29; rw [if_pos rfl] at h; cases h; intro p l e R s m args below meth c Q D cy nL A hC hf hlo; exact q_r1 hC ok_X8_stopped qw_X8_stopped qlk_9_72 ⟨qst_X8_stopped, qsl_X8_stopped⟩ ⟨rfl, rfl⟩ (by omega) (by omega)
  rw [if_neg h29] at h
  by_cases h30 : idx = 73
  · subst h30; rw [if_pos rfl] at h; cases h; intro p l e R s m args below meth c Q D cy nL A hC hf hlo; exact q_r1 hC ok_X7_ifRun qw_X7_ifRun qlk_9_73 ⟨qst_X7_ifRun, qsl_X7_ifRun⟩ ⟨rfl, rfl⟩ (by omega) (by omega)
  rw [if_neg h30] at h
  by_cases h31 : idx = 77
  · subst h31; rw [if_pos rfl] at h; cases h; intro p l e R s m args below meth c Q D cy nL A hC hf hlo; exact q_r1 hC ok_X8_ifRun qw_X8_ifRun qlk_9_77 ⟨qst_X8_ifRun, qsl_X8_ifRun⟩ ⟨rfl, rfl⟩ (by omega) (by omega)
  rw [if_neg h31] at h
  by_cases h32 : idx = 78
  · subst h32; rw [if_pos rfl] at h; cases h; intro p l e R s m args below meth c Q D cy nL A hC hf hlo; exact q_r1 hC ok_X7_ensembleSum qw_X7_ensembleSum qlk_9_78 ⟨qst_X7_ensembleSum, qsl_X7_ensembleSum⟩ ⟨rfl, rfl⟩ (by omega) (by omega)
  rw [if_neg h32] at h
  by_cases h33 : idx = 81
  · subst h33; rw [if_pos rfl] at h; cases h; intro p l e R s m args below meth c Q D cy nL A hC hf hlo; exact q_r1 hC ok_X8_ensembleSum qw_X8_ensembleSum qlk_9_81 ⟨qst_X8_ensembleSum, qsl_X8_ensembleSum⟩ ⟨rfl, rfl⟩ (by omega) (by omega)
  rw [if_neg h33] at h
  by_cases h34 : idx = 82
  · subst h34; rw [if_pos rfl] at h; cases h; intro p l e R s m args below meth c Q D cy nL A hC hf hlo; exact q_r1 hC ok_X7_ensembleSpread qw_X7_ensembleSpread qlk_9_82 ⟨qst_X7_ensembleSpread, qsl_X7_ensembleSpread⟩ ⟨rfl, rfl⟩ (by omega) (by omega)
  rw [if_neg h34] at h
  by_cases h35 : idx = 85
  · subst h35; rw [if_pos rfl] at h; cases h; intro p l e R s m args below meth c Q D cy nL A hC hf hlo; exact q_r1 hC ok_X8_ensembleSpread qw_X8_ensembleSpread qlk_9_85 ⟨qst_X8_ensembleSpread, qsl_X8_ensembleSpread⟩ ⟨rfl, rfl⟩ (by omega) (by omega)
  rw [if_neg h35] at h
  by_cases h36 : idx = 86
  · subst h36; rw [if_pos rfl] at h; cases h; intro p l e R s m args below meth c Q D cy nL A hC hf hlo; exact q_r1 hC ok_X7_records qw_X7_records qlk_9_86 ⟨qst_X7_records, qsl_X7_records⟩ ⟨rfl, rfl⟩ (by omega) (by omega)
  rw [if_neg h36] at h
  by_cases h37 : idx = 89
  · subst h37; rw [if_pos rfl] at h; cases h; intro p l e R s m args below meth c Q D cy nL A hC hf hlo; exact q_r1 hC ok_X8_records qw_X8_records qlk_9_89 ⟨qst_X8_records, qsl_X8_records⟩ ⟨rfl, rfl⟩ (by omega) (by omega)
  rw [if_neg h37] at h
  by_cases h38 : idx = 90
  · subst h38; rw [if_pos rfl] at h; cases h; intro p l e R s m args below meth c Q D cy nL A hC hf hlo; exact q_r1 hC ok_X7_numberOf qw_X7_numberOf qlk_9_90 ⟨qst_X7_numberOf, qsl_X7_numberOf⟩ ⟨rfl, rfl⟩ (by omega) (by omega)
  rw [if_neg h38] at h
  by_cases h39 : idx = 93
  · subst h39; rw [if_pos rfl] at h; cases h; intro p l e R s m args below meth c Q D cy nL A hC hf hlo; exact q_r1 hC ok_X8_numberOf qw_X8_numberOf qlk_9_93 ⟨qst_X8_numberOf, qsl_X8_numberOf⟩ ⟨rfl, rfl⟩ (by omega) (by omega)
  rw [if_neg h39] at h
  by_cases h40 : idx = 94
  · subst h40; rw [if_pos rfl] at h; cases h; intro p l e R s m args below meth c Q D cy nL A hC hf hlo; exact q_r1 hC ok_X7_operation qw_X7_operation qlk_9_94 ⟨qst_X7_operation, qsl_X7_operation⟩ ⟨rfl, rfl⟩ (by omega) (by omega)
  rw [if_neg h40] at h
  by_cases h41 : idx = 97
  · subst h41; rw [if_pos rfl] at h; cases h; intro p l e R s m args below meth c Q D cy nL A hC hf hlo; exact q_r1 hC ok_X8_operation qw_X8_operation qlk_9_97 ⟨qst_X8_operation, qsl_X8_operation⟩ ⟨rfl, rfl⟩ (by omega) (by omega)
  rw [if_neg h41] at h
  by_cases h42 : idx = 98
  · subst h42; rw [if_pos rfl] at h; cases h; intro p l e R s m args below meth c Q D cy nL A hC hf hlo; exact q_r1 hC ok_X7_result qw_X7_result qlk_9_98 ⟨qst_X7_result, qsl_X7_result⟩ ⟨rfl, rfl⟩ (by omega) (by omega)
  rw [if_neg h42] at h
  by_cases h43 : idx = 101
  · subst h43; rw [if_pos rfl] at h; cases h; intro p l e R s m args below meth c Q D cy nL A hC hf hlo; exact q_r1 hC ok_X8_result qw_X8_result qlk_9_101 ⟨qst_X8_result, qsl_X8_result⟩ ⟨rfl, rfl⟩ (by omega) (by omega)
  rw [if_neg h43] at h
  by_cases h44 : idx = 102
  · subst h44; rw [if_pos rfl] at h; cases h; intro p l e R s m args below meth c Q D cy nL A hC hf hlo; exact q_r1 hC ok_X7_neighbor qw_X7_neighbor qlk_9_102 ⟨qst_X7_neighbor, qsl_X7_neighbor⟩ ⟨rfl, rfl⟩ (by omega) (by omega)
  rw [if_neg h44] at h
  by_cases h45 : idx = 106
  · subst h45; rw [if_pos rfl] at h; cases h; intro p l e R s m args below meth c Q D cy nL A hC hf hlo; exact q_r1 hC ok_X8_neighbor qw_X8_neighbor qlk_9_106 ⟨qst_X8_neighbor, qsl_X8_neighbor⟩ ⟨rfl, rfl⟩ (by omega) (by omega)
  rw [if_neg h45] at h
  by_cases h46 : idx = 107
  · subst h46; rw [if_pos rfl] at h; cases h; intro p l e R s m args below meth c Q D cy nL A hC hf hlo; exact q_r1 hC ok_X7_drawOf qw_X7_drawOf qlk_9_107 ⟨qst_X7_drawOf, qsl_X7_drawOf⟩ ⟨rfl, rfl⟩ (by omega) (by omega)
  rw [if_neg h46] at h
  by_cases h47 : idx = 110
  · subst h47; rw [if_pos rfl] at h; cases h; intro p l e R s m args below meth c Q D cy nL A hC hf hlo; exact q_r1 hC ok_X8_drawOf qw_X8_drawOf qlk_9_110 ⟨qst_X8_drawOf, qsl_X8_drawOf⟩ ⟨rfl, rfl⟩ (by omega) (by omega)
  rw [if_neg h47] at h
  by_cases h48 : idx = 111
  · subst h48; rw [if_pos rfl] at h; cases h; intro p l e R s m args below meth c Q D cy nL A hC hf hlo; exact q_r1 hC ok_X7_flags qw_X7_flags qlk_9_111 ⟨qst_X7_flags, qsl_X7_flags⟩ ⟨rfl, rfl⟩ (by omega) (by omega)
  rw [if_neg h48] at h
  by_cases h49 : idx = 114
  · subst h49; rw [if_pos rfl] at h; cases h; intro p l e R s m args below meth c Q D cy nL A hC hf hlo; exact q_r1 hC ok_X8_flags qw_X8_flags qlk_9_114 ⟨qst_X8_flags, qsl_X8_flags⟩ ⟨rfl, rfl⟩ (by omega) (by omega)
  rw [if_neg h49] at h
  by_cases h50 : idx = 115
  · subst h50; rw [if_pos rfl] at h; cases h; intro p l e R s m args below meth c Q D cy nL A hC hf hlo; exact q_r1 hC ok_X7_exactNumerator qw_X7_exactNumerator qlk_9_115 ⟨qst_X7_exactNumerator, qsl_X7_exactNumerator⟩ ⟨rfl, rfl⟩ (by omega) (by omega)
  rw [if_neg h50] at h
  by_cases h51 : idx = 119
  · subst h51; rw [if_pos rfl] at h; cases h; intro p l e R s m args below meth c Q D cy nL A hC hf hlo; exact q_r1 hC ok_X8_exactNumerator qw_X8_exactNumerator qlk_9_119 ⟨qst_X8_exactNumerator, qsl_X8_exactNumerator⟩ ⟨rfl, rfl⟩ (by omega) (by omega)
  rw [if_neg h51] at h
  by_cases h52 : idx = 120
  · subst h52; rw [if_pos rfl] at h; cases h; intro p l e R s m args below meth c Q D cy nL A hC hf hlo; exact q_r1 hC ok_X7_exactDenominator qw_X7_exactDenominator qlk_9_120 ⟨qst_X7_exactDenominator, qsl_X7_exactDenominator⟩ ⟨rfl, rfl⟩ (by omega) (by omega)
  rw [if_neg h52] at h
  by_cases h53 : idx = 123
  · subst h53; rw [if_pos rfl] at h; cases h; intro p l e R s m args below meth c Q D cy nL A hC hf hlo; exact q_r1 hC ok_X8_exactDenominator qw_X8_exactDenominator qlk_9_123 ⟨qst_X8_exactDenominator, qsl_X8_exactDenominator⟩ ⟨rfl, rfl⟩ (by omega) (by omega)
  rw [if_neg h53] at h
  by_cases h54 : idx = 124
  · subst h54; rw [if_pos rfl] at h; cases h; intro p l e R s m args below meth c Q D cy nL A hC hf hlo; exact q_r1 hC ok_X7_replay qw_X7_replay qlk_9_124 ⟨qst_X7_replay, qsl_X7_replay⟩ ⟨rfl, rfl⟩ (by omega) (by omega)
  rw [if_neg h54] at h
  by_cases h55 : idx = 127
  · subst h55; rw [if_pos rfl] at h; cases h; intro p l e R s m args below meth c Q D cy nL A hC hf hlo; exact q_r1 hC ok_X8_replay qw_X8_replay qlk_9_127 ⟨qst_X8_replay, qsl_X8_replay⟩ ⟨rfl, rfl⟩ (by omega) (by omega)
  rw [if_neg h55] at h
  by_cases h56 : idx = 128
  · subst h56; rw [if_pos rfl] at h; cases h; intro p l e R s m args below meth c Q D cy nL A hC hf hlo; exact q_r1 hC ok_X7_mean qw_X7_mean qlk_9_128 ⟨qst_X7_mean, qsl_X7_mean⟩ ⟨rfl, rfl⟩ (by omega) (by omega)
  rw [if_neg h56] at h
  by_cases h57 : idx = 131
  · subst h57; rw [if_pos rfl] at h; cases h; intro p l e R s m args below meth c Q D cy nL A hC hf hlo; exact q_r1 hC ok_X8_mean qw_X8_mean qlk_9_131 ⟨qst_X8_mean, qsl_X8_mean⟩ ⟨rfl, rfl⟩ (by omega) (by omega)
  rw [if_neg h57] at h
  by_cases h58 : idx = 132
  · subst h58; rw [if_pos rfl] at h; cases h; intro p l e R s m args below meth c Q D cy nL A hC hf hlo; exact q_r1 hC ok_X7_biasNumerator qw_X7_biasNumerator qlk_9_132 ⟨qst_X7_biasNumerator, qsl_X7_biasNumerator⟩ ⟨rfl, rfl⟩ (by omega) (by omega)
  rw [if_neg h58] at h
  by_cases h59 : idx = 135
  · subst h59; rw [if_pos rfl] at h; cases h; intro p l e R s m args below meth c Q D cy nL A hC hf hlo; exact q_r1 hC ok_X8_biasNumerator qw_X8_biasNumerator qlk_9_135 ⟨qst_X8_biasNumerator, qsl_X8_biasNumerator⟩ ⟨rfl, rfl⟩ (by omega) (by omega)
  rw [if_neg h59] at h
  by_cases h60 : idx = 136
  · subst h60; rw [if_pos rfl] at h; cases h; intro p l e R s m args below meth c Q D cy nL A hC hf hlo; exact q_r1 hC ok_X7_biasDenominator qw_X7_biasDenominator qlk_9_136 ⟨qst_X7_biasDenominator, qsl_X7_biasDenominator⟩ ⟨rfl, rfl⟩ (by omega) (by omega)
  rw [if_neg h60] at h
  by_cases h61 : idx = 139
  · subst h61; rw [if_pos rfl] at h; cases h; intro p l e R s m args below meth c Q D cy nL A hC hf hlo; exact q_r1 hC ok_X8_biasDenominator qw_X8_biasDenominator qlk_9_139 ⟨qst_X8_biasDenominator, qsl_X8_biasDenominator⟩ ⟨rfl, rfl⟩ (by omega) (by omega)
  rw [if_neg h61] at h
  by_cases h62 : idx = 140
  · subst h62; rw [if_pos rfl] at h; cases h; intro p l e R s m args below meth c Q D cy nL A hC hf hlo; exact q_r1 hC ok_X7_variance qw_X7_variance qlk_9_140 ⟨qst_X7_variance, qsl_X7_variance⟩ ⟨rfl, rfl⟩ (by omega) (by omega)
  rw [if_neg h62] at h
  by_cases h63 : idx = 143
  · subst h63; rw [if_pos rfl] at h; cases h; intro p l e R s m args below meth c Q D cy nL A hC hf hlo; exact q_r1 hC ok_X8_variance qw_X8_variance qlk_9_143 ⟨qst_X8_variance, qsl_X8_variance⟩ ⟨rfl, rfl⟩ (by omega) (by omega)
  rw [if_neg h63] at h
  by_cases h64 : idx = 144
  · subst h64; rw [if_pos rfl] at h; cases h; intro p l e R s m args below meth c Q D cy nL A hC hf hlo; exact q_r1 hC ok_X7_account qw_X7_account qlk_9_144 ⟨qst_X7_account, qsl_X7_account⟩ ⟨rfl, rfl⟩ (by omega) (by omega)
  rw [if_neg h64] at h
  by_cases h65 : idx = 147
  · subst h65; rw [if_pos rfl] at h; cases h; intro p l e R s m args below meth c Q D cy nL A hC hf hlo; exact q_r1 hC ok_X8_account qw_X8_account qlk_9_147 ⟨qst_X8_account, qsl_X8_account⟩ ⟨rfl, rfl⟩ (by omega) (by omega)
  rw [if_neg h65] at h
  by_cases h66 : idx = 148
  · subst h66; rw [if_pos rfl] at h; cases h; intro p l e R s m args below meth c Q D cy nL A hC hf hlo; exact q_r1 hC ok_X7_clearAccount qw_X7_clearAccount qlk_9_148 ⟨qst_X7_clearAccount, qsl_X7_clearAccount⟩ ⟨rfl, rfl⟩ (by omega) (by omega)
  rw [if_neg h66] at h
  by_cases h67 : idx = 151
  · subst h67; rw [if_pos rfl] at h; cases h; intro p l e R s m args below meth c Q D cy nL A hC hf hlo; exact q_r1 hC ok_X8_clearAccount qw_X8_clearAccount qlk_9_151 ⟨qst_X8_clearAccount, qsl_X8_clearAccount⟩ ⟨rfl, rfl⟩ (by omega) (by omega)
  rw [if_neg h67] at h
  by_cases h68 : idx = 152
  · subst h68; rw [if_pos rfl] at h; cases h; intro p l e R s m args below meth c Q D cy nL A hC hf hlo; exact q_r1 hC ok_X7_isValue qw_X7_isValue qlk_9_152 ⟨qst_X7_isValue, qsl_X7_isValue⟩ ⟨rfl, rfl⟩ (by omega) (by omega)
  rw [if_neg h68] at h
  by_cases h69 : idx = 155
  · subst h69; rw [if_pos rfl] at h; cases h; intro p l e R s m args below meth c Q D cy nL A hC hf hlo; exact q_r1 hC ok_X8_isValue qw_X8_isValue qlk_9_155 ⟨qst_X8_isValue, qsl_X8_isValue⟩ ⟨rfl, rfl⟩ (by omega) (by omega)
  rw [if_neg h69] at h
  by_cases h70 : idx = 156
  · subst h70; rw [if_pos rfl] at h; cases h; intro p l e R s m args below meth c Q D cy nL A hC hf hlo; exact q_r1 hC ok_X7_next qw_X7_next qlk_9_156 ⟨qst_X7_next, qsl_X7_next⟩ ⟨rfl, rfl⟩ (by omega) (by omega)
  rw [if_neg h70] at h
  by_cases h71 : idx = 160
  · subst h71; rw [if_pos rfl] at h; cases h; intro p l e R s m args below meth c Q D cy nL A hC hf hlo; exact q_r1 hC ok_X8_next qw_X8_next qlk_9_160 ⟨qst_X8_next, qsl_X8_next⟩ ⟨rfl, rfl⟩ (by omega) (by omega)
  rw [if_neg h71] at h
  by_cases h72 : idx = 161
  · subst h72; rw [if_pos rfl] at h; cases h; intro p l e R s m args below meth c Q D cy nL A hC hf hlo; exact q_r1 hC ok_X7_countValues qw_X7_countValues qlk_9_161 ⟨qst_X7_countValues, qsl_X7_countValues⟩ ⟨rfl, rfl⟩ (by omega) (by omega)
  rw [if_neg h72] at h
  by_cases h73 : idx = 164
  · subst h73; rw [if_pos rfl] at h; cases h; intro p l e R s m args below meth c Q D cy nL A hC hf hlo; exact q_r1 hC ok_X8_countValues qw_X8_countValues qlk_9_164 ⟨qst_X8_countValues, qsl_X8_countValues⟩ ⟨rfl, rfl⟩ (by omega) (by omega)
  rw [if_neg h73] at h
  by_cases h74 : idx = 165
  · subst h74; rw [if_pos rfl] at h; cases h; intro p l e R s m args below meth c Q D cy nL A hC hf hlo; exact q_r1 hC ok_X7_between qw_X7_between qlk_9_165 ⟨qst_X7_between, qsl_X7_between⟩ ⟨rfl, rfl⟩ (by omega) (by omega)
  rw [if_neg h74] at h
  by_cases h75 : idx = 168
  · subst h75; rw [if_pos rfl] at h; cases h; intro p l e R s m args below meth c Q D cy nL A hC hf hlo; exact q_r1 hC ok_X8_between qw_X8_between qlk_9_168 ⟨qst_X8_between, qsl_X8_between⟩ ⟨rfl, rfl⟩ (by omega) (by omega)
  rw [if_neg h75] at h
  by_cases h76 : idx = 169
  · subst h76; rw [if_pos rfl] at h; cases h; intro p l e R s m args below meth c Q D cy nL A hC hf hlo; exact q_r1 hC ok_X7_contains qw_X7_contains qlk_9_169 ⟨qst_X7_contains, qsl_X7_contains⟩ ⟨rfl, rfl⟩ (by omega) (by omega)
  rw [if_neg h76] at h
  by_cases h77 : idx = 172
  · subst h77; rw [if_pos rfl] at h; cases h; intro p l e R s m args below meth c Q D cy nL A hC hf hlo; exact q_r1 hC ok_X8_contains qw_X8_contains qlk_9_172 ⟨qst_X8_contains, qsl_X8_contains⟩ ⟨rfl, rfl⟩ (by omega) (by omega)
  rw [if_neg h77] at h
  by_cases h78 : idx = 173
  · subst h78; rw [if_pos rfl] at h; cases h; intro p l e R s m args below meth c Q D cy nL A hC hf hlo; exact q_r1 hC ok_X7_undo qw_X7_undo qlk_9_173 ⟨qst_X7_undo, qsl_X7_undo⟩ ⟨rfl, rfl⟩ (by omega) (by omega)
  rw [if_neg h78] at h
  by_cases h79 : idx = 176
  · subst h79; rw [if_pos rfl] at h; cases h; intro p l e R s m args below meth c Q D cy nL A hC hf hlo; exact q_r1 hC ok_X8_undo qw_X8_undo qlk_9_176 ⟨qst_X8_undo, qsl_X8_undo⟩ ⟨rfl, rfl⟩ (by omega) (by omega)
  rw [if_neg h79] at h
  by_cases h80 : idx = 177
  · subst h80; rw [if_pos rfl] at h; cases h; intro p l e R s m args below meth c Q D cy nL A hC hf hlo; exact q_r1 hC ok_X7_told qw_X7_told qlk_9_177 ⟨qst_X7_told, qsl_X7_told⟩ ⟨rfl, rfl⟩ (by omega) (by omega)
  rw [if_neg h80] at h
  by_cases h81 : idx = 180
  · subst h81; rw [if_pos rfl] at h; cases h; intro p l e R s m args below meth c Q D cy nL A hC hf hlo; exact q_r1 hC ok_X8_told qw_X8_told qlk_9_180 ⟨qst_X8_told, qsl_X8_told⟩ ⟨rfl, rfl⟩ (by omega) (by omega)
  rw [if_neg h81] at h
  by_cases h82 : idx = 181
  · subst h82; rw [if_pos rfl] at h; cases h; intro p l e R s m args below meth c Q D cy nL A hC hf hlo; exact q_r1 hC ok_X7_digest qw_X7_digest qlk_9_181 ⟨qst_X7_digest, qsl_X7_digest⟩ ⟨rfl, rfl⟩ (by omega) (by omega)
  rw [if_neg h82] at h
  by_cases h83 : idx = 185
  · subst h83; rw [if_pos rfl] at h; cases h; intro p l e R s m args below meth c Q D cy nL A hC hf hlo; exact q_r1 hC ok_X8_digest qw_X8_digest qlk_9_185 ⟨qst_X8_digest, qsl_X8_digest⟩ ⟨rfl, rfl⟩ (by omega) (by omega)
  rw [if_neg h83] at h
  cases h
