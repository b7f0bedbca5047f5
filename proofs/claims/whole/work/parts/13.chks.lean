/-! every method is checked -/
theorem ev_chks : ∀ j, j < 182 → ev_chk j = true := by
  intro j hj
  rcases Nat.lt_or_ge j 91 with h | h
  · skip
    rcases Nat.lt_or_ge j 45 with h | h
    · skip
      rcases Nat.lt_or_ge j 22 with h | h
      · skip
        rcases Nat.lt_or_ge j 11 with h | h
        · skip
          rcases Nat.lt_or_ge j 5 with h | h
          · skip
            rcases Nat.lt_or_ge j 2 with h | h
            · skip
              rcases Nat.lt_or_ge j 1 with h | h
              · skip
                exact (show j = 0 by omega) ▸ ev_chk_0
              · skip
                exact (show j = 1 by omega) ▸ ev_chk_1
            · skip
              rcases Nat.lt_or_ge j 3 with h | h
              · skip
                exact (show j = 2 by omega) ▸ ev_chk_2
              · skip
                rcases Nat.lt_or_ge j 4 with h | h
                · skip
                  exact (show j = 3 by omega) ▸ ev_chk_3
                · skip
                  exact (show j = 4 by omega) ▸ ev_chk_4
          · skip
            rcases Nat.lt_or_ge j 8 with h | h
            · skip
              rcases Nat.lt_or_ge j 6 with h | h
              · skip
                exact (show j = 5 by omega) ▸ ev_chk_5
              · skip
                rcases Nat.lt_or_ge j 7 with h | h
                · skip
                  exact (show j = 6 by omega) ▸ ev_chk_6
                · skip
                  exact (show j = 7 by omega) ▸ ev_chk_7
            · skip
              rcases Nat.lt_or_ge j 9 with h | h
              · skip
                exact (show j = 8 by omega) ▸ ev_chk_8
              · skip
                rcases Nat.lt_or_ge j 10 with h | h
                · skip
                  exact (show j = 9 by omega) ▸ ev_chk_9
                · skip
                  exact (show j = 10 by omega) ▸ ev_chk_10
        · skip
          rcases Nat.lt_or_ge j 16 with h | h
          · skip
            rcases Nat.lt_or_ge j 13 with h | h
            · skip
              rcases Nat.lt_or_ge j 12 with h | h
              · skip
                exact (show j = 11 by omega) ▸ ev_chk_11
              · skip
                exact (show j = 12 by omega) ▸ ev_chk_12
            · skip
              rcases Nat.lt_or_ge j 14 with h | h
              · skip
                exact (show j = 13 by omega) ▸ ev_chk_13
              · skip
                rcases Nat.lt_or_ge j 15 with h | h
                · skip
                  exact (show j = 14 by omega) ▸ ev_chk_14
                · skip
                  exact (show j = 15 by omega) ▸ ev_chk_15
          · skip
            rcases Nat.lt_or_ge j 19 with h | h
            · skip
              rcases Nat.lt_or_ge j 17 with h | h
              · skip
                exact (show j = 16 by omega) ▸ ev_chk_16
              · skip
                rcases Nat.lt_or_ge j 18 with h | h
                · skip
                  exact (show j = 17 by omega) ▸ ev_chk_17
                · skip
                  exact (show j = 18 by omega) ▸ ev_chk_18
            · skip
              rcases Nat.lt_or_ge j 20 with h | h
              · skip
                exact (show j = 19 by omega) ▸ ev_chk_19
              · skip
                rcases Nat.lt_or_ge j 21 with h | h
                · skip
                  exact (show j = 20 by omega) ▸ ev_chk_20
                · skip
                  exact (show j = 21 by omega) ▸ ev_chk_21
      · skip
        rcases Nat.lt_or_ge j 33 with h | h
        · skip
          rcases Nat.lt_or_ge j 27 with h | h
          · skip
            rcases Nat.lt_or_ge j 24 with h | h
            · skip
              rcases Nat.lt_or_ge j 23 with h | h
              · skip
                exact (show j = 22 by omega) ▸ ev_chk_22
              · skip
                exact (show j = 23 by omega) ▸ ev_chk_23
            · skip
              rcases Nat.lt_or_ge j 25 with h | h
              · skip
                exact (show j = 24 by omega) ▸ ev_chk_24
              · skip
                rcases Nat.lt_or_ge j 26 with h | h
                · skip
                  exact (show j = 25 by omega) ▸ ev_chk_25
                · skip
                  exact (show j = 26 by omega) ▸ ev_chk_26
          · skip
            rcases Nat.lt_or_ge j 30 with h | h
            · skip
              rcases Nat.lt_or_ge j 28 with h | h
              · skip
                exact (show j = 27 by omega) ▸ ev_chk_27
              · skip
                rcases Nat.lt_or_ge j 29 with h | h
                · skip
                  exact (show j = 28 by omega) ▸ ev_chk_28
                · skip
                  exact (show j = 29 by omega) ▸ ev_chk_29
            · skip
              rcases Nat.lt_or_ge j 31 with h | h
              · skip
                exact (show j = 30 by omega) ▸ ev_chk_30
              · skip
                rcases Nat.lt_or_ge j 32 with h | h
                · skip
                  exact (show j = 31 by omega) ▸ ev_chk_31
                · skip
                  exact (show j = 32 by omega) ▸ ev_chk_32
        · skip
          rcases Nat.lt_or_ge j 39 with h | h
          · skip
            rcases Nat.lt_or_ge j 36 with h | h
            · skip
              rcases Nat.lt_or_ge j 34 with h | h
              · skip
                exact (show j = 33 by omega) ▸ ev_chk_33
              · skip
                rcases Nat.lt_or_ge j 35 with h | h
                · skip
                  exact (show j = 34 by omega) ▸ ev_chk_34
                · skip
                  exact (show j = 35 by omega) ▸ ev_chk_35
            · skip
              rcases Nat.lt_or_ge j 37 with h | h
              · skip
                exact (show j = 36 by omega) ▸ ev_chk_36
              · skip
                rcases Nat.lt_or_ge j 38 with h | h
                · skip
                  exact (show j = 37 by omega) ▸ ev_chk_37
                · skip
                  exact (show j = 38 by omega) ▸ ev_chk_38
          · skip
            rcases Nat.lt_or_ge j 42 with h | h
            · skip
              rcases Nat.lt_or_ge j 40 with h | h
              · skip
                exact (show j = 39 by omega) ▸ ev_chk_39
              · skip
                rcases Nat.lt_or_ge j 41 with h | h
                · skip
                  exact (show j = 40 by omega) ▸ ev_chk_40
                · skip
                  exact (show j = 41 by omega) ▸ ev_chk_41
            · skip
              rcases Nat.lt_or_ge j 43 with h | h
              · skip
                exact (show j = 42 by omega) ▸ ev_chk_42
              · skip
                rcases Nat.lt_or_ge j 44 with h | h
                · skip
                  exact (show j = 43 by omega) ▸ ev_chk_43
                · skip
                  exact (show j = 44 by omega) ▸ ev_chk_44
    · skip
      rcases Nat.lt_or_ge j 68 with h | h
      · skip
        rcases Nat.lt_or_ge j 56 with h | h
        · skip
          rcases Nat.lt_or_ge j 50 with h | h
          · skip
            rcases Nat.lt_or_ge j 47 with h | h
            · skip
              rcases Nat.lt_or_ge j 46 with h | h
              · skip
                exact (show j = 45 by omega) ▸ ev_chk_45
              · skip
                exact (show j = 46 by omega) ▸ ev_chk_46
            · skip
              rcases Nat.lt_or_ge j 48 with h | h
              · skip
                exact (show j = 47 by omega) ▸ ev_chk_47
              · skip
                rcases Nat.lt_or_ge j 49 with h | h
                · skip
                  exact (show j = 48 by omega) ▸ ev_chk_48
                · skip
                  exact (show j = 49 by omega) ▸ ev_chk_49
          · skip
            rcases Nat.lt_or_ge j 53 with h | h
            · skip
              rcases Nat.lt_or_ge j 51 with h | h
              · skip
                exact (show j = 50 by omega) ▸ ev_chk_50
              · skip
                rcases Nat.lt_or_ge j 52 with h | h
                · skip
                  exact (show j = 51 by omega) ▸ ev_chk_51
                · skip
                  exact (show j = 52 by omega) ▸ ev_chk_52
            · skip
              rcases Nat.lt_or_ge j 54 with h | h
              · skip
                exact (show j = 53 by omega) ▸ ev_chk_53
              · skip
                rcases Nat.lt_or_ge j 55 with h | h
                · skip
                  exact (show j = 54 by omega) ▸ ev_chk_54
                · skip
                  exact (show j = 55 by omega) ▸ ev_chk_55
        · skip
          rcases Nat.lt_or_ge j 62 with h | h
          · skip
            rcases Nat.lt_or_ge j 59 with h | h
            · skip
              rcases Nat.lt_or_ge j 57 with h | h
              · skip
                exact (show j = 56 by omega) ▸ ev_chk_56
              · skip
                rcases Nat.lt_or_ge j 58 with h | h
                · skip
                  exact (show j = 57 by omega) ▸ ev_chk_57
                · skip
                  exact (show j = 58 by omega) ▸ ev_chk_58
            · skip
              rcases Nat.lt_or_ge j 60 with h | h
              · skip
                exact (show j = 59 by omega) ▸ ev_chk_59
              · skip
                rcases Nat.lt_or_ge j 61 with h | h
                · skip
                  exact (show j = 60 by omega) ▸ ev_chk_60
                · skip
                  exact (show j = 61 by omega) ▸ ev_chk_61
          · skip
            rcases Nat.lt_or_ge j 65 with h | h
            · skip
              rcases Nat.lt_or_ge j 63 with h | h
              · skip
                exact (show j = 62 by omega) ▸ ev_chk_62
              · skip
                rcases Nat.lt_or_ge j 64 with h | h
                · skip
                  exact (show j = 63 by omega) ▸ ev_chk_63
                · skip
                  exact (show j = 64 by omega) ▸ ev_chk_64
            · skip
              rcases Nat.lt_or_ge j 66 with h | h
              · skip
                exact (show j = 65 by omega) ▸ ev_chk_65
              · skip
                rcases Nat.lt_or_ge j 67 with h | h
                · skip
                  exact (show j = 66 by omega) ▸ ev_chk_66
                · skip
                  exact (show j = 67 by omega) ▸ ev_chk_67
      · skip
        rcases Nat.lt_or_ge j 79 with h | h
        · skip
          rcases Nat.lt_or_ge j 73 with h | h
          · skip
            rcases Nat.lt_or_ge j 70 with h | h
            · skip
              rcases Nat.lt_or_ge j 69 with h | h
              · skip
                exact (show j = 68 by omega) ▸ ev_chk_68
              · skip
                exact (show j = 69 by omega) ▸ ev_chk_69
            · skip
              rcases Nat.lt_or_ge j 71 with h | h
              · skip
                exact (show j = 70 by omega) ▸ ev_chk_70
              · skip
                rcases Nat.lt_or_ge j 72 with h | h
                · skip
                  exact (show j = 71 by omega) ▸ ev_chk_71
                · skip
                  exact (show j = 72 by omega) ▸ ev_chk_72
          · skip
            rcases Nat.lt_or_ge j 76 with h | h
            · skip
              rcases Nat.lt_or_ge j 74 with h | h
              · skip
                exact (show j = 73 by omega) ▸ ev_chk_73
              · skip
                rcases Nat.lt_or_ge j 75 with h | h
                · skip
                  exact (show j = 74 by omega) ▸ ev_chk_74
                · skip
                  exact (show j = 75 by omega) ▸ ev_chk_75
            · skip
              rcases Nat.lt_or_ge j 77 with h | h
              · skip
                exact (show j = 76 by omega) ▸ ev_chk_76
              · skip
                rcases Nat.lt_or_ge j 78 with h | h
                · skip
                  exact (show j = 77 by omega) ▸ ev_chk_77
                · skip
                  exact (show j = 78 by omega) ▸ ev_chk_78
        · skip
          rcases Nat.lt_or_ge j 85 with h | h
          · skip
            rcases Nat.lt_or_ge j 82 with h | h
            · skip
              rcases Nat.lt_or_ge j 80 with h | h
              · skip
                exact (show j = 79 by omega) ▸ ev_chk_79
              · skip
                rcases Nat.lt_or_ge j 81 with h | h
                · skip
                  exact (show j = 80 by omega) ▸ ev_chk_80
                · skip
                  exact (show j = 81 by omega) ▸ ev_chk_81
            · skip
              rcases Nat.lt_or_ge j 83 with h | h
              · skip
                exact (show j = 82 by omega) ▸ ev_chk_82
              · skip
                rcases Nat.lt_or_ge j 84 with h | h
                · skip
                  exact (show j = 83 by omega) ▸ ev_chk_83
                · skip
                  exact (show j = 84 by omega) ▸ ev_chk_84
          · skip
            rcases Nat.lt_or_ge j 88 with h | h
            · skip
              rcases Nat.lt_or_ge j 86 with h | h
              · skip
                exact (show j = 85 by omega) ▸ ev_chk_85
              · skip
                rcases Nat.lt_or_ge j 87 with h | h
                · skip
                  exact (show j = 86 by omega) ▸ ev_chk_86
                · skip
                  exact (show j = 87 by omega) ▸ ev_chk_87
            · skip
              rcases Nat.lt_or_ge j 89 with h | h
              · skip
                exact (show j = 88 by omega) ▸ ev_chk_88
              · skip
                rcases Nat.lt_or_ge j 90 with h | h
                · skip
                  exact (show j = 89 by omega) ▸ ev_chk_89
                · skip
                  exact (show j = 90 by omega) ▸ ev_chk_90
  · skip
    rcases Nat.lt_or_ge j 136 with h | h
    · skip
      rcases Nat.lt_or_ge j 113 with h | h
      · skip
        rcases Nat.lt_or_ge j 102 with h | h
        · skip
          rcases Nat.lt_or_ge j 96 with h | h
          · skip
            rcases Nat.lt_or_ge j 93 with h | h
            · skip
              rcases Nat.lt_or_ge j 92 with h | h
              · skip
                exact (show j = 91 by omega) ▸ ev_chk_91
              · skip
                exact (show j = 92 by omega) ▸ ev_chk_92
            · skip
              rcases Nat.lt_or_ge j 94 with h | h
              · skip
                exact (show j = 93 by omega) ▸ ev_chk_93
              · skip
                rcases Nat.lt_or_ge j 95 with h | h
                · skip
                  exact (show j = 94 by omega) ▸ ev_chk_94
                · skip
                  exact (show j = 95 by omega) ▸ ev_chk_95
          · skip
            rcases Nat.lt_or_ge j 99 with h | h
            · skip
              rcases Nat.lt_or_ge j 97 with h | h
              · skip
                exact (show j = 96 by omega) ▸ ev_chk_96
              · skip
                rcases Nat.lt_or_ge j 98 with h | h
                · skip
                  exact (show j = 97 by omega) ▸ ev_chk_97
                · skip
                  exact (show j = 98 by omega) ▸ ev_chk_98
            · skip
              rcases Nat.lt_or_ge j 100 with h | h
              · skip
                exact (show j = 99 by omega) ▸ ev_chk_99
              · skip
                rcases Nat.lt_or_ge j 101 with h | h
                · skip
                  exact (show j = 100 by omega) ▸ ev_chk_100
                · skip
                  exact (show j = 101 by omega) ▸ ev_chk_101
        · skip
          rcases Nat.lt_or_ge j 107 with h | h
          · skip
            rcases Nat.lt_or_ge j 104 with h | h
            · skip
              rcases Nat.lt_or_ge j 103 with h | h
              · skip
                exact (show j = 102 by omega) ▸ ev_chk_102
              · skip
                exact (show j = 103 by omega) ▸ ev_chk_103
            · skip
              rcases Nat.lt_or_ge j 105 with h | h
              · skip
                exact (show j = 104 by omega) ▸ ev_chk_104
              · skip
                rcases Nat.lt_or_ge j 106 with h | h
                · skip
                  exact (show j = 105 by omega) ▸ ev_chk_105
                · skip
                  exact (show j = 106 by omega) ▸ ev_chk_106
          · skip
            rcases Nat.lt_or_ge j 110 with h | h
            · skip
              rcases Nat.lt_or_ge j 108 with h | h
              · skip
                exact (show j = 107 by omega) ▸ ev_chk_107
              · skip
                rcases Nat.lt_or_ge j 109 with h | h
                · skip
                  exact (show j = 108 by omega) ▸ ev_chk_108
                · skip
                  exact (show j = 109 by omega) ▸ ev_chk_109
            · skip
              rcases Nat.lt_or_ge j 111 with h | h
              · skip
                exact (show j = 110 by omega) ▸ ev_chk_110
              · skip
                rcases Nat.lt_or_ge j 112 with h | h
                · skip
                  exact (show j = 111 by omega) ▸ ev_chk_111
                · skip
                  exact (show j = 112 by omega) ▸ ev_chk_112
      · skip
        rcases Nat.lt_or_ge j 124 with h | h
        · skip
          rcases Nat.lt_or_ge j 118 with h | h
          · skip
            rcases Nat.lt_or_ge j 115 with h | h
            · skip
              rcases Nat.lt_or_ge j 114 with h | h
              · skip
                exact (show j = 113 by omega) ▸ ev_chk_113
              · skip
                exact (show j = 114 by omega) ▸ ev_chk_114
            · skip
              rcases Nat.lt_or_ge j 116 with h | h
              · skip
                exact (show j = 115 by omega) ▸ ev_chk_115
              · skip
                rcases Nat.lt_or_ge j 117 with h | h
                · skip
                  exact (show j = 116 by omega) ▸ ev_chk_116
                · skip
                  exact (show j = 117 by omega) ▸ ev_chk_117
          · skip
            rcases Nat.lt_or_ge j 121 with h | h
            · skip
              rcases Nat.lt_or_ge j 119 with h | h
              · skip
                exact (show j = 118 by omega) ▸ ev_chk_118
              · skip
                rcases Nat.lt_or_ge j 120 with h | h
                · skip
                  exact (show j = 119 by omega) ▸ ev_chk_119
                · skip
                  exact (show j = 120 by omega) ▸ ev_chk_120
            · skip
              rcases Nat.lt_or_ge j 122 with h | h
              · skip
                exact (show j = 121 by omega) ▸ ev_chk_121
              · skip
                rcases Nat.lt_or_ge j 123 with h | h
                · skip
                  exact (show j = 122 by omega) ▸ ev_chk_122
                · skip
                  exact (show j = 123 by omega) ▸ ev_chk_123
        · skip
          rcases Nat.lt_or_ge j 130 with h | h
          · skip
            rcases Nat.lt_or_ge j 127 with h | h
            · skip
              rcases Nat.lt_or_ge j 125 with h | h
              · skip
                exact (show j = 124 by omega) ▸ ev_chk_124
              · skip
                rcases Nat.lt_or_ge j 126 with h | h
                · skip
                  exact (show j = 125 by omega) ▸ ev_chk_125
                · skip
                  exact (show j = 126 by omega) ▸ ev_chk_126
            · skip
              rcases Nat.lt_or_ge j 128 with h | h
              · skip
                exact (show j = 127 by omega) ▸ ev_chk_127
              · skip
                rcases Nat.lt_or_ge j 129 with h | h
                · skip
                  exact (show j = 128 by omega) ▸ ev_chk_128
                · skip
                  exact (show j = 129 by omega) ▸ ev_chk_129
          · skip
            rcases Nat.lt_or_ge j 133 with h | h
            · skip
              rcases Nat.lt_or_ge j 131 with h | h
              · skip
                exact (show j = 130 by omega) ▸ ev_chk_130
              · skip
                rcases Nat.lt_or_ge j 132 with h | h
                · skip
                  exact (show j = 131 by omega) ▸ ev_chk_131
                · skip
                  exact (show j = 132 by omega) ▸ ev_chk_132
            · skip
              rcases Nat.lt_or_ge j 134 with h | h
              · skip
                exact (show j = 133 by omega) ▸ ev_chk_133
              · skip
                rcases Nat.lt_or_ge j 135 with h | h
                · skip
                  exact (show j = 134 by omega) ▸ ev_chk_134
                · skip
                  exact (show j = 135 by omega) ▸ ev_chk_135
    · skip
      rcases Nat.lt_or_ge j 159 with h | h
      · skip
        rcases Nat.lt_or_ge j 147 with h | h
        · skip
          rcases Nat.lt_or_ge j 141 with h | h
          · skip
            rcases Nat.lt_or_ge j 138 with h | h
            · skip
              rcases Nat.lt_or_ge j 137 with h | h
              · skip
                exact (show j = 136 by omega) ▸ ev_chk_136
              · skip
                exact (show j = 137 by omega) ▸ ev_chk_137
            · skip
              rcases Nat.lt_or_ge j 139 with h | h
              · skip
                exact (show j = 138 by omega) ▸ ev_chk_138
              · skip
                rcases Nat.lt_or_ge j 140 with h | h
                · skip
                  exact (show j = 139 by omega) ▸ ev_chk_139
                · skip
                  exact (show j = 140 by omega) ▸ ev_chk_140
          · skip
            rcases Nat.lt_or_ge j 144 with h | h
            · skip
              rcases Nat.lt_or_ge j 142 with h | h
              · skip
                exact (show j = 141 by omega) ▸ ev_chk_141
              · skip
                rcases Nat.lt_or_ge j 143 with h | h
                · skip
                  exact (show j = 142 by omega) ▸ ev_chk_142
                · skip
                  exact (show j = 143 by omega) ▸ ev_chk_143
            · skip
              rcases Nat.lt_or_ge j 145 with h | h
              · skip
                exact (show j = 144 by omega) ▸ ev_chk_144
              · skip
                rcases Nat.lt_or_ge j 146 with h | h
                · skip
                  exact (show j = 145 by omega) ▸ ev_chk_145
                · skip
                  exact (show j = 146 by omega) ▸ ev_chk_146
        · skip
          rcases Nat.lt_or_ge j 153 with h | h
          · skip
            rcases Nat.lt_or_ge j 150 with h | h
            · skip
              rcases Nat.lt_or_ge j 148 with h | h
              · skip
                exact (show j = 147 by omega) ▸ ev_chk_147
              · skip
                rcases Nat.lt_or_ge j 149 with h | h
                · skip
                  exact (show j = 148 by omega) ▸ ev_chk_148
                · skip
                  exact (show j = 149 by omega) ▸ ev_chk_149
            · skip
              rcases Nat.lt_or_ge j 151 with h | h
              · skip
                exact (show j = 150 by omega) ▸ ev_chk_150
              · skip
                rcases Nat.lt_or_ge j 152 with h | h
                · skip
                  exact (show j = 151 by omega) ▸ ev_chk_151
                · skip
                  exact (show j = 152 by omega) ▸ ev_chk_152
          · skip
            rcases Nat.lt_or_ge j 156 with h | h
            · skip
              rcases Nat.lt_or_ge j 154 with h | h
              · skip
                exact (show j = 153 by omega) ▸ ev_chk_153
              · skip
                rcases Nat.lt_or_ge j 155 with h | h
                · skip
                  exact (show j = 154 by omega) ▸ ev_chk_154
                · skip
                  exact (show j = 155 by omega) ▸ ev_chk_155
            · skip
              rcases Nat.lt_or_ge j 157 with h | h
              · skip
                exact (show j = 156 by omega) ▸ ev_chk_156
              · skip
                rcases Nat.lt_or_ge j 158 with h | h
                · skip
                  exact (show j = 157 by omega) ▸ ev_chk_157
                · skip
                  exact (show j = 158 by omega) ▸ ev_chk_158
      · skip
        rcases Nat.lt_or_ge j 170 with h | h
        · skip
          rcases Nat.lt_or_ge j 164 with h | h
          · skip
            rcases Nat.lt_or_ge j 161 with h | h
            · skip
              rcases Nat.lt_or_ge j 160 with h | h
              · skip
                exact (show j = 159 by omega) ▸ ev_chk_159
              · skip
                exact (show j = 160 by omega) ▸ ev_chk_160
            · skip
              rcases Nat.lt_or_ge j 162 with h | h
              · skip
                exact (show j = 161 by omega) ▸ ev_chk_161
              · skip
                rcases Nat.lt_or_ge j 163 with h | h
                · skip
                  exact (show j = 162 by omega) ▸ ev_chk_162
                · skip
                  exact (show j = 163 by omega) ▸ ev_chk_163
          · skip
            rcases Nat.lt_or_ge j 167 with h | h
            · skip
              rcases Nat.lt_or_ge j 165 with h | h
              · skip
                exact (show j = 164 by omega) ▸ ev_chk_164
              · skip
                rcases Nat.lt_or_ge j 166 with h | h
                · skip
                  exact (show j = 165 by omega) ▸ ev_chk_165
                · skip
                  exact (show j = 166 by omega) ▸ ev_chk_166
            · skip
              rcases Nat.lt_or_ge j 168 with h | h
              · skip
                exact (show j = 167 by omega) ▸ ev_chk_167
              · skip
                rcases Nat.lt_or_ge j 169 with h | h
                · skip
                  exact (show j = 168 by omega) ▸ ev_chk_168
                · skip
                  exact (show j = 169 by omega) ▸ ev_chk_169
        · skip
          rcases Nat.lt_or_ge j 176 with h | h
          · skip
            rcases Nat.lt_or_ge j 173 with h | h
            · skip
              rcases Nat.lt_or_ge j 171 with h | h
              · skip
                exact (show j = 170 by omega) ▸ ev_chk_170
              · skip
                rcases Nat.lt_or_ge j 172 with h | h
                · skip
                  exact (show j = 171 by omega) ▸ ev_chk_171
                · skip
                  exact (show j = 172 by omega) ▸ ev_chk_172
            · skip
              rcases Nat.lt_or_ge j 174 with h | h
              · skip
                exact (show j = 173 by omega) ▸ ev_chk_173
              · skip
                rcases Nat.lt_or_ge j 175 with h | h
                · skip
                  exact (show j = 174 by omega) ▸ ev_chk_174
                · skip
                  exact (show j = 175 by omega) ▸ ev_chk_175
          · skip
            rcases Nat.lt_or_ge j 179 with h | h
            · skip
              rcases Nat.lt_or_ge j 177 with h | h
              · skip
                exact (show j = 176 by omega) ▸ ev_chk_176
              · skip
                rcases Nat.lt_or_ge j 178 with h | h
                · skip
                  exact (show j = 177 by omega) ▸ ev_chk_177
                · skip
                  exact (show j = 178 by omega) ▸ ev_chk_178
            · skip
              rcases Nat.lt_or_ge j 180 with h | h
              · skip
                exact (show j = 179 by omega) ▸ ev_chk_179
              · skip
                rcases Nat.lt_or_ge j 181 with h | h
                · skip
                  exact (show j = 180 by omega) ▸ ev_chk_180
                · skip
                  exact (show j = 181 by omega) ▸ ev_chk_181
