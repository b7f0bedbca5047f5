/-! every method is checked -/
theorem ev_chk_113 : ev_chk 113 = true := by
  unfold ev_chk
  refine List.all_eq_true.mpr (fun t ht => ?_)
  have hj : t < 48 := List.mem_range.mp ht
  rcases Nat.lt_or_ge t 24 with h | h
  · rcases Nat.lt_or_ge t 12 with h | h
    · rcases Nat.lt_or_ge t 6 with h | h
      · rcases Nat.lt_or_ge t 3 with h | h
        · rcases Nat.lt_or_ge t 1 with h | h
          · exact (show t = 0 by omega) ▸ ev_cb_0
          · rcases Nat.lt_or_ge t 2 with h | h
            · exact (show t = 1 by omega) ▸ ev_cb_1
            · exact (show t = 2 by omega) ▸ ev_cb_2
        · rcases Nat.lt_or_ge t 4 with h | h
          · exact (show t = 3 by omega) ▸ ev_cb_3
          · rcases Nat.lt_or_ge t 5 with h | h
            · exact (show t = 4 by omega) ▸ ev_cb_4
            · exact (show t = 5 by omega) ▸ ev_cb_5
      · rcases Nat.lt_or_ge t 9 with h | h
        · rcases Nat.lt_or_ge t 7 with h | h
          · exact (show t = 6 by omega) ▸ ev_cb_6
          · rcases Nat.lt_or_ge t 8 with h | h
            · exact (show t = 7 by omega) ▸ ev_cb_7
            · exact (show t = 8 by omega) ▸ ev_cb_8
        · rcases Nat.lt_or_ge t 10 with h | h
          · exact (show t = 9 by omega) ▸ ev_cb_9
          · rcases Nat.lt_or_ge t 11 with h | h
            · exact (show t = 10 by omega) ▸ ev_cb_10
            · exact (show t = 11 by omega) ▸ ev_cb_11
    · rcases Nat.lt_or_ge t 18 with h | h
      · rcases Nat.lt_or_ge t 15 with h | h
        · rcases Nat.lt_or_ge t 13 with h | h
          · exact (show t = 12 by omega) ▸ ev_cb_12
          · rcases Nat.lt_or_ge t 14 with h | h
            · exact (show t = 13 by omega) ▸ ev_cb_13
            · exact (show t = 14 by omega) ▸ ev_cb_14
        · rcases Nat.lt_or_ge t 16 with h | h
          · exact (show t = 15 by omega) ▸ ev_cb_15
          · rcases Nat.lt_or_ge t 17 with h | h
            · exact (show t = 16 by omega) ▸ ev_cb_16
            · exact (show t = 17 by omega) ▸ ev_cb_17
      · rcases Nat.lt_or_ge t 21 with h | h
        · rcases Nat.lt_or_ge t 19 with h | h
          · exact (show t = 18 by omega) ▸ ev_cb_18
          · rcases Nat.lt_or_ge t 20 with h | h
            · exact (show t = 19 by omega) ▸ ev_cb_19
            · exact (show t = 20 by omega) ▸ ev_cb_20
        · rcases Nat.lt_or_ge t 22 with h | h
          · exact (show t = 21 by omega) ▸ ev_cb_21
          · rcases Nat.lt_or_ge t 23 with h | h
            · exact (show t = 22 by omega) ▸ ev_cb_22
            · exact (show t = 23 by omega) ▸ ev_cb_23
  · rcases Nat.lt_or_ge t 36 with h | h
    · rcases Nat.lt_or_ge t 30 with h | h
      · rcases Nat.lt_or_ge t 27 with h | h
        · rcases Nat.lt_or_ge t 25 with h | h
          · exact (show t = 24 by omega) ▸ ev_cb_24
          · rcases Nat.lt_or_ge t 26 with h | h
            · exact (show t = 25 by omega) ▸ ev_cb_25
            · exact (show t = 26 by omega) ▸ ev_cb_26
        · rcases Nat.lt_or_ge t 28 with h | h
          · exact (show t = 27 by omega) ▸ ev_cb_27
          · rcases Nat.lt_or_ge t 29 with h | h
            · exact (show t = 28 by omega) ▸ ev_cb_28
            · exact (show t = 29 by omega) ▸ ev_cb_29
      · rcases Nat.lt_or_ge t 33 with h | h
        · rcases Nat.lt_or_ge t 31 with h | h
          · exact (show t = 30 by omega) ▸ ev_cb_30
          · rcases Nat.lt_or_ge t 32 with h | h
            · exact (show t = 31 by omega) ▸ ev_cb_31
            · exact (show t = 32 by omega) ▸ ev_cb_32
        · rcases Nat.lt_or_ge t 34 with h | h
          · exact (show t = 33 by omega) ▸ ev_cb_33
          · rcases Nat.lt_or_ge t 35 with h | h
            · exact (show t = 34 by omega) ▸ ev_cb_34
            · exact (show t = 35 by omega) ▸ ev_cb_35
    · rcases Nat.lt_or_ge t 42 with h | h
      · rcases Nat.lt_or_ge t 39 with h | h
        · rcases Nat.lt_or_ge t 37 with h | h
          · exact (show t = 36 by omega) ▸ ev_cb_36
          · rcases Nat.lt_or_ge t 38 with h | h
            · exact (show t = 37 by omega) ▸ ev_cb_37
            · exact (show t = 38 by omega) ▸ ev_cb_38
        · rcases Nat.lt_or_ge t 40 with h | h
          · exact (show t = 39 by omega) ▸ ev_cb_39
          · rcases Nat.lt_or_ge t 41 with h | h
            · exact (show t = 40 by omega) ▸ ev_cb_40
            · exact (show t = 41 by omega) ▸ ev_cb_41
      · rcases Nat.lt_or_ge t 45 with h | h
        · rcases Nat.lt_or_ge t 43 with h | h
          · exact (show t = 42 by omega) ▸ ev_cb_42
          · rcases Nat.lt_or_ge t 44 with h | h
            · exact (show t = 43 by omega) ▸ ev_cb_43
            · exact (show t = 44 by omega) ▸ ev_cb_44
        · rcases Nat.lt_or_ge t 46 with h | h
          · exact (show t = 45 by omega) ▸ ev_cb_45
          · rcases Nat.lt_or_ge t 47 with h | h
            · exact (show t = 46 by omega) ▸ ev_cb_46
            · exact (show t = 47 by omega) ▸ ev_cb_47
theorem ev_chks : ∀ j, j < 114 → ev_chk j = true := by
  intro j hj
  rcases Nat.lt_or_ge j 57 with h | h
  · rcases Nat.lt_or_ge j 28 with h | h
    · rcases Nat.lt_or_ge j 14 with h | h
      · rcases Nat.lt_or_ge j 7 with h | h
        · rcases Nat.lt_or_ge j 3 with h | h
          · rcases Nat.lt_or_ge j 1 with h | h
            · exact (show j = 0 by omega) ▸ ev_chk_0
            · rcases Nat.lt_or_ge j 2 with h | h
              · exact (show j = 1 by omega) ▸ ev_chk_1
              · exact (show j = 2 by omega) ▸ ev_chk_2
          · rcases Nat.lt_or_ge j 5 with h | h
            · rcases Nat.lt_or_ge j 4 with h | h
              · exact (show j = 3 by omega) ▸ ev_chk_3
              · exact (show j = 4 by omega) ▸ ev_chk_4
            · rcases Nat.lt_or_ge j 6 with h | h
              · exact (show j = 5 by omega) ▸ ev_chk_5
              · exact (show j = 6 by omega) ▸ ev_chk_6
        · rcases Nat.lt_or_ge j 10 with h | h
          · rcases Nat.lt_or_ge j 8 with h | h
            · exact (show j = 7 by omega) ▸ ev_chk_7
            · rcases Nat.lt_or_ge j 9 with h | h
              · exact (show j = 8 by omega) ▸ ev_chk_8
              · exact (show j = 9 by omega) ▸ ev_chk_9
          · rcases Nat.lt_or_ge j 12 with h | h
            · rcases Nat.lt_or_ge j 11 with h | h
              · exact (show j = 10 by omega) ▸ ev_chk_10
              · exact (show j = 11 by omega) ▸ ev_chk_11
            · rcases Nat.lt_or_ge j 13 with h | h
              · exact (show j = 12 by omega) ▸ ev_chk_12
              · exact (show j = 13 by omega) ▸ ev_chk_13
      · rcases Nat.lt_or_ge j 21 with h | h
        · rcases Nat.lt_or_ge j 17 with h | h
          · rcases Nat.lt_or_ge j 15 with h | h
            · exact (show j = 14 by omega) ▸ ev_chk_14
            · rcases Nat.lt_or_ge j 16 with h | h
              · exact (show j = 15 by omega) ▸ ev_chk_15
              · exact (show j = 16 by omega) ▸ ev_chk_16
          · rcases Nat.lt_or_ge j 19 with h | h
            · rcases Nat.lt_or_ge j 18 with h | h
              · exact (show j = 17 by omega) ▸ ev_chk_17
              · exact (show j = 18 by omega) ▸ ev_chk_18
            · rcases Nat.lt_or_ge j 20 with h | h
              · exact (show j = 19 by omega) ▸ ev_chk_19
              · exact (show j = 20 by omega) ▸ ev_chk_20
        · rcases Nat.lt_or_ge j 24 with h | h
          · rcases Nat.lt_or_ge j 22 with h | h
            · exact (show j = 21 by omega) ▸ ev_chk_21
            · rcases Nat.lt_or_ge j 23 with h | h
              · exact (show j = 22 by omega) ▸ ev_chk_22
              · exact (show j = 23 by omega) ▸ ev_chk_23
          · rcases Nat.lt_or_ge j 26 with h | h
            · rcases Nat.lt_or_ge j 25 with h | h
              · exact (show j = 24 by omega) ▸ ev_chk_24
              · exact (show j = 25 by omega) ▸ ev_chk_25
            · rcases Nat.lt_or_ge j 27 with h | h
              · exact (show j = 26 by omega) ▸ ev_chk_26
              · exact (show j = 27 by omega) ▸ ev_chk_27
    · rcases Nat.lt_or_ge j 42 with h | h
      · rcases Nat.lt_or_ge j 35 with h | h
        · rcases Nat.lt_or_ge j 31 with h | h
          · rcases Nat.lt_or_ge j 29 with h | h
            · exact (show j = 28 by omega) ▸ ev_chk_28
            · rcases Nat.lt_or_ge j 30 with h | h
              · exact (show j = 29 by omega) ▸ ev_chk_29
              · exact (show j = 30 by omega) ▸ ev_chk_30
          · rcases Nat.lt_or_ge j 33 with h | h
            · rcases Nat.lt_or_ge j 32 with h | h
              · exact (show j = 31 by omega) ▸ ev_chk_31
              · exact (show j = 32 by omega) ▸ ev_chk_32
            · rcases Nat.lt_or_ge j 34 with h | h
              · exact (show j = 33 by omega) ▸ ev_chk_33
              · exact (show j = 34 by omega) ▸ ev_chk_34
        · rcases Nat.lt_or_ge j 38 with h | h
          · rcases Nat.lt_or_ge j 36 with h | h
            · exact (show j = 35 by omega) ▸ ev_chk_35
            · rcases Nat.lt_or_ge j 37 with h | h
              · exact (show j = 36 by omega) ▸ ev_chk_36
              · exact (show j = 37 by omega) ▸ ev_chk_37
          · rcases Nat.lt_or_ge j 40 with h | h
            · rcases Nat.lt_or_ge j 39 with h | h
              · exact (show j = 38 by omega) ▸ ev_chk_38
              · exact (show j = 39 by omega) ▸ ev_chk_39
            · rcases Nat.lt_or_ge j 41 with h | h
              · exact (show j = 40 by omega) ▸ ev_chk_40
              · exact (show j = 41 by omega) ▸ ev_chk_41
      · rcases Nat.lt_or_ge j 49 with h | h
        · rcases Nat.lt_or_ge j 45 with h | h
          · rcases Nat.lt_or_ge j 43 with h | h
            · exact (show j = 42 by omega) ▸ ev_chk_42
            · rcases Nat.lt_or_ge j 44 with h | h
              · exact (show j = 43 by omega) ▸ ev_chk_43
              · exact (show j = 44 by omega) ▸ ev_chk_44
          · rcases Nat.lt_or_ge j 47 with h | h
            · rcases Nat.lt_or_ge j 46 with h | h
              · exact (show j = 45 by omega) ▸ ev_chk_45
              · exact (show j = 46 by omega) ▸ ev_chk_46
            · rcases Nat.lt_or_ge j 48 with h | h
              · exact (show j = 47 by omega) ▸ ev_chk_47
              · exact (show j = 48 by omega) ▸ ev_chk_48
        · rcases Nat.lt_or_ge j 53 with h | h
          · rcases Nat.lt_or_ge j 51 with h | h
            · rcases Nat.lt_or_ge j 50 with h | h
              · exact (show j = 49 by omega) ▸ ev_chk_49
              · exact (show j = 50 by omega) ▸ ev_chk_50
            · rcases Nat.lt_or_ge j 52 with h | h
              · exact (show j = 51 by omega) ▸ ev_chk_51
              · exact (show j = 52 by omega) ▸ ev_chk_52
          · rcases Nat.lt_or_ge j 55 with h | h
            · rcases Nat.lt_or_ge j 54 with h | h
              · exact (show j = 53 by omega) ▸ ev_chk_53
              · exact (show j = 54 by omega) ▸ ev_chk_54
            · rcases Nat.lt_or_ge j 56 with h | h
              · exact (show j = 55 by omega) ▸ ev_chk_55
              · exact (show j = 56 by omega) ▸ ev_chk_56
  · rcases Nat.lt_or_ge j 85 with h | h
    · rcases Nat.lt_or_ge j 71 with h | h
      · rcases Nat.lt_or_ge j 64 with h | h
        · rcases Nat.lt_or_ge j 60 with h | h
          · rcases Nat.lt_or_ge j 58 with h | h
            · exact (show j = 57 by omega) ▸ ev_chk_57
            · rcases Nat.lt_or_ge j 59 with h | h
              · exact (show j = 58 by omega) ▸ ev_chk_58
              · exact (show j = 59 by omega) ▸ ev_chk_59
          · rcases Nat.lt_or_ge j 62 with h | h
            · rcases Nat.lt_or_ge j 61 with h | h
              · exact (show j = 60 by omega) ▸ ev_chk_60
              · exact (show j = 61 by omega) ▸ ev_chk_61
            · rcases Nat.lt_or_ge j 63 with h | h
              · exact (show j = 62 by omega) ▸ ev_chk_62
              · exact (show j = 63 by omega) ▸ ev_chk_63
        · rcases Nat.lt_or_ge j 67 with h | h
          · rcases Nat.lt_or_ge j 65 with h | h
            · exact (show j = 64 by omega) ▸ ev_chk_64
            · rcases Nat.lt_or_ge j 66 with h | h
              · exact (show j = 65 by omega) ▸ ev_chk_65
              · exact (show j = 66 by omega) ▸ ev_chk_66
          · rcases Nat.lt_or_ge j 69 with h | h
            · rcases Nat.lt_or_ge j 68 with h | h
              · exact (show j = 67 by omega) ▸ ev_chk_67
              · exact (show j = 68 by omega) ▸ ev_chk_68
            · rcases Nat.lt_or_ge j 70 with h | h
              · exact (show j = 69 by omega) ▸ ev_chk_69
              · exact (show j = 70 by omega) ▸ ev_chk_70
      · rcases Nat.lt_or_ge j 78 with h | h
        · rcases Nat.lt_or_ge j 74 with h | h
          · rcases Nat.lt_or_ge j 72 with h | h
            · exact (show j = 71 by omega) ▸ ev_chk_71
            · rcases Nat.lt_or_ge j 73 with h | h
              · exact (show j = 72 by omega) ▸ ev_chk_72
              · exact (show j = 73 by omega) ▸ ev_chk_73
          · rcases Nat.lt_or_ge j 76 with h | h
            · rcases Nat.lt_or_ge j 75 with h | h
              · exact (show j = 74 by omega) ▸ ev_chk_74
              · exact (show j = 75 by omega) ▸ ev_chk_75
            · rcases Nat.lt_or_ge j 77 with h | h
              · exact (show j = 76 by omega) ▸ ev_chk_76
              · exact (show j = 77 by omega) ▸ ev_chk_77
        · rcases Nat.lt_or_ge j 81 with h | h
          · rcases Nat.lt_or_ge j 79 with h | h
            · exact (show j = 78 by omega) ▸ ev_chk_78
            · rcases Nat.lt_or_ge j 80 with h | h
              · exact (show j = 79 by omega) ▸ ev_chk_79
              · exact (show j = 80 by omega) ▸ ev_chk_80
          · rcases Nat.lt_or_ge j 83 with h | h
            · rcases Nat.lt_or_ge j 82 with h | h
              · exact (show j = 81 by omega) ▸ ev_chk_81
              · exact (show j = 82 by omega) ▸ ev_chk_82
            · rcases Nat.lt_or_ge j 84 with h | h
              · exact (show j = 83 by omega) ▸ ev_chk_83
              · exact (show j = 84 by omega) ▸ ev_chk_84
    · rcases Nat.lt_or_ge j 99 with h | h
      · rcases Nat.lt_or_ge j 92 with h | h
        · rcases Nat.lt_or_ge j 88 with h | h
          · rcases Nat.lt_or_ge j 86 with h | h
            · exact (show j = 85 by omega) ▸ ev_chk_85
            · rcases Nat.lt_or_ge j 87 with h | h
              · exact (show j = 86 by omega) ▸ ev_chk_86
              · exact (show j = 87 by omega) ▸ ev_chk_87
          · rcases Nat.lt_or_ge j 90 with h | h
            · rcases Nat.lt_or_ge j 89 with h | h
              · exact (show j = 88 by omega) ▸ ev_chk_88
              · exact (show j = 89 by omega) ▸ ev_chk_89
            · rcases Nat.lt_or_ge j 91 with h | h
              · exact (show j = 90 by omega) ▸ ev_chk_90
              · exact (show j = 91 by omega) ▸ ev_chk_91
        · rcases Nat.lt_or_ge j 95 with h | h
          · rcases Nat.lt_or_ge j 93 with h | h
            · exact (show j = 92 by omega) ▸ ev_chk_92
            · rcases Nat.lt_or_ge j 94 with h | h
              · exact (show j = 93 by omega) ▸ ev_chk_93
              · exact (show j = 94 by omega) ▸ ev_chk_94
          · rcases Nat.lt_or_ge j 97 with h | h
            · rcases Nat.lt_or_ge j 96 with h | h
              · exact (show j = 95 by omega) ▸ ev_chk_95
              · exact (show j = 96 by omega) ▸ ev_chk_96
            · rcases Nat.lt_or_ge j 98 with h | h
              · exact (show j = 97 by omega) ▸ ev_chk_97
              · exact (show j = 98 by omega) ▸ ev_chk_98
      · rcases Nat.lt_or_ge j 106 with h | h
        · rcases Nat.lt_or_ge j 102 with h | h
          · rcases Nat.lt_or_ge j 100 with h | h
            · exact (show j = 99 by omega) ▸ ev_chk_99
            · rcases Nat.lt_or_ge j 101 with h | h
              · exact (show j = 100 by omega) ▸ ev_chk_100
              · exact (show j = 101 by omega) ▸ ev_chk_101
          · rcases Nat.lt_or_ge j 104 with h | h
            · rcases Nat.lt_or_ge j 103 with h | h
              · exact (show j = 102 by omega) ▸ ev_chk_102
              · exact (show j = 103 by omega) ▸ ev_chk_103
            · rcases Nat.lt_or_ge j 105 with h | h
              · exact (show j = 104 by omega) ▸ ev_chk_104
              · exact (show j = 105 by omega) ▸ ev_chk_105
        · rcases Nat.lt_or_ge j 110 with h | h
          · rcases Nat.lt_or_ge j 108 with h | h
            · rcases Nat.lt_or_ge j 107 with h | h
              · exact (show j = 106 by omega) ▸ ev_chk_106
              · exact (show j = 107 by omega) ▸ ev_chk_107
            · rcases Nat.lt_or_ge j 109 with h | h
              · exact (show j = 108 by omega) ▸ ev_chk_108
              · exact (show j = 109 by omega) ▸ ev_chk_109
          · rcases Nat.lt_or_ge j 112 with h | h
            · rcases Nat.lt_or_ge j 111 with h | h
              · exact (show j = 110 by omega) ▸ ev_chk_110
              · exact (show j = 111 by omega) ▸ ev_chk_111
            · rcases Nat.lt_or_ge j 113 with h | h
              · exact (show j = 112 by omega) ▸ ev_chk_112
              · exact (show j = 113 by omega) ▸ ev_chk_113
