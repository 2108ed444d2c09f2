/-! the words of the methods' code, by their places -/
theorem am_w_in {k : Nat} {w : Cond} (h : am_at k = some w) (g : goodWord w = true) : w ∈ am_TB := List.mem_filter.mpr ⟨am_at_in h, g⟩
def am_cwP (j : Nat) : Prop := Cond.code (am_mNt j) (am_mBt j) (am_mLt j) (am_mRt j) ∈ am_TB
theorem am_cw_0 : am_cwP 0 := am_w_in (k := 1045) rfl rfl
theorem am_cw_1 : am_cwP 1 := am_w_in (k := 2052) rfl rfl
theorem am_cw_2 : am_cwP 2 := am_w_in (k := 2060) rfl rfl
theorem am_cw_3 : am_cwP 3 := am_w_in (k := 3073) rfl rfl
theorem am_cw_4 : am_cwP 4 := am_w_in (k := 3080) rfl rfl
theorem am_cw_5 : am_cwP 5 := am_w_in (k := 3084) rfl rfl
theorem am_cw_6 : am_cwP 6 := am_w_in (k := 3092) rfl rfl
theorem am_cw_7 : am_cwP 7 := am_w_in (k := 3141) rfl rfl
theorem am_cw_8 : am_cwP 8 := am_w_in (k := 3145) rfl rfl
theorem am_cw_9 : am_cwP 9 := am_w_in (k := 3149) rfl rfl
theorem am_cw_10 : am_cwP 10 := am_w_in (k := 3154) rfl rfl
theorem am_cw_11 : am_cwP 11 := am_w_in (k := 3159) rfl rfl
theorem am_cw_12 : am_cwP 12 := am_w_in (k := 3162) rfl rfl
theorem am_cw_13 : am_cwP 13 := am_w_in (k := 3172) rfl rfl
theorem am_cw_14 : am_cwP 14 := am_w_in (k := 3176) rfl rfl
theorem am_cw_15 : am_cwP 15 := am_w_in (k := 3202) rfl rfl
theorem am_cw_16 : am_cwP 16 := am_w_in (k := 3210) rfl rfl
theorem am_cw_17 : am_cwP 17 := am_w_in (k := 3222) rfl rfl
theorem am_cw_18 : am_cwP 18 := am_w_in (k := 3234) rfl rfl
theorem am_cw_19 : am_cwP 19 := am_w_in (k := 3242) rfl rfl
theorem am_cw_20 : am_cwP 20 := am_w_in (k := 3250) rfl rfl
theorem am_cw_21 : am_cwP 21 := am_w_in (k := 3260) rfl rfl
theorem am_cw_22 : am_cwP 22 := am_w_in (k := 3268) rfl rfl
theorem am_cw_23 : am_cwP 23 := am_w_in (k := 3283) rfl rfl
theorem am_cw_24 : am_cwP 24 := am_w_in (k := 1053) rfl rfl
theorem am_cw_25 : am_cwP 25 := am_w_in (k := 2056) rfl rfl
theorem am_cw_26 : am_cwP 26 := am_w_in (k := 2080) rfl rfl
theorem am_cw_27 : am_cwP 27 := am_w_in (k := 2084) rfl rfl
theorem am_cw_28 : am_cwP 28 := am_w_in (k := 2088) rfl rfl
theorem am_cw_29 : am_cwP 29 := am_w_in (k := 2097) rfl rfl
theorem am_cw_30 : am_cwP 30 := am_w_in (k := 2111) rfl rfl
theorem am_cw_31 : am_cwP 31 := am_w_in (k := 2153) rfl rfl
theorem am_cw_32 : am_cwP 32 := am_w_in (k := 2166) rfl rfl
theorem am_cw_33 : am_cwP 33 := am_w_in (k := 2253) rfl rfl
theorem am_cw_34 : am_cwP 34 := am_w_in (k := 2276) rfl rfl
theorem am_cw_35 : am_cwP 35 := am_w_in (k := 2280) rfl rfl
theorem am_cw_36 : am_cwP 36 := am_w_in (k := 1076) rfl rfl
theorem am_cw_37 : am_cwP 37 := am_w_in (k := 3077) rfl rfl
theorem am_cw_38 : am_cwP 38 := am_w_in (k := 3088) rfl rfl
theorem am_cw_39 : am_cwP 39 := am_w_in (k := 3129) rfl rfl
theorem am_cw_40 : am_cwP 40 := am_w_in (k := 3133) rfl rfl
theorem am_cw_41 : am_cwP 41 := am_w_in (k := 1090) rfl rfl
theorem am_cw_42 : am_cwP 42 := am_w_in (k := 2284) rfl rfl
theorem am_cw_43 : am_cwP 43 := am_w_in (k := 3214) rfl rfl
theorem am_cw_44 : am_cwP 44 := am_w_in (k := 3218) rfl rfl
theorem am_cw_45 : am_cwP 45 := am_w_in (k := 3226) rfl rfl
theorem am_cw_46 : am_cwP 46 := am_w_in (k := 3230) rfl rfl
theorem am_cw_47 : am_cwP 47 := am_w_in (k := 3238) rfl rfl
theorem am_cw_48 : am_cwP 48 := am_w_in (k := 1103) rfl rfl
theorem am_cw_49 : am_cwP 49 := am_w_in (k := 3246) rfl rfl
theorem am_cw_50 : am_cwP 50 := am_w_in (k := 3254) rfl rfl
theorem am_cw_51 : am_cwP 51 := am_w_in (k := 3264) rfl rfl
theorem am_cw_52 : am_cwP 52 := am_w_in (k := 1122) rfl rfl
theorem am_cw_53 : am_cwP 53 := am_w_in (k := 3272) rfl rfl
theorem am_cw_54 : am_cwP 54 := am_w_in (k := 3278) rfl rfl
theorem am_cw_55 : am_cwP 55 := am_w_in (k := 3287) rfl rfl
theorem am_cw_56 : am_cwP 56 := am_w_in (k := 1135) rfl rfl
theorem am_cw_57 : am_cwP 57 := am_w_in (k := 2064) rfl rfl
theorem am_cw_58 : am_cwP 58 := am_w_in (k := 2092) rfl rfl
theorem am_cw_59 : am_cwP 59 := am_w_in (k := 2157) rfl rfl
theorem am_cw_60 : am_cwP 60 := am_w_in (k := 2177) rfl rfl
theorem am_cw_61 : am_cwP 61 := am_w_in (k := 2195) rfl rfl
theorem am_cw_62 : am_cwP 62 := am_w_in (k := 2209) rfl rfl
theorem am_cw_63 : am_cwP 63 := am_w_in (k := 2231) rfl rfl
theorem am_cw_64 : am_cwP 64 := am_w_in (k := 2245) rfl rfl
theorem am_cw_65 : am_cwP 65 := am_w_in (k := 3096) rfl rfl
theorem am_cw_66 : am_cwP 66 := am_w_in (k := 3100) rfl rfl
theorem am_cw_67 : am_cwP 67 := am_w_in (k := 3108) rfl rfl
theorem am_cw_68 : am_cwP 68 := am_w_in (k := 1141) rfl rfl
theorem am_cw_69 : am_cwP 69 := am_w_in (k := 2068) rfl rfl
theorem am_cw_70 : am_cwP 70 := am_w_in (k := 2161) rfl rfl
theorem am_cw_71 : am_cwP 71 := am_w_in (k := 2170) rfl rfl
theorem am_cw_72 : am_cwP 72 := am_w_in (k := 2181) rfl rfl
theorem am_cw_73 : am_cwP 73 := am_w_in (k := 2189) rfl rfl
theorem am_cw_74 : am_cwP 74 := am_w_in (k := 3104) rfl rfl
theorem am_cw_75 : am_cwP 75 := am_w_in (k := 3112) rfl rfl
theorem am_cw_76 : am_cwP 76 := am_w_in (k := 3117) rfl rfl
theorem am_cw_77 : am_cwP 77 := am_w_in (k := 3125) rfl rfl
theorem am_cw_78 : am_cwP 78 := am_w_in (k := 3136) rfl rfl
theorem am_cw_79 : am_cwP 79 := am_w_in (k := 1172) rfl rfl
theorem am_cw_80 : am_cwP 80 := am_w_in (k := 2072) rfl rfl
theorem am_cw_81 : am_cwP 81 := am_w_in (k := 2199) rfl rfl
theorem am_cw_82 : am_cwP 82 := am_w_in (k := 2203) rfl rfl
theorem am_cw_83 : am_cwP 83 := am_w_in (k := 2213) rfl rfl
theorem am_cw_84 : am_cwP 84 := am_w_in (k := 2217) rfl rfl
theorem am_cw_85 : am_cwP 85 := am_w_in (k := 2221) rfl rfl
theorem am_cw_86 : am_cwP 86 := am_w_in (k := 2225) rfl rfl
theorem am_cw_87 : am_cwP 87 := am_w_in (k := 2235) rfl rfl
theorem am_cw_88 : am_cwP 88 := am_w_in (k := 2239) rfl rfl
theorem am_cw_89 : am_cwP 89 := am_w_in (k := 3121) rfl rfl
theorem am_cw_90 : am_cwP 90 := am_w_in (k := 3168) rfl rfl
theorem am_cw_91 : am_cwP 91 := am_w_in (k := 1209) rfl rfl
theorem am_cw_92 : am_cwP 92 := am_w_in (k := 2076) rfl rfl
theorem am_cw_93 : am_cwP 93 := am_w_in (k := 2249) rfl rfl
theorem am_cw_94 : am_cwP 94 := am_w_in (k := 2257) rfl rfl
theorem am_cw_95 : am_cwP 95 := am_w_in (k := 2261) rfl rfl
theorem am_cw_96 : am_cwP 96 := am_w_in (k := 2266) rfl rfl
theorem am_cw_97 : am_cwP 97 := am_w_in (k := 2271) rfl rfl
theorem am_cw_98 : am_cwP 98 := am_w_in (k := 3182) rfl rfl
theorem am_cw_99 : am_cwP 99 := am_w_in (k := 3186) rfl rfl
theorem am_cw_100 : am_cwP 100 := am_w_in (k := 3193) rfl rfl
theorem am_cw_101 : am_cwP 101 := am_w_in (k := 3197) rfl rfl
theorem am_cw_102 : am_cwP 102 := am_w_in (k := 3206) rfl rfl
theorem am_cw_103 : am_cwP 103 := am_w_in (k := 3292) rfl rfl
theorem am_cw_104 : am_cwP 104 := am_w_in (k := 4170) rfl rfl
theorem am_cw_105 : am_cwP 105 := am_w_in (k := 4174) rfl rfl
theorem am_cw_106 : am_cwP 106 := am_w_in (k := 4178) rfl rfl
theorem am_cw_107 : am_cwP 107 := am_w_in (k := 4182) rfl rfl
theorem am_cw_108 : am_cwP 108 := am_w_in (k := 4185) rfl rfl
theorem am_cw_109 : am_cwP 109 := am_w_in (k := 4189) rfl rfl
theorem am_cw_110 : am_cwP 110 := am_w_in (k := 4194) rfl rfl
theorem am_cw_111 : am_cwP 111 := am_w_in (k := 4199) rfl rfl
theorem am_cw_112 : am_cwP 112 := am_w_in (k := 4208) rfl rfl
theorem am_cw_113 : am_cwP 113 := am_w_in (k := 4212) rfl rfl
theorem am_cw_114 : am_cwP 114 := am_w_in (k := 4217) rfl rfl
theorem am_cw_115 : am_cwP 115 := am_w_in (k := 4221) rfl rfl
theorem am_cw_116 : am_cwP 116 := am_w_in (k := 4225) rfl rfl
theorem am_cw_117 : am_cwP 117 := am_w_in (k := 4230) rfl rfl
theorem am_cw_118 : am_cwP 118 := am_w_in (k := 4234) rfl rfl
theorem am_cw_119 : am_cwP 119 := am_w_in (k := 4238) rfl rfl
theorem am_cw_120 : am_cwP 120 := am_w_in (k := 4242) rfl rfl
theorem am_cw_121 : am_cwP 121 := am_w_in (k := 4246) rfl rfl
theorem am_cw_122 : am_cwP 122 := am_w_in (k := 4250) rfl rfl
theorem am_cw_123 : am_cwP 123 := am_w_in (k := 4254) rfl rfl
theorem am_cw_124 : am_cwP 124 := am_w_in (k := 4258) rfl rfl
theorem am_cw_125 : am_cwP 125 := am_w_in (k := 4262) rfl rfl
theorem am_cw_126 : am_cwP 126 := am_w_in (k := 4266) rfl rfl
theorem am_cw_127 : am_cwP 127 := am_w_in (k := 4271) rfl rfl
theorem am_cw_128 : am_cwP 128 := am_w_in (k := 4275) rfl rfl
theorem am_cw_129 : am_cwP 129 := am_w_in (k := 4279) rfl rfl
theorem am_cw_130 : am_cwP 130 := am_w_in (k := 4283) rfl rfl
theorem am_cw_131 : am_cwP 131 := am_w_in (k := 4288) rfl rfl
theorem am_cw_132 : am_cwP 132 := am_w_in (k := 4292) rfl rfl
theorem am_cw_133 : am_cwP 133 := am_w_in (k := 4296) rfl rfl
theorem am_cw_134 : am_cwP 134 := am_w_in (k := 4299) rfl rfl
theorem am_cw_135 : am_cwP 135 := am_w_in (k := 4302) rfl rfl
theorem am_cw_136 : am_cwP 136 := am_w_in (k := 4305) rfl rfl
theorem am_cw_137 : am_cwP 137 := am_w_in (k := 4309) rfl rfl
theorem am_cw_138 : am_cwP 138 := am_w_in (k := 4313) rfl rfl
theorem am_cw_139 : am_cwP 139 := am_w_in (k := 4316) rfl rfl
theorem am_cw_140 : am_cwP 140 := am_w_in (k := 4321) rfl rfl
theorem am_cw_141 : am_cwP 141 := am_w_in (k := 4325) rfl rfl
theorem am_cw_142 : am_cwP 142 := am_w_in (k := 4330) rfl rfl
theorem am_cw_143 : am_cwP 143 := am_w_in (k := 4334) rfl rfl
theorem am_cw_144 : am_cwP 144 := am_w_in (k := 5122) rfl rfl
theorem am_cw_145 : am_cwP 145 := am_w_in (k := 5126) rfl rfl
theorem am_cw_146 : am_cwP 146 := am_w_in (k := 5132) rfl rfl
theorem am_cw_147 : am_cwP 147 := am_w_in (k := 2101) rfl rfl
theorem am_cw_148 : am_cwP 148 := am_w_in (k := 2105) rfl rfl
theorem am_cw_149 : am_cwP 149 := am_w_in (k := 2115) rfl rfl
theorem am_cw_150 : am_cwP 150 := am_w_in (k := 2119) rfl rfl
theorem am_cw_151 : am_cwP 151 := am_w_in (k := 2122) rfl rfl
theorem am_cw_152 : am_cwP 152 := am_w_in (k := 2125) rfl rfl
theorem am_cw_153 : am_cwP 153 := am_w_in (k := 2130) rfl rfl
theorem am_cwA : ∀ j, j < 154 → am_cwP j := by
  intro j h
  by_cases h77 : j < 77
  · skip
    by_cases h38 : j < 38
    · skip
      by_cases h19 : j < 19
      · skip
        by_cases h9 : j < 9
        · skip
          by_cases h4 : j < 4
          · skip
            by_cases h2 : j < 2
            · skip
              by_cases h1 : j < 1
              · skip
                have e : j = 0 := by omega
                subst e
                exact am_cw_0
              · skip
                have e : j = 1 := by omega
                subst e
                exact am_cw_1
            · skip
              by_cases h3 : j < 3
              · skip
                have e : j = 2 := by omega
                subst e
                exact am_cw_2
              · skip
                have e : j = 3 := by omega
                subst e
                exact am_cw_3
          · skip
            by_cases h6 : j < 6
            · skip
              by_cases h5 : j < 5
              · skip
                have e : j = 4 := by omega
                subst e
                exact am_cw_4
              · skip
                have e : j = 5 := by omega
                subst e
                exact am_cw_5
            · skip
              by_cases h7 : j < 7
              · skip
                have e : j = 6 := by omega
                subst e
                exact am_cw_6
              · skip
                by_cases h8 : j < 8
                · skip
                  have e : j = 7 := by omega
                  subst e
                  exact am_cw_7
                · skip
                  have e : j = 8 := by omega
                  subst e
                  exact am_cw_8
        · skip
          by_cases h14 : j < 14
          · skip
            by_cases h11 : j < 11
            · skip
              by_cases h10 : j < 10
              · skip
                have e : j = 9 := by omega
                subst e
                exact am_cw_9
              · skip
                have e : j = 10 := by omega
                subst e
                exact am_cw_10
            · skip
              by_cases h12 : j < 12
              · skip
                have e : j = 11 := by omega
                subst e
                exact am_cw_11
              · skip
                by_cases h13 : j < 13
                · skip
                  have e : j = 12 := by omega
                  subst e
                  exact am_cw_12
                · skip
                  have e : j = 13 := by omega
                  subst e
                  exact am_cw_13
          · skip
            by_cases h16 : j < 16
            · skip
              by_cases h15 : j < 15
              · skip
                have e : j = 14 := by omega
                subst e
                exact am_cw_14
              · skip
                have e : j = 15 := by omega
                subst e
                exact am_cw_15
            · skip
              by_cases h17 : j < 17
              · skip
                have e : j = 16 := by omega
                subst e
                exact am_cw_16
              · skip
                by_cases h18 : j < 18
                · skip
                  have e : j = 17 := by omega
                  subst e
                  exact am_cw_17
                · skip
                  have e : j = 18 := by omega
                  subst e
                  exact am_cw_18
      · skip
        by_cases h28 : j < 28
        · skip
          by_cases h23 : j < 23
          · skip
            by_cases h21 : j < 21
            · skip
              by_cases h20 : j < 20
              · skip
                have e : j = 19 := by omega
                subst e
                exact am_cw_19
              · skip
                have e : j = 20 := by omega
                subst e
                exact am_cw_20
            · skip
              by_cases h22 : j < 22
              · skip
                have e : j = 21 := by omega
                subst e
                exact am_cw_21
              · skip
                have e : j = 22 := by omega
                subst e
                exact am_cw_22
          · skip
            by_cases h25 : j < 25
            · skip
              by_cases h24 : j < 24
              · skip
                have e : j = 23 := by omega
                subst e
                exact am_cw_23
              · skip
                have e : j = 24 := by omega
                subst e
                exact am_cw_24
            · skip
              by_cases h26 : j < 26
              · skip
                have e : j = 25 := by omega
                subst e
                exact am_cw_25
              · skip
                by_cases h27 : j < 27
                · skip
                  have e : j = 26 := by omega
                  subst e
                  exact am_cw_26
                · skip
                  have e : j = 27 := by omega
                  subst e
                  exact am_cw_27
        · skip
          by_cases h33 : j < 33
          · skip
            by_cases h30 : j < 30
            · skip
              by_cases h29 : j < 29
              · skip
                have e : j = 28 := by omega
                subst e
                exact am_cw_28
              · skip
                have e : j = 29 := by omega
                subst e
                exact am_cw_29
            · skip
              by_cases h31 : j < 31
              · skip
                have e : j = 30 := by omega
                subst e
                exact am_cw_30
              · skip
                by_cases h32 : j < 32
                · skip
                  have e : j = 31 := by omega
                  subst e
                  exact am_cw_31
                · skip
                  have e : j = 32 := by omega
                  subst e
                  exact am_cw_32
          · skip
            by_cases h35 : j < 35
            · skip
              by_cases h34 : j < 34
              · skip
                have e : j = 33 := by omega
                subst e
                exact am_cw_33
              · skip
                have e : j = 34 := by omega
                subst e
                exact am_cw_34
            · skip
              by_cases h36 : j < 36
              · skip
                have e : j = 35 := by omega
                subst e
                exact am_cw_35
              · skip
                by_cases h37 : j < 37
                · skip
                  have e : j = 36 := by omega
                  subst e
                  exact am_cw_36
                · skip
                  have e : j = 37 := by omega
                  subst e
                  exact am_cw_37
    · skip
      by_cases h57 : j < 57
      · skip
        by_cases h47 : j < 47
        · skip
          by_cases h42 : j < 42
          · skip
            by_cases h40 : j < 40
            · skip
              by_cases h39 : j < 39
              · skip
                have e : j = 38 := by omega
                subst e
                exact am_cw_38
              · skip
                have e : j = 39 := by omega
                subst e
                exact am_cw_39
            · skip
              by_cases h41 : j < 41
              · skip
                have e : j = 40 := by omega
                subst e
                exact am_cw_40
              · skip
                have e : j = 41 := by omega
                subst e
                exact am_cw_41
          · skip
            by_cases h44 : j < 44
            · skip
              by_cases h43 : j < 43
              · skip
                have e : j = 42 := by omega
                subst e
                exact am_cw_42
              · skip
                have e : j = 43 := by omega
                subst e
                exact am_cw_43
            · skip
              by_cases h45 : j < 45
              · skip
                have e : j = 44 := by omega
                subst e
                exact am_cw_44
              · skip
                by_cases h46 : j < 46
                · skip
                  have e : j = 45 := by omega
                  subst e
                  exact am_cw_45
                · skip
                  have e : j = 46 := by omega
                  subst e
                  exact am_cw_46
        · skip
          by_cases h52 : j < 52
          · skip
            by_cases h49 : j < 49
            · skip
              by_cases h48 : j < 48
              · skip
                have e : j = 47 := by omega
                subst e
                exact am_cw_47
              · skip
                have e : j = 48 := by omega
                subst e
                exact am_cw_48
            · skip
              by_cases h50 : j < 50
              · skip
                have e : j = 49 := by omega
                subst e
                exact am_cw_49
              · skip
                by_cases h51 : j < 51
                · skip
                  have e : j = 50 := by omega
                  subst e
                  exact am_cw_50
                · skip
                  have e : j = 51 := by omega
                  subst e
                  exact am_cw_51
          · skip
            by_cases h54 : j < 54
            · skip
              by_cases h53 : j < 53
              · skip
                have e : j = 52 := by omega
                subst e
                exact am_cw_52
              · skip
                have e : j = 53 := by omega
                subst e
                exact am_cw_53
            · skip
              by_cases h55 : j < 55
              · skip
                have e : j = 54 := by omega
                subst e
                exact am_cw_54
              · skip
                by_cases h56 : j < 56
                · skip
                  have e : j = 55 := by omega
                  subst e
                  exact am_cw_55
                · skip
                  have e : j = 56 := by omega
                  subst e
                  exact am_cw_56
      · skip
        by_cases h67 : j < 67
        · skip
          by_cases h62 : j < 62
          · skip
            by_cases h59 : j < 59
            · skip
              by_cases h58 : j < 58
              · skip
                have e : j = 57 := by omega
                subst e
                exact am_cw_57
              · skip
                have e : j = 58 := by omega
                subst e
                exact am_cw_58
            · skip
              by_cases h60 : j < 60
              · skip
                have e : j = 59 := by omega
                subst e
                exact am_cw_59
              · skip
                by_cases h61 : j < 61
                · skip
                  have e : j = 60 := by omega
                  subst e
                  exact am_cw_60
                · skip
                  have e : j = 61 := by omega
                  subst e
                  exact am_cw_61
          · skip
            by_cases h64 : j < 64
            · skip
              by_cases h63 : j < 63
              · skip
                have e : j = 62 := by omega
                subst e
                exact am_cw_62
              · skip
                have e : j = 63 := by omega
                subst e
                exact am_cw_63
            · skip
              by_cases h65 : j < 65
              · skip
                have e : j = 64 := by omega
                subst e
                exact am_cw_64
              · skip
                by_cases h66 : j < 66
                · skip
                  have e : j = 65 := by omega
                  subst e
                  exact am_cw_65
                · skip
                  have e : j = 66 := by omega
                  subst e
                  exact am_cw_66
        · skip
          by_cases h72 : j < 72
          · skip
            by_cases h69 : j < 69
            · skip
              by_cases h68 : j < 68
              · skip
                have e : j = 67 := by omega
                subst e
                exact am_cw_67
              · skip
                have e : j = 68 := by omega
                subst e
                exact am_cw_68
            · skip
              by_cases h70 : j < 70
              · skip
                have e : j = 69 := by omega
                subst e
                exact am_cw_69
              · skip
                by_cases h71 : j < 71
                · skip
                  have e : j = 70 := by omega
                  subst e
                  exact am_cw_70
                · skip
                  have e : j = 71 := by omega
                  subst e
                  exact am_cw_71
          · skip
            by_cases h74 : j < 74
            · skip
              by_cases h73 : j < 73
              · skip
                have e : j = 72 := by omega
                subst e
                exact am_cw_72
              · skip
                have e : j = 73 := by omega
                subst e
                exact am_cw_73
            · skip
              by_cases h75 : j < 75
              · skip
                have e : j = 74 := by omega
                subst e
                exact am_cw_74
              · skip
                by_cases h76 : j < 76
                · skip
                  have e : j = 75 := by omega
                  subst e
                  exact am_cw_75
                · skip
                  have e : j = 76 := by omega
                  subst e
                  exact am_cw_76
  · skip
    by_cases h115 : j < 115
    · skip
      by_cases h96 : j < 96
      · skip
        by_cases h86 : j < 86
        · skip
          by_cases h81 : j < 81
          · skip
            by_cases h79 : j < 79
            · skip
              by_cases h78 : j < 78
              · skip
                have e : j = 77 := by omega
                subst e
                exact am_cw_77
              · skip
                have e : j = 78 := by omega
                subst e
                exact am_cw_78
            · skip
              by_cases h80 : j < 80
              · skip
                have e : j = 79 := by omega
                subst e
                exact am_cw_79
              · skip
                have e : j = 80 := by omega
                subst e
                exact am_cw_80
          · skip
            by_cases h83 : j < 83
            · skip
              by_cases h82 : j < 82
              · skip
                have e : j = 81 := by omega
                subst e
                exact am_cw_81
              · skip
                have e : j = 82 := by omega
                subst e
                exact am_cw_82
            · skip
              by_cases h84 : j < 84
              · skip
                have e : j = 83 := by omega
                subst e
                exact am_cw_83
              · skip
                by_cases h85 : j < 85
                · skip
                  have e : j = 84 := by omega
                  subst e
                  exact am_cw_84
                · skip
                  have e : j = 85 := by omega
                  subst e
                  exact am_cw_85
        · skip
          by_cases h91 : j < 91
          · skip
            by_cases h88 : j < 88
            · skip
              by_cases h87 : j < 87
              · skip
                have e : j = 86 := by omega
                subst e
                exact am_cw_86
              · skip
                have e : j = 87 := by omega
                subst e
                exact am_cw_87
            · skip
              by_cases h89 : j < 89
              · skip
                have e : j = 88 := by omega
                subst e
                exact am_cw_88
              · skip
                by_cases h90 : j < 90
                · skip
                  have e : j = 89 := by omega
                  subst e
                  exact am_cw_89
                · skip
                  have e : j = 90 := by omega
                  subst e
                  exact am_cw_90
          · skip
            by_cases h93 : j < 93
            · skip
              by_cases h92 : j < 92
              · skip
                have e : j = 91 := by omega
                subst e
                exact am_cw_91
              · skip
                have e : j = 92 := by omega
                subst e
                exact am_cw_92
            · skip
              by_cases h94 : j < 94
              · skip
                have e : j = 93 := by omega
                subst e
                exact am_cw_93
              · skip
                by_cases h95 : j < 95
                · skip
                  have e : j = 94 := by omega
                  subst e
                  exact am_cw_94
                · skip
                  have e : j = 95 := by omega
                  subst e
                  exact am_cw_95
      · skip
        by_cases h105 : j < 105
        · skip
          by_cases h100 : j < 100
          · skip
            by_cases h98 : j < 98
            · skip
              by_cases h97 : j < 97
              · skip
                have e : j = 96 := by omega
                subst e
                exact am_cw_96
              · skip
                have e : j = 97 := by omega
                subst e
                exact am_cw_97
            · skip
              by_cases h99 : j < 99
              · skip
                have e : j = 98 := by omega
                subst e
                exact am_cw_98
              · skip
                have e : j = 99 := by omega
                subst e
                exact am_cw_99
          · skip
            by_cases h102 : j < 102
            · skip
              by_cases h101 : j < 101
              · skip
                have e : j = 100 := by omega
                subst e
                exact am_cw_100
              · skip
                have e : j = 101 := by omega
                subst e
                exact am_cw_101
            · skip
              by_cases h103 : j < 103
              · skip
                have e : j = 102 := by omega
                subst e
                exact am_cw_102
              · skip
                by_cases h104 : j < 104
                · skip
                  have e : j = 103 := by omega
                  subst e
                  exact am_cw_103
                · skip
                  have e : j = 104 := by omega
                  subst e
                  exact am_cw_104
        · skip
          by_cases h110 : j < 110
          · skip
            by_cases h107 : j < 107
            · skip
              by_cases h106 : j < 106
              · skip
                have e : j = 105 := by omega
                subst e
                exact am_cw_105
              · skip
                have e : j = 106 := by omega
                subst e
                exact am_cw_106
            · skip
              by_cases h108 : j < 108
              · skip
                have e : j = 107 := by omega
                subst e
                exact am_cw_107
              · skip
                by_cases h109 : j < 109
                · skip
                  have e : j = 108 := by omega
                  subst e
                  exact am_cw_108
                · skip
                  have e : j = 109 := by omega
                  subst e
                  exact am_cw_109
          · skip
            by_cases h112 : j < 112
            · skip
              by_cases h111 : j < 111
              · skip
                have e : j = 110 := by omega
                subst e
                exact am_cw_110
              · skip
                have e : j = 111 := by omega
                subst e
                exact am_cw_111
            · skip
              by_cases h113 : j < 113
              · skip
                have e : j = 112 := by omega
                subst e
                exact am_cw_112
              · skip
                by_cases h114 : j < 114
                · skip
                  have e : j = 113 := by omega
                  subst e
                  exact am_cw_113
                · skip
                  have e : j = 114 := by omega
                  subst e
                  exact am_cw_114
    · skip
      by_cases h134 : j < 134
      · skip
        by_cases h124 : j < 124
        · skip
          by_cases h119 : j < 119
          · skip
            by_cases h117 : j < 117
            · skip
              by_cases h116 : j < 116
              · skip
                have e : j = 115 := by omega
                subst e
                exact am_cw_115
              · skip
                have e : j = 116 := by omega
                subst e
                exact am_cw_116
            · skip
              by_cases h118 : j < 118
              · skip
                have e : j = 117 := by omega
                subst e
                exact am_cw_117
              · skip
                have e : j = 118 := by omega
                subst e
                exact am_cw_118
          · skip
            by_cases h121 : j < 121
            · skip
              by_cases h120 : j < 120
              · skip
                have e : j = 119 := by omega
                subst e
                exact am_cw_119
              · skip
                have e : j = 120 := by omega
                subst e
                exact am_cw_120
            · skip
              by_cases h122 : j < 122
              · skip
                have e : j = 121 := by omega
                subst e
                exact am_cw_121
              · skip
                by_cases h123 : j < 123
                · skip
                  have e : j = 122 := by omega
                  subst e
                  exact am_cw_122
                · skip
                  have e : j = 123 := by omega
                  subst e
                  exact am_cw_123
        · skip
          by_cases h129 : j < 129
          · skip
            by_cases h126 : j < 126
            · skip
              by_cases h125 : j < 125
              · skip
                have e : j = 124 := by omega
                subst e
                exact am_cw_124
              · skip
                have e : j = 125 := by omega
                subst e
                exact am_cw_125
            · skip
              by_cases h127 : j < 127
              · skip
                have e : j = 126 := by omega
                subst e
                exact am_cw_126
              · skip
                by_cases h128 : j < 128
                · skip
                  have e : j = 127 := by omega
                  subst e
                  exact am_cw_127
                · skip
                  have e : j = 128 := by omega
                  subst e
                  exact am_cw_128
          · skip
            by_cases h131 : j < 131
            · skip
              by_cases h130 : j < 130
              · skip
                have e : j = 129 := by omega
                subst e
                exact am_cw_129
              · skip
                have e : j = 130 := by omega
                subst e
                exact am_cw_130
            · skip
              by_cases h132 : j < 132
              · skip
                have e : j = 131 := by omega
                subst e
                exact am_cw_131
              · skip
                by_cases h133 : j < 133
                · skip
                  have e : j = 132 := by omega
                  subst e
                  exact am_cw_132
                · skip
                  have e : j = 133 := by omega
                  subst e
                  exact am_cw_133
      · skip
        by_cases h144 : j < 144
        · skip
          by_cases h139 : j < 139
          · skip
            by_cases h136 : j < 136
            · skip
              by_cases h135 : j < 135
              · skip
                have e : j = 134 := by omega
                subst e
                exact am_cw_134
              · skip
                have e : j = 135 := by omega
                subst e
                exact am_cw_135
            · skip
              by_cases h137 : j < 137
              · skip
                have e : j = 136 := by omega
                subst e
                exact am_cw_136
              · skip
                by_cases h138 : j < 138
                · skip
                  have e : j = 137 := by omega
                  subst e
                  exact am_cw_137
                · skip
                  have e : j = 138 := by omega
                  subst e
                  exact am_cw_138
          · skip
            by_cases h141 : j < 141
            · skip
              by_cases h140 : j < 140
              · skip
                have e : j = 139 := by omega
                subst e
                exact am_cw_139
              · skip
                have e : j = 140 := by omega
                subst e
                exact am_cw_140
            · skip
              by_cases h142 : j < 142
              · skip
                have e : j = 141 := by omega
                subst e
                exact am_cw_141
              · skip
                by_cases h143 : j < 143
                · skip
                  have e : j = 142 := by omega
                  subst e
                  exact am_cw_142
                · skip
                  have e : j = 143 := by omega
                  subst e
                  exact am_cw_143
        · skip
          by_cases h149 : j < 149
          · skip
            by_cases h146 : j < 146
            · skip
              by_cases h145 : j < 145
              · skip
                have e : j = 144 := by omega
                subst e
                exact am_cw_144
              · skip
                have e : j = 145 := by omega
                subst e
                exact am_cw_145
            · skip
              by_cases h147 : j < 147
              · skip
                have e : j = 146 := by omega
                subst e
                exact am_cw_146
              · skip
                by_cases h148 : j < 148
                · skip
                  have e : j = 147 := by omega
                  subst e
                  exact am_cw_147
                · skip
                  have e : j = 148 := by omega
                  subst e
                  exact am_cw_148
          · skip
            by_cases h151 : j < 151
            · skip
              by_cases h150 : j < 150
              · skip
                have e : j = 149 := by omega
                subst e
                exact am_cw_149
              · skip
                have e : j = 150 := by omega
                subst e
                exact am_cw_150
            · skip
              by_cases h152 : j < 152
              · skip
                have e : j = 151 := by omega
                subst e
                exact am_cw_151
              · skip
                by_cases h153 : j < 153
                · skip
                  have e : j = 152 := by omega
                  subst e
                  exact am_cw_152
                · skip
                  have e : j = 153 := by omega
                  subst e
                  exact am_cw_153
