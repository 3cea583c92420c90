theorem tqna_all (k : Nat) (hk : k < 255) : tqnaok k = true := by
  by_cases h120 : k < 120
  · skip
    by_cases h60 : k < 60
    · skip
      by_cases h30 : k < 30
      · skip
        exact tqall_of tqna_0 (by omega) (by omega)
      · skip
        exact tqall_of tqna_30 (by omega) (by omega)
    · skip
      by_cases h90 : k < 90
      · skip
        exact tqall_of tqna_60 (by omega) (by omega)
      · skip
        exact tqall_of tqna_90 (by omega) (by omega)
  · skip
    by_cases h180 : k < 180
    · skip
      by_cases h150 : k < 150
      · skip
        exact tqall_of tqna_120 (by omega) (by omega)
      · skip
        exact tqall_of tqna_150 (by omega) (by omega)
    · skip
      by_cases h210 : k < 210
      · skip
        exact tqall_of tqna_180 (by omega) (by omega)
      · skip
        by_cases h240 : k < 240
        · skip
          exact tqall_of tqna_210 (by omega) (by omega)
        · skip
          exact tqall_of tqna_240 (by omega) (by omega)

theorem tqck_all (k : Nat) (hk : k < 255) : tqchk k = true := by
  by_cases h133 : k < 133
  · skip
    by_cases h70 : k < 70
    · skip
      by_cases h32 : k < 32
      · skip
        by_cases h22 : k < 22
        · skip
          by_cases h11 : k < 11
          · skip
            exact tqall_of tqck_0 (by omega) (by omega)
          · skip
            exact tqall_of tqck_11 (by omega) (by omega)
        · skip
          by_cases h28 : k < 28
          · skip
            exact tqall_of tqck_22 (by omega) (by omega)
          · skip
            exact tqall_of tqck_28 (by omega) (by omega)
      · skip
        by_cases h44 : k < 44
        · skip
          by_cases h40 : k < 40
          · skip
            exact tqall_of tqck_32 (by omega) (by omega)
          · skip
            exact tqall_of tqck_40 (by omega) (by omega)
        · skip
          by_cases h50 : k < 50
          · skip
            exact tqall_of tqck_44 (by omega) (by omega)
          · skip
            by_cases h61 : k < 61
            · skip
              exact tqall_of tqck_50 (by omega) (by omega)
            · skip
              exact tqall_of tqck_61 (by omega) (by omega)
    · skip
      by_cases h98 : k < 98
      · skip
        by_cases h85 : k < 85
        · skip
          by_cases h75 : k < 75
          · skip
            exact tqall_of tqck_70 (by omega) (by omega)
          · skip
            exact tqall_of tqck_75 (by omega) (by omega)
        · skip
          by_cases h93 : k < 93
          · skip
            exact tqall_of tqck_85 (by omega) (by omega)
          · skip
            exact tqall_of tqck_93 (by omega) (by omega)
      · skip
        by_cases h113 : k < 113
        · skip
          by_cases h104 : k < 104
          · skip
            exact tqall_of tqck_98 (by omega) (by omega)
          · skip
            exact tqall_of tqck_104 (by omega) (by omega)
        · skip
          by_cases h118 : k < 118
          · skip
            exact tqall_of tqck_113 (by omega) (by omega)
          · skip
            by_cases h122 : k < 122
            · skip
              exact tqall_of tqck_118 (by omega) (by omega)
            · skip
              exact tqall_of tqck_122 (by omega) (by omega)
  · skip
    by_cases h209 : k < 209
    · skip
      by_cases h176 : k < 176
      · skip
        by_cases h163 : k < 163
        · skip
          by_cases h152 : k < 152
          · skip
            exact tqall_of tqck_133 (by omega) (by omega)
          · skip
            exact tqall_of tqck_152 (by omega) (by omega)
        · skip
          by_cases h172 : k < 172
          · skip
            exact tqall_of tqck_163 (by omega) (by omega)
          · skip
            exact tqall_of tqck_172 (by omega) (by omega)
      · skip
        by_cases h192 : k < 192
        · skip
          by_cases h186 : k < 186
          · skip
            exact tqall_of tqck_176 (by omega) (by omega)
          · skip
            exact tqall_of tqck_186 (by omega) (by omega)
        · skip
          by_cases h198 : k < 198
          · skip
            exact tqall_of tqck_192 (by omega) (by omega)
          · skip
            by_cases h204 : k < 204
            · skip
              exact tqall_of tqck_198 (by omega) (by omega)
            · skip
              exact tqall_of tqck_204 (by omega) (by omega)
    · skip
      by_cases h237 : k < 237
      · skip
        by_cases h222 : k < 222
        · skip
          by_cases h219 : k < 219
          · skip
            exact tqall_of tqck_209 (by omega) (by omega)
          · skip
            exact tqall_of tqck_219 (by omega) (by omega)
        · skip
          by_cases h228 : k < 228
          · skip
            exact tqall_of tqck_222 (by omega) (by omega)
          · skip
            by_cases h232 : k < 232
            · skip
              exact tqall_of tqck_228 (by omega) (by omega)
            · skip
              exact tqall_of tqck_232 (by omega) (by omega)
      · skip
        by_cases h242 : k < 242
        · skip
          by_cases h240 : k < 240
          · skip
            exact tqall_of tqck_237 (by omega) (by omega)
          · skip
            exact tqall_of tqck_240 (by omega) (by omega)
        · skip
          by_cases h248 : k < 248
          · skip
            exact tqall_of tqck_242 (by omega) (by omega)
          · skip
            by_cases h253 : k < 253
            · skip
              exact tqall_of tqck_248 (by omega) (by omega)
            · skip
              exact tqall_of tqck_253 (by omega) (by omega)

theorem tqclw_all (k : Nat) (hk : k < 2184) : tqchk1 255 k = true := by
  by_cases h1080 : k < 1080
  · skip
    by_cases h480 : k < 480
    · skip
      by_cases h240 : k < 240
      · skip
        by_cases h120 : k < 120
        · skip
          exact tqall_of tqcl_0 (by omega) (by omega)
        · skip
          exact tqall_of tqcl_120 (by omega) (by omega)
      · skip
        by_cases h360 : k < 360
        · skip
          exact tqall_of tqcl_240 (by omega) (by omega)
        · skip
          exact tqall_of tqcl_360 (by omega) (by omega)
    · skip
      by_cases h720 : k < 720
      · skip
        by_cases h600 : k < 600
        · skip
          exact tqall_of tqcl_480 (by omega) (by omega)
        · skip
          exact tqall_of tqcl_600 (by omega) (by omega)
      · skip
        by_cases h840 : k < 840
        · skip
          exact tqall_of tqcl_720 (by omega) (by omega)
        · skip
          by_cases h960 : k < 960
          · skip
            exact tqall_of tqcl_840 (by omega) (by omega)
          · skip
            exact tqall_of tqcl_960 (by omega) (by omega)
  · skip
    by_cases h1680 : k < 1680
    · skip
      by_cases h1320 : k < 1320
      · skip
        by_cases h1200 : k < 1200
        · skip
          exact tqall_of tqcl_1080 (by omega) (by omega)
        · skip
          exact tqall_of tqcl_1200 (by omega) (by omega)
      · skip
        by_cases h1440 : k < 1440
        · skip
          exact tqall_of tqcl_1320 (by omega) (by omega)
        · skip
          by_cases h1560 : k < 1560
          · skip
            exact tqall_of tqcl_1440 (by omega) (by omega)
          · skip
            exact tqall_of tqcl_1560 (by omega) (by omega)
    · skip
      by_cases h1920 : k < 1920
      · skip
        by_cases h1800 : k < 1800
        · skip
          exact tqall_of tqcl_1680 (by omega) (by omega)
        · skip
          exact tqall_of tqcl_1800 (by omega) (by omega)
      · skip
        by_cases h2040 : k < 2040
        · skip
          exact tqall_of tqcl_1920 (by omega) (by omega)
        · skip
          by_cases h2160 : k < 2160
          · skip
            exact tqall_of tqcl_2040 (by omega) (by omega)
          · skip
            exact tqall_of tqcl_2160 (by omega) (by omega)

